set_option maxRecDepth 20000 in
set_option maxHeartbeats 2000000 in
theorem st_trim (k : Nat) (t_keptImages : Int32) (t_traced : Int64) (t_text_size : Int32) (t_text_bytes : Nat → Int32) (t_score_sections : Int32) (t_score_things : Int32) (t_score_noteTold : Int32) (t_score_toldSection : Int32) (t_score_toldBar : Int32) (t_score_lengths : Nat → Int32) (t_score_times : Nat → Int32) (t_score_players : Nat → Int32) (t_score_minutes : Nat → Int32) (t_course_bar : Int32) (t_course_count : Int32) (t_course_waits : Int32) (t_course_cut : Int32) (t_course_struck : Int32) (t_course_known : Int32) (t_course_past : Nat → Int32) (t_firstImage_bar : Int32) (t_firstImage_count : Int32) (t_firstImage_waits : Int32) (t_firstImage_cut : Int32) (t_firstImage_struck : Int32) (t_firstImage_known : Int32) (t_firstImage_past : Nat → Int32) (t_secondImage_bar : Int32) (t_secondImage_count : Int32) (t_secondImage_waits : Int32) (t_secondImage_cut : Int32) (t_secondImage_struck : Int32) (t_secondImage_known : Int32) (t_secondImage_past : Nat → Int32) (t_ear_heard : Int32) (t_ear_laters : Nat → Int32) (t_ear_players : Nat → Int32) (m_trace : Int64) (m_typed : Int32) (m_noted : Int32) (m_text : Nat → Int32) (m_told : Nat → Int32) (m_s : Nat → Int32) (m_images : Nat → Int32) (m_kept : Nat → Int32) (m_notes : Nat → Int32) (p1 : Int32) (hk : k < 64) (hI : rl_I k t_text_size t_text_bytes t_score_sections t_score_things t_score_noteTold t_score_toldSection t_score_toldBar t_score_lengths t_score_times t_score_players t_score_minutes t_course_bar t_course_count t_course_waits t_course_cut t_course_struck t_course_known t_course_past t_firstImage_bar t_firstImage_count t_firstImage_waits t_firstImage_cut t_firstImage_struck t_firstImage_known t_firstImage_past t_secondImage_bar t_secondImage_count t_secondImage_waits t_secondImage_cut t_secondImage_struck t_secondImage_known t_secondImage_past t_ear_heard t_ear_laters t_ear_players t_keptImages t_traced m_trace m_typed m_noted m_text m_told m_s m_images m_kept m_notes) : ∃ (r : Int32), mi_X11_trim t_score_sections t_score_noteTold t_score_toldSection t_score_toldBar t_score_lengths t_score_times t_course_bar t_course_cut p1 = some r ∧ mi_X12_trim m_told m_s p1 = some r ∧ rl_I (k + 1) t_text_size t_text_bytes t_score_sections t_score_things t_score_noteTold t_score_toldSection t_score_toldBar t_score_lengths t_score_times t_score_players t_score_minutes t_course_bar t_course_count t_course_waits t_course_cut t_course_struck t_course_known t_course_past t_firstImage_bar t_firstImage_count t_firstImage_waits t_firstImage_cut t_firstImage_struck t_firstImage_known t_firstImage_past t_secondImage_bar t_secondImage_count t_secondImage_waits t_secondImage_cut t_secondImage_struck t_secondImage_known t_secondImage_past t_ear_heard t_ear_laters t_ear_players t_keptImages t_traced m_trace m_typed m_noted m_text m_told m_s m_images m_kept m_notes := by
  obtain ⟨P, hP, hS, hT, hC, hX, hH, hG, hTr⟩ := rl_mono hI
  have h8 := hP.1
  have hp8 := pow_le_256 h8
  obtain ⟨b, w, c, g1, g2, g3, g4, g5, g6, g7, g8, g9⟩ := hC.1
  have i0 : m_s 0 = nI b := by rw [hC.2.1, g1]
  have i3 : m_s 3 = nI c := by rw [hC.2.2.2.2.1, g5]
  have ma := ev_allThatMay hP hT (c := c) (b := b) (s := m_s) (by omega) g2 i3 i0
  have hall : ∃ r, mi_X11_trim t_score_sections t_score_noteTold t_score_toldSection t_score_toldBar t_score_lengths t_score_times t_course_bar t_course_cut p1 = some r ∧ mi_X12_trim m_told m_s p1 = some r := by
    unfold mi_X11_trim mi_X12_trim
    rcases ev_win p1 (A := 0) (B := 999) 0 999 rfl rfl (by decide) (by decide) with ⟨f1, f2⟩ | ⟨nn, rfl, -, hnn, f1, f2⟩
    · rw [jx_b1_eq f1, jx_b1_eq f2]; exact ⟨_, rfl, rfl⟩
    rw [jx_b1_eq f1, jx_b1_eq f2, if_neg ev_1ne0, if_neg ev_1ne0, jx_b1_eq ma]
    rcases Nat.eq_zero_or_pos (pc_N P) with hz | hz
    · refine ⟨-9, ?_, ?_⟩
      · rw [if_pos (by rw [hS.1, hz]; rfl)]
      · obtain ⟨F, hF⟩ := ev_fuel (n := 1) (by omega)
        rw [hF, Nat.add_comm 1 F, mi_X12_trim_l24, ev_n0, hT.1, hz, if_neg (by decide), if_pos (show nI 0 ≤ (0 : Int32) from by decide)]
    · have la := ev_allCuttable hP hS (c := c) (b := b) (by omega) g2
      have hlt := sp_all_lt P c b (pc_N P)
      have lc : mi_X11_cuttableNow t_score_sections t_score_noteTold t_score_toldSection t_score_lengths t_score_times t_course_bar t_course_cut = some (nI (sp_all P c b (pc_N P))) := by
        unfold mi_X11_cuttableNow
        rw [g1, g5, jx_b1_eq la]
      have l1 := ev_few_l hP hS hz (c := c) (can := sp_all P c b (pc_N P)) (nn := nn) (by omega) (by omega) hnn (sp_all P c b (pc_N P) + 1) jx_F 0 none (by omega) (by show _ < 100000000; omega) (fun q h => by cases h)
      have l2 := ev_trim_l hP hT (s := m_s) hz (c := c) (can := sp_all P c b (pc_N P)) (nn := nn) (by omega) i3 hnn (2 ^ pc_N P) jx_F 0 none (by omega) (by show _ < 100000000; omega) (fun q h => by cases h)
      have l3 : mi_X6_fewestCuts t_score_sections t_score_noteTold t_score_toldSection t_score_toldBar t_score_lengths t_score_times (nI nn) t_course_cut (nI (sp_all P c b (pc_N P))) = some (sp_enc (sp_run (sp_ts P c (sp_all P c b (pc_N P)) nn) (sp_all P c b (pc_N P) + 1) 0 none)) := by
        unfold mi_X6_fewestCuts
        rw [g5]
        exact l1
      rw [if_neg (by rw [hS.1]; exact nI_ne0 hz (by omega)), jx_b1_eq lc, jx_b1_eq l3]
      refine ⟨_, rfl, ?_⟩
      rw [← sp_trim_same hlt]
      exact l2
  obtain ⟨r, hx, hm⟩ := hall
  exact ⟨r, hx, hm, P, hP, hS, hT, hC, hX, hH, hG, hTr⟩
