set_option maxRecDepth 20000 in
set_option maxHeartbeats 2000000 in
theorem st_odds (k : Nat) (t_keptImages : Int32) (t_traced : Int64) (t_text_size : Int32) (t_text_bytes : Nat → Int32) (t_score_sections : Int32) (t_score_things : Int32) (t_score_noteTold : Int32) (t_score_toldSection : Int32) (t_score_toldBar : Int32) (t_score_lengths : Nat → Int32) (t_score_times : Nat → Int32) (t_score_players : Nat → Int32) (t_score_minutes : Nat → Int32) (t_course_bar : Int32) (t_course_count : Int32) (t_course_waits : Int32) (t_course_cut : Int32) (t_course_struck : Int32) (t_course_known : Int32) (t_course_past : Nat → Int32) (t_firstImage_bar : Int32) (t_firstImage_count : Int32) (t_firstImage_waits : Int32) (t_firstImage_cut : Int32) (t_firstImage_struck : Int32) (t_firstImage_known : Int32) (t_firstImage_past : Nat → Int32) (t_secondImage_bar : Int32) (t_secondImage_count : Int32) (t_secondImage_waits : Int32) (t_secondImage_cut : Int32) (t_secondImage_struck : Int32) (t_secondImage_known : Int32) (t_secondImage_past : Nat → Int32) (t_ear_heard : Int32) (t_ear_laters : Nat → Int32) (t_ear_players : Nat → Int32) (m_trace : Int64) (m_typed : Int32) (m_noted : Int32) (m_text : Nat → Int32) (m_told : Nat → Int32) (m_s : Nat → Int32) (m_images : Nat → Int32) (m_kept : Nat → Int32) (m_notes : Nat → Int32) (p1 : Int32) (p2 : Int32) (p3 : Int32) (hk : k < 64) (hI : rl_I k t_text_size t_text_bytes t_score_sections t_score_things t_score_noteTold t_score_toldSection t_score_toldBar t_score_lengths t_score_times t_score_players t_score_minutes t_course_bar t_course_count t_course_waits t_course_cut t_course_struck t_course_known t_course_past t_firstImage_bar t_firstImage_count t_firstImage_waits t_firstImage_cut t_firstImage_struck t_firstImage_known t_firstImage_past t_secondImage_bar t_secondImage_count t_secondImage_waits t_secondImage_cut t_secondImage_struck t_secondImage_known t_secondImage_past t_ear_heard t_ear_laters t_ear_players t_keptImages t_traced m_trace m_typed m_noted m_text m_told m_s m_images m_kept m_notes) : ∃ (r : Int32), mi_X11_odds t_score_sections t_score_noteTold t_score_toldSection t_score_toldBar t_score_lengths t_score_times t_course_bar t_course_cut p1 p2 p3 = some r ∧ mi_X12_odds m_told m_s p1 p2 p3 = some r ∧ rl_I (k + 1) t_text_size t_text_bytes t_score_sections t_score_things t_score_noteTold t_score_toldSection t_score_toldBar t_score_lengths t_score_times t_score_players t_score_minutes t_course_bar t_course_count t_course_waits t_course_cut t_course_struck t_course_known t_course_past t_firstImage_bar t_firstImage_count t_firstImage_waits t_firstImage_cut t_firstImage_struck t_firstImage_known t_firstImage_past t_secondImage_bar t_secondImage_count t_secondImage_waits t_secondImage_cut t_secondImage_struck t_secondImage_known t_secondImage_past t_ear_heard t_ear_laters t_ear_players t_keptImages t_traced m_trace m_typed m_noted m_text m_told m_s m_images m_kept m_notes := by
  obtain ⟨P, hP, hS, hT, hC, hX, hH, hG, hTr⟩ := rl_mono hI
  have h8 := hP.1
  have hp8 := pow_le_256 h8
  obtain ⟨b, w, c, g1, g2, g3, g4, g5, g6, g7, g8, g9⟩ := hC.1
  have i0 : m_s 0 = nI b := by rw [hC.2.1, g1]
  have i3 : m_s 3 = nI c := by rw [hC.2.2.2.2.1, g5]
  have ma := ev_allThatMay hP hT (c := c) (b := b) (s := m_s) (by omega) g2 i3 i0
  have hlt := sp_all_lt P c b (pc_N P)
  have hall : ∃ r, mi_X11_odds t_score_sections t_score_noteTold t_score_toldSection t_score_toldBar t_score_lengths t_score_times t_course_bar t_course_cut p1 p2 p3 = some r ∧ mi_X12_odds m_told m_s p1 p2 p3 = some r := by
    unfold mi_X11_odds mi_X12_odds
    rcases ev_win p1 (A := 0) (B := 10) 0 10 rfl rfl (by decide) (by decide) with ⟨f1, f2⟩ | ⟨x, rfl, -, hx, f1, f2⟩
    · rw [jx_b1_eq f1, jx_b1_eq f2]; exact ⟨_, rfl, rfl⟩
    rw [jx_b1_eq f1, jx_b1_eq f2, if_neg ev_1ne0, if_neg ev_1ne0]
    rcases ev_win p2 (A := 0) (B := 999) 0 999 rfl rfl (by decide) (by decide) with ⟨f1, f2⟩ | ⟨nn, rfl, -, hnn, f1, f2⟩
    · rw [jx_b1_eq f1, jx_b1_eq f2]; exact ⟨_, rfl, rfl⟩
    rw [jx_b1_eq f1, jx_b1_eq f2, if_neg ev_1ne0, if_neg ev_1ne0]
    rcases ev_win p3 (A := 0) (B := 1) 0 1 rfl rfl (by decide) (by decide) with ⟨f1, f2⟩ | ⟨wh, rfl, -, hwh, f1, f2⟩
    · rw [jx_b1_eq f1, jx_b1_eq f2]; exact ⟨_, rfl, rfl⟩
    rw [jx_b1_eq f1, jx_b1_eq f2, if_neg ev_1ne0, if_neg ev_1ne0, jx_b1_eq ma]
    have l47 := ev_odds_l47 hP hT (s := m_s) (can := sp_all P c b (pc_N P)) (X := nI x) (NN := nI nn) (p3 := nI wh) (by omega) jx_F 0 (Nat.zero_le _) (by show pc_N P - 0 < 100000000; omega)
    have l47 : mi_X12_odds_l47 m_told m_s (nI x) (nI nn) (nI wh) jx_F (nI (sp_all P c b (pc_N P))) 0 1 0 = _ := l47
    rw [l47]
    rcases Nat.eq_zero_or_pos (pc_N P) with hz | hz
    · refine ⟨nI wh, ?_, ?_⟩
      · rw [if_pos (by rw [hS.1, hz]; rfl)]
      · obtain ⟨F, hF⟩ := ev_fuel (n := 1) (by omega)
        have hst : mi_X12_odds_l88 m_told m_s (nI x) (nI nn) (nI wh) jx_F (nI (sp_all P c b (pc_N P))) 0 (nI (sp_lw (sp_all P c b (pc_N P)) (pc_N P))) 0 = mi_X12_odds_b218 (nI wh) 0 (nI (sp_lw (sp_all P c b (pc_N P)) (pc_N P))) := by
          rw [hF, Nat.add_comm 1 F, mi_X12_odds_l88, ev_n0, hT.1, hz, if_neg (by decide), if_pos (show nI 0 ≤ (0 : Int32) from by decide)]
        rw [hst, hz]
        have hg := ev_mgcd_l (A := 0) (B := 1) (p3 := nI wh) 1 0 1 jx_F (by omega) (by omega) (by omega) (by omega) (by decide)
        unfold mi_X12_odds_b218
        refine Eq.trans hg ?_
        rcases (show wh = 0 ∨ wh = 1 by omega) with e | e <;> subst e <;> decide
    · have la := ev_allCuttable hP hS (c := c) (b := b) (by omega) g2
      have lc : mi_X11_cuttableNow t_score_sections t_score_noteTold t_score_toldSection t_score_lengths t_score_times t_course_bar t_course_cut = some (nI (sp_all P c b (pc_N P))) := by
        unfold mi_X11_cuttableNow
        rw [g1, g5, jx_b1_eq la]
      have l1 := ev_chances_l hP hS hz (c := c) (can := sp_all P c b (pc_N P)) (nn := nn) (x := x) (by omega) hlt hnn hx jx_F 0 (by omega) (by show _ < 100000000; omega)
      have l2 := ev_odds_l88 hP hT (s := m_s) hz (c := c) (can := sp_all P c b (pc_N P)) (nn := nn) (x := x) (B := nI (sp_lw (sp_all P c b (pc_N P)) (pc_N P))) (p3 := nI wh) (by omega) i3 hlt hnn hx jx_F 0 (Nat.zero_le _) (by show _ < 100000000; omega)
      have l2 : mi_X12_odds_l88 m_told m_s (nI x) (nI nn) (nI wh) jx_F (nI (sp_all P c b (pc_N P))) 0 (nI (sp_lw (sp_all P c b (pc_N P)) (pc_N P))) 0 = _ := l2
      have lw := ev_weight hP hS (set := sp_all P c b (pc_N P)) (can := sp_all P c b (pc_N P)) (x := 10) (by omega) (by omega) (by omega)
      rw [sp_wt_lw] at lw
      have lw : mi_X6_weightOf t_score_sections (nI (sp_all P c b (pc_N P))) (nI (sp_all P c b (pc_N P))) 10 = _ := lw
      rw [l2, sp_g_same hlt]
      have hb1 := sp_g_le (P := P) (x := x) (c := c) (can := sp_all P c b (pc_N P)) (nn := nn) (n := sp_all P c b (pc_N P) + 1) hx (by omega)
      have hb2 := sp_lw_pos (sp_all P c b (pc_N P)) (pc_N P)
      have hb3 : (10 : Nat) ^ pc_N P ≤ 10 ^ 8 := Nat.pow_le_pow_right (by decide) h8
      have hb4 : (10 : Nat) ^ 8 = 100000000 := by decide
      have l3 : mi_X6_chancesBy t_score_sections t_score_noteTold t_score_toldSection t_score_toldBar t_score_lengths t_score_times (nI nn) (nI x) t_course_cut (nI (sp_all P c b (pc_N P))) = some (nI (fb_sm (sp_g P x c (sp_all P c b (pc_N P)) nn) (sp_all P c b (pc_N P) + 1))) := by
        unfold mi_X6_chancesBy
        rw [g5]
        exact l1
      rw [if_neg (by rw [hS.1]; exact nI_ne0 hz (by omega)), jx_b1_eq lc, jx_b1_eq l3, jx_b1_eq lw]
      generalize fb_sm (sp_g P x c (sp_all P c b (pc_N P)) nn) (sp_all P c b (pc_N P) + 1) = S at hb1 ⊢
      generalize sp_lw (sp_all P c b (pc_N P)) (pc_N P) = B at hb1 hb2 ⊢
      have hgp : 0 < Nat.gcd B S := Nat.gcd_pos_of_pos_left S (by omega)
      have hgl : Nat.gcd B S ≤ B := Nat.gcd_le_left S (by omega)
      have hgz : ¬ nI (Nat.gcd B S) = 0 := nI_ne0 hgp (by omega)
      have hg := ev_mgcd_l (A := S) (B := B) (p3 := nI wh) 27 S B jx_F (by omega) (by omega) (by omega) (by omega) (by decide)
      rw [jx_b1_eq (ev_gcd (by omega) (by omega)), if_neg hgz, ev_g (by simp [jx_nz, hgz]), ev_g (by simp [jx_nz, hgz])]
      rw [Nat.gcd_comm S B] at hg
      refine ⟨_, ?_, hg⟩
      split <;> rfl
  obtain ⟨r, hx, hm⟩ := hall
  exact ⟨r, hx, hm, P, hP, hS, hT, hC, hX, hH, hG, hTr⟩
