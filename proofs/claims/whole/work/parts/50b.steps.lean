set_option maxRecDepth 20000 in
set_option maxHeartbeats 2000000 in
theorem st_section (k : Nat) (t_keptImages : Int32) (t_traced : Int64) (t_text_size : Int32) (t_text_bytes : Nat → Int32) (t_score_sections : Int32) (t_score_things : Int32) (t_score_noteTold : Int32) (t_score_toldSection : Int32) (t_score_toldBar : Int32) (t_score_lengths : Nat → Int32) (t_score_times : Nat → Int32) (t_score_players : Nat → Int32) (t_score_minutes : Nat → Int32) (t_course_bar : Int32) (t_course_count : Int32) (t_course_waits : Int32) (t_course_cut : Int32) (t_course_struck : Int32) (t_course_known : Int32) (t_course_past : Nat → Int32) (t_firstImage_bar : Int32) (t_firstImage_count : Int32) (t_firstImage_waits : Int32) (t_firstImage_cut : Int32) (t_firstImage_struck : Int32) (t_firstImage_known : Int32) (t_firstImage_past : Nat → Int32) (t_secondImage_bar : Int32) (t_secondImage_count : Int32) (t_secondImage_waits : Int32) (t_secondImage_cut : Int32) (t_secondImage_struck : Int32) (t_secondImage_known : Int32) (t_secondImage_past : Nat → Int32) (t_ear_heard : Int32) (t_ear_laters : Nat → Int32) (t_ear_players : Nat → Int32) (m_trace : Int64) (m_typed : Int32) (m_noted : Int32) (m_text : Nat → Int32) (m_told : Nat → Int32) (m_s : Nat → Int32) (m_images : Nat → Int32) (m_kept : Nat → Int32) (m_notes : Nat → Int32) (p1 : Int32) (p2 : Int32) (hk : k < 64) (hI : rl_I k t_text_size t_text_bytes t_score_sections t_score_things t_score_noteTold t_score_toldSection t_score_toldBar t_score_lengths t_score_times t_score_players t_score_minutes t_course_bar t_course_count t_course_waits t_course_cut t_course_struck t_course_known t_course_past t_firstImage_bar t_firstImage_count t_firstImage_waits t_firstImage_cut t_firstImage_struck t_firstImage_known t_firstImage_past t_secondImage_bar t_secondImage_count t_secondImage_waits t_secondImage_cut t_secondImage_struck t_secondImage_known t_secondImage_past t_ear_heard t_ear_laters t_ear_players t_keptImages t_traced m_trace m_typed m_noted m_text m_told m_s m_images m_kept m_notes) : ∃ (r : Int32), mi_X11_section t_score_sections t_score_noteTold t_score_toldSection t_score_lengths t_score_times t_score_players t_course_bar t_course_cut p1 p2 = some r ∧ mi_X12_section m_told m_s p1 p2 = some r ∧ rl_I (k + 1) t_text_size t_text_bytes t_score_sections t_score_things t_score_noteTold t_score_toldSection t_score_toldBar t_score_lengths t_score_times t_score_players t_score_minutes t_course_bar t_course_count t_course_waits t_course_cut t_course_struck t_course_known t_course_past t_firstImage_bar t_firstImage_count t_firstImage_waits t_firstImage_cut t_firstImage_struck t_firstImage_known t_firstImage_past t_secondImage_bar t_secondImage_count t_secondImage_waits t_secondImage_cut t_secondImage_struck t_secondImage_known t_secondImage_past t_ear_heard t_ear_laters t_ear_players t_keptImages t_traced m_trace m_typed m_noted m_text m_told m_s m_images m_kept m_notes := by
  obtain ⟨P, hP, hS, hT, hC, hX, hH, hG, hTr⟩ := rl_mono hI
  have h8 := hP.1
  have hp8 := pow_le_256 h8
  rcases ev_sec (n := pc_N P) (by omega) p1 with ⟨e1, e2⟩ | ⟨q, hq, rfl, e1, e2⟩
  · have hx : mi_X11_section t_score_sections t_score_noteTold t_score_toldSection t_score_lengths t_score_times t_score_players t_course_bar t_course_cut p1 p2 = some (-1) := by
      unfold mi_X11_section; rw [hS.1, jx_b1_eq e1, if_pos rfl]
    have hm : mi_X12_section m_told m_s p1 p2 = some (-1) := by
      unfold mi_X12_section; rw [jx_b1_eq (ev_isSec hT e2 (Or.inl rfl)), if_pos rfl]
    exact ⟨_, hx, hm, P, hP, hS, hT, hC, hX, hH, hG, hTr⟩
  · obtain ⟨b, w, c, g1, g2, g3, g4, g5, g6, g7, g8, g9⟩ := hC.1
    have i0 : m_s 0 = nI b := by rw [hC.2.1, g1]
    have i3 : m_s 3 = nI c := by rw [hC.2.2.2.2.1, g5]
    have e1' : mi_X6_hasSection t_score_sections (nI q) = some 1 := by rw [hS.1]; exact e1
    have l1 := ev_lengthOf hP hS hq
    have l2 := ev_timesOf hP hS hq
    have l3 := ev_whoOf hP hS hq
    have l4 := ev_isIn (c := c) (q := q) (by omega) (by omega)
    have l5 := ev_firstOf hP hS (c := c) (s := q) (by omega) (by omega)
    have l6 := ev_canBeCut hP hS (c := c) (b := b) (q := q) (by omega) g2 hq
    have m4 := ev_first hP hT (c := c) (by omega) i3 hq
    have m5 := ev_mayCut hP hT (c := c) (b := b) (by omega) g2 i3 i0 hq
    have k1 := ev_oneIf (c.testBit q)
    have k2 := ev_oneIf (sp_can P c b q)
    have b1 := ev_bit (c := c) (q := q) (by omega) (by omega)
    have hall : ∃ r, mi_X11_section t_score_sections t_score_noteTold t_score_toldSection t_score_lengths t_score_times t_score_players t_course_bar t_course_cut (nI q) p2 = some r ∧ mi_X12_section m_told m_s (nI q) p2 = some r := by
      unfold mi_X11_section mi_X12_section
      rw [g1, g5, jx_b1_eq e1', if_neg ev_1ne0, jx_b1_eq (ev_isSec hT e2 (Or.inr rfl)), if_neg ev_1ne0, jx_b1_eq l1, jx_b1_eq l2, jx_b1_eq l3, jx_b1_eq l4, jx_b1_eq k1, jx_b1_eq l4, jx_b1_eq l5, jx_b1_eq l6, jx_b1_eq k2, jx_b1_eq m4, jx_b1_eq m5, ev_n3, i3, b1, ev_a6, ev_a14, ev_a22, ev_g (ev_in (by omega) (by decide)), ev_g (ev_in (by omega) (by decide)), ev_g (ev_in (by omega) (by decide)), ev_cl (by omega), ev_cl (by omega), ev_cl (by omega), (hT.2.2.1 q hq).1, (hT.2.2.1 q hq).2.1, (hT.2.2.1 q hq).2.2]
      by_cases h0 : p2 = 0
      · rw [if_pos h0, if_pos h0]; exact ⟨_, rfl, rfl⟩
      rw [if_neg h0, if_neg h0]
      by_cases h1 : p2 = 1
      · rw [if_pos h1, if_pos h1]; exact ⟨_, rfl, rfl⟩
      rw [if_neg h1, if_neg h1]
      by_cases h2 : p2 = 2
      · rw [if_pos h2, if_pos h2]; exact ⟨_, rfl, rfl⟩
      rw [if_neg h2, if_neg h2]
      by_cases h3 : p2 = 3
      · rw [if_pos h3, if_pos h3]; exact ⟨_, rfl, rfl⟩
      rw [if_neg h3, if_neg h3]
      by_cases h4 : p2 = 4
      · rw [if_pos h4, if_pos h4]
        cases c.testBit q
        · exact ⟨_, rfl, rfl⟩
        · exact ⟨_, rfl, rfl⟩
      rw [if_neg h4, if_neg h4]
      by_cases h5 : p2 = 5
      · rw [if_pos h5, if_pos h5]
        cases sp_can P c b q
        · exact ⟨_, rfl, rfl⟩
        · exact ⟨_, rfl, rfl⟩
      rw [if_neg h5, if_neg h5]
      exact ⟨_, rfl, rfl⟩
    obtain ⟨r, hx, hm⟩ := hall
    exact ⟨r, hx, hm, P, hP, hS, hT, hC, hX, hH, hG, hTr⟩
set_option maxRecDepth 20000 in
set_option maxHeartbeats 2000000 in
theorem st_thing (k : Nat) (t_keptImages : Int32) (t_traced : Int64) (t_text_size : Int32) (t_text_bytes : Nat → Int32) (t_score_sections : Int32) (t_score_things : Int32) (t_score_noteTold : Int32) (t_score_toldSection : Int32) (t_score_toldBar : Int32) (t_score_lengths : Nat → Int32) (t_score_times : Nat → Int32) (t_score_players : Nat → Int32) (t_score_minutes : Nat → Int32) (t_course_bar : Int32) (t_course_count : Int32) (t_course_waits : Int32) (t_course_cut : Int32) (t_course_struck : Int32) (t_course_known : Int32) (t_course_past : Nat → Int32) (t_firstImage_bar : Int32) (t_firstImage_count : Int32) (t_firstImage_waits : Int32) (t_firstImage_cut : Int32) (t_firstImage_struck : Int32) (t_firstImage_known : Int32) (t_firstImage_past : Nat → Int32) (t_secondImage_bar : Int32) (t_secondImage_count : Int32) (t_secondImage_waits : Int32) (t_secondImage_cut : Int32) (t_secondImage_struck : Int32) (t_secondImage_known : Int32) (t_secondImage_past : Nat → Int32) (t_ear_heard : Int32) (t_ear_laters : Nat → Int32) (t_ear_players : Nat → Int32) (m_trace : Int64) (m_typed : Int32) (m_noted : Int32) (m_text : Nat → Int32) (m_told : Nat → Int32) (m_s : Nat → Int32) (m_images : Nat → Int32) (m_kept : Nat → Int32) (m_notes : Nat → Int32) (p1 : Int32) (hk : k < 64) (hI : rl_I k t_text_size t_text_bytes t_score_sections t_score_things t_score_noteTold t_score_toldSection t_score_toldBar t_score_lengths t_score_times t_score_players t_score_minutes t_course_bar t_course_count t_course_waits t_course_cut t_course_struck t_course_known t_course_past t_firstImage_bar t_firstImage_count t_firstImage_waits t_firstImage_cut t_firstImage_struck t_firstImage_known t_firstImage_past t_secondImage_bar t_secondImage_count t_secondImage_waits t_secondImage_cut t_secondImage_struck t_secondImage_known t_secondImage_past t_ear_heard t_ear_laters t_ear_players t_keptImages t_traced m_trace m_typed m_noted m_text m_told m_s m_images m_kept m_notes) : ∃ (r : Int32), mi_X11_thing t_score_things t_score_minutes p1 = some r ∧ mi_X12_thing m_told p1 = some r ∧ rl_I (k + 1) t_text_size t_text_bytes t_score_sections t_score_things t_score_noteTold t_score_toldSection t_score_toldBar t_score_lengths t_score_times t_score_players t_score_minutes t_course_bar t_course_count t_course_waits t_course_cut t_course_struck t_course_known t_course_past t_firstImage_bar t_firstImage_count t_firstImage_waits t_firstImage_cut t_firstImage_struck t_firstImage_known t_firstImage_past t_secondImage_bar t_secondImage_count t_secondImage_waits t_secondImage_cut t_secondImage_struck t_secondImage_known t_secondImage_past t_ear_heard t_ear_laters t_ear_players t_keptImages t_traced m_trace m_typed m_noted m_text m_told m_s m_images m_kept m_notes := by
  obtain ⟨P, hP, hS, hT, hC, hX, hH, hG, hTr⟩ := rl_mono hI
  have h6 := hP.2.1
  rcases ev_thg (n := pc_nt P) (by omega) p1 with ⟨e1, e2⟩ | ⟨q, hq, rfl, e1, e2⟩
  · have hx : mi_X11_thing t_score_things t_score_minutes p1 = some (-1) := by
      unfold mi_X11_thing; rw [hS.2.1, jx_b1_eq e1, if_pos rfl]
    have hm : mi_X12_thing m_told p1 = some (-1) := by
      unfold mi_X12_thing; rw [ev_n1, hT.2.1, jx_b1_eq e2, if_pos rfl]
    exact ⟨_, hx, hm, P, hP, hS, hT, hC, hX, hH, hG, hTr⟩
  · have hx : mi_X11_thing t_score_things t_score_minutes (nI q) = some (nI (pc_M P q)) := by
      have h1 := ev_minutesOf hP hS hq
      unfold mi_X11_thing
      rw [hS.2.1] at h1 ⊢
      rw [jx_b1_eq e1, if_neg ev_1ne0, jx_b1_eq h1]
    have hm : mi_X12_thing m_told (nI q) = some (nI (pc_M P q)) := by
      unfold mi_X12_thing; rw [ev_n1, hT.2.1, jx_b1_eq e2, if_neg ev_1ne0, ev_a30, ev_g (ev_in (by omega) (by decide)), ev_cl (by omega), hT.2.2.2.1 q hq]
    exact ⟨_, hx, hm, P, hP, hS, hT, hC, hX, hH, hG, hTr⟩
set_option maxRecDepth 20000 in
set_option maxHeartbeats 2000000 in
theorem st_bars (k : Nat) (t_keptImages : Int32) (t_traced : Int64) (t_text_size : Int32) (t_text_bytes : Nat → Int32) (t_score_sections : Int32) (t_score_things : Int32) (t_score_noteTold : Int32) (t_score_toldSection : Int32) (t_score_toldBar : Int32) (t_score_lengths : Nat → Int32) (t_score_times : Nat → Int32) (t_score_players : Nat → Int32) (t_score_minutes : Nat → Int32) (t_course_bar : Int32) (t_course_count : Int32) (t_course_waits : Int32) (t_course_cut : Int32) (t_course_struck : Int32) (t_course_known : Int32) (t_course_past : Nat → Int32) (t_firstImage_bar : Int32) (t_firstImage_count : Int32) (t_firstImage_waits : Int32) (t_firstImage_cut : Int32) (t_firstImage_struck : Int32) (t_firstImage_known : Int32) (t_firstImage_past : Nat → Int32) (t_secondImage_bar : Int32) (t_secondImage_count : Int32) (t_secondImage_waits : Int32) (t_secondImage_cut : Int32) (t_secondImage_struck : Int32) (t_secondImage_known : Int32) (t_secondImage_past : Nat → Int32) (t_ear_heard : Int32) (t_ear_laters : Nat → Int32) (t_ear_players : Nat → Int32) (m_trace : Int64) (m_typed : Int32) (m_noted : Int32) (m_text : Nat → Int32) (m_told : Nat → Int32) (m_s : Nat → Int32) (m_images : Nat → Int32) (m_kept : Nat → Int32) (m_notes : Nat → Int32) (p1 : Int32) (hk : k < 64) (hI : rl_I k t_text_size t_text_bytes t_score_sections t_score_things t_score_noteTold t_score_toldSection t_score_toldBar t_score_lengths t_score_times t_score_players t_score_minutes t_course_bar t_course_count t_course_waits t_course_cut t_course_struck t_course_known t_course_past t_firstImage_bar t_firstImage_count t_firstImage_waits t_firstImage_cut t_firstImage_struck t_firstImage_known t_firstImage_past t_secondImage_bar t_secondImage_count t_secondImage_waits t_secondImage_cut t_secondImage_struck t_secondImage_known t_secondImage_past t_ear_heard t_ear_laters t_ear_players t_keptImages t_traced m_trace m_typed m_noted m_text m_told m_s m_images m_kept m_notes) : ∃ (r : Int32) (z_t_course_bar : Int32) (z_t_course_count : Int32) (z_t_course_struck : Int32) (z_t_course_known : Int32) (z_t_course_past : Nat → Int32) (z_m_s : Nat → Int32), mi_X11_bars t_score_sections t_score_noteTold t_score_toldSection t_score_toldBar t_score_lengths t_score_times t_course_bar t_course_count t_course_waits t_course_cut t_course_struck t_course_known t_course_past p1 = some (r, z_t_course_bar, z_t_course_count, z_t_course_struck, z_t_course_known, z_t_course_past) ∧ mi_X12_bars m_told m_s p1 = some (r, z_m_s) ∧ rl_I (k + 1) t_text_size t_text_bytes t_score_sections t_score_things t_score_noteTold t_score_toldSection t_score_toldBar t_score_lengths t_score_times t_score_players t_score_minutes z_t_course_bar z_t_course_count t_course_waits t_course_cut z_t_course_struck z_t_course_known z_t_course_past t_firstImage_bar t_firstImage_count t_firstImage_waits t_firstImage_cut t_firstImage_struck t_firstImage_known t_firstImage_past t_secondImage_bar t_secondImage_count t_secondImage_waits t_secondImage_cut t_secondImage_struck t_secondImage_known t_secondImage_past t_ear_heard t_ear_laters t_ear_players t_keptImages t_traced m_trace m_typed m_noted m_text m_told z_m_s m_images m_kept m_notes := by
  obtain ⟨P, hP, hS, hT, hC, hX, hH, hG, hTr⟩ := hI
  obtain ⟨kw, p', s', e1, e2, hC'⟩ := ev_keep hC
  have hC1 := rl_C_mono hC
  have hG := rl_G_mono hG
  have h8 := hP.1
  have hp8 := pow_le_256 h8
  rcases ev_win p1 (A := 1) (B := 99) 1 99 rfl rfl (by decide) (by decide) with ⟨f1, f2⟩ | ⟨n, en, ha, hb, f1, f2⟩
  · have hx : mi_X11_bars t_score_sections t_score_noteTold t_score_toldSection t_score_toldBar t_score_lengths t_score_times t_course_bar t_course_count t_course_waits t_course_cut t_course_struck t_course_known t_course_past p1 = some (-1, t_course_bar, t_course_count, t_course_struck, t_course_known, t_course_past) := by
      unfold mi_X11_bars; rw [jx_b1_eq f1, if_pos rfl]
    have hm : mi_X12_bars m_told m_s p1 = some (-1, m_s) := by
      unfold mi_X12_bars; rw [jx_b1_eq f2, if_pos rfl]
    exact ⟨_, _, _, _, _, _, _, hx, hm, P, hP, hS, hT, hC1, hX, hH, hG, hTr⟩
  obtain ⟨b, w, c, g1, g2, g3, g4, g5, g6, g7, g8, g9⟩ := hC.1
  have i0 : m_s 0 = t_course_bar := hC.2.1
  have i3 : m_s 3 = nI c := by rw [hC.2.2.2.2.1, g5]
  have lb := ev_barsWith hP hS (c := c) (by omega)
  rw [← g5] at lb
  have lm := ev_length hP hT (c := c) (by omega) i3
  rcases Decidable.em (t_course_bar + p1 ≤ nI (sp_ah P c (pc_N P))) with hle | hle
  · have hlen := sp_ah_960 hP c (Nat.le_refl (pc_N P))
    have hbn : b + n ≤ sp_ah P c (pc_N P) := by
      rw [g1, en, nI_add] at hle
      exact (nI_leI (by omega) (by omega)).mp hle
    have h0 : 0 < pc_N P := by
      rcases Nat.eq_zero_or_pos (pc_N P) with z | z
      · rw [z] at hbn
        have : sp_ah P c 0 = 0 := rfl
        omega
      · exact z
    have ln := ev_noteBarWith hP hS h0 (c := c) (by omega)
    rw [← g5] at ln
    obtain ⟨-, j0, j1, j2, j3, j4, -⟩ := id hC'
    have mn : mi_X12_noteBar m_told (s' 3) = some (nI (sp_nb P c)) := by rw [j3, g5]; exact ev_noteBar hP hT h0 (by omega)
    obtain ⟨st, hst, hx, hm⟩ : ∃ st, (st = 0 ∨ st = 1) ∧ mi_X11_bars t_score_sections t_score_noteTold t_score_toldSection t_score_toldBar t_score_lengths t_score_times t_course_bar t_course_count t_course_waits t_course_cut t_course_struck t_course_known t_course_past p1 = some (t_course_bar + p1, t_course_bar + p1, t_course_count + p1, st, kw, p') ∧ mi_X12_bars m_told m_s p1 = some (t_course_bar + p1, upd (upd (upd s' 4 st) 0 (t_course_bar + p1)) 1 (t_course_count + p1)) := by
      have hb107 : ∀ v, mi_X12_bars_b107 p1 4 v s' = some (t_course_bar + p1, upd (upd (upd s' 4 v) 0 (t_course_bar + p1)) 1 (t_course_count + p1)) := by
        intro v
        unfold mi_X12_bars_b107 jx_l
        rw [ev_g (show jx_in 4 56 = true from by decide), ev_n4, ev_n0, ev_n1, pk_un (show (0 : Nat) ≠ 4 from by omega), j0]
        dsimp only
        rw [pk_un (show (0 : Nat) ≠ 1 from by omega), pk_us, pk_un (show (1 : Nat) ≠ 0 from by omega), pk_un (show (1 : Nat) ≠ 4 from by omega), j1]
      unfold mi_X11_bars mi_X12_bars
      rw [jx_b1_eq f1, if_neg ev_1ne0, jx_b1_eq lb, if_pos hle, jx_b2_eq e1, jx_b1_eq ln, jx_b1_eq f2, if_neg ev_1ne0, jx_b1_eq lm, ev_n0, i0, if_pos hle, jx_b1_eq e2, ev_n3, jx_b1_eq mn, j0, ev_n1, j1]
      unfold mi_X11_bars_b91 mi_X11_bars_b92 mi_X11_bars_b122 mi_X12_bars_b86 mi_X12_bars_b87
      rw [if_pos (rfl : (0 : Int32) = 0), if_pos (rfl : (0 : Int32) = 0), if_neg ev_1ne0, if_neg ev_1ne0, ev_n4, j4, hb107, hb107]
      by_cases c1 : nI (sp_nb P c) < t_course_bar
      · rw [if_pos c1, if_pos c1]; exact ⟨_, g7, rfl, rfl⟩
      rw [if_neg c1, if_neg c1]
      by_cases c2 : t_course_bar + p1 ≤ nI (sp_nb P c)
      · rw [if_pos c2, if_pos c2]; exact ⟨_, g7, rfl, rfl⟩
      rw [if_neg c2, if_neg c2]
      by_cases c3 : t_course_count = t_course_bar
      · rw [if_pos c3, if_pos c3]; exact ⟨_, Or.inr rfl, rfl, rfl⟩
      rw [if_neg c3, if_neg c3]; exact ⟨_, g7, rfl, rfl⟩
    have q1 : p1.toInt = n := by rw [en]; exact nI_toInt (by omega)
    have hcnt := rl_cnt hk hC.1 (d := p1) (by omega) (by omega)
    refine ⟨_, _, _, _, _, _, _, hx, hm, P, hP, hS, hT, rl_C_set (rl_C_mono hC') ⟨b + n, w, c, by rw [g1, en, nI_add], by omega, g3, g4, g5, g6, hst, hcnt.1, hcnt.2⟩ ?_ pk_us ?_ ?_ ?_ (fun i hi => by rw [pk_un (by omega), pk_un (by omega), pk_un (by omega)]), hX, hH, hG, hTr⟩
    · rw [pk_un (by omega), pk_us]
    · rw [pk_un (by omega), pk_un (by omega), pk_un (by omega)]; exact j2
    · rw [pk_un (by omega), pk_un (by omega), pk_un (by omega)]; exact j3
    · rw [pk_un (by omega), pk_un (by omega), pk_us]
  · have hx : mi_X11_bars t_score_sections t_score_noteTold t_score_toldSection t_score_toldBar t_score_lengths t_score_times t_course_bar t_course_count t_course_waits t_course_cut t_course_struck t_course_known t_course_past p1 = some (-2, t_course_bar, t_course_count, t_course_struck, t_course_known, t_course_past) := by
      unfold mi_X11_bars; rw [jx_b1_eq f1, if_neg ev_1ne0, jx_b1_eq lb, if_neg hle]
    have hm : mi_X12_bars m_told m_s p1 = some (-2, m_s) := by
      unfold mi_X12_bars; rw [jx_b1_eq f2, if_neg ev_1ne0, jx_b1_eq lm, ev_n0, i0, if_neg hle]
    exact ⟨_, _, _, _, _, _, _, hx, hm, P, hP, hS, hT, hC1, hX, hH, hG, hTr⟩
set_option maxRecDepth 20000 in
set_option maxHeartbeats 2000000 in
theorem st_slips (k : Nat) (t_keptImages : Int32) (t_traced : Int64) (t_text_size : Int32) (t_text_bytes : Nat → Int32) (t_score_sections : Int32) (t_score_things : Int32) (t_score_noteTold : Int32) (t_score_toldSection : Int32) (t_score_toldBar : Int32) (t_score_lengths : Nat → Int32) (t_score_times : Nat → Int32) (t_score_players : Nat → Int32) (t_score_minutes : Nat → Int32) (t_course_bar : Int32) (t_course_count : Int32) (t_course_waits : Int32) (t_course_cut : Int32) (t_course_struck : Int32) (t_course_known : Int32) (t_course_past : Nat → Int32) (t_firstImage_bar : Int32) (t_firstImage_count : Int32) (t_firstImage_waits : Int32) (t_firstImage_cut : Int32) (t_firstImage_struck : Int32) (t_firstImage_known : Int32) (t_firstImage_past : Nat → Int32) (t_secondImage_bar : Int32) (t_secondImage_count : Int32) (t_secondImage_waits : Int32) (t_secondImage_cut : Int32) (t_secondImage_struck : Int32) (t_secondImage_known : Int32) (t_secondImage_past : Nat → Int32) (t_ear_heard : Int32) (t_ear_laters : Nat → Int32) (t_ear_players : Nat → Int32) (m_trace : Int64) (m_typed : Int32) (m_noted : Int32) (m_text : Nat → Int32) (m_told : Nat → Int32) (m_s : Nat → Int32) (m_images : Nat → Int32) (m_kept : Nat → Int32) (m_notes : Nat → Int32) (p1 : Int32) (hk : k < 64) (hI : rl_I k t_text_size t_text_bytes t_score_sections t_score_things t_score_noteTold t_score_toldSection t_score_toldBar t_score_lengths t_score_times t_score_players t_score_minutes t_course_bar t_course_count t_course_waits t_course_cut t_course_struck t_course_known t_course_past t_firstImage_bar t_firstImage_count t_firstImage_waits t_firstImage_cut t_firstImage_struck t_firstImage_known t_firstImage_past t_secondImage_bar t_secondImage_count t_secondImage_waits t_secondImage_cut t_secondImage_struck t_secondImage_known t_secondImage_past t_ear_heard t_ear_laters t_ear_players t_keptImages t_traced m_trace m_typed m_noted m_text m_told m_s m_images m_kept m_notes) : ∃ (r : Int32) (z_t_course_count : Int32) (z_t_course_known : Int32) (z_t_course_past : Nat → Int32) (z_m_s : Nat → Int32), mi_X11_slips t_course_bar t_course_count t_course_waits t_course_cut t_course_struck t_course_known t_course_past p1 = some (r, z_t_course_count, z_t_course_known, z_t_course_past) ∧ mi_X12_slips m_s p1 = some (r, z_m_s) ∧ rl_I (k + 1) t_text_size t_text_bytes t_score_sections t_score_things t_score_noteTold t_score_toldSection t_score_toldBar t_score_lengths t_score_times t_score_players t_score_minutes t_course_bar z_t_course_count t_course_waits t_course_cut t_course_struck z_t_course_known z_t_course_past t_firstImage_bar t_firstImage_count t_firstImage_waits t_firstImage_cut t_firstImage_struck t_firstImage_known t_firstImage_past t_secondImage_bar t_secondImage_count t_secondImage_waits t_secondImage_cut t_secondImage_struck t_secondImage_known t_secondImage_past t_ear_heard t_ear_laters t_ear_players t_keptImages t_traced m_trace m_typed m_noted m_text m_told z_m_s m_images m_kept m_notes := by
  obtain ⟨P, hP, hS, hT, hC, hX, hH, hG, hTr⟩ := hI
  obtain ⟨kw, p', s', e1, e2, hC'⟩ := ev_keep hC
  have hC1 := rl_C_mono hC
  have hG := rl_G_mono hG
  have hs1 : s' 1 = t_course_count := hC'.2.2.1
  have f1 := ev_within p1 (-9) 9
  have f2 := ev_inn p1 (-9) 9
  by_cases h0 : p1 = 0
  · have hx : mi_X11_slips t_course_bar t_course_count t_course_waits t_course_cut t_course_struck t_course_known t_course_past p1 = some (-1000000, t_course_count, t_course_known, t_course_past) := by
      unfold mi_X11_slips; rw [if_pos h0]
    have hm : mi_X12_slips m_s p1 = some (-1000000, m_s) := by
      unfold mi_X12_slips; rw [jx_b1_eq f2, if_pos h0]; split <;> rfl
    exact ⟨_, _, _, _, _, hx, hm, P, hP, hS, hT, hC1, hX, hH, hG, hTr⟩
  · cases hb : (decide ((-9 : Int32) ≤ p1) && decide (p1 ≤ 9)) with
    | false =>
      rw [hb] at f1 f2
      have hx : mi_X11_slips t_course_bar t_course_count t_course_waits t_course_cut t_course_struck t_course_known t_course_past p1 = some (-1000000, t_course_count, t_course_known, t_course_past) := by
        unfold mi_X11_slips; rw [if_neg h0, jx_b1_eq f1, if_pos ev_bf]
      have hm : mi_X12_slips m_s p1 = some (-1000000, m_s) := by
        unfold mi_X12_slips; rw [jx_b1_eq f2, if_pos ev_bf]
      exact ⟨_, _, _, _, _, hx, hm, P, hP, hS, hT, hC1, hX, hH, hG, hTr⟩
    | true =>
      rw [hb] at f1 f2
      have hx : mi_X11_slips t_course_bar t_course_count t_course_waits t_course_cut t_course_struck t_course_known t_course_past p1 = some (t_course_count + p1, t_course_count + p1, kw, p') := by
        unfold mi_X11_slips; rw [if_neg h0, jx_b1_eq f1, if_neg (by decide), jx_b2_eq e1]
      have hm : mi_X12_slips m_s p1 = some (t_course_count + p1, upd s' 1 (t_course_count + p1)) := by
        unfold mi_X12_slips; rw [jx_b1_eq f2, if_neg (by decide), if_neg h0, jx_b1_eq e2, ev_n1, hs1, pk_us]
      simp only [Bool.and_eq_true, decide_eq_true_eq] at hb
      have q1 := Int32.le_iff_toInt_le.mp hb.1
      have q2 := Int32.le_iff_toInt_le.mp hb.2
      have q3 : (-9 : Int32).toInt = -9 := by decide
      have q4 : (9 : Int32).toInt = 9 := by decide
      have hcnt := rl_cnt hk hC.1 (d := p1) (by omega) (by omega)
      obtain ⟨⟨b, w, c, g1, g2, g3, g4, g5, g6, g7, g8, g9⟩, i0, i1, i2, i3, i4, -⟩ := id hC'
      refine ⟨_, _, _, _, _, hx, hm, P, hP, hS, hT, rl_C_set (rl_C_mono hC') ⟨b, w, c, g1, g2, g3, g4, g5, g6, g7, hcnt.1, hcnt.2⟩ ?_ pk_us ?_ ?_ ?_ (fun i hi => pk_un (by omega)), hX, hH, hG, hTr⟩
      · rw [pk_un (by omega)]; exact i0
      · rw [pk_un (by omega)]; exact i2
      · rw [pk_un (by omega)]; exact i3
      · rw [pk_un (by omega)]; exact i4
set_option maxRecDepth 20000 in
set_option maxHeartbeats 2000000 in
theorem st_cuts (k : Nat) (t_keptImages : Int32) (t_traced : Int64) (t_text_size : Int32) (t_text_bytes : Nat → Int32) (t_score_sections : Int32) (t_score_things : Int32) (t_score_noteTold : Int32) (t_score_toldSection : Int32) (t_score_toldBar : Int32) (t_score_lengths : Nat → Int32) (t_score_times : Nat → Int32) (t_score_players : Nat → Int32) (t_score_minutes : Nat → Int32) (t_course_bar : Int32) (t_course_count : Int32) (t_course_waits : Int32) (t_course_cut : Int32) (t_course_struck : Int32) (t_course_known : Int32) (t_course_past : Nat → Int32) (t_firstImage_bar : Int32) (t_firstImage_count : Int32) (t_firstImage_waits : Int32) (t_firstImage_cut : Int32) (t_firstImage_struck : Int32) (t_firstImage_known : Int32) (t_firstImage_past : Nat → Int32) (t_secondImage_bar : Int32) (t_secondImage_count : Int32) (t_secondImage_waits : Int32) (t_secondImage_cut : Int32) (t_secondImage_struck : Int32) (t_secondImage_known : Int32) (t_secondImage_past : Nat → Int32) (t_ear_heard : Int32) (t_ear_laters : Nat → Int32) (t_ear_players : Nat → Int32) (m_trace : Int64) (m_typed : Int32) (m_noted : Int32) (m_text : Nat → Int32) (m_told : Nat → Int32) (m_s : Nat → Int32) (m_images : Nat → Int32) (m_kept : Nat → Int32) (m_notes : Nat → Int32) (p1 : Int32) (hk : k < 64) (hI : rl_I k t_text_size t_text_bytes t_score_sections t_score_things t_score_noteTold t_score_toldSection t_score_toldBar t_score_lengths t_score_times t_score_players t_score_minutes t_course_bar t_course_count t_course_waits t_course_cut t_course_struck t_course_known t_course_past t_firstImage_bar t_firstImage_count t_firstImage_waits t_firstImage_cut t_firstImage_struck t_firstImage_known t_firstImage_past t_secondImage_bar t_secondImage_count t_secondImage_waits t_secondImage_cut t_secondImage_struck t_secondImage_known t_secondImage_past t_ear_heard t_ear_laters t_ear_players t_keptImages t_traced m_trace m_typed m_noted m_text m_told m_s m_images m_kept m_notes) : ∃ (r : Int32) (z_t_course_cut : Int32) (z_t_course_known : Int32) (z_t_course_past : Nat → Int32) (z_m_s : Nat → Int32), mi_X11_cuts t_score_sections t_score_noteTold t_score_toldSection t_score_lengths t_score_times t_course_bar t_course_count t_course_waits t_course_cut t_course_struck t_course_known t_course_past p1 = some (r, z_t_course_cut, z_t_course_known, z_t_course_past) ∧ mi_X12_cuts m_told m_s p1 = some (r, z_m_s) ∧ rl_I (k + 1) t_text_size t_text_bytes t_score_sections t_score_things t_score_noteTold t_score_toldSection t_score_toldBar t_score_lengths t_score_times t_score_players t_score_minutes t_course_bar t_course_count t_course_waits z_t_course_cut t_course_struck z_t_course_known z_t_course_past t_firstImage_bar t_firstImage_count t_firstImage_waits t_firstImage_cut t_firstImage_struck t_firstImage_known t_firstImage_past t_secondImage_bar t_secondImage_count t_secondImage_waits t_secondImage_cut t_secondImage_struck t_secondImage_known t_secondImage_past t_ear_heard t_ear_laters t_ear_players t_keptImages t_traced m_trace m_typed m_noted m_text m_told z_m_s m_images m_kept m_notes := by
  obtain ⟨P, hP, hS, hT, hC, hX, hH, hG, hTr⟩ := hI
  obtain ⟨kw, p', s', e1, e2, hC'⟩ := ev_keep hC
  have hC1 := rl_C_mono hC
  have hG := rl_G_mono hG
  have h8 := hP.1
  have hp8 := pow_le_256 h8
  rcases ev_sec (n := pc_N P) (by omega) p1 with ⟨f1, f2⟩ | ⟨q, hq, rfl, f1, f2⟩
  · have hx : mi_X11_cuts t_score_sections t_score_noteTold t_score_toldSection t_score_lengths t_score_times t_course_bar t_course_count t_course_waits t_course_cut t_course_struck t_course_known t_course_past p1 = some (-1, t_course_cut, t_course_known, t_course_past) := by
      unfold mi_X11_cuts; rw [hS.1, jx_b1_eq f1, if_pos rfl]
    have hm : mi_X12_cuts m_told m_s p1 = some (-1, m_s) := by
      unfold mi_X12_cuts; rw [jx_b1_eq (ev_isSec hT f2 (Or.inl rfl)), if_pos rfl]
    exact ⟨_, _, _, _, _, hx, hm, P, hP, hS, hT, hC1, hX, hH, hG, hTr⟩
  · obtain ⟨b, w, c, g1, g2, g3, g4, g5, g6, g7, g8, g9⟩ := hC.1
    have i0 : m_s 0 = nI b := by rw [hC.2.1, g1]
    have i3 : m_s 3 = nI c := by rw [hC.2.2.2.2.1, g5]
    have j3 : s' 3 = nI c := by rw [hC'.2.2.2.2.1, g5]
    have f1' : mi_X6_hasSection t_score_sections (nI q) = some 1 := by rw [hS.1]; exact f1
    have l6 := ev_canBeCut hP hS (c := c) (b := b) (q := q) (by omega) g2 hq
    have m5 := ev_mayCut hP hT (c := c) (b := b) (by omega) g2 i3 i0 hq
    cases hcan : sp_can P c b q with
    | false =>
      rw [hcan] at l6 m5
      have hx : mi_X11_cuts t_score_sections t_score_noteTold t_score_toldSection t_score_lengths t_score_times t_course_bar t_course_count t_course_waits t_course_cut t_course_struck t_course_known t_course_past (nI q) = some (-2, t_course_cut, t_course_known, t_course_past) := by
        unfold mi_X11_cuts; rw [jx_b1_eq f1', if_neg ev_1ne0]
        rw [← g1, ← g5] at l6
        rw [jx_b1_eq l6, if_pos ev_bf]
      have hm : mi_X12_cuts m_told m_s (nI q) = some (-2, m_s) := by
        unfold mi_X12_cuts; rw [jx_b1_eq (ev_isSec hT f2 (Or.inr rfl)), if_neg ev_1ne0, jx_b1_eq m5, if_pos ev_bf]
      exact ⟨_, _, _, _, _, hx, hm, P, hP, hS, hT, hC1, hX, hH, hG, hTr⟩
    | true =>
      rw [hcan] at l6 m5
      have hor : t_course_cut ||| ((1 : Int32) <<< (nI q &&& 31)) = nI (c ||| 2 ^ q) := by rw [g5, ev_pow (by omega), fa_or]
      have hlt : c ||| 2 ^ q < 2 ^ pc_N P := Nat.or_lt_two_pow g6 (Nat.pow_lt_pow_right (by decide) hq)
      have lb := ev_barsWith hP hS (c := c ||| 2 ^ q) (by omega)
      have hx : mi_X11_cuts t_score_sections t_score_noteTold t_score_toldSection t_score_lengths t_score_times t_course_bar t_course_count t_course_waits t_course_cut t_course_struck t_course_known t_course_past (nI q) = some (nI (sp_ah P (c ||| 2 ^ q) (pc_N P)), nI (c ||| 2 ^ q), kw, p') := by
        unfold mi_X11_cuts; rw [jx_b1_eq f1', if_neg ev_1ne0]
        rw [← g1, ← g5] at l6
        rw [jx_b1_eq l6, if_neg (by decide), jx_b2_eq e1, hor, jx_b1_eq lb]
      have hor2 : nI c ||| ((1 : Int32) <<< (nI q &&& 31)) = nI (c ||| 2 ^ q) := by rw [ev_pow (by omega), fa_or]
      have hm : mi_X12_cuts m_told m_s (nI q) = some (nI (sp_ah P (c ||| 2 ^ q) (pc_N P)), upd s' 3 (nI (c ||| 2 ^ q))) := by
        unfold mi_X12_cuts; rw [jx_b1_eq (ev_isSec hT f2 (Or.inr rfl)), if_neg ev_1ne0, jx_b1_eq m5, if_neg (by decide), jx_b1_eq e2, ev_n3, j3, hor2, jx_b1_eq (ev_length hP hT (c := c ||| 2 ^ q) (by omega) pk_us)]
      obtain ⟨-, i0, i1, i2, i3, i4, -⟩ := id hC'
      obtain ⟨b, w, c', g1, g2, g3, g4, g5', g6', g7, g8, g9⟩ := (rl_C_mono hC').1
      refine ⟨_, _, _, _, _, hx, hm, P, hP, hS, hT, rl_C_set (rl_C_mono hC') ⟨b, w, c ||| 2 ^ q, g1, g2, g3, g4, rfl, hlt, g7, g8, g9⟩ ?_ ?_ ?_ pk_us ?_ (fun i hi => pk_un (by omega)), hX, hH, hG, hTr⟩
      · rw [pk_un (by omega)]; exact i0
      · rw [pk_un (by omega)]; exact i1
      · rw [pk_un (by omega)]; exact i2
      · rw [pk_un (by omega)]; exact i4
set_option maxRecDepth 20000 in
set_option maxHeartbeats 2000000 in
theorem st_waits (k : Nat) (t_keptImages : Int32) (t_traced : Int64) (t_text_size : Int32) (t_text_bytes : Nat → Int32) (t_score_sections : Int32) (t_score_things : Int32) (t_score_noteTold : Int32) (t_score_toldSection : Int32) (t_score_toldBar : Int32) (t_score_lengths : Nat → Int32) (t_score_times : Nat → Int32) (t_score_players : Nat → Int32) (t_score_minutes : Nat → Int32) (t_course_bar : Int32) (t_course_count : Int32) (t_course_waits : Int32) (t_course_cut : Int32) (t_course_struck : Int32) (t_course_known : Int32) (t_course_past : Nat → Int32) (t_firstImage_bar : Int32) (t_firstImage_count : Int32) (t_firstImage_waits : Int32) (t_firstImage_cut : Int32) (t_firstImage_struck : Int32) (t_firstImage_known : Int32) (t_firstImage_past : Nat → Int32) (t_secondImage_bar : Int32) (t_secondImage_count : Int32) (t_secondImage_waits : Int32) (t_secondImage_cut : Int32) (t_secondImage_struck : Int32) (t_secondImage_known : Int32) (t_secondImage_past : Nat → Int32) (t_ear_heard : Int32) (t_ear_laters : Nat → Int32) (t_ear_players : Nat → Int32) (m_trace : Int64) (m_typed : Int32) (m_noted : Int32) (m_text : Nat → Int32) (m_told : Nat → Int32) (m_s : Nat → Int32) (m_images : Nat → Int32) (m_kept : Nat → Int32) (m_notes : Nat → Int32) (p1 : Int32) (hk : k < 64) (hI : rl_I k t_text_size t_text_bytes t_score_sections t_score_things t_score_noteTold t_score_toldSection t_score_toldBar t_score_lengths t_score_times t_score_players t_score_minutes t_course_bar t_course_count t_course_waits t_course_cut t_course_struck t_course_known t_course_past t_firstImage_bar t_firstImage_count t_firstImage_waits t_firstImage_cut t_firstImage_struck t_firstImage_known t_firstImage_past t_secondImage_bar t_secondImage_count t_secondImage_waits t_secondImage_cut t_secondImage_struck t_secondImage_known t_secondImage_past t_ear_heard t_ear_laters t_ear_players t_keptImages t_traced m_trace m_typed m_noted m_text m_told m_s m_images m_kept m_notes) : ∃ (r : Int32) (z_t_course_waits : Int32) (z_t_course_known : Int32) (z_t_course_past : Nat → Int32) (z_m_s : Nat → Int32), mi_X11_waits t_course_bar t_course_count t_course_waits t_course_cut t_course_struck t_course_known t_course_past p1 = some (r, z_t_course_waits, z_t_course_known, z_t_course_past) ∧ mi_X12_waits m_s p1 = some (r, z_m_s) ∧ rl_I (k + 1) t_text_size t_text_bytes t_score_sections t_score_things t_score_noteTold t_score_toldSection t_score_toldBar t_score_lengths t_score_times t_score_players t_score_minutes t_course_bar t_course_count z_t_course_waits t_course_cut t_course_struck z_t_course_known z_t_course_past t_firstImage_bar t_firstImage_count t_firstImage_waits t_firstImage_cut t_firstImage_struck t_firstImage_known t_firstImage_past t_secondImage_bar t_secondImage_count t_secondImage_waits t_secondImage_cut t_secondImage_struck t_secondImage_known t_secondImage_past t_ear_heard t_ear_laters t_ear_players t_keptImages t_traced m_trace m_typed m_noted m_text m_told z_m_s m_images m_kept m_notes := by
  obtain ⟨P, hP, hS, hT, hC, hX, hH, hG, hTr⟩ := hI
  obtain ⟨kw, p', s', e1, e2, hC'⟩ := ev_keep hC
  have hC1 := rl_C_mono hC
  have hC2 := rl_C_mono hC'
  have hG := rl_G_mono hG
  have hw2 : m_s 2 = t_course_waits := hC.2.2.2.1
  have hs2 : s' 2 = t_course_waits := hC'.2.2.2.1
  rcases ev_win p1 (A := 1) (B := 99) 1 99 rfl rfl (by decide) (by decide) with ⟨f1, f2⟩ | ⟨n, en, ha, hb, f1, f2⟩
  · have hx : mi_X11_waits t_course_bar t_course_count t_course_waits t_course_cut t_course_struck t_course_known t_course_past p1 = some (-1, t_course_waits, t_course_known, t_course_past) := by
      unfold mi_X11_waits; rw [jx_b1_eq f1, if_pos rfl]
    have hm : mi_X12_waits m_s p1 = some (-1, m_s) := by
      unfold mi_X12_waits; rw [jx_b1_eq f2, if_pos rfl]
    exact ⟨_, _, _, _, _, hx, hm, P, hP, hS, hT, hC1, hX, hH, hG, hTr⟩
  · by_cases hle : t_course_waits + p1 ≤ 999
    · have hx : mi_X11_waits t_course_bar t_course_count t_course_waits t_course_cut t_course_struck t_course_known t_course_past p1 = some (t_course_waits + p1, t_course_waits + p1, kw, p') := by
        unfold mi_X11_waits; rw [jx_b1_eq f1, if_neg ev_1ne0, if_pos hle, jx_b2_eq e1]
      have hm : mi_X12_waits m_s p1 = some (t_course_waits + p1, upd s' 2 (t_course_waits + p1)) := by
        unfold mi_X12_waits; rw [jx_b1_eq f2, if_neg ev_1ne0, ev_n2, hw2, if_pos hle, jx_b1_eq e2, hs2, pk_us]
      obtain ⟨⟨b, w, c, g1, g2, g3, g4, g5, g6, g7, g8, g9⟩, i0, i1, i2, i3, i4, -⟩ := hC2
      have hwn : w + n ≤ 999 := by
        rw [g3, en, nI_add] at hle
        exact (nI_leI (b := 999) (by omega) (by decide)).mp hle
      refine ⟨_, _, _, _, _, hx, hm, P, hP, hS, hT, rl_C_set (rl_C_mono hC') ⟨b, w + n, c, g1, g2, by rw [g3, en, nI_add], hwn, g5, g6, g7, g8, g9⟩ ?_ ?_ pk_us ?_ ?_ (fun i hi => pk_un (by omega)), hX, hH, hG, hTr⟩
      · rw [pk_un (by omega)]; exact i0
      · rw [pk_un (by omega)]; exact i1
      · rw [pk_un (by omega)]; exact i3
      · rw [pk_un (by omega)]; exact i4
    · have hx : mi_X11_waits t_course_bar t_course_count t_course_waits t_course_cut t_course_struck t_course_known t_course_past p1 = some (-2, t_course_waits, t_course_known, t_course_past) := by
        unfold mi_X11_waits; rw [jx_b1_eq f1, if_neg ev_1ne0, if_neg hle]
      have hm : mi_X12_waits m_s p1 = some (-2, m_s) := by
        unfold mi_X12_waits; rw [jx_b1_eq f2, if_neg ev_1ne0, ev_n2, hw2, if_neg hle]
      exact ⟨_, _, _, _, _, hx, hm, P, hP, hS, hT, hC1, hX, hH, hG, hTr⟩
set_option maxRecDepth 20000 in
set_option maxHeartbeats 2000000 in
theorem st_undo (k : Nat) (t_keptImages : Int32) (t_traced : Int64) (t_text_size : Int32) (t_text_bytes : Nat → Int32) (t_score_sections : Int32) (t_score_things : Int32) (t_score_noteTold : Int32) (t_score_toldSection : Int32) (t_score_toldBar : Int32) (t_score_lengths : Nat → Int32) (t_score_times : Nat → Int32) (t_score_players : Nat → Int32) (t_score_minutes : Nat → Int32) (t_course_bar : Int32) (t_course_count : Int32) (t_course_waits : Int32) (t_course_cut : Int32) (t_course_struck : Int32) (t_course_known : Int32) (t_course_past : Nat → Int32) (t_firstImage_bar : Int32) (t_firstImage_count : Int32) (t_firstImage_waits : Int32) (t_firstImage_cut : Int32) (t_firstImage_struck : Int32) (t_firstImage_known : Int32) (t_firstImage_past : Nat → Int32) (t_secondImage_bar : Int32) (t_secondImage_count : Int32) (t_secondImage_waits : Int32) (t_secondImage_cut : Int32) (t_secondImage_struck : Int32) (t_secondImage_known : Int32) (t_secondImage_past : Nat → Int32) (t_ear_heard : Int32) (t_ear_laters : Nat → Int32) (t_ear_players : Nat → Int32) (m_trace : Int64) (m_typed : Int32) (m_noted : Int32) (m_text : Nat → Int32) (m_told : Nat → Int32) (m_s : Nat → Int32) (m_images : Nat → Int32) (m_kept : Nat → Int32) (m_notes : Nat → Int32) (hk : k < 64) (hI : rl_I k t_text_size t_text_bytes t_score_sections t_score_things t_score_noteTold t_score_toldSection t_score_toldBar t_score_lengths t_score_times t_score_players t_score_minutes t_course_bar t_course_count t_course_waits t_course_cut t_course_struck t_course_known t_course_past t_firstImage_bar t_firstImage_count t_firstImage_waits t_firstImage_cut t_firstImage_struck t_firstImage_known t_firstImage_past t_secondImage_bar t_secondImage_count t_secondImage_waits t_secondImage_cut t_secondImage_struck t_secondImage_known t_secondImage_past t_ear_heard t_ear_laters t_ear_players t_keptImages t_traced m_trace m_typed m_noted m_text m_told m_s m_images m_kept m_notes) : ∃ (r : Int32) (z_t_course_bar : Int32) (z_t_course_count : Int32) (z_t_course_waits : Int32) (z_t_course_cut : Int32) (z_t_course_struck : Int32) (z_t_course_known : Int32) (z_m_s : Nat → Int32), mi_X11_undo t_course_bar t_course_count t_course_waits t_course_cut t_course_struck t_course_known t_course_past = some (r, z_t_course_bar, z_t_course_count, z_t_course_waits, z_t_course_cut, z_t_course_struck, z_t_course_known) ∧ mi_X12_undo m_s = some (r, z_m_s) ∧ rl_I (k + 1) t_text_size t_text_bytes t_score_sections t_score_things t_score_noteTold t_score_toldSection t_score_toldBar t_score_lengths t_score_times t_score_players t_score_minutes z_t_course_bar z_t_course_count z_t_course_waits z_t_course_cut z_t_course_struck z_t_course_known t_course_past t_firstImage_bar t_firstImage_count t_firstImage_waits t_firstImage_cut t_firstImage_struck t_firstImage_known t_firstImage_past t_secondImage_bar t_secondImage_count t_secondImage_waits t_secondImage_cut t_secondImage_struck t_secondImage_known t_secondImage_past t_ear_heard t_ear_laters t_ear_players t_keptImages t_traced m_trace m_typed m_noted m_text m_told z_m_s m_images m_kept m_notes := by
  obtain ⟨P, hP, hS, hT, hC, hX, hH, hG, hTr⟩ := rl_mono hI
  by_cases h0 : t_course_known = 0
  · have h5 : m_s 5 = 0 := by rw [hC.2.2.2.2.2.2.1, h0]
    have hx : mi_X11_undo t_course_bar t_course_count t_course_waits t_course_cut t_course_struck t_course_known t_course_past = some (-2, t_course_bar, t_course_count, t_course_waits, t_course_cut, t_course_struck, t_course_known) := by
      unfold mi_X11_undo; rw [if_pos h0]
    have hm : mi_X12_undo m_s = some (-2, m_s) := by
      unfold mi_X12_undo; rw [ev_n5, if_pos h5]
    exact ⟨_, _, _, _, _, _, _, _, hx, hm, P, hP, hS, hT, hC, hX, hH, hG, hTr⟩
  · obtain ⟨kn, b, c, w, u, st, s', e1, e2, hC'⟩ := ev_undo hC h0
    have hx : mi_X11_undo t_course_bar t_course_count t_course_waits t_course_cut t_course_struck t_course_known t_course_past = some (nI kn, b, c, w, u, st, nI kn) := by
      unfold mi_X11_undo; rw [if_neg h0, jx_b6_eq e1]
    exact ⟨_, _, _, _, _, _, _, _, hx, e2, P, hP, hS, hT, hC', hX, hH, hG, hTr⟩
