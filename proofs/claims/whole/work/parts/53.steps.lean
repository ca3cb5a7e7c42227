set_option maxRecDepth 20000 in
set_option maxHeartbeats 2000000 in
theorem st_places (k : Nat) (t_keptImages : Int32) (t_traced : Int64) (t_text_size : Int32) (t_text_bytes : Nat → Int32) (t_score_sections : Int32) (t_score_things : Int32) (t_score_noteTold : Int32) (t_score_toldSection : Int32) (t_score_toldBar : Int32) (t_score_lengths : Nat → Int32) (t_score_times : Nat → Int32) (t_score_players : Nat → Int32) (t_score_minutes : Nat → Int32) (t_course_bar : Int32) (t_course_count : Int32) (t_course_waits : Int32) (t_course_cut : Int32) (t_course_struck : Int32) (t_course_known : Int32) (t_course_past : Nat → Int32) (t_firstImage_bar : Int32) (t_firstImage_count : Int32) (t_firstImage_waits : Int32) (t_firstImage_cut : Int32) (t_firstImage_struck : Int32) (t_firstImage_known : Int32) (t_firstImage_past : Nat → Int32) (t_secondImage_bar : Int32) (t_secondImage_count : Int32) (t_secondImage_waits : Int32) (t_secondImage_cut : Int32) (t_secondImage_struck : Int32) (t_secondImage_known : Int32) (t_secondImage_past : Nat → Int32) (t_ear_heard : Int32) (t_ear_bars : Int32) (t_ear_laters : Nat → Int32) (t_ear_players : Nat → Int32) (t_ear_playing : Nat → Int32) (t_ear_placesAhead : Nat → Int32) (m_trace : Int64) (m_typed : Int32) (m_noted : Int32) (m_text : Nat → Int32) (m_told : Nat → Int32) (m_s : Nat → Int32) (m_images : Nat → Int32) (m_kept : Nat → Int32) (m_notes : Nat → Int32) (m_players : Nat → Int32) (p1 : Int32) (hk : k < 64) (hI : rl_I k t_text_size t_text_bytes t_score_sections t_score_things t_score_noteTold t_score_toldSection t_score_toldBar t_score_lengths t_score_times t_score_players t_score_minutes t_course_bar t_course_count t_course_waits t_course_cut t_course_struck t_course_known t_course_past t_firstImage_bar t_firstImage_count t_firstImage_waits t_firstImage_cut t_firstImage_struck t_firstImage_known t_firstImage_past t_secondImage_bar t_secondImage_count t_secondImage_waits t_secondImage_cut t_secondImage_struck t_secondImage_known t_secondImage_past t_ear_heard t_ear_laters t_ear_players t_keptImages t_traced m_trace m_typed m_noted m_text m_told m_s m_images m_kept m_notes) : ∃ (r : Int32) (z_t_ear_bars : Int32) (z_t_ear_playing : Nat → Int32) (z_t_ear_placesAhead : Nat → Int32) (z_m_players : Nat → Int32), mi_X11_places t_score_sections t_score_lengths t_score_times t_score_players t_course_cut t_ear_heard t_ear_bars t_ear_laters t_ear_players t_ear_playing t_ear_placesAhead p1 = some (r, z_t_ear_bars, z_t_ear_playing, z_t_ear_placesAhead) ∧ mi_X12_places m_noted m_told m_s m_notes m_players p1 = some (r, z_m_players) ∧ rl_I (k + 1) t_text_size t_text_bytes t_score_sections t_score_things t_score_noteTold t_score_toldSection t_score_toldBar t_score_lengths t_score_times t_score_players t_score_minutes t_course_bar t_course_count t_course_waits t_course_cut t_course_struck t_course_known t_course_past t_firstImage_bar t_firstImage_count t_firstImage_waits t_firstImage_cut t_firstImage_struck t_firstImage_known t_firstImage_past t_secondImage_bar t_secondImage_count t_secondImage_waits t_secondImage_cut t_secondImage_struck t_secondImage_known t_secondImage_past t_ear_heard t_ear_laters t_ear_players t_keptImages t_traced m_trace m_typed m_noted m_text m_told m_s m_images m_kept m_notes := by
  obtain ⟨P, hP, hS, hT, hC, hX, hH, hG, hTr⟩ := rl_mono hI
  have h8 := hP.1
  have hp8 := pow_le_256 h8
  obtain ⟨bb, w, c, g1, g2, g3, g4, g5, g6, g7, g8, g9⟩ := hC.1
  have i3 : m_s 3 = nI c := by rw [hC.2.2.2.2.1, g5]
  obtain ⟨h, A, B, a1, a2, hAB⟩ := rl_H_AB hH
  have h960 := sp_ah_960 hP c (Nat.le_refl (pc_N P))
  have f1 := ev_within p1 (-1) 9
  have f2 := ev_inn p1 (-1) 9
  cases hb : (decide ((-1 : Int32) ≤ p1) && decide (p1 ≤ 9)) with
  | false =>
    rw [hb] at f1 f2
    have hx : mi_X11_places t_score_sections t_score_lengths t_score_times t_score_players t_course_cut t_ear_heard t_ear_bars t_ear_laters t_ear_players t_ear_playing t_ear_placesAhead p1 = some (-1, t_ear_bars, t_ear_playing, t_ear_placesAhead) := by
      unfold mi_X11_places; rw [jx_b1_eq f1, if_pos ev_bf]
    have hm : mi_X12_places m_noted m_told m_s m_notes m_players p1 = some (-1, m_players) := by
      unfold mi_X12_places; rw [jx_b1_eq f2, if_pos ev_bf]
    exact ⟨_, _, _, _, _, hx, hm, P, hP, hS, hT, hC, hX, hH, hG, hTr⟩
  | true =>
    rw [hb] at f1 f2
    obtain ⟨pl, l1, l2⟩ := ev_layOut hP hS (c := c) (by omega) t_ear_playing
    obtain ⟨mp, m1, m2⟩ := ev_writes hP hT (c := c) (by omega) i3 m_players
    have ml := ev_length hP hT (c := c) (s := m_s) (by omega) i3
    obtain ⟨pa, q1, q2⟩ := ev_find_l15 hP hAB l2 jx_F 0 (upd t_ear_placesAhead 0 0) (Nat.zero_le _) (by show _ < 100000000; omega) (fun q hq => by
      have : q = 0 := by omega
      rw [this, pk_us]; rfl)
    have lf : mi_X3_findPlaces t_ear_heard t_ear_laters t_ear_players t_ear_playing t_ear_placesAhead t_score_sections t_score_lengths t_score_times t_score_players t_course_cut = some (nI (sp_ah P c (pc_N P)), pl, pa) := by
      unfold mi_X3_findPlaces
      rw [g5, jx_b2_eq l1, a1, ev_n0]
      exact q1
    have hR : ∃ R : Int32, (¬ p1 = -1 → ∃ k : Nat, p1 = nI k ∧ k ≤ 9 ∧ ((∃ q, q < sp_ah P c (pc_N P) ∧ sp_so P c h A B q = true ∧ fb_ct (sp_so P c h A B) q = k ∧ R = nI q) ∨ ((∀ q, q < sp_ah P c (pc_N P) → sp_so P c h A B q = true → ¬ fb_ct (sp_so P c h A B) q = k) ∧ R = -9))) := by
      by_cases hm1 : p1 = -1
      · exact ⟨0, fun z => absurd hm1 z⟩
      · have hp : ∃ k : Nat, p1 = nI k ∧ k ≤ 9 := by
          simp only [Bool.and_eq_true, decide_eq_true_eq] at hb
          have q1 := Int32.le_iff_toInt_le.mp hb.1
          have q2 := Int32.le_iff_toInt_le.mp hb.2
          have q3 : (-1 : Int32).toInt = -1 := by decide
          have q4 : (9 : Int32).toInt = 9 := by decide
          have q5 : p1.toInt ≠ -1 := fun z => hm1 (Int32.toInt_inj.mp (by rw [z, q3]))
          refine ⟨p1.toInt.toNat, Int32.toInt_inj.mp ?_, by omega⟩
          rw [nI_toInt (by omega)]
          omega
        obtain ⟨k, hk1, hk2⟩ := hp
        by_cases hex : ∃ q, q < sp_ah P c (pc_N P) ∧ sp_so P c h A B q = true ∧ fb_ct (sp_so P c h A B) q = k
        · obtain ⟨q, e1, e2, e3⟩ := hex
          exact ⟨nI q, fun _ => ⟨k, hk1, hk2, Or.inl ⟨q, e1, e2, e3, rfl⟩⟩⟩
        · exact ⟨-9, fun _ => ⟨k, hk1, hk2, Or.inr ⟨fun q e1 e2 e3 => hex ⟨q, e1, e2, e3⟩, rfl⟩⟩⟩
    obtain ⟨R, hR⟩ := hR
    have hx : mi_X11_places t_score_sections t_score_lengths t_score_times t_score_players t_course_cut t_ear_heard t_ear_bars t_ear_laters t_ear_players t_ear_playing t_ear_placesAhead p1 = some (if p1 = -1 then nI (fb_ct (sp_so P c h A B) (sp_ah P c (pc_N P))) else R, nI (sp_ah P c (pc_N P)), pl, pa) := by
      unfold mi_X11_places
      rw [jx_b1_eq f1, if_neg (by decide), jx_b3_eq lf]
      by_cases hm1 : p1 = -1
      · have la : mi_X3_placesInAll (nI (sp_ah P c (pc_N P))) pa = some (nI (fb_ct (sp_so P c h A B) (sp_ah P c (pc_N P)))) := by
          unfold mi_X3_placesInAll
          rw [jx_b1_eq (ev_aheadOf h960 rfl (Nat.le_refl _)), q2 _ (Nat.le_refl _)]
        rw [if_pos hm1, jx_b1_eq la, if_pos hm1]
      · obtain ⟨k, hk1, hk2, hk3⟩ := hR hm1
        have lp := ev_placeOf_l2 h960 hk2 q2 hk3 jx_F 0 (Nat.zero_le _) (by show _ < 100000000; omega) (fun q hq => absurd hq (Nat.not_lt_zero q))
        have lp : mi_X3_placeOf (nI (sp_ah P c (pc_N P))) pa p1 = some R := by rw [hk1]; exact lp
        rw [if_neg hm1, jx_b1_eq lp, if_neg hm1]
    have hm : mi_X12_places m_noted m_told m_s m_notes m_players p1 = some (if p1 = -1 then nI (fb_ct (sp_so P c h A B) (sp_ah P c (pc_N P))) else R, mp) := by
      by_cases hm1 : p1 = -1
      · have lb := ev_placesBy_l18 hP hAB m2 (bars := sp_ah P c (pc_N P)) (p1 := p1) (R := -9) h960 (fun q e1 e2 e3 => by
          exfalso
          rw [hm1] at e3
          have e4 := congrArg Int32.toInt e3
          have e5 := fb_ct_le (sp_so P c h A B) q
          rw [nI_toInt (by omega), show (-1 : Int32).toInt = -1 from by decide] at e4
          omega) jx_F 0 (-9) (Nat.zero_le _) (by show _ < 100000000; omega) (Or.inl rfl)
        have lb2 : mi_X12_placesBy m_noted m_told m_s m_notes m_players p1 = some (if p1 = -1 then nI (fb_ct (sp_so P c h A B) (sp_ah P c (pc_N P))) else -9, mp) := by
          unfold mi_X12_placesBy
          rw [jx_b1_eq m1, jx_b1_eq ml, a2]
          exact lb
        unfold mi_X12_places
        rw [jx_b1_eq f2, if_neg (by decide), jx_b2_eq lb2, if_pos hm1, if_pos hm1]
      · obtain ⟨k, hk1, hk2, hk3⟩ := hR hm1
        have lb := ev_placesBy_l18 hP hAB m2 (bars := sp_ah P c (pc_N P)) (p1 := p1) (R := R) h960 (fun q e1 e2 e3 => by
          have e5 := fb_ct_le (sp_so P c h A B) q
          rw [hk1] at e3
          have e4 := (nI_eq (by omega) (by omega)).mp e3
          rcases hk3 with ⟨r, r1, r2, r3, r4⟩ | ⟨r1, -⟩
          · rw [r4, fb_ct_kth_one r2 e2 (by rw [r3, e4])]
          · exact absurd e4 (r1 q e1 e2)) jx_F 0 (-9) (Nat.zero_le _) (by show _ < 100000000; omega) (by
          rcases hk3 with ⟨r, r1, r2, r3, r4⟩ | ⟨-, r2⟩
          · exact Or.inr ⟨r, Nat.zero_le _, r1, r2, by rw [r3, hk1]⟩
          · exact Or.inl r2.symm)
        have lb2 : mi_X12_placesBy m_noted m_told m_s m_notes m_players p1 = some (if p1 = -1 then nI (fb_ct (sp_so P c h A B) (sp_ah P c (pc_N P))) else R, mp) := by
          unfold mi_X12_placesBy
          rw [jx_b1_eq m1, jx_b1_eq ml, a2]
          exact lb
        unfold mi_X12_places
        rw [jx_b1_eq f2, if_neg (by decide), jx_b2_eq lb2]
    exact ⟨_, _, _, _, _, hx, hm, P, hP, hS, hT, hC, hX, hH, hG, hTr⟩
