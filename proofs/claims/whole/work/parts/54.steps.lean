set_option maxRecDepth 20000 in
set_option maxHeartbeats 2000000 in
theorem st_listen (k : Nat) (t_keptImages : Int32) (t_traced : Int64) (t_text_size : Int32) (t_text_bytes : Nat → Int32) (t_score_sections : Int32) (t_score_things : Int32) (t_score_noteTold : Int32) (t_score_toldSection : Int32) (t_score_toldBar : Int32) (t_score_lengths : Nat → Int32) (t_score_times : Nat → Int32) (t_score_players : Nat → Int32) (t_score_minutes : Nat → Int32) (t_course_bar : Int32) (t_course_count : Int32) (t_course_waits : Int32) (t_course_cut : Int32) (t_course_struck : Int32) (t_course_known : Int32) (t_course_past : Nat → Int32) (t_firstImage_bar : Int32) (t_firstImage_count : Int32) (t_firstImage_waits : Int32) (t_firstImage_cut : Int32) (t_firstImage_struck : Int32) (t_firstImage_known : Int32) (t_firstImage_past : Nat → Int32) (t_secondImage_bar : Int32) (t_secondImage_count : Int32) (t_secondImage_waits : Int32) (t_secondImage_cut : Int32) (t_secondImage_struck : Int32) (t_secondImage_known : Int32) (t_secondImage_past : Nat → Int32) (t_ear_heard : Int32) (t_ear_laters : Nat → Int32) (t_ear_players : Nat → Int32) (t_ear_playing : Nat → Int32) (t_ear_placesAhead : Nat → Int32) (t_ear_answers : Nat → Int32) (m_trace : Int64) (m_typed : Int32) (m_noted : Int32) (m_text : Nat → Int32) (m_told : Nat → Int32) (m_s : Nat → Int32) (m_images : Nat → Int32) (m_kept : Nat → Int32) (m_notes : Nat → Int32) (m_players : Nat → Int32) (m_answers : Nat → Int32) (hk : k < 64) (hI : rl_I k t_text_size t_text_bytes t_score_sections t_score_things t_score_noteTold t_score_toldSection t_score_toldBar t_score_lengths t_score_times t_score_players t_score_minutes t_course_bar t_course_count t_course_waits t_course_cut t_course_struck t_course_known t_course_past t_firstImage_bar t_firstImage_count t_firstImage_waits t_firstImage_cut t_firstImage_struck t_firstImage_known t_firstImage_past t_secondImage_bar t_secondImage_count t_secondImage_waits t_secondImage_cut t_secondImage_struck t_secondImage_known t_secondImage_past t_ear_heard t_ear_laters t_ear_players t_keptImages t_traced m_trace m_typed m_noted m_text m_told m_s m_images m_kept m_notes) : ∃ (r : Int32) (z_t_ear_bars : Int32) (z_t_ear_playing : Nat → Int32) (z_t_ear_placesAhead : Nat → Int32) (z_t_ear_answers : Nat → Int32) (z_m_players : Nat → Int32) (z_m_answers : Nat → Int32), mi_X11_listen t_score_sections t_score_lengths t_score_times t_score_players t_course_cut t_ear_heard t_ear_laters t_ear_players t_ear_playing t_ear_placesAhead t_ear_answers = some (r, z_t_ear_bars, z_t_ear_playing, z_t_ear_placesAhead, z_t_ear_answers) ∧ mi_X12_listen m_noted m_told m_s m_notes m_players m_answers = some (r, z_m_players, z_m_answers) ∧ rl_I (k + 1) t_text_size t_text_bytes t_score_sections t_score_things t_score_noteTold t_score_toldSection t_score_toldBar t_score_lengths t_score_times t_score_players t_score_minutes t_course_bar t_course_count t_course_waits t_course_cut t_course_struck t_course_known t_course_past t_firstImage_bar t_firstImage_count t_firstImage_waits t_firstImage_cut t_firstImage_struck t_firstImage_known t_firstImage_past t_secondImage_bar t_secondImage_count t_secondImage_waits t_secondImage_cut t_secondImage_struck t_secondImage_known t_secondImage_past t_ear_heard t_ear_laters t_ear_players t_keptImages t_traced m_trace m_typed m_noted m_text m_told m_s m_images m_kept m_notes := by
  obtain ⟨P, hP, hS, hT, hC, hX, hH, hG, hTr⟩ := rl_mono hI
  have h8 := hP.1
  have hp8 := pow_le_256 h8
  obtain ⟨bb, w, c, g1, g2, g3, g4, g5, g6, g7, g8, g9⟩ := hC.1
  have i3 : m_s 3 = nI c := by rw [hC.2.2.2.2.1, g5]
  obtain ⟨h, A, B, a1, a2, hAB⟩ := rl_H_AB hH
  have h960 := sp_ah_960 hP c (Nat.le_refl (pc_N P))
  obtain ⟨pl, l1, l2⟩ := ev_layOut hP hS (c := c) (by omega) t_ear_playing
  obtain ⟨mp, m1, m2⟩ := ev_writes hP hT (c := c) (by omega) i3 m_players
  have ml := ev_length hP hT (c := c) (s := m_s) (by omega) i3
  obtain ⟨pa, q1, q2⟩ := ev_find_l15 hP hAB l2 jx_F 0 (upd t_ear_placesAhead 0 0) (Nat.zero_le _) (by show _ < 100000000; omega) (fun q hq => by
    have : q = 0 := by omega
    rw [this, pk_us]; rfl)
  have lf : mi_X3_findPlaces t_ear_heard t_ear_laters t_ear_players t_ear_playing t_ear_placesAhead t_score_sections t_score_lengths t_score_times t_score_players t_course_cut = some (nI (sp_ah P c (pc_N P)), pl, pa) := by
    unfold mi_X3_findPlaces
    rw [g5, jx_b2_eq l1, a1, ev_n0]
    exact q1
  have la : mi_X3_placesInAll (nI (sp_ah P c (pc_N P))) pa = some (nI (fb_ct (sp_so P c h A B) (sp_ah P c (pc_N P)))) := by
    unfold mi_X3_placesInAll
    rw [jx_b1_eq (ev_aheadOf h960 rfl (Nat.le_refl _)), q2 _ (Nat.le_refl _)]
  have lb := ev_placesBy_l18 hP hAB m2 (bars := sp_ah P c (pc_N P)) (p1 := -1) (R := -9) h960 (fun q e1 e2 e3 => by
    exfalso
    have e4 := congrArg Int32.toInt e3
    have e5 := fb_ct_le (sp_so P c h A B) q
    rw [nI_toInt (by omega), show (-1 : Int32).toInt = -1 from by decide] at e4
    omega) jx_F 0 (-9) (Nat.zero_le _) (by show _ < 100000000; omega) (Or.inl rfl)
  have lb2 : mi_X12_placesBy m_noted m_told m_s m_notes m_players (-1) = some (nI (fb_ct (sp_so P c h A B) (sp_ah P c (pc_N P))), mp) := by
    unfold mi_X12_placesBy
    rw [jx_b1_eq m1, jx_b1_eq ml, a2]
    rw [if_pos rfl] at lb
    exact lb
  have hcl := fb_ct_le (sp_so P c h A B) (sp_ah P c (pc_N P))
  obtain ⟨F, hF⟩ := ev_fuel (n := 1) (by omega)
  have hF2 : jx_F = F + 1 := by omega
  by_cases hM : fb_ct (sp_so P c h A B) (sp_ah P c (pc_N P)) = 0
  · have hx : mi_X11_listen t_score_sections t_score_lengths t_score_times t_score_players t_course_cut t_ear_heard t_ear_laters t_ear_players t_ear_playing t_ear_placesAhead t_ear_answers = some (-9, nI (sp_ah P c (pc_N P)), pl, pa, t_ear_answers) := by
      unfold mi_X11_listen
      rw [jx_b3_eq lf, jx_b1_eq la, hM, if_pos (show nI 0 = 0 by decide)]
    have hm : mi_X12_listen m_noted m_told m_s m_notes m_players m_answers = some (-9, mp, m_answers) := by
      unfold mi_X12_listen
      rw [jx_b2_eq lb2, jx_b1_eq ml, hF2, mi_X12_listen_l22, if_neg (by decide), hM, if_pos (by decide)]
    exact ⟨_, _, _, _, _, _, _, hx, hm, P, hP, hS, hT, hC, hX, hH, hG, hTr⟩
  · obtain ⟨g, a3, k1, k2, k3⟩ := ev_greatest (h := h) (A := A) (B := B) hP hS (L := 0) (c := c) (by omega) (by omega) q2 t_ear_answers
    obtain ⟨g', a4, j1, j2⟩ := ev_listen_go hP hAB m2 (L := 0) (e := fb_ct (sp_so P c h A B) (sp_ah P c (pc_N P)) + 1) (M := fb_ct (sp_so P c h A B) (sp_ah P c (pc_N P))) (x2 := -9) h960 (by omega) (by omega) (by omega) (by omega) F m_answers
    have hg := rl_mx_one k3 j2
    subst hg
    have hgM : g ≤ fb_ct (sp_so P c h A B) (sp_ah P c (pc_N P)) := by
      obtain ⟨-, v, v1, v2⟩ := k3
      have v2 : fb_ct (sp_cv P c h A B 0 v) (sp_ah P c (pc_N P)) = g := v2
      rw [← v2]
      refine fb_ct_sub (fun q _ hq => ?_)
      have hq : (sp_so P c h A B q && decide (sp_who P c (q + 0) = v)) = true := hq
      rw [Bool.and_eq_true] at hq
      exact hq.1
    rw [if_neg (by omega), if_neg (by omega)] at j1
    obtain ⟨R, a5, a6, r1, r2⟩ := ev_listen_best hP hS hAB m2 (c := c) (M := fb_ct (sp_so P c h A B) (sp_ah P c (pc_N P))) (by omega) (by omega) (by omega) q2 jx_F 1 F g (nI 0) a3 a4 (by omega) (by show 61 - 1 < 100000000; omega) (by have : jx_F = 100000000 := rfl; omega) (by omega)
    have hx : mi_X11_listen t_score_sections t_score_lengths t_score_times t_score_players t_course_cut t_ear_heard t_ear_laters t_ear_players t_ear_playing t_ear_placesAhead t_ear_answers = some (R, nI (sp_ah P c (pc_N P)), pl, pa, a5) := by
      have hbb : mi_X3_bestToListen (nI (sp_ah P c (pc_N P))) pa t_ear_answers t_score_sections t_score_lengths t_score_times t_score_players (nI c) = some (R, a5) := by
        unfold mi_X3_bestToListen
        have k1 : mi_X3_greatestAnswer (nI (sp_ah P c (pc_N P))) pa t_ear_answers t_score_sections t_score_lengths t_score_times t_score_players 0 (nI c) = some (nI g, a3) := k1
        rw [jx_b2_eq k1]
        exact r1
      unfold mi_X11_listen
      rw [jx_b3_eq lf, jx_b1_eq la, if_neg (nI_ne0 (by omega) (by omega)), g5, jx_b2_eq hbb]
    have hm : mi_X12_listen m_noted m_told m_s m_notes m_players m_answers = some (R, mp, a6) := by
      unfold mi_X12_listen
      rw [jx_b2_eq lb2, jx_b1_eq ml, hF2, a2, nI_1]
      exact j1.trans r2
    exact ⟨_, _, _, _, _, _, _, hx, hm, P, hP, hS, hT, hC, hX, hH, hG, hTr⟩
