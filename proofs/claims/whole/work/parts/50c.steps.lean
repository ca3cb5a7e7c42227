set_option maxRecDepth 20000 in
set_option maxHeartbeats 2000000 in
theorem st_bar (k : Nat) (t_keptImages : Int32) (t_traced : Int64) (t_text_size : Int32) (t_text_bytes : Nat → Int32) (t_score_sections : Int32) (t_score_things : Int32) (t_score_noteTold : Int32) (t_score_toldSection : Int32) (t_score_toldBar : Int32) (t_score_lengths : Nat → Int32) (t_score_times : Nat → Int32) (t_score_players : Nat → Int32) (t_score_minutes : Nat → Int32) (t_course_bar : Int32) (t_course_count : Int32) (t_course_waits : Int32) (t_course_cut : Int32) (t_course_struck : Int32) (t_course_known : Int32) (t_course_past : Nat → Int32) (t_firstImage_bar : Int32) (t_firstImage_count : Int32) (t_firstImage_waits : Int32) (t_firstImage_cut : Int32) (t_firstImage_struck : Int32) (t_firstImage_known : Int32) (t_firstImage_past : Nat → Int32) (t_secondImage_bar : Int32) (t_secondImage_count : Int32) (t_secondImage_waits : Int32) (t_secondImage_cut : Int32) (t_secondImage_struck : Int32) (t_secondImage_known : Int32) (t_secondImage_past : Nat → Int32) (t_ear_heard : Int32) (t_ear_laters : Nat → Int32) (t_ear_players : Nat → Int32) (m_trace : Int64) (m_typed : Int32) (m_noted : Int32) (m_text : Nat → Int32) (m_told : Nat → Int32) (m_s : Nat → Int32) (m_images : Nat → Int32) (m_kept : Nat → Int32) (m_notes : Nat → Int32) (p1 : Int32) (p2 : Int32) (hk : k < 64) (hI : rl_I k t_text_size t_text_bytes t_score_sections t_score_things t_score_noteTold t_score_toldSection t_score_toldBar t_score_lengths t_score_times t_score_players t_score_minutes t_course_bar t_course_count t_course_waits t_course_cut t_course_struck t_course_known t_course_past t_firstImage_bar t_firstImage_count t_firstImage_waits t_firstImage_cut t_firstImage_struck t_firstImage_known t_firstImage_past t_secondImage_bar t_secondImage_count t_secondImage_waits t_secondImage_cut t_secondImage_struck t_secondImage_known t_secondImage_past t_ear_heard t_ear_laters t_ear_players t_keptImages t_traced m_trace m_typed m_noted m_text m_told m_s m_images m_kept m_notes) : ∃ (r : Int32), mi_X11_bar t_score_sections t_score_lengths t_score_times t_score_players t_course_cut p1 p2 = some r ∧ mi_X12_bar m_told m_s p1 p2 = some r ∧ rl_I (k + 1) t_text_size t_text_bytes t_score_sections t_score_things t_score_noteTold t_score_toldSection t_score_toldBar t_score_lengths t_score_times t_score_players t_score_minutes t_course_bar t_course_count t_course_waits t_course_cut t_course_struck t_course_known t_course_past t_firstImage_bar t_firstImage_count t_firstImage_waits t_firstImage_cut t_firstImage_struck t_firstImage_known t_firstImage_past t_secondImage_bar t_secondImage_count t_secondImage_waits t_secondImage_cut t_secondImage_struck t_secondImage_known t_secondImage_past t_ear_heard t_ear_laters t_ear_players t_keptImages t_traced m_trace m_typed m_noted m_text m_told m_s m_images m_kept m_notes := by
  obtain ⟨P, hP, hS, hT, hC, hX, hH, hG, hTr⟩ := rl_mono hI
  have h8 := hP.1
  have hp8 := pow_le_256 h8
  obtain ⟨bb, w, c, g1, g2, g3, g4, g5, g6, g7, g8, g9⟩ := hC.1
  have i3 : m_s 3 = nI c := by rw [hC.2.2.2.2.1, g5]
  have hall : ∃ r, mi_X11_bar t_score_sections t_score_lengths t_score_times t_score_players t_course_cut p1 p2 = some r ∧ mi_X12_bar m_told m_s p1 p2 = some r := by
    unfold mi_X11_bar mi_X12_bar
    rcases ev_win p1 (A := 0) (B := 999) 0 999 rfl rfl (by decide) (by decide) with ⟨f1, f2⟩ | ⟨b, rfl, -, hb, f1, f2⟩
    · rw [jx_b1_eq f1, jx_b1_eq f2]; exact ⟨_, rfl, rfl⟩
    rw [jx_b1_eq f1, jx_b1_eq f2, if_neg ev_1ne0, if_neg ev_1ne0]
    rcases ev_win p2 (A := 0) (B := 3) 0 3 rfl rfl (by decide) (by decide) with ⟨f1, f2⟩ | ⟨d, rfl, -, hd, f1, f2⟩
    · rw [jx_b1_eq f1, jx_b1_eq f2]; exact ⟨_, rfl, rfl⟩
    rw [jx_b1_eq f1, jx_b1_eq f2, if_neg ev_1ne0, if_neg ev_1ne0, g5]
    rcases ev_sectionAt hP hS (c := c) (b := b) (by omega) (by omega) with ⟨q, hq, hin, e1⟩ | ⟨hle, e1⟩
    · have e2 := ev_msectionAt hP hT (c := c) (b := b) (R := nI q) (by omega) (by omega) i3 (fun r _ h => by rw [sp_in_one hin h]) (Or.inr ⟨q, hq, hin⟩)
      have hf := ev_first hP hT (c := c) (by omega) i3 hq
      rw [hin.1, if_neg (by decide)] at hf
      have hL := (hP.2.2.1 q hq).1
      have hL2 := (hP.2.2.1 q hq).2.1
      have hnz : jx_nz (nI (pc_L P q)) = true := by
        have : ¬ nI (pc_L P q) = 0 := nI_ne0 (by omega) (by omega)
        simp [jx_nz, this]
      rw [jx_b1_eq e1, jx_b1_eq e2, jx_b1_eq (ev_lengthOf hP hS hq), if_neg (nI_ne0 (by omega) (by omega)), jx_b1_eq (ev_firstOf hP hS (by omega) (by omega)), jx_b1_eq (ev_whoOf hP hS hq), if_neg (show ¬ nI q = (-9 : Int32) from fun z => by
        have h1 := congrArg Int32.toInt z
        rw [nI_toInt (by omega), show (-9 : Int32).toInt = -9 from by decide] at h1
        omega), jx_b1_eq hf, ev_a6, ev_a22, ev_cl (by omega), ev_cl (by omega), (hT.2.2.1 q hq).1, (hT.2.2.1 q hq).2.2, ev_g (ev_in (by omega) (by decide)), ev_g (ev_in (by omega) (by decide)), ev_g (ev_in (by omega) (by decide)), ev_g hnz, ev_g hnz]
      rcases (show d = 0 ∨ d = 1 ∨ d = 2 ∨ d = 3 by omega) with e | e | e | e <;> subst e <;> exact ⟨_, rfl, rfl⟩
    · have e2 := ev_msectionAt hP hT (c := c) (b := b) (R := -9) (by omega) (by omega) i3 (fun r hr h => by
        have h1 := sp_ah_mono (P := P) c (show r + 1 ≤ pc_N P from hr)
        have h2 := h.2.2
        omega) (Or.inl rfl)
      have hl : mi_X6_lengthOf t_score_sections t_score_lengths (-9) = some 0 := by
        unfold mi_X6_lengthOf mi_X6_hasSection; rw [if_pos (by decide)]; rfl
      rw [jx_b1_eq e1, jx_b1_eq e2, jx_b1_eq hl]
      exact ⟨_, rfl, rfl⟩
  obtain ⟨r, hx, hm⟩ := hall
  exact ⟨r, hx, hm, P, hP, hS, hT, hC, hX, hH, hG, hTr⟩
set_option maxRecDepth 20000 in
set_option maxHeartbeats 2000000 in
theorem st_cue (k : Nat) (t_keptImages : Int32) (t_traced : Int64) (t_text_size : Int32) (t_text_bytes : Nat → Int32) (t_score_sections : Int32) (t_score_things : Int32) (t_score_noteTold : Int32) (t_score_toldSection : Int32) (t_score_toldBar : Int32) (t_score_lengths : Nat → Int32) (t_score_times : Nat → Int32) (t_score_players : Nat → Int32) (t_score_minutes : Nat → Int32) (t_course_bar : Int32) (t_course_count : Int32) (t_course_waits : Int32) (t_course_cut : Int32) (t_course_struck : Int32) (t_course_known : Int32) (t_course_past : Nat → Int32) (t_firstImage_bar : Int32) (t_firstImage_count : Int32) (t_firstImage_waits : Int32) (t_firstImage_cut : Int32) (t_firstImage_struck : Int32) (t_firstImage_known : Int32) (t_firstImage_past : Nat → Int32) (t_secondImage_bar : Int32) (t_secondImage_count : Int32) (t_secondImage_waits : Int32) (t_secondImage_cut : Int32) (t_secondImage_struck : Int32) (t_secondImage_known : Int32) (t_secondImage_past : Nat → Int32) (t_ear_heard : Int32) (t_ear_laters : Nat → Int32) (t_ear_players : Nat → Int32) (m_trace : Int64) (m_typed : Int32) (m_noted : Int32) (m_text : Nat → Int32) (m_told : Nat → Int32) (m_s : Nat → Int32) (m_images : Nat → Int32) (m_kept : Nat → Int32) (m_notes : Nat → Int32) (hk : k < 64) (hI : rl_I k t_text_size t_text_bytes t_score_sections t_score_things t_score_noteTold t_score_toldSection t_score_toldBar t_score_lengths t_score_times t_score_players t_score_minutes t_course_bar t_course_count t_course_waits t_course_cut t_course_struck t_course_known t_course_past t_firstImage_bar t_firstImage_count t_firstImage_waits t_firstImage_cut t_firstImage_struck t_firstImage_known t_firstImage_past t_secondImage_bar t_secondImage_count t_secondImage_waits t_secondImage_cut t_secondImage_struck t_secondImage_known t_secondImage_past t_ear_heard t_ear_laters t_ear_players t_keptImages t_traced m_trace m_typed m_noted m_text m_told m_s m_images m_kept m_notes) : ∃ (r : Int32) (z_t_course_count : Int32) (z_t_course_known : Int32) (z_t_course_past : Nat → Int32) (z_m_s : Nat → Int32), mi_X11_cue t_score_sections t_score_lengths t_score_times t_score_players t_course_bar t_course_count t_course_waits t_course_cut t_course_struck t_course_known t_course_past = some (r, z_t_course_count, z_t_course_known, z_t_course_past) ∧ mi_X12_cue m_told m_s = some (r, z_m_s) ∧ rl_I (k + 1) t_text_size t_text_bytes t_score_sections t_score_things t_score_noteTold t_score_toldSection t_score_toldBar t_score_lengths t_score_times t_score_players t_score_minutes t_course_bar z_t_course_count t_course_waits t_course_cut t_course_struck z_t_course_known z_t_course_past t_firstImage_bar t_firstImage_count t_firstImage_waits t_firstImage_cut t_firstImage_struck t_firstImage_known t_firstImage_past t_secondImage_bar t_secondImage_count t_secondImage_waits t_secondImage_cut t_secondImage_struck t_secondImage_known t_secondImage_past t_ear_heard t_ear_laters t_ear_players t_keptImages t_traced m_trace m_typed m_noted m_text m_told z_m_s m_images m_kept m_notes := by
  obtain ⟨P, hP, hS, hT, hC, hX, hH, hG, hTr⟩ := hI
  obtain ⟨kw, p', s', e1, e2, hC'⟩ := ev_keep hC
  have hC1 := rl_C_mono hC
  have hG := rl_G_mono hG
  have h8 := hP.1
  have hp8 := pow_le_256 h8
  obtain ⟨b, w, c, g1, g2, g3, g4, g5, g6, g7, g8, g9⟩ := hC.1
  have i0 : m_s 0 = nI b := by rw [hC.2.1, g1]
  have i3 : m_s 3 = nI c := by rw [hC.2.2.2.2.1, g5]
  have hbg : ∀ q, q < pc_N P → sp_bg P c b q → sp_in P c b q := fun q hq h => by
    have h1 : sp_ah P c (q + 1) = sp_ah P c q + (if c.testBit q then 0 else pc_L P q * pc_T P q) := rfl
    have h2 := (sp_mul hP hq).2.1
    rw [h.1, if_neg (by decide)] at h1
    exact ⟨h.1, by rw [h.2]; omega, by rw [h1, h.2]; omega⟩
  have hnone : (∀ q, q < pc_N P → ¬ sp_bg P c b q) → mi_X6_sectionBegunBy t_score_sections t_score_lengths t_score_times t_course_bar t_course_cut = some (-9) → ∃ (r : Int32) (z_t_course_count : Int32) (z_t_course_known : Int32) (z_t_course_past : Nat → Int32) (z_m_s : Nat → Int32), mi_X11_cue t_score_sections t_score_lengths t_score_times t_score_players t_course_bar t_course_count t_course_waits t_course_cut t_course_struck t_course_known t_course_past = some (r, z_t_course_count, z_t_course_known, z_t_course_past) ∧ mi_X12_cue m_told m_s = some (r, z_m_s) ∧ rl_C (pc_N P) (k + 1) t_course_bar z_t_course_count t_course_waits t_course_cut t_course_struck z_t_course_known z_t_course_past z_m_s := fun hno hbb => by
    have hx : mi_X11_cue t_score_sections t_score_lengths t_score_times t_score_players t_course_bar t_course_count t_course_waits t_course_cut t_course_struck t_course_known t_course_past = some (-1000000, t_course_count, t_course_known, t_course_past) := by
      unfold mi_X11_cue
      rw [jx_b1_eq hbb, jx_b1_eq (show mi_X6_hasSection t_score_sections (-9) = some 0 from by unfold mi_X6_hasSection; rw [if_pos (by decide)]), if_pos rfl]
    have hm : mi_X12_cue m_told m_s = some (-1000000, m_s) := by
      unfold mi_X12_cue
      have h := ev_cue_l5 hP hT (c := c) (b := b) (R := -9) (by omega) g2 i3 i0 (fun q hq h => absurd h (hno q hq)) jx_F 0 (-9) (Nat.zero_le _) (by show pc_N P - 0 < 100000000; omega) (Or.inl rfl)
      rw [if_pos rfl] at h
      exact h
    exact ⟨_, _, _, _, _, hx, hm, hC1⟩
  have hmain : ∃ (r : Int32) (z_t_course_count : Int32) (z_t_course_known : Int32) (z_t_course_past : Nat → Int32) (z_m_s : Nat → Int32), mi_X11_cue t_score_sections t_score_lengths t_score_times t_score_players t_course_bar t_course_count t_course_waits t_course_cut t_course_struck t_course_known t_course_past = some (r, z_t_course_count, z_t_course_known, z_t_course_past) ∧ mi_X12_cue m_told m_s = some (r, z_m_s) ∧ rl_C (pc_N P) (k + 1) t_course_bar z_t_course_count t_course_waits t_course_cut t_course_struck z_t_course_known z_t_course_past z_m_s := by
    rcases ev_sectionAt hP hS (c := c) (b := b) (by omega) (by omega) with ⟨q, hq, hin, a1⟩ | ⟨hle, a1⟩
    · have hs : mi_X6_hasSection t_score_sections (nI q) = some 1 := by rw [hS.1]; exact ev_hasSection h8 hq
      have hf := ev_firstOf hP hS (c := c) (s := q) (by omega) (by omega)
      have h960 := sp_ah_960 hP c (q := q) (by omega)
      by_cases hfe : sp_ah P c q = b
      · have hbb : mi_X6_sectionBegunBy t_score_sections t_score_lengths t_score_times t_course_bar t_course_cut = some (nI q) := by
          unfold mi_X6_sectionBegunBy
          rw [g1, g5, jx_b1_eq a1, jx_b1_eq hs, if_neg ev_1ne0, jx_b1_eq hf, hfe, if_pos rfl]
        have hqq : sp_q P c (pc_W P q) q := ⟨hq, hin.1, rfl⟩
        have hW := (hP.2.2.1 q hq).2.2.2.2
        obtain ⟨R, r1, r2⟩ := ev_near hP hS (c := c) (wv := pc_W P q) (cnt := t_course_count) (by omega) hW (by omega) (by omega) ⟨q, hqq⟩
        have hx : mi_X11_cue t_score_sections t_score_lengths t_score_times t_score_players t_course_bar t_course_count t_course_waits t_course_cut t_course_struck t_course_known t_course_past = some (nI R, nI R, kw, p') := by
          unfold mi_X11_cue
          rw [← g5] at r1
          rw [jx_b1_eq hbb, jx_b1_eq hs, if_neg ev_1ne0, jx_b2_eq e1, jx_b1_eq (ev_whoOf hP hS hq), jx_b1_eq r1]
        obtain ⟨-, j0, j1, j2, j3, j4, -⟩ := id hC'
        obtain ⟨R', r3, r4⟩ := ev_cue_l70 hP hT (s := s') (c := c) (wv := pc_W P q) (s0 := q) (cnt := t_course_count) (by omega) (by rw [j3, g5]) j1 (by omega) (by omega) hqq (pc_N P) jx_F (sp_ah P c q) (Nat.le_refl _) (by show pc_N P < 100000000; omega) ⟨q, hqq, rfl⟩ (fun r hr h => by
          rcases h with h | h
          · have := hr.1; omega
          · rw [h]; exact sp_lex_rf _ _)
        have hRR := sp_best_one r2 r4
        subst hRR
        have hm : mi_X12_cue m_told m_s = some (nI R, upd s' 1 (nI R)) := by
          unfold mi_X12_cue
          have h := ev_cue_l5 hP hT (c := c) (b := b) (R := nI q) (by omega) g2 i3 i0 (fun r hr h => by rw [sp_in_one hin (hbg r hr h)]) jx_F 0 (-9) (Nat.zero_le _) (by show pc_N P - 0 < 100000000; omega) (Or.inr ⟨q, Nat.zero_le _, hq, hin.1, hfe⟩)
          rw [if_neg (ev_nn9 (by omega)), jx_b1_eq e2, j0, g1, ← hfe, show nI (pc_N P) - (1 : Int32) = sp_dn (pc_N P) from by
            obtain ⟨N', hN'⟩ : ∃ N', pc_N P = N' + 1 := ⟨pc_N P - 1, by omega⟩
            rw [hN']; exact nI_pred N'] at h
          exact h.trans r3
        have hR960 : R ≤ 960 := by obtain ⟨⟨q', q1, rfl⟩, -⟩ := r2; exact sp_ah_960 hP c (Nat.le_of_lt q1.1)
        have hRt : (nI R).toInt = (R : Int) := nI_toInt (by omega)
        refine ⟨_, _, _, _, _, hx, hm, rl_C_set (rl_C_mono hC') ⟨b, w, c, g1, g2, g3, g4, g5, g6, g7, by rw [hRt]; omega, by rw [hRt]; omega⟩ ?_ pk_us ?_ ?_ ?_ (fun i hi => pk_un (by omega))⟩
        · rw [pk_un (by omega)]; exact j0
        · rw [pk_un (by omega)]; exact j2
        · rw [pk_un (by omega)]; exact j3
        · rw [pk_un (by omega)]; exact j4
      · refine hnone (fun r hr h => ?_) ?_
        · have := sp_in_one hin (hbg r hr h)
          exact hfe (by rw [this]; exact h.2)
        · unfold mi_X6_sectionBegunBy
          rw [g1, g5, jx_b1_eq a1, jx_b1_eq hs, if_neg ev_1ne0, jx_b1_eq hf, if_neg (fun z => hfe ((nI_eq (by omega) (by omega)).mp z))]
    · refine hnone (fun r hr h => ?_) ?_
      · have h1 := hbg r hr h
        have h2 := sp_ah_mono (P := P) c (show r + 1 ≤ pc_N P from hr)
        have h3 := h1.2.2
        omega
      · unfold mi_X6_sectionBegunBy
        rw [g1, g5, jx_b1_eq a1, jx_b1_eq (show mi_X6_hasSection t_score_sections (-9) = some 0 from by unfold mi_X6_hasSection; rw [if_pos (by decide)]), if_pos rfl]
  obtain ⟨r, a1, a2, a3, a4, hx, hm, hCC⟩ := hmain
  exact ⟨r, a1, a2, a3, a4, hx, hm, P, hP, hS, hT, hCC, hX, hH, hG, hTr⟩
set_option maxRecDepth 20000 in
set_option maxHeartbeats 2000000 in
theorem st_now (k : Nat) (t_keptImages : Int32) (t_traced : Int64) (t_text_size : Int32) (t_text_bytes : Nat → Int32) (t_score_sections : Int32) (t_score_things : Int32) (t_score_noteTold : Int32) (t_score_toldSection : Int32) (t_score_toldBar : Int32) (t_score_lengths : Nat → Int32) (t_score_times : Nat → Int32) (t_score_players : Nat → Int32) (t_score_minutes : Nat → Int32) (t_course_bar : Int32) (t_course_count : Int32) (t_course_waits : Int32) (t_course_cut : Int32) (t_course_struck : Int32) (t_course_known : Int32) (t_course_past : Nat → Int32) (t_firstImage_bar : Int32) (t_firstImage_count : Int32) (t_firstImage_waits : Int32) (t_firstImage_cut : Int32) (t_firstImage_struck : Int32) (t_firstImage_known : Int32) (t_firstImage_past : Nat → Int32) (t_secondImage_bar : Int32) (t_secondImage_count : Int32) (t_secondImage_waits : Int32) (t_secondImage_cut : Int32) (t_secondImage_struck : Int32) (t_secondImage_known : Int32) (t_secondImage_past : Nat → Int32) (t_ear_heard : Int32) (t_ear_laters : Nat → Int32) (t_ear_players : Nat → Int32) (m_trace : Int64) (m_typed : Int32) (m_noted : Int32) (m_text : Nat → Int32) (m_told : Nat → Int32) (m_s : Nat → Int32) (m_images : Nat → Int32) (m_kept : Nat → Int32) (m_notes : Nat → Int32) (p1 : Int32) (hk : k < 64) (hI : rl_I k t_text_size t_text_bytes t_score_sections t_score_things t_score_noteTold t_score_toldSection t_score_toldBar t_score_lengths t_score_times t_score_players t_score_minutes t_course_bar t_course_count t_course_waits t_course_cut t_course_struck t_course_known t_course_past t_firstImage_bar t_firstImage_count t_firstImage_waits t_firstImage_cut t_firstImage_struck t_firstImage_known t_firstImage_past t_secondImage_bar t_secondImage_count t_secondImage_waits t_secondImage_cut t_secondImage_struck t_secondImage_known t_secondImage_past t_ear_heard t_ear_laters t_ear_players t_keptImages t_traced m_trace m_typed m_noted m_text m_told m_s m_images m_kept m_notes) : ∃ (r : Int32), mi_X11_now t_score_sections t_score_noteTold t_score_toldSection t_score_toldBar t_score_lengths t_score_times t_course_bar t_course_count t_course_waits t_course_cut t_course_struck p1 = some r ∧ mi_X12_now m_told m_s p1 = some r ∧ rl_I (k + 1) t_text_size t_text_bytes t_score_sections t_score_things t_score_noteTold t_score_toldSection t_score_toldBar t_score_lengths t_score_times t_score_players t_score_minutes t_course_bar t_course_count t_course_waits t_course_cut t_course_struck t_course_known t_course_past t_firstImage_bar t_firstImage_count t_firstImage_waits t_firstImage_cut t_firstImage_struck t_firstImage_known t_firstImage_past t_secondImage_bar t_secondImage_count t_secondImage_waits t_secondImage_cut t_secondImage_struck t_secondImage_known t_secondImage_past t_ear_heard t_ear_laters t_ear_players t_keptImages t_traced m_trace m_typed m_noted m_text m_told m_s m_images m_kept m_notes := by
  obtain ⟨P, hP, hS, hT, hC, hX, hH, hG, hTr⟩ := rl_mono hI
  have h8 := hP.1
  have hp8 := pow_le_256 h8
  obtain ⟨b, w, c, g1, g2, g3, g4, g5, g6, g7, g8, g9⟩ := hC.1
  have i0 : m_s 0 = t_course_bar := hC.2.1
  have i1 : m_s 1 = t_course_count := hC.2.2.1
  have i2 : m_s 2 = t_course_waits := hC.2.2.2.1
  have i3 : m_s 3 = t_course_cut := hC.2.2.2.2.1
  have i4 : m_s 4 = t_course_struck := hC.2.2.2.2.2.1
  have lb := ev_barsWith hP hS (c := c) (by omega)
  rw [← g5] at lb
  have lm := ev_length hP hT (c := c) (s := m_s) (by omega) (by rw [i3, g5])
  have k4 : mi_X11_oneIf t_course_struck = some t_course_struck := by rcases g7 with h | h <;> rw [h] <;> rfl
  have hall : ∃ r, mi_X11_now t_score_sections t_score_noteTold t_score_toldSection t_score_toldBar t_score_lengths t_score_times t_course_bar t_course_count t_course_waits t_course_cut t_course_struck p1 = some r ∧ mi_X12_now m_told m_s p1 = some r := by
    rcases Nat.eq_zero_or_pos (pc_N P) with hz | hz
    · have hm0 : mi_X12_now m_told m_s p1 = mi_X12_now_b14 m_told m_s p1 1 := by
        unfold mi_X12_now; rw [ev_n0, hT.1, hz, if_pos (show nI 0 = (0 : Int32) from rfl)]
      have hs0 : t_score_sections = 0 := by rw [hS.1, hz]; rfl
      rw [hm0]
      unfold mi_X11_now mi_X12_now_b14
      by_cases h0 : p1 = 0
      · rw [if_pos h0, if_pos h0]; subst h0
        rw [ev_g (show jx_in 0 56 = true from by decide), ev_n0, i0]; exact ⟨_, rfl, rfl⟩
      rw [if_neg h0, if_neg h0]
      by_cases h1 : p1 = 1
      · rw [if_pos h1, if_pos h1]; subst h1
        rw [ev_g (show jx_in 1 56 = true from by decide), ev_n1, i1]; exact ⟨_, rfl, rfl⟩
      rw [if_neg h1, if_neg h1]
      by_cases h2 : p1 = 2
      · rw [if_pos h2, if_pos h2]; subst h2
        rw [ev_g (show jx_in 2 56 = true from by decide), ev_n2, i2]; exact ⟨_, rfl, rfl⟩
      rw [if_neg h2, if_neg h2]
      by_cases h3 : p1 = 3
      · rw [if_pos h3, if_pos h3]; subst h3
        rw [ev_g (show jx_in 3 56 = true from by decide), ev_n3, i3]; exact ⟨_, rfl, rfl⟩
      rw [if_neg h3, if_neg h3]
      by_cases h4 : p1 = 4
      · rw [if_pos h4, if_pos h4, jx_b1_eq k4]; subst h4
        rw [ev_g (show jx_in 4 56 = true from by decide), ev_n4, i4]; exact ⟨_, rfl, rfl⟩
      rw [if_neg h4, if_neg h4]
      by_cases h5 : p1 = 5
      · rw [if_pos h5, if_pos h5, jx_b1_eq lb, jx_b1_eq lm]; exact ⟨_, rfl, rfl⟩
      rw [if_neg h5, if_neg h5]
      rw [if_pos hs0, if_pos hs0, if_pos hs0, if_neg ev_1ne0, if_neg ev_1ne0, if_neg ev_1ne0]
      by_cases h6 : p1 = 6
      · rw [if_pos h6]; (try rw [if_pos h6]); exact ⟨_, rfl, rfl⟩
      rw [if_neg h6]; (try rw [if_neg h6])
      by_cases h7 : p1 = 7
      · rw [if_pos h7]; (try rw [if_pos h7]); exact ⟨_, rfl, rfl⟩
      rw [if_neg h7]; (try rw [if_neg h7])
      by_cases h8 : p1 = 8
      · rw [if_pos h8]; (try rw [if_pos h8]); exact ⟨_, rfl, rfl⟩
      rw [if_neg h8]; (try rw [if_neg h8]); exact ⟨_, rfl, rfl⟩
    · have hne : ¬ nI (pc_N P) = 0 := nI_ne0 hz (by omega)
      have hm0 : mi_X12_now m_told m_s p1 = mi_X12_now_b14 m_told m_s p1 0 := by
        unfold mi_X12_now; rw [ev_n0, hT.1, if_neg hne]
      have hs0 : ¬ t_score_sections = 0 := by rw [hS.1]; exact hne
      have ln := ev_noteBarWith hP hS hz (c := c) (by omega)
      have mn := ev_noteBar hP hT hz (c := c) (by omega)
      have la := ev_allCuttable hP hS (c := c) (b := b) (by omega) g2
      have ma := ev_allThatMay hP hT (c := c) (b := b) (s := m_s) (by omega) g2 (by rw [i3, g5]) (by rw [i0, g1])
      have hlt := sp_all_lt P c b (pc_N P)
      have hor : c ||| sp_all P c b (pc_N P) < 2 ^ pc_N P := Nat.or_lt_two_pow g6 hlt
      have ln2 := ev_noteBarWith hP hS hz (c := c ||| sp_all P c b (pc_N P)) (by omega)
      have mn2 := ev_noteBar hP hT hz (c := c ||| sp_all P c b (pc_N P)) (by omega)
      have lc : mi_X11_cuttableNow t_score_sections t_score_noteTold t_score_toldSection t_score_lengths t_score_times t_course_bar t_course_cut = some (nI (sp_all P c b (pc_N P))) := by
        unfold mi_X11_cuttableNow
        rw [g1, g5, jx_b1_eq la]
      rw [← g5] at ln mn
      rw [hm0]
      unfold mi_X11_now mi_X12_now_b14
      by_cases h0 : p1 = 0
      · rw [if_pos h0, if_pos h0]; subst h0
        rw [ev_g (show jx_in 0 56 = true from by decide), ev_n0, i0]; exact ⟨_, rfl, rfl⟩
      rw [if_neg h0, if_neg h0]
      by_cases h1 : p1 = 1
      · rw [if_pos h1, if_pos h1]; subst h1
        rw [ev_g (show jx_in 1 56 = true from by decide), ev_n1, i1]; exact ⟨_, rfl, rfl⟩
      rw [if_neg h1, if_neg h1]
      by_cases h2 : p1 = 2
      · rw [if_pos h2, if_pos h2]; subst h2
        rw [ev_g (show jx_in 2 56 = true from by decide), ev_n2, i2]; exact ⟨_, rfl, rfl⟩
      rw [if_neg h2, if_neg h2]
      by_cases h3 : p1 = 3
      · rw [if_pos h3, if_pos h3]; subst h3
        rw [ev_g (show jx_in 3 56 = true from by decide), ev_n3, i3]; exact ⟨_, rfl, rfl⟩
      rw [if_neg h3, if_neg h3]
      by_cases h4 : p1 = 4
      · rw [if_pos h4, if_pos h4, jx_b1_eq k4]; subst h4
        rw [ev_g (show jx_in 4 56 = true from by decide), ev_n4, i4]; exact ⟨_, rfl, rfl⟩
      rw [if_neg h4, if_neg h4]
      by_cases h5 : p1 = 5
      · rw [if_pos h5, if_pos h5, jx_b1_eq lb, jx_b1_eq lm]; exact ⟨_, rfl, rfl⟩
      rw [if_neg h5, if_neg h5]
      rw [if_neg hs0, if_neg hs0, if_neg hs0, if_pos (rfl : (0 : Int32) = 0), if_pos (rfl : (0 : Int32) = 0), if_pos (rfl : (0 : Int32) = 0), jx_b1_eq ln, jx_b1_eq ln, jx_b1_eq lc, jx_b1_eq ma, ev_n3, ev_n0, i3, i0, jx_b1_eq mn, jx_b1_eq mn, show t_course_cut ||| nI (sp_all P c b (pc_N P)) = nI (c ||| sp_all P c b (pc_N P)) from by rw [g5, fa_or], jx_b1_eq ln2, jx_b1_eq mn2]
      by_cases h6 : p1 = 6
      · rw [if_pos h6]; (try rw [if_pos h6]); exact ⟨_, rfl, rfl⟩
      rw [if_neg h6]; (try rw [if_neg h6])
      by_cases h7 : p1 = 7
      · rw [if_pos h7]; (try rw [if_pos h7]); exact ⟨_, rfl, rfl⟩
      rw [if_neg h7]; (try rw [if_neg h7])
      by_cases h8 : p1 = 8
      · rw [if_pos h8]; (try rw [if_pos h8]); exact ⟨_, rfl, rfl⟩
      rw [if_neg h8]; (try rw [if_neg h8]); exact ⟨_, rfl, rfl⟩
  obtain ⟨r, hx, hm⟩ := hall
  exact ⟨r, hx, hm, P, hP, hS, hT, hC, hX, hH, hG, hTr⟩
set_option maxRecDepth 20000 in
set_option maxHeartbeats 2000000 in
theorem st_mark (k : Nat) (t_keptImages : Int32) (t_traced : Int64) (t_text_size : Int32) (t_text_bytes : Nat → Int32) (t_score_sections : Int32) (t_score_things : Int32) (t_score_noteTold : Int32) (t_score_toldSection : Int32) (t_score_toldBar : Int32) (t_score_lengths : Nat → Int32) (t_score_times : Nat → Int32) (t_score_players : Nat → Int32) (t_score_minutes : Nat → Int32) (t_course_bar : Int32) (t_course_count : Int32) (t_course_waits : Int32) (t_course_cut : Int32) (t_course_struck : Int32) (t_course_known : Int32) (t_course_past : Nat → Int32) (t_firstImage_bar : Int32) (t_firstImage_count : Int32) (t_firstImage_waits : Int32) (t_firstImage_cut : Int32) (t_firstImage_struck : Int32) (t_firstImage_known : Int32) (t_firstImage_past : Nat → Int32) (t_secondImage_bar : Int32) (t_secondImage_count : Int32) (t_secondImage_waits : Int32) (t_secondImage_cut : Int32) (t_secondImage_struck : Int32) (t_secondImage_known : Int32) (t_secondImage_past : Nat → Int32) (t_ear_heard : Int32) (t_ear_laters : Nat → Int32) (t_ear_players : Nat → Int32) (m_trace : Int64) (m_typed : Int32) (m_noted : Int32) (m_text : Nat → Int32) (m_told : Nat → Int32) (m_s : Nat → Int32) (m_images : Nat → Int32) (m_kept : Nat → Int32) (m_notes : Nat → Int32) (p1 : Int32) (p2 : Int32) (hk : k < 64) (hI : rl_I k t_text_size t_text_bytes t_score_sections t_score_things t_score_noteTold t_score_toldSection t_score_toldBar t_score_lengths t_score_times t_score_players t_score_minutes t_course_bar t_course_count t_course_waits t_course_cut t_course_struck t_course_known t_course_past t_firstImage_bar t_firstImage_count t_firstImage_waits t_firstImage_cut t_firstImage_struck t_firstImage_known t_firstImage_past t_secondImage_bar t_secondImage_count t_secondImage_waits t_secondImage_cut t_secondImage_struck t_secondImage_known t_secondImage_past t_ear_heard t_ear_laters t_ear_players t_keptImages t_traced m_trace m_typed m_noted m_text m_told m_s m_images m_kept m_notes) : ∃ (r : Int32) (z_t_traced : Int64) (z_m_trace : Int64), mi_X11_mark t_traced t_score_sections t_score_lengths t_score_times t_score_players t_course_bar p1 p2 = some (r, z_t_traced) ∧ mi_X12_mark m_trace m_told m_s p1 p2 = some (r, z_m_trace) ∧ rl_I (k + 1) t_text_size t_text_bytes t_score_sections t_score_things t_score_noteTold t_score_toldSection t_score_toldBar t_score_lengths t_score_times t_score_players t_score_minutes t_course_bar t_course_count t_course_waits t_course_cut t_course_struck t_course_known t_course_past t_firstImage_bar t_firstImage_count t_firstImage_waits t_firstImage_cut t_firstImage_struck t_firstImage_known t_firstImage_past t_secondImage_bar t_secondImage_count t_secondImage_waits t_secondImage_cut t_secondImage_struck t_secondImage_known t_secondImage_past t_ear_heard t_ear_laters t_ear_players t_keptImages z_t_traced z_m_trace m_typed m_noted m_text m_told m_s m_images m_kept m_notes := by
  obtain ⟨P, hP, hS, hT, hC, hX, hH, hG, hTr⟩ := rl_mono hI
  subst hTr
  have h8 := hP.1
  rcases ev_win p1 (A := 0) (B := 5) 0 5 rfl rfl (by decide) (by decide) with ⟨f1, f2⟩ | ⟨kd, rfl, -, hkd, f1, f2⟩
  · have hx : mi_X11_mark m_trace t_score_sections t_score_lengths t_score_times t_score_players t_course_bar p1 p2 = some (-1000000, m_trace) := by
      unfold mi_X11_mark; rw [jx_b1_eq f1, if_pos rfl]
    have hm : mi_X12_mark m_trace m_told m_s p1 p2 = some (-1000000, m_trace) := by
      unfold mi_X12_mark; rw [jx_b1_eq f2, if_pos rfl]
    exact ⟨_, _, _, hx, hm, P, hP, hS, hT, hC, hX, hH, hG, rfl⟩
  rcases ev_sec (n := pc_N P) (by omega) p2 with ⟨e1, e2⟩ | ⟨q, hq, rfl, e1, e2⟩
  · have hx : mi_X11_mark m_trace t_score_sections t_score_lengths t_score_times t_score_players t_course_bar (nI kd) p2 = some (-1000000, m_trace) := by
      unfold mi_X11_mark; rw [jx_b1_eq f1, if_neg ev_1ne0, hS.1, jx_b1_eq e1, if_pos rfl]
    have hm : mi_X12_mark m_trace m_told m_s (nI kd) p2 = some (-1000000, m_trace) := by
      unfold mi_X12_mark; rw [jx_b1_eq f2, if_neg ev_1ne0, jx_b1_eq (ev_isSec hT e2 (Or.inl rfl)), if_pos rfl]
    exact ⟨_, _, _, hx, hm, P, hP, hS, hT, hC, hX, hH, hG, rfl⟩
  have e1' : mi_X6_hasSection t_score_sections (nI q) = some 1 := by rw [hS.1]; exact e1
  have l1 := ev_lengthOf hP hS hq
  have l2 := ev_timesOf hP hS hq
  have l3 := ev_whoOf hP hS hq
  have v5 : ∀ t : Int64, mi_X5_valueOf t t_score_sections t_score_lengths (nI q) = some (nI (pc_L P q), t + 1) := fun t => by
    unfold mi_X5_valueOf; rw [jx_b1_eq l1]
  have v9 : ∀ t : Int64, mi_X9_valueOf t t_score_sections t_score_lengths t_score_times (nI q) = some (nI (pc_L P q) + nI (pc_T P q), t + 11) := fun t => by
    unfold mi_X9_valueOf; rw [jx_b2_eq (v5 _), jx_b1_eq l2, Int64.add_assoc]; rfl
  have v0 : ∀ t : Int64, mi_X0_valueOf t t_score_sections t_score_lengths t_score_players (nI q) = some (nI (pc_L P q) - nI (pc_W P q), t + 101) := fun t => by
    unfold mi_X0_valueOf; rw [jx_b2_eq (v5 _), jx_b1_eq l3, Int64.add_assoc]; rfl
  have v97 : ∀ t : Int64, mi_X9_valueOf_X7 t t_score_sections t_score_lengths t_score_times (nI q) = some (nI (pc_L P q) + nI (pc_T P q), t + 11) := v9
  have v010 : ∀ t : Int64, mi_X0_valueOf_X10 t t_score_sections t_score_lengths t_score_players (nI q) = some (nI (pc_L P q) - nI (pc_W P q), t + 101) := v0
  have v7 : ∀ t : Int64, mi_X7_valueOf t t_score_sections t_score_lengths t_score_times (nI q) = some ((nI (pc_L P q) + nI (pc_T P q)) * 2, t + 1011) := fun t => by
    unfold mi_X7_valueOf; rw [jx_b2_eq (v97 _), Int64.add_assoc]; rfl
  have v10 : ∀ t : Int64, mi_X10_valueOf t t_score_sections t_score_lengths t_score_players (nI q) = some ((nI (pc_L P q) - nI (pc_W P q)) + nI q, t + 10101) := fun t => by
    unfold mi_X10_valueOf; rw [jx_b2_eq (v010 _), Int64.add_assoc]; rfl
  have v1 : ∀ t : Int64, mi_X1_valueOf t t_score_sections t_score_lengths t_course_bar (nI q) = some (nI (pc_L P q) + t_course_bar, t + 100001) := fun t => by
    unfold mi_X1_valueOf; rw [jx_b2_eq (v5 _), Int64.add_assoc]; rfl
  have hb : ∀ (x : Int32) (a b t : Int64), mi_X12_mark_b80 m_told m_s x (nI q) a b t = (if x = 0 then some (nI (pc_L P q), a + b) else if x = 1 then some (nI (pc_L P q) + nI (pc_T P q), a + b) else if x = 2 then some (nI (pc_L P q) - nI (pc_W P q), a + b) else if x = 3 then some (2 * (nI (pc_L P q) + nI (pc_T P q)), a + b) else if x = 4 then some ((nI (pc_L P q) - nI (pc_W P q)) + nI q, a + b) else some (nI (pc_L P q) + t_course_bar, a + b)) := by
    intro x a b t
    unfold mi_X12_mark_b80
    rw [ev_a6, ev_a14, ev_a22, ev_g (ev_in (by omega) (by decide)), ev_g (ev_in (by omega) (by decide)), ev_g (ev_in (by omega) (by decide)), ev_g (ev_in (by omega) (by decide)), ev_g (ev_in (by omega) (by decide)), ev_g (ev_in (by omega) (by decide)), ev_cl (by omega), ev_cl (by omega), ev_cl (by omega), (hT.2.2.1 q hq).1, (hT.2.2.1 q hq).2.1, (hT.2.2.1 q hq).2.2, ev_n0, hC.2.1]
  have hall : ∃ r t, mi_X11_mark m_trace t_score_sections t_score_lengths t_score_times t_score_players t_course_bar (nI kd) (nI q) = some (r, t) ∧ mi_X12_mark m_trace m_told m_s (nI kd) (nI q) = some (r, t) := by
    unfold mi_X11_mark mi_X12_mark
    rw [jx_b1_eq f1, if_neg ev_1ne0, jx_b1_eq e1', if_neg ev_1ne0, jx_b2_eq (v5 _), jx_b2_eq (v9 _), jx_b2_eq (v0 _), jx_b2_eq (v7 _), jx_b2_eq (v10 _), jx_b2_eq (v1 _), jx_b1_eq f2, if_neg ev_1ne0, jx_b1_eq (ev_isSec hT e2 (Or.inr rfl)), if_neg ev_1ne0]
    simp only [hb]
    rcases (show kd = 0 ∨ kd = 1 ∨ kd = 2 ∨ kd = 3 ∨ kd = 4 ∨ kd = 5 by omega) with e | e | e | e | e | e <;> subst e
    · exact ⟨_, _, rfl, rfl⟩
    · exact ⟨_, _, rfl, rfl⟩
    · exact ⟨_, _, rfl, rfl⟩
    · refine ⟨_, _, rfl, ?_⟩
      rw [if_neg (by decide), if_neg (by decide), if_neg (by decide), if_pos (by decide), if_neg (by decide), if_neg (by decide), if_neg (by decide), if_pos (by decide), Int32.mul_comm]
    · exact ⟨_, _, rfl, rfl⟩
    · exact ⟨_, _, rfl, rfl⟩
  obtain ⟨r, t, hx, hm⟩ := hall
  exact ⟨_, _, _, hx, hm, P, hP, hS, hT, hC, hX, hH, hG, rfl⟩
set_option maxRecDepth 20000 in
set_option maxHeartbeats 2000000 in
theorem st_keep (k : Nat) (t_keptImages : Int32) (t_traced : Int64) (t_text_size : Int32) (t_text_bytes : Nat → Int32) (t_score_sections : Int32) (t_score_things : Int32) (t_score_noteTold : Int32) (t_score_toldSection : Int32) (t_score_toldBar : Int32) (t_score_lengths : Nat → Int32) (t_score_times : Nat → Int32) (t_score_players : Nat → Int32) (t_score_minutes : Nat → Int32) (t_course_bar : Int32) (t_course_count : Int32) (t_course_waits : Int32) (t_course_cut : Int32) (t_course_struck : Int32) (t_course_known : Int32) (t_course_past : Nat → Int32) (t_firstImage_bar : Int32) (t_firstImage_count : Int32) (t_firstImage_waits : Int32) (t_firstImage_cut : Int32) (t_firstImage_struck : Int32) (t_firstImage_known : Int32) (t_firstImage_past : Nat → Int32) (t_secondImage_bar : Int32) (t_secondImage_count : Int32) (t_secondImage_waits : Int32) (t_secondImage_cut : Int32) (t_secondImage_struck : Int32) (t_secondImage_known : Int32) (t_secondImage_past : Nat → Int32) (t_ear_heard : Int32) (t_ear_laters : Nat → Int32) (t_ear_players : Nat → Int32) (m_trace : Int64) (m_typed : Int32) (m_noted : Int32) (m_text : Nat → Int32) (m_told : Nat → Int32) (m_s : Nat → Int32) (m_images : Nat → Int32) (m_kept : Nat → Int32) (m_notes : Nat → Int32) (p1 : Int32) (hk : k < 64) (hI : rl_I k t_text_size t_text_bytes t_score_sections t_score_things t_score_noteTold t_score_toldSection t_score_toldBar t_score_lengths t_score_times t_score_players t_score_minutes t_course_bar t_course_count t_course_waits t_course_cut t_course_struck t_course_known t_course_past t_firstImage_bar t_firstImage_count t_firstImage_waits t_firstImage_cut t_firstImage_struck t_firstImage_known t_firstImage_past t_secondImage_bar t_secondImage_count t_secondImage_waits t_secondImage_cut t_secondImage_struck t_secondImage_known t_secondImage_past t_ear_heard t_ear_laters t_ear_players t_keptImages t_traced m_trace m_typed m_noted m_text m_told m_s m_images m_kept m_notes) : ∃ (r : Int32) (z_t_keptImages : Int32) (z_t_firstImage_bar : Int32) (z_t_firstImage_count : Int32) (z_t_firstImage_waits : Int32) (z_t_firstImage_cut : Int32) (z_t_firstImage_struck : Int32) (z_t_firstImage_known : Int32) (z_t_firstImage_past : Nat → Int32) (z_t_secondImage_bar : Int32) (z_t_secondImage_count : Int32) (z_t_secondImage_waits : Int32) (z_t_secondImage_cut : Int32) (z_t_secondImage_struck : Int32) (z_t_secondImage_known : Int32) (z_t_secondImage_past : Nat → Int32) (z_m_images : Nat → Int32) (z_m_kept : Nat → Int32), mi_X11_keep t_keptImages t_course_bar t_course_count t_course_waits t_course_cut t_course_struck t_course_known t_course_past t_firstImage_bar t_firstImage_count t_firstImage_waits t_firstImage_cut t_firstImage_struck t_firstImage_known t_firstImage_past t_secondImage_bar t_secondImage_count t_secondImage_waits t_secondImage_cut t_secondImage_struck t_secondImage_known t_secondImage_past p1 = some (r, z_t_keptImages, z_t_firstImage_bar, z_t_firstImage_count, z_t_firstImage_waits, z_t_firstImage_cut, z_t_firstImage_struck, z_t_firstImage_known, z_t_firstImage_past, z_t_secondImage_bar, z_t_secondImage_count, z_t_secondImage_waits, z_t_secondImage_cut, z_t_secondImage_struck, z_t_secondImage_known, z_t_secondImage_past) ∧ mi_X12_keep m_s m_images m_kept p1 = some (r, z_m_images, z_m_kept) ∧ rl_I (k + 1) t_text_size t_text_bytes t_score_sections t_score_things t_score_noteTold t_score_toldSection t_score_toldBar t_score_lengths t_score_times t_score_players t_score_minutes t_course_bar t_course_count t_course_waits t_course_cut t_course_struck t_course_known t_course_past z_t_firstImage_bar z_t_firstImage_count z_t_firstImage_waits z_t_firstImage_cut z_t_firstImage_struck z_t_firstImage_known z_t_firstImage_past z_t_secondImage_bar z_t_secondImage_count z_t_secondImage_waits z_t_secondImage_cut z_t_secondImage_struck z_t_secondImage_known z_t_secondImage_past t_ear_heard t_ear_laters t_ear_players z_t_keptImages t_traced m_trace m_typed m_noted m_text m_told m_s z_m_images z_m_kept m_notes := by
  obtain ⟨P, hP, hS, hT, hC, hX, hH, hG, hTr⟩ := rl_mono hI
  rcases ev_win p1 (A := 0) (B := 1) 0 1 rfl rfl (by decide) (by decide) with ⟨f1, f2⟩ | ⟨i, rfl, -, hi, f1, f2⟩
  · have hx : mi_X11_keep t_keptImages t_course_bar t_course_count t_course_waits t_course_cut t_course_struck t_course_known t_course_past t_firstImage_bar t_firstImage_count t_firstImage_waits t_firstImage_cut t_firstImage_struck t_firstImage_known t_firstImage_past t_secondImage_bar t_secondImage_count t_secondImage_waits t_secondImage_cut t_secondImage_struck t_secondImage_known t_secondImage_past p1 = some (-1, t_keptImages, t_firstImage_bar, t_firstImage_count, t_firstImage_waits, t_firstImage_cut, t_firstImage_struck, t_firstImage_known, t_firstImage_past, t_secondImage_bar, t_secondImage_count, t_secondImage_waits, t_secondImage_cut, t_secondImage_struck, t_secondImage_known, t_secondImage_past) := by
      unfold mi_X11_keep; rw [jx_b1_eq f1, if_pos rfl]
    have hm : mi_X12_keep m_s m_images m_kept p1 = some (-1, m_images, m_kept) := by
      unfold mi_X12_keep; rw [jx_b1_eq f2, if_pos rfl]
    exact ⟨_, _, _, _, _, _, _, _, _, _, _, _, _, _, _, _, _, _, hx, hm, P, hP, hS, hT, hC, hX, hH, hG, hTr⟩
  obtain ⟨i0, i1, h0, h1, h2, h3, h4, h5, h6⟩ := hG
  have hst := rl_E_struck hC.1
  have hm : mi_X12_keep m_s m_images m_kept (nI i) = some (t_course_bar, fb_put m_images m_s (56 * i) 56, upd m_kept i 1) := by
    have hl := ev_keep_l13 (s := m_s) (im := m_images) (kp := m_kept) hi jx_F 0 (by omega) (by show 56 - 0 < 100000000; omega)
    rw [fb_put_0, hC.2.1] at hl
    unfold mi_X12_keep; rw [jx_b1_eq f2, if_neg ev_1ne0]
    exact hl
  rcases (show i = 0 ∨ i = 1 by omega) with e | e
  · subst e
    have hk1 : t_keptImages ||| ((1 : Int32) <<< (nI 0 &&& 31)) = nI (1 + 2 * i1) := by
      rw [h2]
      rcases (show i0 = 0 ∨ i0 = 1 by omega) with e | e <;> rcases (show i1 = 0 ∨ i1 = 1 by omega) with e' | e' <;> subst e <;> subst e' <;> decide
    have hx : mi_X11_keep t_keptImages t_course_bar t_course_count t_course_waits t_course_cut t_course_struck t_course_known t_course_past t_firstImage_bar t_firstImage_count t_firstImage_waits t_firstImage_cut t_firstImage_struck t_firstImage_known t_firstImage_past t_secondImage_bar t_secondImage_count t_secondImage_waits t_secondImage_cut t_secondImage_struck t_secondImage_known t_secondImage_past (nI 0) = some (t_course_bar, nI (1 + 2 * i1), t_course_bar, t_course_count, t_course_waits, t_course_cut, t_course_struck, t_course_known, va_cpy t_course_past t_firstImage_past 0 0 50, t_secondImage_bar, t_secondImage_count, t_secondImage_waits, t_secondImage_cut, t_secondImage_struck, t_secondImage_known, t_secondImage_past) := by
      unfold mi_X11_keep; rw [jx_b1_eq f1, if_neg ev_1ne0, if_pos (show nI 0 = (0 : Int32) from rfl), jx_b7_eq (ev_become hst)]
      unfold mi_X11_keep_b23
      rw [hk1]
    refine ⟨_, _, _, _, _, _, _, _, _, _, _, _, _, _, _, _, _, _, hx, hm, P, hP, hS, hT, hC, hX, hH, ⟨1, i1, by omega, h1, rfl, pk_us, by rw [pk_un (by omega)]; exact h4, fun _ => rl_C_cong hC (ev_cpy50 _ _) (fun q hq => by rw [fb_put_in (by omega) (by omega)]; exact congrArg m_s (by omega)), fun z => rl_C_cong (h6 z) (fun _ _ => rfl) (fun q hq => fb_put_out (by omega))⟩, hTr⟩
  · subst e
    have hk1 : t_keptImages ||| ((1 : Int32) <<< (nI 1 &&& 31)) = nI (i0 + 2 * 1) := by
      rw [h2]
      rcases (show i0 = 0 ∨ i0 = 1 by omega) with e | e <;> rcases (show i1 = 0 ∨ i1 = 1 by omega) with e' | e' <;> subst e <;> subst e' <;> decide
    have hx : mi_X11_keep t_keptImages t_course_bar t_course_count t_course_waits t_course_cut t_course_struck t_course_known t_course_past t_firstImage_bar t_firstImage_count t_firstImage_waits t_firstImage_cut t_firstImage_struck t_firstImage_known t_firstImage_past t_secondImage_bar t_secondImage_count t_secondImage_waits t_secondImage_cut t_secondImage_struck t_secondImage_known t_secondImage_past (nI 1) = some (t_course_bar, nI (i0 + 2 * 1), t_firstImage_bar, t_firstImage_count, t_firstImage_waits, t_firstImage_cut, t_firstImage_struck, t_firstImage_known, t_firstImage_past, t_course_bar, t_course_count, t_course_waits, t_course_cut, t_course_struck, t_course_known, va_cpy t_course_past t_secondImage_past 0 0 50) := by
      unfold mi_X11_keep; rw [jx_b1_eq f1, if_neg ev_1ne0, if_neg (show ¬ nI 1 = (0 : Int32) from by decide), jx_b7_eq (ev_become hst)]
      unfold mi_X11_keep_b23
      rw [hk1]
    refine ⟨_, _, _, _, _, _, _, _, _, _, _, _, _, _, _, _, _, _, hx, hm, P, hP, hS, hT, hC, hX, hH, ⟨i0, 1, h0, by omega, rfl, by rw [pk_un (by omega)]; exact h3, pk_us, fun z => rl_C_cong (h5 z) (fun _ _ => rfl) (fun q hq => fb_put_out (by omega)), fun _ => rl_C_cong hC (ev_cpy50 _ _) (fun q hq => by
      show fb_put m_images m_s (56 * 1) 56 (56 + q) = m_s q
      rw [fb_put_in (by omega) (by omega)]; exact congrArg m_s (by omega))⟩, hTr⟩
set_option maxRecDepth 20000 in
set_option maxHeartbeats 2000000 in
theorem st_back (k : Nat) (t_keptImages : Int32) (t_traced : Int64) (t_text_size : Int32) (t_text_bytes : Nat → Int32) (t_score_sections : Int32) (t_score_things : Int32) (t_score_noteTold : Int32) (t_score_toldSection : Int32) (t_score_toldBar : Int32) (t_score_lengths : Nat → Int32) (t_score_times : Nat → Int32) (t_score_players : Nat → Int32) (t_score_minutes : Nat → Int32) (t_course_bar : Int32) (t_course_count : Int32) (t_course_waits : Int32) (t_course_cut : Int32) (t_course_struck : Int32) (t_course_known : Int32) (t_course_past : Nat → Int32) (t_firstImage_bar : Int32) (t_firstImage_count : Int32) (t_firstImage_waits : Int32) (t_firstImage_cut : Int32) (t_firstImage_struck : Int32) (t_firstImage_known : Int32) (t_firstImage_past : Nat → Int32) (t_secondImage_bar : Int32) (t_secondImage_count : Int32) (t_secondImage_waits : Int32) (t_secondImage_cut : Int32) (t_secondImage_struck : Int32) (t_secondImage_known : Int32) (t_secondImage_past : Nat → Int32) (t_ear_heard : Int32) (t_ear_laters : Nat → Int32) (t_ear_players : Nat → Int32) (m_trace : Int64) (m_typed : Int32) (m_noted : Int32) (m_text : Nat → Int32) (m_told : Nat → Int32) (m_s : Nat → Int32) (m_images : Nat → Int32) (m_kept : Nat → Int32) (m_notes : Nat → Int32) (p1 : Int32) (hk : k < 64) (hI : rl_I k t_text_size t_text_bytes t_score_sections t_score_things t_score_noteTold t_score_toldSection t_score_toldBar t_score_lengths t_score_times t_score_players t_score_minutes t_course_bar t_course_count t_course_waits t_course_cut t_course_struck t_course_known t_course_past t_firstImage_bar t_firstImage_count t_firstImage_waits t_firstImage_cut t_firstImage_struck t_firstImage_known t_firstImage_past t_secondImage_bar t_secondImage_count t_secondImage_waits t_secondImage_cut t_secondImage_struck t_secondImage_known t_secondImage_past t_ear_heard t_ear_laters t_ear_players t_keptImages t_traced m_trace m_typed m_noted m_text m_told m_s m_images m_kept m_notes) : ∃ (r : Int32) (z_t_course_bar : Int32) (z_t_course_count : Int32) (z_t_course_waits : Int32) (z_t_course_cut : Int32) (z_t_course_struck : Int32) (z_t_course_known : Int32) (z_t_course_past : Nat → Int32) (z_m_s : Nat → Int32), mi_X11_back t_keptImages t_course_bar t_course_count t_course_waits t_course_cut t_course_struck t_course_known t_course_past t_firstImage_bar t_firstImage_count t_firstImage_waits t_firstImage_cut t_firstImage_struck t_firstImage_known t_firstImage_past t_secondImage_bar t_secondImage_count t_secondImage_waits t_secondImage_cut t_secondImage_struck t_secondImage_known t_secondImage_past p1 = some (r, z_t_course_bar, z_t_course_count, z_t_course_waits, z_t_course_cut, z_t_course_struck, z_t_course_known, z_t_course_past) ∧ mi_X12_back m_s m_images m_kept p1 = some (r, z_m_s) ∧ rl_I (k + 1) t_text_size t_text_bytes t_score_sections t_score_things t_score_noteTold t_score_toldSection t_score_toldBar t_score_lengths t_score_times t_score_players t_score_minutes z_t_course_bar z_t_course_count z_t_course_waits z_t_course_cut z_t_course_struck z_t_course_known z_t_course_past t_firstImage_bar t_firstImage_count t_firstImage_waits t_firstImage_cut t_firstImage_struck t_firstImage_known t_firstImage_past t_secondImage_bar t_secondImage_count t_secondImage_waits t_secondImage_cut t_secondImage_struck t_secondImage_known t_secondImage_past t_ear_heard t_ear_laters t_ear_players t_keptImages t_traced m_trace m_typed m_noted m_text m_told z_m_s m_images m_kept m_notes := by
  obtain ⟨P, hP, hS, hT, hC, hX, hH, hG, hTr⟩ := rl_mono hI
  rcases ev_win p1 (A := 0) (B := 1) 0 1 rfl rfl (by decide) (by decide) with ⟨f1, f2⟩ | ⟨i, rfl, -, hi, f1, f2⟩
  · have hx : mi_X11_back t_keptImages t_course_bar t_course_count t_course_waits t_course_cut t_course_struck t_course_known t_course_past t_firstImage_bar t_firstImage_count t_firstImage_waits t_firstImage_cut t_firstImage_struck t_firstImage_known t_firstImage_past t_secondImage_bar t_secondImage_count t_secondImage_waits t_secondImage_cut t_secondImage_struck t_secondImage_known t_secondImage_past p1 = some (-1, t_course_bar, t_course_count, t_course_waits, t_course_cut, t_course_struck, t_course_known, t_course_past) := by
      unfold mi_X11_back; rw [jx_b1_eq f1, if_pos rfl]
    have hm : mi_X12_back m_s m_images m_kept p1 = some (-1, m_s) := by
      unfold mi_X12_back; rw [jx_b1_eq f2, if_pos rfl]
    exact ⟨_, _, _, _, _, _, _, _, _, hx, hm, P, hP, hS, hT, hC, hX, hH, hG, hTr⟩
  obtain ⟨i0, i1, h0, h1, h2, h3, h4, h5, h6⟩ := id hG
  have hbit : ∀ q, q ≤ 1 → mi_X11_isIn t_keptImages (nI q) = some (m_kept q) := by
    intro q hq
    rw [h2]
    rcases (show q = 0 ∨ q = 1 by omega) with e2 | e2 <;> subst e2
    · rw [h3]
      rcases (show i0 = 0 ∨ i0 = 1 by omega) with e | e <;> rcases (show i1 = 0 ∨ i1 = 1 by omega) with e' | e' <;> subst e <;> subst e' <;> decide
    · rw [h4]
      rcases (show i0 = 0 ∨ i0 = 1 by omega) with e | e <;> rcases (show i1 = 0 ∨ i1 = 1 by omega) with e' | e' <;> subst e <;> subst e' <;> decide
  have hin : mi_X11_isIn t_keptImages (nI i) = some (m_kept i) := hbit i hi
  by_cases hz : m_kept i = 0
  · have hx : mi_X11_back t_keptImages t_course_bar t_course_count t_course_waits t_course_cut t_course_struck t_course_known t_course_past t_firstImage_bar t_firstImage_count t_firstImage_waits t_firstImage_cut t_firstImage_struck t_firstImage_known t_firstImage_past t_secondImage_bar t_secondImage_count t_secondImage_waits t_secondImage_cut t_secondImage_struck t_secondImage_known t_secondImage_past (nI i) = some (-2, t_course_bar, t_course_count, t_course_waits, t_course_cut, t_course_struck, t_course_known, t_course_past) := by
      unfold mi_X11_back; rw [jx_b1_eq f1, if_neg ev_1ne0, jx_b1_eq hin, if_pos hz]
    have hm : mi_X12_back m_s m_images m_kept (nI i) = some (-2, m_s) := by
      unfold mi_X12_back; rw [jx_b1_eq f2, if_neg ev_1ne0, ev_g (ev_in (by omega) (by decide)), ev_cl (by omega), if_pos hz]
    exact ⟨_, _, _, _, _, _, _, _, _, hx, hm, P, hP, hS, hT, hC, hX, hH, hG, hTr⟩
  have hm : mi_X12_back m_s m_images m_kept (nI i) = some (m_images (56 * i), fb_put m_s (fun q => m_images (56 * i + q)) 0 56) := by
    have hl := ev_back_l25 (s := m_s) (im := m_images) hi jx_F 0 (by omega) (by show 56 - 0 < 100000000; omega)
    rw [fb_put_0] at hl
    unfold mi_X12_back; rw [jx_b1_eq f2, if_neg ev_1ne0, ev_g (ev_in (by omega) (by decide)), ev_cl (by omega), if_neg hz]
    exact hl
  rcases (show i = 0 ∨ i = 1 by omega) with e | e
  · subst e
    have hone : i0 = 1 := by
      rcases (show i0 = 0 ∨ i0 = 1 by omega) with e | e
      · rw [h3, e] at hz; exact absurd rfl hz
      · exact e
    have hF := h5 hone
    have hx : mi_X11_back t_keptImages t_course_bar t_course_count t_course_waits t_course_cut t_course_struck t_course_known t_course_past t_firstImage_bar t_firstImage_count t_firstImage_waits t_firstImage_cut t_firstImage_struck t_firstImage_known t_firstImage_past t_secondImage_bar t_secondImage_count t_secondImage_waits t_secondImage_cut t_secondImage_struck t_secondImage_known t_secondImage_past (nI 0) = some (t_firstImage_bar, t_firstImage_bar, t_firstImage_count, t_firstImage_waits, t_firstImage_cut, t_firstImage_struck, t_firstImage_known, va_cpy t_firstImage_past t_course_past 0 0 50) := by
      unfold mi_X11_back; rw [jx_b1_eq f1, if_neg ev_1ne0, jx_b1_eq hin, if_neg hz, if_pos (show nI 0 = (0 : Int32) from rfl), jx_b7_eq (ev_become (rl_E_struck hF.1))]
    have hb0 : m_images (56 * 0) = t_firstImage_bar := hF.2.1
    rw [hb0] at hm
    exact ⟨_, _, _, _, _, _, _, _, _, hx, hm, P, hP, hS, hT, rl_C_cong hF (ev_cpy50 _ _) (fun q hq => by rw [fb_put_in (by omega) (by omega)]; exact congrArg m_images (by omega)), hX, hH, hG, hTr⟩
  · subst e
    have hone : i1 = 1 := by
      rcases (show i1 = 0 ∨ i1 = 1 by omega) with e | e
      · rw [h4, e] at hz; exact absurd rfl hz
      · exact e
    have hF := h6 hone
    have hx : mi_X11_back t_keptImages t_course_bar t_course_count t_course_waits t_course_cut t_course_struck t_course_known t_course_past t_firstImage_bar t_firstImage_count t_firstImage_waits t_firstImage_cut t_firstImage_struck t_firstImage_known t_firstImage_past t_secondImage_bar t_secondImage_count t_secondImage_waits t_secondImage_cut t_secondImage_struck t_secondImage_known t_secondImage_past (nI 1) = some (t_secondImage_bar, t_secondImage_bar, t_secondImage_count, t_secondImage_waits, t_secondImage_cut, t_secondImage_struck, t_secondImage_known, va_cpy t_secondImage_past t_course_past 0 0 50) := by
      unfold mi_X11_back; rw [jx_b1_eq f1, if_neg ev_1ne0, jx_b1_eq hin, if_neg hz, if_neg (show ¬ nI 1 = (0 : Int32) from by decide), jx_b7_eq (ev_become (rl_E_struck hF.1))]
    have hb0 : m_images (56 * 1) = t_secondImage_bar := hF.2.1
    rw [hb0] at hm
    exact ⟨_, _, _, _, _, _, _, _, _, hx, hm, P, hP, hS, hT, rl_C_cong hF (ev_cpy50 _ _) (fun q hq => by rw [fb_put_in (by omega) (by omega)]; exact congrArg m_images (by omega)), hX, hH, hG, hTr⟩
