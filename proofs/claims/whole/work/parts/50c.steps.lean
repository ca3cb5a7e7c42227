set_option maxRecDepth 20000 in
set_option maxHeartbeats 2000000 in
theorem st_mark (k : Nat) (t_keptImages : Int32) (t_traced : Int64) (t_text_size : Int32) (t_text_bytes : Nat → Int32) (t_score_sections : Int32) (t_score_things : Int32) (t_score_noteTold : Int32) (t_score_toldSection : Int32) (t_score_toldBar : Int32) (t_score_lengths : Nat → Int32) (t_score_times : Nat → Int32) (t_score_players : Nat → Int32) (t_score_minutes : Nat → Int32) (t_course_bar : Int32) (t_course_count : Int32) (t_course_waits : Int32) (t_course_cut : Int32) (t_course_struck : Int32) (t_course_known : Int32) (t_course_past : Nat → Int32) (t_firstImage_bar : Int32) (t_firstImage_count : Int32) (t_firstImage_waits : Int32) (t_firstImage_cut : Int32) (t_firstImage_struck : Int32) (t_firstImage_known : Int32) (t_firstImage_past : Nat → Int32) (t_secondImage_bar : Int32) (t_secondImage_count : Int32) (t_secondImage_waits : Int32) (t_secondImage_cut : Int32) (t_secondImage_struck : Int32) (t_secondImage_known : Int32) (t_secondImage_past : Nat → Int32) (t_ear_heard : Int32) (t_ear_laters : Nat → Int32) (t_ear_players : Nat → Int32) (m_trace : Int64) (m_typed : Int32) (m_noted : Int32) (m_text : Nat → Int32) (m_told : Nat → Int32) (m_s : Nat → Int32) (m_images : Nat → Int32) (m_kept : Nat → Int32) (m_notes : Nat → Int32) (p1 : Int32) (p2 : Int32) (hk : k < 64) (hI : rl_I k t_text_size t_text_bytes t_score_sections t_score_things t_score_noteTold t_score_toldSection t_score_toldBar t_score_lengths t_score_times t_score_players t_score_minutes t_course_bar t_course_count t_course_waits t_course_cut t_course_struck t_course_known t_course_past t_firstImage_bar t_firstImage_count t_firstImage_waits t_firstImage_cut t_firstImage_struck t_firstImage_known t_firstImage_past t_secondImage_bar t_secondImage_count t_secondImage_waits t_secondImage_cut t_secondImage_struck t_secondImage_known t_secondImage_past t_ear_heard t_ear_laters t_ear_players t_keptImages t_traced m_trace m_typed m_noted m_text m_told m_s m_images m_kept m_notes) : ∃ (r : Int32) (z_t_traced : Int64) (z_m_trace : Int64), mi_X11_mark t_traced t_score_sections t_score_lengths t_score_times t_score_players t_course_bar p1 p2 = some (r, z_t_traced) ∧ mi_X12_mark m_trace m_told m_s p1 p2 = some (r, z_m_trace) ∧ rl_I (k + 1) t_text_size t_text_bytes t_score_sections t_score_things t_score_noteTold t_score_toldSection t_score_toldBar t_score_lengths t_score_times t_score_players t_score_minutes t_course_bar t_course_count t_course_waits t_course_cut t_course_struck t_course_known t_course_past t_firstImage_bar t_firstImage_count t_firstImage_waits t_firstImage_cut t_firstImage_struck t_firstImage_known t_firstImage_past t_secondImage_bar t_secondImage_count t_secondImage_waits t_secondImage_cut t_secondImage_struck t_secondImage_known t_secondImage_past t_ear_heard t_ear_laters t_ear_players t_keptImages z_t_traced z_m_trace m_typed m_noted m_text m_told m_s m_images m_kept m_notes := by
  obtain ⟨P, hP, hS, hT, hC, hX, hH, hG, hTr⟩ := rl_mono hI
  subst hTr
  have h8 := hP.1
  rcases ev_win p1 (A := 0) (B := 5) 0 5 rfl rfl (by decide) (by decide) with ⟨f1, f2⟩ | ⟨kd, rfl, -, hkd, f1, f2⟩
  · have hx : mi_X11_mark m_trace t_score_sections t_score_lengths t_score_times t_score_players t_course_bar p1 p2 = some (-1000000, m_trace) := by
      unfold mi_X11_mark; rw [jx_b1_eq f1, if_pos rfl]
    have hm : mi_X12_mark m_trace m_told m_s p1 p2 = some (-1000000, m_trace) := by
      unfold mi_X12_mark; rw [jx_b1_eq f2, if_pos rfl]
    exact ⟨_, _, _, hx, hm, P, hP, hS, hT, hC, hX, hH, hG, rfl⟩
  rcases ev_sec (n := pc_N P) (by omega) p2 with ⟨e1, e2⟩ | ⟨q, hq, rfl, e1, e2⟩
  · have hx : mi_X11_mark m_trace t_score_sections t_score_lengths t_score_times t_score_players t_course_bar (nI kd) p2 = some (-1000000, m_trace) := by
      unfold mi_X11_mark; rw [jx_b1_eq f1, if_neg ev_1ne0, hS.1, jx_b1_eq e1, if_pos rfl]
    have hm : mi_X12_mark m_trace m_told m_s (nI kd) p2 = some (-1000000, m_trace) := by
      unfold mi_X12_mark; rw [jx_b1_eq f2, if_neg ev_1ne0, jx_b1_eq (ev_isSec hT e2 (Or.inl rfl)), if_pos rfl]
    exact ⟨_, _, _, hx, hm, P, hP, hS, hT, hC, hX, hH, hG, rfl⟩
  have e1' : mi_X6_hasSection t_score_sections (nI q) = some 1 := by rw [hS.1]; exact e1
  have l1 := ev_lengthOf hP hS hq
  have l2 := ev_timesOf hP hS hq
  have l3 := ev_whoOf hP hS hq
  have v5 : ∀ t : Int64, mi_X5_valueOf t t_score_sections t_score_lengths (nI q) = some (nI (pc_L P q), t + 1) := fun t => by
    unfold mi_X5_valueOf; rw [jx_b1_eq l1]
  have v9 : ∀ t : Int64, mi_X9_valueOf t t_score_sections t_score_lengths t_score_times (nI q) = some (nI (pc_L P q) + nI (pc_T P q), t + 11) := fun t => by
    unfold mi_X9_valueOf; rw [jx_b2_eq (v5 _), jx_b1_eq l2, Int64.add_assoc]; rfl
  have v0 : ∀ t : Int64, mi_X0_valueOf t t_score_sections t_score_lengths t_score_players (nI q) = some (nI (pc_L P q) - nI (pc_W P q), t + 101) := fun t => by
    unfold mi_X0_valueOf; rw [jx_b2_eq (v5 _), jx_b1_eq l3, Int64.add_assoc]; rfl
  have v97 : ∀ t : Int64, mi_X9_valueOf_X7 t t_score_sections t_score_lengths t_score_times (nI q) = some (nI (pc_L P q) + nI (pc_T P q), t + 11) := v9
  have v010 : ∀ t : Int64, mi_X0_valueOf_X10 t t_score_sections t_score_lengths t_score_players (nI q) = some (nI (pc_L P q) - nI (pc_W P q), t + 101) := v0
  have v7 : ∀ t : Int64, mi_X7_valueOf t t_score_sections t_score_lengths t_score_times (nI q) = some ((nI (pc_L P q) + nI (pc_T P q)) * 2, t + 1011) := fun t => by
    unfold mi_X7_valueOf; rw [jx_b2_eq (v97 _), Int64.add_assoc]; rfl
  have v10 : ∀ t : Int64, mi_X10_valueOf t t_score_sections t_score_lengths t_score_players (nI q) = some ((nI (pc_L P q) - nI (pc_W P q)) + nI q, t + 10101) := fun t => by
    unfold mi_X10_valueOf; rw [jx_b2_eq (v010 _), Int64.add_assoc]; rfl
  have v1 : ∀ t : Int64, mi_X1_valueOf t t_score_sections t_score_lengths t_course_bar (nI q) = some (nI (pc_L P q) + t_course_bar, t + 100001) := fun t => by
    unfold mi_X1_valueOf; rw [jx_b2_eq (v5 _), Int64.add_assoc]; rfl
  have hb : ∀ (x : Int32) (a b t : Int64), mi_X12_mark_b80 m_told m_s x (nI q) a b t = (if x = 0 then some (nI (pc_L P q), a + b) else if x = 1 then some (nI (pc_L P q) + nI (pc_T P q), a + b) else if x = 2 then some (nI (pc_L P q) - nI (pc_W P q), a + b) else if x = 3 then some (2 * (nI (pc_L P q) + nI (pc_T P q)), a + b) else if x = 4 then some ((nI (pc_L P q) - nI (pc_W P q)) + nI q, a + b) else some (nI (pc_L P q) + t_course_bar, a + b)) := by
    intro x a b t
    unfold mi_X12_mark_b80
    rw [ev_a6, ev_a14, ev_a22, ev_g (ev_in (by omega) (by decide)), ev_g (ev_in (by omega) (by decide)), ev_g (ev_in (by omega) (by decide)), ev_g (ev_in (by omega) (by decide)), ev_g (ev_in (by omega) (by decide)), ev_g (ev_in (by omega) (by decide)), ev_cl (by omega), ev_cl (by omega), ev_cl (by omega), (hT.2.2.1 q hq).1, (hT.2.2.1 q hq).2.1, (hT.2.2.1 q hq).2.2, ev_n0, hC.2.1]
  have hall : ∃ r t, mi_X11_mark m_trace t_score_sections t_score_lengths t_score_times t_score_players t_course_bar (nI kd) (nI q) = some (r, t) ∧ mi_X12_mark m_trace m_told m_s (nI kd) (nI q) = some (r, t) := by
    unfold mi_X11_mark mi_X12_mark
    rw [jx_b1_eq f1, if_neg ev_1ne0, jx_b1_eq e1', if_neg ev_1ne0, jx_b2_eq (v5 _), jx_b2_eq (v9 _), jx_b2_eq (v0 _), jx_b2_eq (v7 _), jx_b2_eq (v10 _), jx_b2_eq (v1 _), jx_b1_eq f2, if_neg ev_1ne0, jx_b1_eq (ev_isSec hT e2 (Or.inr rfl)), if_neg ev_1ne0]
    simp only [hb]
    rcases (show kd = 0 ∨ kd = 1 ∨ kd = 2 ∨ kd = 3 ∨ kd = 4 ∨ kd = 5 by omega) with e | e | e | e | e | e <;> subst e
    · exact ⟨_, _, rfl, rfl⟩
    · exact ⟨_, _, rfl, rfl⟩
    · exact ⟨_, _, rfl, rfl⟩
    · refine ⟨_, _, rfl, ?_⟩
      rw [if_neg (by decide), if_neg (by decide), if_neg (by decide), if_pos (by decide), if_neg (by decide), if_neg (by decide), if_neg (by decide), if_pos (by decide), Int32.mul_comm]
    · exact ⟨_, _, rfl, rfl⟩
    · exact ⟨_, _, rfl, rfl⟩
  obtain ⟨r, t, hx, hm⟩ := hall
  exact ⟨_, _, _, hx, hm, P, hP, hS, hT, hC, hX, hH, hG, rfl⟩
set_option maxRecDepth 20000 in
set_option maxHeartbeats 2000000 in
theorem st_keep (k : Nat) (t_keptImages : Int32) (t_traced : Int64) (t_text_size : Int32) (t_text_bytes : Nat → Int32) (t_score_sections : Int32) (t_score_things : Int32) (t_score_noteTold : Int32) (t_score_toldSection : Int32) (t_score_toldBar : Int32) (t_score_lengths : Nat → Int32) (t_score_times : Nat → Int32) (t_score_players : Nat → Int32) (t_score_minutes : Nat → Int32) (t_course_bar : Int32) (t_course_count : Int32) (t_course_waits : Int32) (t_course_cut : Int32) (t_course_struck : Int32) (t_course_known : Int32) (t_course_past : Nat → Int32) (t_firstImage_bar : Int32) (t_firstImage_count : Int32) (t_firstImage_waits : Int32) (t_firstImage_cut : Int32) (t_firstImage_struck : Int32) (t_firstImage_known : Int32) (t_firstImage_past : Nat → Int32) (t_secondImage_bar : Int32) (t_secondImage_count : Int32) (t_secondImage_waits : Int32) (t_secondImage_cut : Int32) (t_secondImage_struck : Int32) (t_secondImage_known : Int32) (t_secondImage_past : Nat → Int32) (t_ear_heard : Int32) (t_ear_laters : Nat → Int32) (t_ear_players : Nat → Int32) (m_trace : Int64) (m_typed : Int32) (m_noted : Int32) (m_text : Nat → Int32) (m_told : Nat → Int32) (m_s : Nat → Int32) (m_images : Nat → Int32) (m_kept : Nat → Int32) (m_notes : Nat → Int32) (p1 : Int32) (hk : k < 64) (hI : rl_I k t_text_size t_text_bytes t_score_sections t_score_things t_score_noteTold t_score_toldSection t_score_toldBar t_score_lengths t_score_times t_score_players t_score_minutes t_course_bar t_course_count t_course_waits t_course_cut t_course_struck t_course_known t_course_past t_firstImage_bar t_firstImage_count t_firstImage_waits t_firstImage_cut t_firstImage_struck t_firstImage_known t_firstImage_past t_secondImage_bar t_secondImage_count t_secondImage_waits t_secondImage_cut t_secondImage_struck t_secondImage_known t_secondImage_past t_ear_heard t_ear_laters t_ear_players t_keptImages t_traced m_trace m_typed m_noted m_text m_told m_s m_images m_kept m_notes) : ∃ (r : Int32) (z_t_keptImages : Int32) (z_t_firstImage_bar : Int32) (z_t_firstImage_count : Int32) (z_t_firstImage_waits : Int32) (z_t_firstImage_cut : Int32) (z_t_firstImage_struck : Int32) (z_t_firstImage_known : Int32) (z_t_firstImage_past : Nat → Int32) (z_t_secondImage_bar : Int32) (z_t_secondImage_count : Int32) (z_t_secondImage_waits : Int32) (z_t_secondImage_cut : Int32) (z_t_secondImage_struck : Int32) (z_t_secondImage_known : Int32) (z_t_secondImage_past : Nat → Int32) (z_m_images : Nat → Int32) (z_m_kept : Nat → Int32), mi_X11_keep t_keptImages t_course_bar t_course_count t_course_waits t_course_cut t_course_struck t_course_known t_course_past t_firstImage_bar t_firstImage_count t_firstImage_waits t_firstImage_cut t_firstImage_struck t_firstImage_known t_firstImage_past t_secondImage_bar t_secondImage_count t_secondImage_waits t_secondImage_cut t_secondImage_struck t_secondImage_known t_secondImage_past p1 = some (r, z_t_keptImages, z_t_firstImage_bar, z_t_firstImage_count, z_t_firstImage_waits, z_t_firstImage_cut, z_t_firstImage_struck, z_t_firstImage_known, z_t_firstImage_past, z_t_secondImage_bar, z_t_secondImage_count, z_t_secondImage_waits, z_t_secondImage_cut, z_t_secondImage_struck, z_t_secondImage_known, z_t_secondImage_past) ∧ mi_X12_keep m_s m_images m_kept p1 = some (r, z_m_images, z_m_kept) ∧ rl_I (k + 1) t_text_size t_text_bytes t_score_sections t_score_things t_score_noteTold t_score_toldSection t_score_toldBar t_score_lengths t_score_times t_score_players t_score_minutes t_course_bar t_course_count t_course_waits t_course_cut t_course_struck t_course_known t_course_past z_t_firstImage_bar z_t_firstImage_count z_t_firstImage_waits z_t_firstImage_cut z_t_firstImage_struck z_t_firstImage_known z_t_firstImage_past z_t_secondImage_bar z_t_secondImage_count z_t_secondImage_waits z_t_secondImage_cut z_t_secondImage_struck z_t_secondImage_known z_t_secondImage_past t_ear_heard t_ear_laters t_ear_players z_t_keptImages t_traced m_trace m_typed m_noted m_text m_told m_s z_m_images z_m_kept m_notes := by
  obtain ⟨P, hP, hS, hT, hC, hX, hH, hG, hTr⟩ := rl_mono hI
  rcases ev_win p1 (A := 0) (B := 1) 0 1 rfl rfl (by decide) (by decide) with ⟨f1, f2⟩ | ⟨i, rfl, -, hi, f1, f2⟩
  · have hx : mi_X11_keep t_keptImages t_course_bar t_course_count t_course_waits t_course_cut t_course_struck t_course_known t_course_past t_firstImage_bar t_firstImage_count t_firstImage_waits t_firstImage_cut t_firstImage_struck t_firstImage_known t_firstImage_past t_secondImage_bar t_secondImage_count t_secondImage_waits t_secondImage_cut t_secondImage_struck t_secondImage_known t_secondImage_past p1 = some (-1, t_keptImages, t_firstImage_bar, t_firstImage_count, t_firstImage_waits, t_firstImage_cut, t_firstImage_struck, t_firstImage_known, t_firstImage_past, t_secondImage_bar, t_secondImage_count, t_secondImage_waits, t_secondImage_cut, t_secondImage_struck, t_secondImage_known, t_secondImage_past) := by
      unfold mi_X11_keep; rw [jx_b1_eq f1, if_pos rfl]
    have hm : mi_X12_keep m_s m_images m_kept p1 = some (-1, m_images, m_kept) := by
      unfold mi_X12_keep; rw [jx_b1_eq f2, if_pos rfl]
    exact ⟨_, _, _, _, _, _, _, _, _, _, _, _, _, _, _, _, _, _, hx, hm, P, hP, hS, hT, hC, hX, hH, hG, hTr⟩
  obtain ⟨i0, i1, h0, h1, h2, h3, h4, h5, h6⟩ := hG
  have hst := rl_E_struck hC.1
  have hm : mi_X12_keep m_s m_images m_kept (nI i) = some (t_course_bar, fb_put m_images m_s (56 * i) 56, upd m_kept i 1) := by
    have hl := ev_keep_l13 (s := m_s) (im := m_images) (kp := m_kept) hi jx_F 0 (by omega) (by show 56 - 0 < 100000000; omega)
    rw [fb_put_0, hC.2.1] at hl
    unfold mi_X12_keep; rw [jx_b1_eq f2, if_neg ev_1ne0]
    exact hl
  rcases (show i = 0 ∨ i = 1 by omega) with e | e
  · subst e
    have hk1 : t_keptImages ||| ((1 : Int32) <<< (nI 0 &&& 31)) = nI (1 + 2 * i1) := by
      rw [h2]
      rcases (show i0 = 0 ∨ i0 = 1 by omega) with e | e <;> rcases (show i1 = 0 ∨ i1 = 1 by omega) with e' | e' <;> subst e <;> subst e' <;> decide
    have hx : mi_X11_keep t_keptImages t_course_bar t_course_count t_course_waits t_course_cut t_course_struck t_course_known t_course_past t_firstImage_bar t_firstImage_count t_firstImage_waits t_firstImage_cut t_firstImage_struck t_firstImage_known t_firstImage_past t_secondImage_bar t_secondImage_count t_secondImage_waits t_secondImage_cut t_secondImage_struck t_secondImage_known t_secondImage_past (nI 0) = some (t_course_bar, nI (1 + 2 * i1), t_course_bar, t_course_count, t_course_waits, t_course_cut, t_course_struck, t_course_known, va_cpy t_course_past t_firstImage_past 0 0 50, t_secondImage_bar, t_secondImage_count, t_secondImage_waits, t_secondImage_cut, t_secondImage_struck, t_secondImage_known, t_secondImage_past) := by
      unfold mi_X11_keep; rw [jx_b1_eq f1, if_neg ev_1ne0, if_pos (show nI 0 = (0 : Int32) from rfl), jx_b7_eq (ev_become hst)]
      unfold mi_X11_keep_b23
      rw [hk1]
    refine ⟨_, _, _, _, _, _, _, _, _, _, _, _, _, _, _, _, _, _, hx, hm, P, hP, hS, hT, hC, hX, hH, ⟨1, i1, by omega, h1, rfl, pk_us, by rw [pk_un (by omega)]; exact h4, fun _ => rl_C_cong hC (ev_cpy50 _ _) (fun q hq => by rw [fb_put_in (by omega) (by omega)]; exact congrArg m_s (by omega)), fun z => rl_C_cong (h6 z) (fun _ _ => rfl) (fun q hq => fb_put_out (by omega))⟩, hTr⟩
  · subst e
    have hk1 : t_keptImages ||| ((1 : Int32) <<< (nI 1 &&& 31)) = nI (i0 + 2 * 1) := by
      rw [h2]
      rcases (show i0 = 0 ∨ i0 = 1 by omega) with e | e <;> rcases (show i1 = 0 ∨ i1 = 1 by omega) with e' | e' <;> subst e <;> subst e' <;> decide
    have hx : mi_X11_keep t_keptImages t_course_bar t_course_count t_course_waits t_course_cut t_course_struck t_course_known t_course_past t_firstImage_bar t_firstImage_count t_firstImage_waits t_firstImage_cut t_firstImage_struck t_firstImage_known t_firstImage_past t_secondImage_bar t_secondImage_count t_secondImage_waits t_secondImage_cut t_secondImage_struck t_secondImage_known t_secondImage_past (nI 1) = some (t_course_bar, nI (i0 + 2 * 1), t_firstImage_bar, t_firstImage_count, t_firstImage_waits, t_firstImage_cut, t_firstImage_struck, t_firstImage_known, t_firstImage_past, t_course_bar, t_course_count, t_course_waits, t_course_cut, t_course_struck, t_course_known, va_cpy t_course_past t_secondImage_past 0 0 50) := by
      unfold mi_X11_keep; rw [jx_b1_eq f1, if_neg ev_1ne0, if_neg (show ¬ nI 1 = (0 : Int32) from by decide), jx_b7_eq (ev_become hst)]
      unfold mi_X11_keep_b23
      rw [hk1]
    refine ⟨_, _, _, _, _, _, _, _, _, _, _, _, _, _, _, _, _, _, hx, hm, P, hP, hS, hT, hC, hX, hH, ⟨i0, 1, h0, by omega, rfl, by rw [pk_un (by omega)]; exact h3, pk_us, fun z => rl_C_cong (h5 z) (fun _ _ => rfl) (fun q hq => fb_put_out (by omega)), fun _ => rl_C_cong hC (ev_cpy50 _ _) (fun q hq => by
      show fb_put m_images m_s (56 * 1) 56 (56 + q) = m_s q
      rw [fb_put_in (by omega) (by omega)]; exact congrArg m_s (by omega))⟩, hTr⟩
set_option maxRecDepth 20000 in
set_option maxHeartbeats 2000000 in
theorem st_back (k : Nat) (t_keptImages : Int32) (t_traced : Int64) (t_text_size : Int32) (t_text_bytes : Nat → Int32) (t_score_sections : Int32) (t_score_things : Int32) (t_score_noteTold : Int32) (t_score_toldSection : Int32) (t_score_toldBar : Int32) (t_score_lengths : Nat → Int32) (t_score_times : Nat → Int32) (t_score_players : Nat → Int32) (t_score_minutes : Nat → Int32) (t_course_bar : Int32) (t_course_count : Int32) (t_course_waits : Int32) (t_course_cut : Int32) (t_course_struck : Int32) (t_course_known : Int32) (t_course_past : Nat → Int32) (t_firstImage_bar : Int32) (t_firstImage_count : Int32) (t_firstImage_waits : Int32) (t_firstImage_cut : Int32) (t_firstImage_struck : Int32) (t_firstImage_known : Int32) (t_firstImage_past : Nat → Int32) (t_secondImage_bar : Int32) (t_secondImage_count : Int32) (t_secondImage_waits : Int32) (t_secondImage_cut : Int32) (t_secondImage_struck : Int32) (t_secondImage_known : Int32) (t_secondImage_past : Nat → Int32) (t_ear_heard : Int32) (t_ear_laters : Nat → Int32) (t_ear_players : Nat → Int32) (m_trace : Int64) (m_typed : Int32) (m_noted : Int32) (m_text : Nat → Int32) (m_told : Nat → Int32) (m_s : Nat → Int32) (m_images : Nat → Int32) (m_kept : Nat → Int32) (m_notes : Nat → Int32) (p1 : Int32) (hk : k < 64) (hI : rl_I k t_text_size t_text_bytes t_score_sections t_score_things t_score_noteTold t_score_toldSection t_score_toldBar t_score_lengths t_score_times t_score_players t_score_minutes t_course_bar t_course_count t_course_waits t_course_cut t_course_struck t_course_known t_course_past t_firstImage_bar t_firstImage_count t_firstImage_waits t_firstImage_cut t_firstImage_struck t_firstImage_known t_firstImage_past t_secondImage_bar t_secondImage_count t_secondImage_waits t_secondImage_cut t_secondImage_struck t_secondImage_known t_secondImage_past t_ear_heard t_ear_laters t_ear_players t_keptImages t_traced m_trace m_typed m_noted m_text m_told m_s m_images m_kept m_notes) : ∃ (r : Int32) (z_t_course_bar : Int32) (z_t_course_count : Int32) (z_t_course_waits : Int32) (z_t_course_cut : Int32) (z_t_course_struck : Int32) (z_t_course_known : Int32) (z_t_course_past : Nat → Int32) (z_m_s : Nat → Int32), mi_X11_back t_keptImages t_course_bar t_course_count t_course_waits t_course_cut t_course_struck t_course_known t_course_past t_firstImage_bar t_firstImage_count t_firstImage_waits t_firstImage_cut t_firstImage_struck t_firstImage_known t_firstImage_past t_secondImage_bar t_secondImage_count t_secondImage_waits t_secondImage_cut t_secondImage_struck t_secondImage_known t_secondImage_past p1 = some (r, z_t_course_bar, z_t_course_count, z_t_course_waits, z_t_course_cut, z_t_course_struck, z_t_course_known, z_t_course_past) ∧ mi_X12_back m_s m_images m_kept p1 = some (r, z_m_s) ∧ rl_I (k + 1) t_text_size t_text_bytes t_score_sections t_score_things t_score_noteTold t_score_toldSection t_score_toldBar t_score_lengths t_score_times t_score_players t_score_minutes z_t_course_bar z_t_course_count z_t_course_waits z_t_course_cut z_t_course_struck z_t_course_known z_t_course_past t_firstImage_bar t_firstImage_count t_firstImage_waits t_firstImage_cut t_firstImage_struck t_firstImage_known t_firstImage_past t_secondImage_bar t_secondImage_count t_secondImage_waits t_secondImage_cut t_secondImage_struck t_secondImage_known t_secondImage_past t_ear_heard t_ear_laters t_ear_players t_keptImages t_traced m_trace m_typed m_noted m_text m_told z_m_s m_images m_kept m_notes := by
  obtain ⟨P, hP, hS, hT, hC, hX, hH, hG, hTr⟩ := rl_mono hI
  rcases ev_win p1 (A := 0) (B := 1) 0 1 rfl rfl (by decide) (by decide) with ⟨f1, f2⟩ | ⟨i, rfl, -, hi, f1, f2⟩
  · have hx : mi_X11_back t_keptImages t_course_bar t_course_count t_course_waits t_course_cut t_course_struck t_course_known t_course_past t_firstImage_bar t_firstImage_count t_firstImage_waits t_firstImage_cut t_firstImage_struck t_firstImage_known t_firstImage_past t_secondImage_bar t_secondImage_count t_secondImage_waits t_secondImage_cut t_secondImage_struck t_secondImage_known t_secondImage_past p1 = some (-1, t_course_bar, t_course_count, t_course_waits, t_course_cut, t_course_struck, t_course_known, t_course_past) := by
      unfold mi_X11_back; rw [jx_b1_eq f1, if_pos rfl]
    have hm : mi_X12_back m_s m_images m_kept p1 = some (-1, m_s) := by
      unfold mi_X12_back; rw [jx_b1_eq f2, if_pos rfl]
    exact ⟨_, _, _, _, _, _, _, _, _, hx, hm, P, hP, hS, hT, hC, hX, hH, hG, hTr⟩
  obtain ⟨i0, i1, h0, h1, h2, h3, h4, h5, h6⟩ := id hG
  have hbit : ∀ q, q ≤ 1 → mi_X11_isIn t_keptImages (nI q) = some (m_kept q) := by
    intro q hq
    rw [h2]
    rcases (show q = 0 ∨ q = 1 by omega) with e2 | e2 <;> subst e2
    · rw [h3]
      rcases (show i0 = 0 ∨ i0 = 1 by omega) with e | e <;> rcases (show i1 = 0 ∨ i1 = 1 by omega) with e' | e' <;> subst e <;> subst e' <;> decide
    · rw [h4]
      rcases (show i0 = 0 ∨ i0 = 1 by omega) with e | e <;> rcases (show i1 = 0 ∨ i1 = 1 by omega) with e' | e' <;> subst e <;> subst e' <;> decide
  have hin : mi_X11_isIn t_keptImages (nI i) = some (m_kept i) := hbit i hi
  by_cases hz : m_kept i = 0
  · have hx : mi_X11_back t_keptImages t_course_bar t_course_count t_course_waits t_course_cut t_course_struck t_course_known t_course_past t_firstImage_bar t_firstImage_count t_firstImage_waits t_firstImage_cut t_firstImage_struck t_firstImage_known t_firstImage_past t_secondImage_bar t_secondImage_count t_secondImage_waits t_secondImage_cut t_secondImage_struck t_secondImage_known t_secondImage_past (nI i) = some (-2, t_course_bar, t_course_count, t_course_waits, t_course_cut, t_course_struck, t_course_known, t_course_past) := by
      unfold mi_X11_back; rw [jx_b1_eq f1, if_neg ev_1ne0, jx_b1_eq hin, if_pos hz]
    have hm : mi_X12_back m_s m_images m_kept (nI i) = some (-2, m_s) := by
      unfold mi_X12_back; rw [jx_b1_eq f2, if_neg ev_1ne0, ev_g (ev_in (by omega) (by decide)), ev_cl (by omega), if_pos hz]
    exact ⟨_, _, _, _, _, _, _, _, _, hx, hm, P, hP, hS, hT, hC, hX, hH, hG, hTr⟩
  have hm : mi_X12_back m_s m_images m_kept (nI i) = some (m_images (56 * i), fb_put m_s (fun q => m_images (56 * i + q)) 0 56) := by
    have hl := ev_back_l25 (s := m_s) (im := m_images) hi jx_F 0 (by omega) (by show 56 - 0 < 100000000; omega)
    rw [fb_put_0] at hl
    unfold mi_X12_back; rw [jx_b1_eq f2, if_neg ev_1ne0, ev_g (ev_in (by omega) (by decide)), ev_cl (by omega), if_neg hz]
    exact hl
  rcases (show i = 0 ∨ i = 1 by omega) with e | e
  · subst e
    have hone : i0 = 1 := by
      rcases (show i0 = 0 ∨ i0 = 1 by omega) with e | e
      · rw [h3, e] at hz; exact absurd rfl hz
      · exact e
    have hF := h5 hone
    have hx : mi_X11_back t_keptImages t_course_bar t_course_count t_course_waits t_course_cut t_course_struck t_course_known t_course_past t_firstImage_bar t_firstImage_count t_firstImage_waits t_firstImage_cut t_firstImage_struck t_firstImage_known t_firstImage_past t_secondImage_bar t_secondImage_count t_secondImage_waits t_secondImage_cut t_secondImage_struck t_secondImage_known t_secondImage_past (nI 0) = some (t_firstImage_bar, t_firstImage_bar, t_firstImage_count, t_firstImage_waits, t_firstImage_cut, t_firstImage_struck, t_firstImage_known, va_cpy t_firstImage_past t_course_past 0 0 50) := by
      unfold mi_X11_back; rw [jx_b1_eq f1, if_neg ev_1ne0, jx_b1_eq hin, if_neg hz, if_pos (show nI 0 = (0 : Int32) from rfl), jx_b7_eq (ev_become (rl_E_struck hF.1))]
    have hb0 : m_images (56 * 0) = t_firstImage_bar := hF.2.1
    rw [hb0] at hm
    exact ⟨_, _, _, _, _, _, _, _, _, hx, hm, P, hP, hS, hT, rl_C_cong hF (ev_cpy50 _ _) (fun q hq => by rw [fb_put_in (by omega) (by omega)]; exact congrArg m_images (by omega)), hX, hH, hG, hTr⟩
  · subst e
    have hone : i1 = 1 := by
      rcases (show i1 = 0 ∨ i1 = 1 by omega) with e | e
      · rw [h4, e] at hz; exact absurd rfl hz
      · exact e
    have hF := h6 hone
    have hx : mi_X11_back t_keptImages t_course_bar t_course_count t_course_waits t_course_cut t_course_struck t_course_known t_course_past t_firstImage_bar t_firstImage_count t_firstImage_waits t_firstImage_cut t_firstImage_struck t_firstImage_known t_firstImage_past t_secondImage_bar t_secondImage_count t_secondImage_waits t_secondImage_cut t_secondImage_struck t_secondImage_known t_secondImage_past (nI 1) = some (t_secondImage_bar, t_secondImage_bar, t_secondImage_count, t_secondImage_waits, t_secondImage_cut, t_secondImage_struck, t_secondImage_known, va_cpy t_secondImage_past t_course_past 0 0 50) := by
      unfold mi_X11_back; rw [jx_b1_eq f1, if_neg ev_1ne0, jx_b1_eq hin, if_neg hz, if_neg (show ¬ nI 1 = (0 : Int32) from by decide), jx_b7_eq (ev_become (rl_E_struck hF.1))]
    have hb0 : m_images (56 * 1) = t_secondImage_bar := hF.2.1
    rw [hb0] at hm
    exact ⟨_, _, _, _, _, _, _, _, _, hx, hm, P, hP, hS, hT, rl_C_cong hF (ev_cpy50 _ _) (fun q hq => by rw [fb_put_in (by omega) (by omega)]; exact congrArg m_images (by omega)), hX, hH, hG, hTr⟩
