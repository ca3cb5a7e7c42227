set_option maxRecDepth 20000 in
set_option maxHeartbeats 2000000 in
theorem st_pack (k : Nat) (t_keptImages : Int32) (t_traced : Int64) (t_text_size : Int32) (t_text_bytes : Nat → Int32) (t_score_sections : Int32) (t_score_things : Int32) (t_score_noteTold : Int32) (t_score_toldSection : Int32) (t_score_toldBar : Int32) (t_score_lengths : Nat → Int32) (t_score_times : Nat → Int32) (t_score_players : Nat → Int32) (t_score_minutes : Nat → Int32) (t_course_bar : Int32) (t_course_count : Int32) (t_course_waits : Int32) (t_course_cut : Int32) (t_course_struck : Int32) (t_course_known : Int32) (t_course_past : Nat → Int32) (t_firstImage_bar : Int32) (t_firstImage_count : Int32) (t_firstImage_waits : Int32) (t_firstImage_cut : Int32) (t_firstImage_struck : Int32) (t_firstImage_known : Int32) (t_firstImage_past : Nat → Int32) (t_secondImage_bar : Int32) (t_secondImage_count : Int32) (t_secondImage_waits : Int32) (t_secondImage_cut : Int32) (t_secondImage_struck : Int32) (t_secondImage_known : Int32) (t_secondImage_past : Nat → Int32) (t_ear_heard : Int32) (t_ear_laters : Nat → Int32) (t_ear_players : Nat → Int32) (t_packer_rooms : Nat → Int32) (t_packer_setMinutes : Nat → Int32) (t_packer_fits : Nat → Int32) (m_trace : Int64) (m_typed : Int32) (m_noted : Int32) (m_text : Nat → Int32) (m_told : Nat → Int32) (m_s : Nat → Int32) (m_images : Nat → Int32) (m_kept : Nat → Int32) (m_notes : Nat → Int32) (m_room : Nat → Int32) (m_inRest : Nat → Int32) (p1 : Int32) (hk : k < 64) (hI : rl_I k t_text_size t_text_bytes t_score_sections t_score_things t_score_noteTold t_score_toldSection t_score_toldBar t_score_lengths t_score_times t_score_players t_score_minutes t_course_bar t_course_count t_course_waits t_course_cut t_course_struck t_course_known t_course_past t_firstImage_bar t_firstImage_count t_firstImage_waits t_firstImage_cut t_firstImage_struck t_firstImage_known t_firstImage_past t_secondImage_bar t_secondImage_count t_secondImage_waits t_secondImage_cut t_secondImage_struck t_secondImage_known t_secondImage_past t_ear_heard t_ear_laters t_ear_players t_keptImages t_traced m_trace m_typed m_noted m_text m_told m_s m_images m_kept m_notes) : ∃ (r : Int32) (z_t_packer_rooms : Nat → Int32) (z_t_packer_setMinutes : Nat → Int32) (z_t_packer_fits : Nat → Int32) (z_m_room : Nat → Int32) (z_m_inRest : Nat → Int32), mi_X11_pack t_score_sections t_score_things t_score_lengths t_score_times t_score_players t_score_minutes t_course_cut t_packer_rooms t_packer_setMinutes t_packer_fits p1 = some (r, z_t_packer_rooms, z_t_packer_setMinutes, z_t_packer_fits) ∧ mi_X12_pack m_told m_s m_room m_inRest p1 = some (r, z_m_room, z_m_inRest) ∧ rl_I (k + 1) t_text_size t_text_bytes t_score_sections t_score_things t_score_noteTold t_score_toldSection t_score_toldBar t_score_lengths t_score_times t_score_players t_score_minutes t_course_bar t_course_count t_course_waits t_course_cut t_course_struck t_course_known t_course_past t_firstImage_bar t_firstImage_count t_firstImage_waits t_firstImage_cut t_firstImage_struck t_firstImage_known t_firstImage_past t_secondImage_bar t_secondImage_count t_secondImage_waits t_secondImage_cut t_secondImage_struck t_secondImage_known t_secondImage_past t_ear_heard t_ear_laters t_ear_players t_keptImages t_traced m_trace m_typed m_noted m_text m_told m_s m_images m_kept m_notes := by
  obtain ⟨P, hP, hS, hT, hC, hX, hH, hG, hTr⟩ := rl_mono hI
  have h8 := hP.1
  have h6 := hP.2.1
  have hp8 := pow_le_256 h8
  have hpow : 2 ^ pc_nt P ≤ 2 ^ 6 := Nat.pow_le_pow_right (by omega) h6
  have hpos : 0 < 2 ^ pc_nt P := Nat.two_pow_pos _
  obtain ⟨bb, w, c, g1, g2, g3, g4, g5, g6, g7, g8, g9⟩ := hC.1
  have hc : c < 2 ^ 31 := by omega
  have i3 : m_s 3 = nI c := by rw [hC.2.2.2.2.1, g5]
  have hF : jx_F = 100000000 := rfl
  have f2 := ev_inn p1 (-2) (nI (pc_nt P) - 1)
  have hnt1 : (nI (pc_nt P) - 1).toInt = (pc_nt P : Int) - 1 := by
    have := ev_subz (a := pc_nt P) (cnt := 1) (by omega) (by decide) (by decide)
    rw [this]; rfl
  have hm2 : (-2 : Int32).toInt = -2 := by decide
  by_cases hlo : p1 < (-2)
  · have hx : mi_X11_pack t_score_sections t_score_things t_score_lengths t_score_times t_score_players t_score_minutes t_course_cut t_packer_rooms t_packer_setMinutes t_packer_fits p1 = some (-1, t_packer_rooms, t_packer_setMinutes, t_packer_fits) := by
      unfold mi_X11_pack; rw [if_pos hlo]
    have hm : mi_X12_pack m_told m_s m_room m_inRest p1 = some (-1, m_room, m_inRest) := by
      unfold mi_X12_pack
      rw [decide_eq_false (show ¬ (-2 : Int32) ≤ p1 by rw [fa_lt, hm2] at hlo; rw [fa_le, hm2]; omega), Bool.false_and] at f2
      rw [ev_n1, hT.2.1, jx_b1_eq f2, if_pos ev_bf]
    exact ⟨_, _, _, _, _, _, hx, hm, P, hP, hS, hT, hC, hX, hH, hG, hTr⟩
  by_cases hhi : p1 < nI (pc_nt P)
  · have hlo2 : -2 ≤ p1.toInt := by rw [fa_lt, hm2] at hlo; omega
    have hhi2 : p1.toInt < pc_nt P := by rw [fa_lt, nI_toInt (by omega)] at hhi; exact hhi
    rw [decide_eq_true (show (-2 : Int32) ≤ p1 by rw [fa_le, hm2]; omega), decide_eq_true (show p1 ≤ nI (pc_nt P) - 1 by rw [fa_le, hnt1]; omega)] at f2
    obtain ⟨rooms, a1, a2⟩ := ev_findRooms_l2 hP hS hc jx_F 0 t_packer_rooms (by omega) (by omega) (fun q hq => absurd hq (Nat.not_lt_zero q))
    have a1 : mi_X4_findRooms t_packer_rooms t_score_sections t_score_lengths t_score_times t_score_players (nI c) = some rooms := a1
    have hRM : pg_RM (sp_R P c) rooms := fun q hq => ⟨a2 q hq, sp_R_le hP c q⟩
    obtain ⟨sm, b1, hsm⟩ := ev_setMin hP hS jx_F 0 t_packer_setMinutes (by omega) (by omega) (fun U hU => absurd hU (Nat.not_lt_zero U))
    have b1 : mi_X4_findSetMinutes t_packer_setMinutes t_score_things t_score_minutes = some sm := b1
    obtain ⟨fits, d1, d2⟩ := ev_findFits hP hRM hsm (L := 2 ^ pc_nt P - 1) (by omega) t_packer_fits
    have hfit : ∀ S, S < 2 ^ pc_nt P → ∃ r, mi_X4_doesFit fits 0 (nI S) = some r ∧ pg_b r (pg_ok (pc_M P) S.testBit (sp_R P c)) := fun S hS2 => by
      obtain ⟨r, r1, r2⟩ := d2 S (by omega) (by rw [Nat.and_two_pow_sub_one_eq_mod, Nat.mod_eq_of_lt hS2])
      refine ⟨r, r1, ?_⟩
      rcases r2 with ⟨q1, q2⟩ | ⟨q1, q2⟩
      · exact Or.inl ⟨q1, pg_ok_M (fun i _ hb => sp_Mx_in (pg_bit hS2 hb)) q2⟩
      · exact Or.inr ⟨q1, fun z => q2 (pg_ok_M (fun i _ hb => (sp_Mx_in (pg_bit hS2 hb)).symm) z)⟩
    obtain ⟨B, m', rm, ir, e1, e2, e3, e4⟩ := ev_most hP hT hc i3 (p1 := p1) (rooms := rooms) (sm := sm) hfit jx_F jx_F 1 0 m_room m_inRest (by omega) (by omega) (by omega) hpos (pg_ok_none (fun i _ => Nat.zero_testBit i))
    have hmost : mi_X4_mostThings t_packer_rooms t_packer_setMinutes t_packer_fits t_score_sections t_score_things t_score_lengths t_score_times t_score_players t_score_minutes t_course_cut = some (nI B, rooms, sm, fits) := by
      unfold mi_X4_mostThings
      rw [g5, jx_b1_eq a1, jx_b1_eq b1, hS.2.1, ev_pow (by omega), show nI (2 ^ pc_nt P) - 1 = nI (2 ^ pc_nt P - 1) from ev_nsub (b := 1) (by omega) (by omega), jx_b1_eq d1]
      exact e3
    have hmod : ∀ o, mi_X12_pack_l23 m_told m_s p1 (m' + 1) (nI B) (nI (2 ^ pc_nt P)) rm ir = o → mi_X12_pack m_told m_s m_room m_inRest p1 = o := fun o ho => by
      unfold mi_X12_pack
      rw [ev_n1, hT.2.1, jx_b1_eq f2, if_neg (by decide)]
      exact e4.trans ho
    by_cases hm1 : p1 = -1
    · have hx : mi_X11_pack t_score_sections t_score_things t_score_lengths t_score_times t_score_players t_score_minutes t_course_cut t_packer_rooms t_packer_setMinutes t_packer_fits p1 = some (nI (sp_pop B), rooms, sm, fits) := by
        unfold mi_X11_pack
        rw [if_neg hlo, if_pos (show p1 < t_score_things by rw [hS.2.1]; exact hhi), jx_b4_eq hmost, if_pos hm1, jx_b1_eq (ev_bitCount B (by omega))]
      have hm := hmod (some (nI (sp_pop B), rm, ir)) (by
        rw [mi_X12_pack_l23, ev_n1, hT.2.1, ev_pow (by omega), if_pos (nI_le (Nat.le_refl _) (by omega)), if_neg (show ¬ (0 : Int32) ≤ p1 by rw [hm1]; decide), if_pos hm1, jx_b1_eq (ev_ones (by omega))])
      exact ⟨_, _, _, _, _, _, hx, hm, P, hP, hS, hT, hC, hX, hH, hG, hTr⟩
    by_cases hm22 : p1 = -2
    · have hx : mi_X11_pack t_score_sections t_score_things t_score_lengths t_score_times t_score_players t_score_minutes t_course_cut t_packer_rooms t_packer_setMinutes t_packer_fits p1 = some (nI B, rooms, sm, fits) := by
        unfold mi_X11_pack
        rw [if_neg hlo, if_pos (show p1 < t_score_things by rw [hS.2.1]; exact hhi), jx_b4_eq hmost, if_neg hm1, if_pos hm22]
      have hm := hmod (some (nI B, rm, ir)) (by
        rw [mi_X12_pack_l23, ev_n1, hT.2.1, ev_pow (by omega), if_pos (nI_le (Nat.le_refl _) (by omega)), if_neg (show ¬ (0 : Int32) ≤ p1 by rw [hm22]; decide), if_neg hm1])
      exact ⟨_, _, _, _, _, _, hx, hm, P, hP, hS, hT, hC, hX, hH, hG, hTr⟩
    have hp : ∃ p : Nat, p1 = nI p ∧ p < pc_nt P := by
      have q5 : p1.toInt ≠ -1 := fun z => hm1 (Int32.toInt_inj.mp (by rw [z]; decide))
      have q6 : p1.toInt ≠ -2 := fun z => hm22 (Int32.toInt_inj.mp (by rw [z]; decide))
      refine ⟨p1.toInt.toNat, Int32.toInt_inj.mp ?_, by omega⟩
      rw [nI_toInt (by omega)]
      omega
    obtain ⟨p, rfl, hpn⟩ := hp
    obtain ⟨r', rm2, ir2, k1, k2⟩ := ev_fitsM hP hT hc i3 (S := B) e1 rm ir
    rcases k2 with ⟨k3, k4, A, k5, k6⟩ | ⟨-, k4⟩
    · obtain ⟨rooms', fits', n1⟩ := ev_rest_l10 hP hS hsm (B := B) (p := p) e1 hpn (A := A) jx_F 0 (pc_nt P) B (-9) (sp_R P c) rooms fits (by omega) (by omega) (by omega) (by omega) (fun j _ => by unfold pg_fr; rw [decide_eq_true (Nat.zero_le j), Bool.true_and]) hRM k5
      have n1 : mi_X4_restOf rooms sm fits t_score_things t_score_minutes (nI p) (nI B) = some (if B.testBit p then nI (A p) else -9, rooms', fits') := n1
      have hx : mi_X11_pack t_score_sections t_score_things t_score_lengths t_score_times t_score_players t_score_minutes t_course_cut t_packer_rooms t_packer_setMinutes t_packer_fits (nI p) = some (if B.testBit p then nI (A p) else -9, rooms', sm, fits') := by
        unfold mi_X11_pack
        rw [if_neg hlo, if_pos (show nI p < t_score_things by rw [hS.2.1]; exact hhi), jx_b4_eq hmost, if_neg hm1, if_neg hm22, jx_b3_eq n1]
      have hm := hmod (some (if B.testBit p then nI (A p) else -9, rm2, ir2)) (by
        rw [mi_X12_pack_l23, ev_n1, hT.2.1, ev_pow (by omega), if_pos (show nI (2 ^ pc_nt P) ≤ nI (2 ^ pc_nt P) from nI_le (Nat.le_refl _) (by omega)), if_pos (show (0 : Int32) ≤ nI p from nI_pos' (by omega)), jx_b3_eq k1, k3, if_neg ev_1ne0, jx_b1_eq (ev_has (by omega) (by omega))]
        cases hb : B.testBit p
        · rw [if_pos ev_bf, if_neg (by decide)]
        · rw [if_neg ev_bt0, ev_g (ev_in (by omega) (by decide)), ev_cl (by omega), if_pos rfl, k6 p hpn hb])
      exact ⟨_, _, _, _, _, _, hx, hm, P, hP, hS, hT, hC, hX, hH, hG, hTr⟩
    · exact absurd e2 k4
  · have hx : mi_X11_pack t_score_sections t_score_things t_score_lengths t_score_times t_score_players t_score_minutes t_course_cut t_packer_rooms t_packer_setMinutes t_packer_fits p1 = some (-1, t_packer_rooms, t_packer_setMinutes, t_packer_fits) := by
      unfold mi_X11_pack; rw [if_neg hlo, if_neg (show ¬ p1 < t_score_things by rw [hS.2.1]; exact hhi)]
    have hm : mi_X12_pack m_told m_s m_room m_inRest p1 = some (-1, m_room, m_inRest) := by
      unfold mi_X12_pack
      rw [decide_eq_false (show ¬ p1 ≤ nI (pc_nt P) - 1 by rw [fa_lt, nI_toInt (by omega)] at hhi; rw [fa_le, hnt1]; omega), Bool.and_false] at f2
      rw [ev_n1, hT.2.1, jx_b1_eq f2, if_pos ev_bf]
    exact ⟨_, _, _, _, _, _, hx, hm, P, hP, hS, hT, hC, hX, hH, hG, hTr⟩
