/-! written by program (wip/whole/gen.py) out of the printed names: each method as a pure function, and its contract -/
def mi_X12_minutes (t_told : Nat → Int32) (p1 : Int32) : Option (Int32) := jx_g (jx_in ((6 : Int32) + p1) 36) (jx_g (jx_in ((14 : Int32) + p1) 36) (some (((t_told (Int32.toNatClampNeg ((6 : Int32) + p1))) * (t_told (Int32.toNatClampNeg ((14 : Int32) + p1)))))))
abbrev rm_X12_minutes : Room := { frames := 0, cells := 0, slots := 0, locals := 0 }
set_option maxRecDepth 100000 in
set_option maxHeartbeats 4000000 in
theorem ct_X12_minutes (l : Launch) (D : va_G) (cI cZ cO : ClassId) (a_t a_t_text a_t_told a_t_draft a_t_s a_t_images a_t_kept a_t_notes a_t_players a_t_answers a_t_room a_t_inRest : Nat) (t_trace : Int64) (t_typed : Int32) (t_noted : Int32) (t_at : Int32) (t_sort : Int32) (t_start : Int32) (t_value : Int32) (t_told : Nat → Int32) (p1 : Int32) (r : Int32) (hm : mi_X12_minutes t_told p1 = some r) : Met l yX12_minutes wsX12_minutes rm_X12_minutes (va_Pc [.ref a_t, .int p1] (jx_R D (jx_T cI cZ cO) [(a_t, .inr (12, [.long t_trace, .ref a_t_text, .int t_typed, .ref a_t_told, .ref a_t_draft, .ref a_t_s, .ref a_t_images, .ref a_t_kept, .ref a_t_notes, .int t_noted, .int t_at, .int t_sort, .int t_start, .int t_value, .ref a_t_players, .ref a_t_answers, .ref a_t_room, .ref a_t_inRest])), (a_t_told, .inl (cI, 36, .inl t_told))])) (jx_S (some (.int r))) 0 0 (fun _ => False) := by
  refine jx_metR (ty := .int) (own := RX12) (cc := cX12_minutes) (maxL := 2) (by decide) rfl rfl (Nat.le_of_ble_eq_true rfl) ?_
  intro p e s m args below meth c Q ls hx hb hml hown hts hK hN hP hl hret
  have hi_X12 : ∀ w ∈ u_ws RX12 TX12 18, w ∈ wsX12_minutes := by decide +kernel
  have hl : lv_has ls 2 [(0, .ref a_t), (1, .int p1)] := hl
  have h := hm
  unfold mi_X12_minutes at h
  refine lv_aload_n hx hb dX12_minutes_0 rfl (lv_at hl 0 rfl) ?_
  refine va_get (D := D) (ci := 12) (v := .ref a_t_told) (C := RX12) (T := TX12) (N := 18) hx hb hts hi_X12 hown hK hP 0 rfl rfl 3 (by decide) (hts (.fieldLink RX12 13 "TriangleRestModel" "told" "[I") (List.mem_of_getElem? (i := 1) rfl)) (fun _ h9 => h9) rfl dX12_minutes_1 ?_
  refine lv_bipush (v := (6 : Int32)) hx hb dX12_minutes_4 (by decide) ?_
  refine lv_iload_n hx hb dX12_minutes_6 rfl (lv_at hl 1 rfl) ?_
  refine lv_iadd hx hb dX12_minutes_7 ?_
  obtain ⟨g1, h⟩ := jx_g_of h
  refine va_iald hx hb hK hP 1 0 rfl rfl (jx_in_of g1) dX12_minutes_8 ?_
  refine lv_aload_n hx hb dX12_minutes_9 rfl (lv_at hl 0 rfl) ?_
  refine va_get (D := D) (ci := 12) (v := .ref a_t_told) (C := RX12) (T := TX12) (N := 18) hx hb hts hi_X12 hown hK hP 0 rfl rfl 3 (by decide) (hts (.fieldLink RX12 13 "TriangleRestModel" "told" "[I") (List.mem_of_getElem? (i := 1) rfl)) (fun _ h9 => h9) rfl dX12_minutes_10 ?_
  refine lv_bipush (v := (14 : Int32)) hx hb dX12_minutes_13 (by decide) ?_
  refine lv_iload_n hx hb dX12_minutes_15 rfl (lv_at hl 1 rfl) ?_
  refine lv_iadd hx hb dX12_minutes_16 ?_
  obtain ⟨g2, h⟩ := jx_g_of h
  refine va_iald hx hb hK hP 1 0 rfl rfl (jx_in_of g2) dX12_minutes_17 ?_
  refine lv_imul hx hb dX12_minutes_18 ?_
  cases h
  exact hret 19 ls rfl dX12_minutes_19
def mi_X12_ahead_b31 (k_l5 : Int32 → Int32 → Option (Int32)) (x4 : Int32) (k0 : Int32) (k1 : Int32) : Option (Int32) := k_l5 (k0 + k1) (x4 + 1)
def mi_X12_ahead_l5 (t_told : Nat → Int32) (p1 : Int32) (p2 : Int32) : Nat → Int32 → Int32 → Option (Int32)
  | 0, _, _ => none
  | n + 1, x3, x4 => if p1 ≤ x4 then (some (x3)) else (jx_b1 (mi_X12_has p2 x4) fun r2 => (if r2 = 0 then (jx_b1 (mi_X12_minutes t_told x4) fun r5 => (mi_X12_ahead_b31 (mi_X12_ahead_l5 t_told p1 p2 n) x4 x3 r5)) else (mi_X12_ahead_b31 (mi_X12_ahead_l5 t_told p1 p2 n) x4 x3 (0 : Int32))))
def mi_X12_ahead (t_told : Nat → Int32) (p1 : Int32) (p2 : Int32) : Option (Int32) := mi_X12_ahead_l5 t_told p1 p2 jx_F (0 : Int32) (0 : Int32)
abbrev rm_X12_ahead : Room := { frames := 1, cells := 0, slots := 0, locals := 21 }
set_option maxRecDepth 100000 in
set_option maxHeartbeats 4000000 in
theorem ct_X12_ahead (l : Launch) (D : va_G) (cI cZ cO : ClassId) (a_t a_t_text a_t_told a_t_draft a_t_s a_t_images a_t_kept a_t_notes a_t_players a_t_answers a_t_room a_t_inRest : Nat) (t_trace : Int64) (t_typed : Int32) (t_noted : Int32) (t_at : Int32) (t_sort : Int32) (t_start : Int32) (t_value : Int32) (t_told : Nat → Int32) (p1 : Int32) (p2 : Int32) (r : Int32) (hm : mi_X12_ahead t_told p1 p2 = some r) : Met l yX12_ahead wsX12_ahead rm_X12_ahead (va_Pc [.ref a_t, .int p1, .int p2] (jx_R D (jx_T cI cZ cO) [(a_t, .inr (12, [.long t_trace, .ref a_t_text, .int t_typed, .ref a_t_told, .ref a_t_draft, .ref a_t_s, .ref a_t_images, .ref a_t_kept, .ref a_t_notes, .int t_noted, .int t_at, .int t_sort, .int t_start, .int t_value, .ref a_t_players, .ref a_t_answers, .ref a_t_room, .ref a_t_inRest])), (a_t_told, .inl (cI, 36, .inl t_told))])) (jx_S (some (.int r))) 0 0 (fun _ => False) := by
  refine jx_metR (ty := .int) (own := RX12) (cc := cX12_ahead) (maxL := 5) (by decide) rfl rfl (Nat.le_of_ble_eq_true rfl) ?_
  intro p e s m args below meth c Q ls hx hb hml hown hts hK hN hP hl hret
  have hl : lv_has ls 5 [(0, .ref a_t), (1, .int p1), (2, .int p2)] := hl
  have bl_l5 : ∀ (n : Nat) (x3 : Int32) (x4 : Int32) (ls : Array Slot), lv_has ls 5 [(0, .ref a_t), (1, .int p1), (2, .int p2), (3, .int x3), (4, .int x4)] → mi_X12_ahead_l5 t_told p1 p2 n x3 x4 = some r → W p l e (headSpec wsX12_ahead rm_X12_ahead).room s m args below meth c s.heap [] 0 0 Q (F0 m 5 ls []) := by
    intro n
    induction n with
    | zero =>
      intro x3 x4 ls hl h
      rw [mi_X12_ahead_l5] at h
      cases h
    | succ n_l5 ih_l5 =>
      have bl_b31 : ∀ (x4 : Int32) (k0 : Int32) (k1 : Int32) (ls : Array Slot), lv_has ls 5 [(0, .ref a_t), (1, .int p1), (2, .int p2), (4, .int x4)] → mi_X12_ahead_b31 (mi_X12_ahead_l5 t_told p1 p2 n_l5) x4 k0 k1 = some r → W p l e (headSpec wsX12_ahead rm_X12_ahead).room s m args below meth c s.heap [] 0 0 Q (F0 m 31 ls [.int k1, .int k0]) := by
        intro x4 k0 k1 ls hl h
        unfold mi_X12_ahead_b31 at h
        refine lv_iadd hx hb dX12_ahead_31 ?_
        refine lv_istore_n (lv' := [(3, .int (k0 + k1)), (0, .ref a_t), (1, .int p1), (2, .int p2), (4, .int x4)]) hx hb dX12_ahead_32 rfl hl (by decide) rfl (fun ls hl => ?_)
        refine lv_iinc (v := (x4 + 1)) (lv' := [(4, .int (x4 + 1)), (3, .int (k0 + k1)), (0, .ref a_t), (1, .int p1), (2, .int p2)]) hx hb dX12_ahead_33 hl (k := 4) rfl rfl (by decide) rfl (fun ls hl => ?_)
        refine lv_goto (tgt := 5) hx hb dX12_ahead_36 (by decide) ?_
        exact ih_l5 (k0 + k1) (x4 + 1) _ (lv_sub hl [2, 3, 4, 1, 0] rfl) h
      intro x3 x4 ls hl h
      rw [mi_X12_ahead_l5] at h
      refine lv_iload hx hb dX12_ahead_5 (lv_at hl 4 rfl) ?_
      refine lv_iload_n hx hb dX12_ahead_7 rfl (lv_at hl 1 rfl) ?_
      refine lv_icmp_ge (tgt := 39) hx hb dX12_ahead_8 (by decide) (fun c1 => ?_) (fun c1 => ?_)
      · have h := jx_t h c1
        refine lv_iload_n hx hb dX12_ahead_39 rfl (lv_at hl 3 rfl) ?_
        cases h
        exact hret 40 ls rfl dX12_ahead_40
      · have h := jx_f h c1
        refine lv_iload_n hx hb dX12_ahead_11 rfl (lv_at hl 3 rfl) ?_
        refine lv_iload_n hx hb dX12_ahead_12 rfl (lv_at hl 2 rfl) ?_
        refine lv_iload hx hb dX12_ahead_13 (lv_at hl 4 rfl) ?_
        obtain ⟨r2, e3, h⟩ := jx_b1_of h
        refine jx_cS (o := some (.int r2)) (As := [.int p2, .int x4]) (rest := [.int x3]) ⟨hx, hb, hml, hown, hts⟩ (ct_X12_has l p2 x4 r2 e3) (va_cwS 2 hts gX12_ahead_X12_has rfl rfl rfl (by decide +kernel) ⟨Nat.le_of_ble_eq_true rfl, Nat.le_of_ble_eq_true rfl⟩) rfl hl.1 rfl (Nat.le_of_ble_eq_true rfl) dX12_ahead_15 ⟨Nat.zero_le _, Nat.zero_le _⟩ ?_
        refine lv_if_eq (tgt := 25) hx hb dX12_ahead_18 (by decide) (fun c4 => ?_) (fun c4 => ?_)
        · have h := jx_t h c4
          refine lv_aload_n hx hb dX12_ahead_25 rfl (lv_at hl 0 rfl) ?_
          refine lv_iload hx hb dX12_ahead_26 (lv_at hl 4 rfl) ?_
          obtain ⟨r5, e6, h⟩ := jx_b1_of h
          refine jx_cV (o := some (.int r5)) (As := [.int x4]) (rest := [.int x3]) (b := a_t) ⟨hx, hb, hml, hown, hts⟩ (ct_X12_minutes l D cI cZ cO a_t a_t_text a_t_told a_t_draft a_t_s a_t_images a_t_kept a_t_notes a_t_players a_t_answers a_t_room a_t_inRest t_trace t_typed t_noted t_at t_sort t_start t_value t_told x4 r5 e6) (cwV 1 hts gX12_ahead_X12_minutes rfl rfl rfl (by decide +kernel) ⟨Nat.le_of_ble_eq_true rfl, Nat.le_of_ble_eq_true rfl⟩) hK hN hP [0, 1] rfl (va_recv hK hP (ci := 12) (q0 := 0) rfl rfl) rfl hl.1 rfl (Nat.le_of_ble_eq_true rfl) dX12_ahead_28 ⟨Nat.zero_le _, Nat.zero_le _⟩ ?_
          exact bl_b31 x4 x3 r5 _ (lv_sub hl [0, 1, 2, 4] rfl) h
        · have h := jx_f h c4
          refine lv_iconst (v := (0 : Int32)) hx hb dX12_ahead_21 (by decide) ?_
          refine lv_goto (tgt := 31) hx hb dX12_ahead_22 (by decide) ?_
          exact bl_b31 x4 x3 (0 : Int32) _ (lv_sub hl [0, 1, 2, 4] rfl) h
  have h := hm
  unfold mi_X12_ahead at h
  refine lv_iconst (v := (0 : Int32)) hx hb dX12_ahead_0 (by decide) ?_
  refine lv_istore_n (lv' := [(3, .int (0 : Int32)), (0, .ref a_t), (1, .int p1), (2, .int p2)]) hx hb dX12_ahead_1 rfl hl (by decide) rfl (fun ls hl => ?_)
  refine lv_iconst (v := (0 : Int32)) hx hb dX12_ahead_2 (by decide) ?_
  refine lv_istore (lv' := [(4, .int (0 : Int32)), (3, .int (0 : Int32)), (0, .ref a_t), (1, .int p1), (2, .int p2)]) hx hb dX12_ahead_3 hl (by decide) rfl (fun ls hl => ?_)
  exact bl_l5 jx_F (0 : Int32) (0 : Int32) _ (lv_sub hl [2, 3, 4, 1, 0] rfl) h
def mi_X12_length (t_told : Nat → Int32) (t_s : Nat → Int32) : Option (Int32) := jx_b1 (mi_X12_ahead t_told (t_told (Int32.toNatClampNeg (0 : Int32))) (t_s (Int32.toNatClampNeg (3 : Int32)))) fun r1 => (some (r1))
abbrev rm_X12_length : Room := { frames := 2, cells := 0, slots := 0, locals := 45 }
set_option maxRecDepth 100000 in
set_option maxHeartbeats 4000000 in
theorem ct_X12_length (l : Launch) (D : va_G) (cI cZ cO : ClassId) (a_t a_t_text a_t_told a_t_draft a_t_s a_t_images a_t_kept a_t_notes a_t_players a_t_answers a_t_room a_t_inRest : Nat) (t_trace : Int64) (t_typed : Int32) (t_noted : Int32) (t_at : Int32) (t_sort : Int32) (t_start : Int32) (t_value : Int32) (t_told : Nat → Int32) (t_s : Nat → Int32) (r : Int32) (hm : mi_X12_length t_told t_s = some r) : Met l yX12_length wsX12_length rm_X12_length (va_Pc [.ref a_t] (jx_R D (jx_T cI cZ cO) [(a_t, .inr (12, [.long t_trace, .ref a_t_text, .int t_typed, .ref a_t_told, .ref a_t_draft, .ref a_t_s, .ref a_t_images, .ref a_t_kept, .ref a_t_notes, .int t_noted, .int t_at, .int t_sort, .int t_start, .int t_value, .ref a_t_players, .ref a_t_answers, .ref a_t_room, .ref a_t_inRest])), (a_t_told, .inl (cI, 36, .inl t_told)), (a_t_s, .inl (cI, 56, .inl t_s))])) (jx_S (some (.int r))) 0 0 (fun _ => False) := by
  refine jx_metR (ty := .int) (own := RX12) (cc := cX12_length) (maxL := 1) (by decide) rfl rfl (Nat.le_of_ble_eq_true rfl) ?_
  intro p e s m args below meth c Q ls hx hb hml hown hts hK hN hP hl hret
  have hi_X12 : ∀ w ∈ u_ws RX12 TX12 18, w ∈ wsX12_length := by decide +kernel
  have hl : lv_has ls 1 [(0, .ref a_t)] := hl
  have h := hm
  unfold mi_X12_length at h
  refine lv_aload_n hx hb dX12_length_0 rfl (lv_at hl 0 rfl) ?_
  refine lv_aload_n hx hb dX12_length_1 rfl (lv_at hl 0 rfl) ?_
  refine va_get (D := D) (ci := 12) (v := .ref a_t_told) (C := RX12) (T := TX12) (N := 18) hx hb hts hi_X12 hown hK hP 0 rfl rfl 3 (by decide) (hts (.fieldLink RX12 13 "TriangleRestModel" "told" "[I") (List.mem_of_getElem? (i := 1) rfl)) (fun _ h9 => h9) rfl dX12_length_2 ?_
  refine lv_iconst (v := (0 : Int32)) hx hb dX12_length_5 (by decide) ?_
  refine va_iald hx hb hK hP 1 0 rfl rfl (jx_in_of (by decide +kernel)) dX12_length_6 ?_
  refine lv_aload_n hx hb dX12_length_7 rfl (lv_at hl 0 rfl) ?_
  refine va_get (D := D) (ci := 12) (v := .ref a_t_s) (C := RX12) (T := TX12) (N := 18) hx hb hts hi_X12 hown hK hP 0 rfl rfl 5 (by decide) (hts (.fieldLink RX12 19 "TriangleRestModel" "s" "[I") (List.mem_of_getElem? (i := 2) rfl)) (fun _ h9 => h9) rfl dX12_length_8 ?_
  refine lv_iconst (v := (3 : Int32)) hx hb dX12_length_11 (by decide) ?_
  refine va_iald hx hb hK hP 2 0 rfl rfl (jx_in_of (by decide +kernel)) dX12_length_12 ?_
  obtain ⟨r1, e2, h⟩ := jx_b1_of h
  refine jx_cV (o := some (.int r1)) (As := [.int (t_told (Int32.toNatClampNeg (0 : Int32))), .int (t_s (Int32.toNatClampNeg (3 : Int32)))]) (rest := []) (b := a_t) ⟨hx, hb, hml, hown, hts⟩ (ct_X12_ahead l D cI cZ cO a_t a_t_text a_t_told a_t_draft a_t_s a_t_images a_t_kept a_t_notes a_t_players a_t_answers a_t_room a_t_inRest t_trace t_typed t_noted t_at t_sort t_start t_value t_told (t_told (Int32.toNatClampNeg (0 : Int32))) (t_s (Int32.toNatClampNeg (3 : Int32))) r1 e2) (cwV 2 hts gX12_length_X12_ahead rfl rfl rfl (by decide +kernel) ⟨Nat.le_of_ble_eq_true rfl, Nat.le_of_ble_eq_true rfl⟩) hK hN hP [0, 1] rfl (va_recv hK hP (ci := 12) (q0 := 0) rfl rfl) rfl hl.1 rfl (Nat.le_of_ble_eq_true rfl) dX12_length_13 ⟨Nat.zero_le _, Nat.zero_le _⟩ ?_
  cases h
  exact hret 16 ls rfl dX12_length_16
def mi_X12_first (t_told : Nat → Int32) (t_s : Nat → Int32) (p1 : Int32) : Option (Int32) := jx_b1 (mi_X12_has (t_s (Int32.toNatClampNeg (3 : Int32))) p1) fun r1 => (if r1 = 0 then (jx_b1 (mi_X12_ahead t_told p1 (t_s (Int32.toNatClampNeg (3 : Int32)))) fun r4 => (some (r4))) else (some ((-9 : Int32))))
abbrev rm_X12_first : Room := { frames := 2, cells := 0, slots := 0, locals := 45 }
set_option maxRecDepth 100000 in
set_option maxHeartbeats 4000000 in
theorem ct_X12_first (l : Launch) (D : va_G) (cI cZ cO : ClassId) (a_t a_t_text a_t_told a_t_draft a_t_s a_t_images a_t_kept a_t_notes a_t_players a_t_answers a_t_room a_t_inRest : Nat) (t_trace : Int64) (t_typed : Int32) (t_noted : Int32) (t_at : Int32) (t_sort : Int32) (t_start : Int32) (t_value : Int32) (t_told : Nat → Int32) (t_s : Nat → Int32) (p1 : Int32) (r : Int32) (hm : mi_X12_first t_told t_s p1 = some r) : Met l yX12_first wsX12_first rm_X12_first (va_Pc [.ref a_t, .int p1] (jx_R D (jx_T cI cZ cO) [(a_t, .inr (12, [.long t_trace, .ref a_t_text, .int t_typed, .ref a_t_told, .ref a_t_draft, .ref a_t_s, .ref a_t_images, .ref a_t_kept, .ref a_t_notes, .int t_noted, .int t_at, .int t_sort, .int t_start, .int t_value, .ref a_t_players, .ref a_t_answers, .ref a_t_room, .ref a_t_inRest])), (a_t_told, .inl (cI, 36, .inl t_told)), (a_t_s, .inl (cI, 56, .inl t_s))])) (jx_S (some (.int r))) 0 0 (fun _ => False) := by
  refine jx_metR (ty := .int) (own := RX12) (cc := cX12_first) (maxL := 2) (by decide) rfl rfl (Nat.le_of_ble_eq_true rfl) ?_
  intro p e s m args below meth c Q ls hx hb hml hown hts hK hN hP hl hret
  have hi_X12 : ∀ w ∈ u_ws RX12 TX12 18, w ∈ wsX12_first := by decide +kernel
  have hl : lv_has ls 2 [(0, .ref a_t), (1, .int p1)] := hl
  have h := hm
  unfold mi_X12_first at h
  refine lv_aload_n hx hb dX12_first_0 rfl (lv_at hl 0 rfl) ?_
  refine va_get (D := D) (ci := 12) (v := .ref a_t_s) (C := RX12) (T := TX12) (N := 18) hx hb hts hi_X12 hown hK hP 0 rfl rfl 5 (by decide) (hts (.fieldLink RX12 19 "TriangleRestModel" "s" "[I") (List.mem_of_getElem? (i := 1) rfl)) (fun _ h9 => h9) rfl dX12_first_1 ?_
  refine lv_iconst (v := (3 : Int32)) hx hb dX12_first_4 (by decide) ?_
  refine va_iald hx hb hK hP 2 0 rfl rfl (jx_in_of (by decide +kernel)) dX12_first_5 ?_
  refine lv_iload_n hx hb dX12_first_6 rfl (lv_at hl 1 rfl) ?_
  obtain ⟨r1, e2, h⟩ := jx_b1_of h
  refine jx_cS (o := some (.int r1)) (As := [.int (t_s (Int32.toNatClampNeg (3 : Int32))), .int p1]) (rest := []) ⟨hx, hb, hml, hown, hts⟩ (ct_X12_has l (t_s (Int32.toNatClampNeg (3 : Int32))) p1 r1 e2) (va_cwS 2 hts gX12_first_X12_has rfl rfl rfl (by decide +kernel) ⟨Nat.le_of_ble_eq_true rfl, Nat.le_of_ble_eq_true rfl⟩) rfl hl.1 rfl (Nat.le_of_ble_eq_true rfl) dX12_first_7 ⟨Nat.zero_le _, Nat.zero_le _⟩ ?_
  refine lv_if_eq (tgt := 18) hx hb dX12_first_10 (by decide) (fun c3 => ?_) (fun c3 => ?_)
  · have h := jx_t h c3
    refine lv_aload_n hx hb dX12_first_18 rfl (lv_at hl 0 rfl) ?_
    refine lv_iload_n hx hb dX12_first_19 rfl (lv_at hl 1 rfl) ?_
    refine lv_aload_n hx hb dX12_first_20 rfl (lv_at hl 0 rfl) ?_
    refine va_get (D := D) (ci := 12) (v := .ref a_t_s) (C := RX12) (T := TX12) (N := 18) hx hb hts hi_X12 hown hK hP 0 rfl rfl 5 (by decide) (hts (.fieldLink RX12 19 "TriangleRestModel" "s" "[I") (List.mem_of_getElem? (i := 1) rfl)) (fun _ h9 => h9) rfl dX12_first_21 ?_
    refine lv_iconst (v := (3 : Int32)) hx hb dX12_first_24 (by decide) ?_
    refine va_iald hx hb hK hP 2 0 rfl rfl (jx_in_of (by decide +kernel)) dX12_first_25 ?_
    obtain ⟨r4, e5, h⟩ := jx_b1_of h
    refine jx_cV (o := some (.int r4)) (As := [.int p1, .int (t_s (Int32.toNatClampNeg (3 : Int32)))]) (rest := []) (b := a_t) ⟨hx, hb, hml, hown, hts⟩ (ct_X12_ahead l D cI cZ cO a_t a_t_text a_t_told a_t_draft a_t_s a_t_images a_t_kept a_t_notes a_t_players a_t_answers a_t_room a_t_inRest t_trace t_typed t_noted t_at t_sort t_start t_value t_told p1 (t_s (Int32.toNatClampNeg (3 : Int32))) r4 e5) (cwV 2 hts gX12_first_X12_ahead rfl rfl rfl (by decide +kernel) ⟨Nat.le_of_ble_eq_true rfl, Nat.le_of_ble_eq_true rfl⟩) hK hN hP [0, 1] rfl (va_recv hK hP (ci := 12) (q0 := 0) rfl rfl) rfl hl.1 rfl (Nat.le_of_ble_eq_true rfl) dX12_first_26 ⟨Nat.zero_le _, Nat.zero_le _⟩ ?_
    cases h
    exact hret 29 ls rfl dX12_first_29
  · have h := jx_f h c3
    refine lv_bipush (v := (-9 : Int32)) hx hb dX12_first_13 (by decide) ?_
    refine lv_goto (tgt := 29) hx hb dX12_first_15 (by decide) ?_
    cases h
    exact hret 29 ls rfl dX12_first_29
def mi_X12_noteBar (t_told : Nat → Int32) (p1 : Int32) : Option (Int32) := jx_b1 (mi_X12_ahead t_told (t_told (Int32.toNatClampNeg (4 : Int32))) p1) fun r1 => (jx_b1 (mi_X12_minutes t_told (t_told (Int32.toNatClampNeg (4 : Int32)))) fun r3 => (jx_g (jx_in ((6 : Int32) + (t_told (Int32.toNatClampNeg (4 : Int32)))) 36) (some ((((r1 + r3) - (t_told (Int32.toNatClampNeg ((6 : Int32) + (t_told (Int32.toNatClampNeg (4 : Int32))))))) + (t_told (Int32.toNatClampNeg (5 : Int32))))))))
abbrev rm_X12_noteBar : Room := { frames := 2, cells := 0, slots := 0, locals := 45 }
set_option maxRecDepth 100000 in
set_option maxHeartbeats 4000000 in
theorem ct_X12_noteBar (l : Launch) (D : va_G) (cI cZ cO : ClassId) (a_t a_t_text a_t_told a_t_draft a_t_s a_t_images a_t_kept a_t_notes a_t_players a_t_answers a_t_room a_t_inRest : Nat) (t_trace : Int64) (t_typed : Int32) (t_noted : Int32) (t_at : Int32) (t_sort : Int32) (t_start : Int32) (t_value : Int32) (t_told : Nat → Int32) (p1 : Int32) (r : Int32) (hm : mi_X12_noteBar t_told p1 = some r) : Met l yX12_noteBar wsX12_noteBar rm_X12_noteBar (va_Pc [.ref a_t, .int p1] (jx_R D (jx_T cI cZ cO) [(a_t, .inr (12, [.long t_trace, .ref a_t_text, .int t_typed, .ref a_t_told, .ref a_t_draft, .ref a_t_s, .ref a_t_images, .ref a_t_kept, .ref a_t_notes, .int t_noted, .int t_at, .int t_sort, .int t_start, .int t_value, .ref a_t_players, .ref a_t_answers, .ref a_t_room, .ref a_t_inRest])), (a_t_told, .inl (cI, 36, .inl t_told))])) (jx_S (some (.int r))) 0 0 (fun _ => False) := by
  refine jx_metR (ty := .int) (own := RX12) (cc := cX12_noteBar) (maxL := 3) (by decide) rfl rfl (Nat.le_of_ble_eq_true rfl) ?_
  intro p e s m args below meth c Q ls hx hb hml hown hts hK hN hP hl hret
  have hi_X12 : ∀ w ∈ u_ws RX12 TX12 18, w ∈ wsX12_noteBar := by decide +kernel
  have hl : lv_has ls 3 [(0, .ref a_t), (1, .int p1)] := hl
  have h := hm
  unfold mi_X12_noteBar at h
  refine lv_aload_n hx hb dX12_noteBar_0 rfl (lv_at hl 0 rfl) ?_
  refine va_get (D := D) (ci := 12) (v := .ref a_t_told) (C := RX12) (T := TX12) (N := 18) hx hb hts hi_X12 hown hK hP 0 rfl rfl 3 (by decide) (hts (.fieldLink RX12 13 "TriangleRestModel" "told" "[I") (List.mem_of_getElem? (i := 1) rfl)) (fun _ h9 => h9) rfl dX12_noteBar_1 ?_
  refine lv_iconst (v := (4 : Int32)) hx hb dX12_noteBar_4 (by decide) ?_
  refine va_iald hx hb hK hP 1 0 rfl rfl (jx_in_of (by decide +kernel)) dX12_noteBar_5 ?_
  refine lv_istore_n (lv' := [(2, .int (t_told (Int32.toNatClampNeg (4 : Int32)))), (0, .ref a_t), (1, .int p1)]) hx hb dX12_noteBar_6 rfl hl (by decide) rfl (fun ls hl => ?_)
  refine lv_aload_n hx hb dX12_noteBar_7 rfl (lv_at hl 1 rfl) ?_
  refine lv_iload_n hx hb dX12_noteBar_8 rfl (lv_at hl 0 rfl) ?_
  refine lv_iload_n hx hb dX12_noteBar_9 rfl (lv_at hl 2 rfl) ?_
  obtain ⟨r1, e2, h⟩ := jx_b1_of h
  refine jx_cV (o := some (.int r1)) (As := [.int (t_told (Int32.toNatClampNeg (4 : Int32))), .int p1]) (rest := []) (b := a_t) ⟨hx, hb, hml, hown, hts⟩ (ct_X12_ahead l D cI cZ cO a_t a_t_text a_t_told a_t_draft a_t_s a_t_images a_t_kept a_t_notes a_t_players a_t_answers a_t_room a_t_inRest t_trace t_typed t_noted t_at t_sort t_start t_value t_told (t_told (Int32.toNatClampNeg (4 : Int32))) p1 r1 e2) (cwV 2 hts gX12_noteBar_X12_ahead rfl rfl rfl (by decide +kernel) ⟨Nat.le_of_ble_eq_true rfl, Nat.le_of_ble_eq_true rfl⟩) hK hN hP [0, 1] rfl (va_recv hK hP (ci := 12) (q0 := 0) rfl rfl) rfl hl.1 rfl (Nat.le_of_ble_eq_true rfl) dX12_noteBar_10 ⟨Nat.zero_le _, Nat.zero_le _⟩ ?_
  refine lv_aload_n hx hb dX12_noteBar_13 rfl (lv_at hl 1 rfl) ?_
  refine lv_iload_n hx hb dX12_noteBar_14 rfl (lv_at hl 0 rfl) ?_
  obtain ⟨r3, e4, h⟩ := jx_b1_of h
  refine jx_cV (o := some (.int r3)) (As := [.int (t_told (Int32.toNatClampNeg (4 : Int32)))]) (rest := [.int r1]) (b := a_t) ⟨hx, hb, hml, hown, hts⟩ (ct_X12_minutes l D cI cZ cO a_t a_t_text a_t_told a_t_draft a_t_s a_t_images a_t_kept a_t_notes a_t_players a_t_answers a_t_room a_t_inRest t_trace t_typed t_noted t_at t_sort t_start t_value t_told (t_told (Int32.toNatClampNeg (4 : Int32))) r3 e4) (cwV 1 hts gX12_noteBar_X12_minutes rfl rfl rfl (by decide +kernel) ⟨Nat.le_of_ble_eq_true rfl, Nat.le_of_ble_eq_true rfl⟩) hK hN hP [0, 1] rfl (va_recv hK hP (ci := 12) (q0 := 0) rfl rfl) rfl hl.1 rfl (Nat.le_of_ble_eq_true rfl) dX12_noteBar_15 ⟨Nat.zero_le _, Nat.zero_le _⟩ ?_
  refine lv_iadd hx hb dX12_noteBar_18 ?_
  refine lv_aload_n hx hb dX12_noteBar_19 rfl (lv_at hl 1 rfl) ?_
  refine va_get (D := D) (ci := 12) (v := .ref a_t_told) (C := RX12) (T := TX12) (N := 18) hx hb hts hi_X12 hown hK hP 0 rfl rfl 3 (by decide) (hts (.fieldLink RX12 13 "TriangleRestModel" "told" "[I") (List.mem_of_getElem? (i := 1) rfl)) (fun _ h9 => h9) rfl dX12_noteBar_20 ?_
  refine lv_bipush (v := (6 : Int32)) hx hb dX12_noteBar_23 (by decide) ?_
  refine lv_iload_n hx hb dX12_noteBar_25 rfl (lv_at hl 0 rfl) ?_
  refine lv_iadd hx hb dX12_noteBar_26 ?_
  obtain ⟨g5, h⟩ := jx_g_of h
  refine va_iald hx hb hK hP 1 0 rfl rfl (jx_in_of g5) dX12_noteBar_27 ?_
  refine lv_isub hx hb dX12_noteBar_28 ?_
  refine lv_aload_n hx hb dX12_noteBar_29 rfl (lv_at hl 1 rfl) ?_
  refine va_get (D := D) (ci := 12) (v := .ref a_t_told) (C := RX12) (T := TX12) (N := 18) hx hb hts hi_X12 hown hK hP 0 rfl rfl 3 (by decide) (hts (.fieldLink RX12 13 "TriangleRestModel" "told" "[I") (List.mem_of_getElem? (i := 1) rfl)) (fun _ h9 => h9) rfl dX12_noteBar_30 ?_
  refine lv_iconst (v := (5 : Int32)) hx hb dX12_noteBar_33 (by decide) ?_
  refine va_iald hx hb hK hP 1 0 rfl rfl (jx_in_of (by decide +kernel)) dX12_noteBar_34 ?_
  refine lv_iadd hx hb dX12_noteBar_35 ?_
  cases h
  exact hret 36 ls rfl dX12_noteBar_36
def mi_X12_mayCut (t_told : Nat → Int32) (t_s : Nat → Int32) (p1 : Int32) : Option (Int32) := jx_b1 (mi_X12_has (t_s (Int32.toNatClampNeg (3 : Int32))) p1) fun r1 => (if r1 = 0 then (if p1 = (t_told (Int32.toNatClampNeg (4 : Int32))) then (some ((0 : Int32))) else (jx_b1 (mi_X12_first t_told t_s p1) fun r5 => (if r5 < (t_s (Int32.toNatClampNeg (0 : Int32))) then (some ((0 : Int32))) else (some ((1 : Int32)))))) else (some ((0 : Int32))))
abbrev rm_X12_mayCut : Room := { frames := 3, cells := 0, slots := 0, locals := 66 }
set_option maxRecDepth 100000 in
set_option maxHeartbeats 4000000 in
theorem ct_X12_mayCut (l : Launch) (D : va_G) (cI cZ cO : ClassId) (a_t a_t_text a_t_told a_t_draft a_t_s a_t_images a_t_kept a_t_notes a_t_players a_t_answers a_t_room a_t_inRest : Nat) (t_trace : Int64) (t_typed : Int32) (t_noted : Int32) (t_at : Int32) (t_sort : Int32) (t_start : Int32) (t_value : Int32) (t_told : Nat → Int32) (t_s : Nat → Int32) (p1 : Int32) (r : Int32) (hm : mi_X12_mayCut t_told t_s p1 = some r) : Met l yX12_mayCut wsX12_mayCut rm_X12_mayCut (va_Pc [.ref a_t, .int p1] (jx_R D (jx_T cI cZ cO) [(a_t, .inr (12, [.long t_trace, .ref a_t_text, .int t_typed, .ref a_t_told, .ref a_t_draft, .ref a_t_s, .ref a_t_images, .ref a_t_kept, .ref a_t_notes, .int t_noted, .int t_at, .int t_sort, .int t_start, .int t_value, .ref a_t_players, .ref a_t_answers, .ref a_t_room, .ref a_t_inRest])), (a_t_told, .inl (cI, 36, .inl t_told)), (a_t_s, .inl (cI, 56, .inl t_s))])) (jx_S (some (.int r))) 0 0 (fun _ => False) := by
  refine jx_metR (ty := .boolean) (own := RX12) (cc := cX12_mayCut) (maxL := 2) (by decide) rfl rfl (Nat.le_of_ble_eq_true rfl) ?_
  intro p e s m args below meth c Q ls hx hb hml hown hts hK hN hP hl hret
  have hi_X12 : ∀ w ∈ u_ws RX12 TX12 18, w ∈ wsX12_mayCut := by decide +kernel
  have hl : lv_has ls 2 [(0, .ref a_t), (1, .int p1)] := hl
  have h := hm
  unfold mi_X12_mayCut at h
  refine lv_aload_n hx hb dX12_mayCut_0 rfl (lv_at hl 0 rfl) ?_
  refine va_get (D := D) (ci := 12) (v := .ref a_t_s) (C := RX12) (T := TX12) (N := 18) hx hb hts hi_X12 hown hK hP 0 rfl rfl 5 (by decide) (hts (.fieldLink RX12 19 "TriangleRestModel" "s" "[I") (List.mem_of_getElem? (i := 1) rfl)) (fun _ h9 => h9) rfl dX12_mayCut_1 ?_
  refine lv_iconst (v := (3 : Int32)) hx hb dX12_mayCut_4 (by decide) ?_
  refine va_iald hx hb hK hP 2 0 rfl rfl (jx_in_of (by decide +kernel)) dX12_mayCut_5 ?_
  refine lv_iload_n hx hb dX12_mayCut_6 rfl (lv_at hl 1 rfl) ?_
  obtain ⟨r1, e2, h⟩ := jx_b1_of h
  refine jx_cS (o := some (.int r1)) (As := [.int (t_s (Int32.toNatClampNeg (3 : Int32))), .int p1]) (rest := []) ⟨hx, hb, hml, hown, hts⟩ (ct_X12_has l (t_s (Int32.toNatClampNeg (3 : Int32))) p1 r1 e2) (va_cwS 2 hts gX12_mayCut_X12_has rfl rfl rfl (by decide +kernel) ⟨Nat.le_of_ble_eq_true rfl, Nat.le_of_ble_eq_true rfl⟩) rfl hl.1 rfl (Nat.le_of_ble_eq_true rfl) dX12_mayCut_7 ⟨Nat.zero_le _, Nat.zero_le _⟩ ?_
  refine lv_if_ne (tgt := 41) hx hb dX12_mayCut_10 (by decide) (fun c3 => ?_) (fun c3 => ?_)
  · have h := jx_f h c3
    refine lv_iconst (v := (0 : Int32)) hx hb dX12_mayCut_41 (by decide) ?_
    cases h
    exact hret 42 ls rfl dX12_mayCut_42
  · have h := jx_t h c3
    refine lv_iload_n hx hb dX12_mayCut_13 rfl (lv_at hl 1 rfl) ?_
    refine lv_aload_n hx hb dX12_mayCut_14 rfl (lv_at hl 0 rfl) ?_
    refine va_get (D := D) (ci := 12) (v := .ref a_t_told) (C := RX12) (T := TX12) (N := 18) hx hb hts hi_X12 hown hK hP 0 rfl rfl 3 (by decide) (hts (.fieldLink RX12 13 "TriangleRestModel" "told" "[I") (List.mem_of_getElem? (i := 2) rfl)) (fun _ h9 => h9) rfl dX12_mayCut_15 ?_
    refine lv_iconst (v := (4 : Int32)) hx hb dX12_mayCut_18 (by decide) ?_
    refine va_iald hx hb hK hP 1 0 rfl rfl (jx_in_of (by decide +kernel)) dX12_mayCut_19 ?_
    refine lv_icmp_eq (tgt := 41) hx hb dX12_mayCut_20 (by decide) (fun c4 => ?_) (fun c4 => ?_)
    · have h := jx_t h c4
      refine lv_iconst (v := (0 : Int32)) hx hb dX12_mayCut_41 (by decide) ?_
      cases h
      exact hret 42 ls rfl dX12_mayCut_42
    · have h := jx_f h c4
      refine lv_aload_n hx hb dX12_mayCut_23 rfl (lv_at hl 0 rfl) ?_
      refine lv_iload_n hx hb dX12_mayCut_24 rfl (lv_at hl 1 rfl) ?_
      obtain ⟨r5, e6, h⟩ := jx_b1_of h
      refine jx_cV (o := some (.int r5)) (As := [.int p1]) (rest := []) (b := a_t) ⟨hx, hb, hml, hown, hts⟩ (ct_X12_first l D cI cZ cO a_t a_t_text a_t_told a_t_draft a_t_s a_t_images a_t_kept a_t_notes a_t_players a_t_answers a_t_room a_t_inRest t_trace t_typed t_noted t_at t_sort t_start t_value t_told t_s p1 r5 e6) (cwV 1 hts gX12_mayCut_X12_first rfl rfl rfl (by decide +kernel) ⟨Nat.le_of_ble_eq_true rfl, Nat.le_of_ble_eq_true rfl⟩) hK hN hP [0, 1, 2] rfl (va_recv hK hP (ci := 12) (q0 := 0) rfl rfl) rfl hl.1 rfl (Nat.le_of_ble_eq_true rfl) dX12_mayCut_25 ⟨Nat.zero_le _, Nat.zero_le _⟩ ?_
      refine lv_aload_n hx hb dX12_mayCut_28 rfl (lv_at hl 0 rfl) ?_
      refine va_get (D := D) (ci := 12) (v := .ref a_t_s) (C := RX12) (T := TX12) (N := 18) hx hb hts hi_X12 hown hK hP 0 rfl rfl 5 (by decide) (hts (.fieldLink RX12 19 "TriangleRestModel" "s" "[I") (List.mem_of_getElem? (i := 1) rfl)) (fun _ h9 => h9) rfl dX12_mayCut_29 ?_
      refine lv_iconst (v := (0 : Int32)) hx hb dX12_mayCut_32 (by decide) ?_
      refine va_iald hx hb hK hP 2 0 rfl rfl (jx_in_of (by decide +kernel)) dX12_mayCut_33 ?_
      refine lv_icmp_lt (tgt := 41) hx hb dX12_mayCut_34 (by decide) (fun c7 => ?_) (fun c7 => ?_)
      · have h := jx_t h c7
        refine lv_iconst (v := (0 : Int32)) hx hb dX12_mayCut_41 (by decide) ?_
        cases h
        exact hret 42 ls rfl dX12_mayCut_42
      · have h := jx_f h c7
        refine lv_iconst (v := (1 : Int32)) hx hb dX12_mayCut_37 (by decide) ?_
        refine lv_goto (tgt := 42) hx hb dX12_mayCut_38 (by decide) ?_
        cases h
        exact hret 42 ls rfl dX12_mayCut_42
def mi_X12_allThatMay_b30 (k_l4 : Int32 → Int32 → Option (Int32)) (x2 : Int32) (k0 : Int32) (k1 : Int32) : Option (Int32) := k_l4 (k0 ||| k1) (x2 + 1)
def mi_X12_allThatMay_l4 (t_told : Nat → Int32) (t_s : Nat → Int32) : Nat → Int32 → Int32 → Option (Int32)
  | 0, _, _ => none
  | n + 1, x1, x2 => if (t_told (Int32.toNatClampNeg (0 : Int32))) ≤ x2 then (some (x1)) else (jx_b1 (mi_X12_mayCut t_told t_s x2) fun r2 => (if r2 = 0 then (mi_X12_allThatMay_b30 (mi_X12_allThatMay_l4 t_told t_s n) x2 x1 (0 : Int32)) else (mi_X12_allThatMay_b30 (mi_X12_allThatMay_l4 t_told t_s n) x2 x1 ((1 : Int32) <<< (x2 &&& 31)))))
def mi_X12_allThatMay (t_told : Nat → Int32) (t_s : Nat → Int32) : Option (Int32) := mi_X12_allThatMay_l4 t_told t_s jx_F (0 : Int32) (0 : Int32)
abbrev rm_X12_allThatMay : Room := { frames := 4, cells := 0, slots := 0, locals := 87 }
set_option maxRecDepth 100000 in
set_option maxHeartbeats 4000000 in
theorem ct_X12_allThatMay (l : Launch) (D : va_G) (cI cZ cO : ClassId) (a_t a_t_text a_t_told a_t_draft a_t_s a_t_images a_t_kept a_t_notes a_t_players a_t_answers a_t_room a_t_inRest : Nat) (t_trace : Int64) (t_typed : Int32) (t_noted : Int32) (t_at : Int32) (t_sort : Int32) (t_start : Int32) (t_value : Int32) (t_told : Nat → Int32) (t_s : Nat → Int32) (r : Int32) (hm : mi_X12_allThatMay t_told t_s = some r) : Met l yX12_allThatMay wsX12_allThatMay rm_X12_allThatMay (va_Pc [.ref a_t] (jx_R D (jx_T cI cZ cO) [(a_t, .inr (12, [.long t_trace, .ref a_t_text, .int t_typed, .ref a_t_told, .ref a_t_draft, .ref a_t_s, .ref a_t_images, .ref a_t_kept, .ref a_t_notes, .int t_noted, .int t_at, .int t_sort, .int t_start, .int t_value, .ref a_t_players, .ref a_t_answers, .ref a_t_room, .ref a_t_inRest])), (a_t_told, .inl (cI, 36, .inl t_told)), (a_t_s, .inl (cI, 56, .inl t_s))])) (jx_S (some (.int r))) 0 0 (fun _ => False) := by
  refine jx_metR (ty := .int) (own := RX12) (cc := cX12_allThatMay) (maxL := 3) (by decide) rfl rfl (Nat.le_of_ble_eq_true rfl) ?_
  intro p e s m args below meth c Q ls hx hb hml hown hts hK hN hP hl hret
  have hi_X12 : ∀ w ∈ u_ws RX12 TX12 18, w ∈ wsX12_allThatMay := by decide +kernel
  have hl : lv_has ls 3 [(0, .ref a_t)] := hl
  have bl_l4 : ∀ (n : Nat) (x1 : Int32) (x2 : Int32) (ls : Array Slot), lv_has ls 3 [(0, .ref a_t), (1, .int x1), (2, .int x2)] → mi_X12_allThatMay_l4 t_told t_s n x1 x2 = some r → W p l e (headSpec wsX12_allThatMay rm_X12_allThatMay).room s m args below meth c s.heap [] 0 0 Q (F0 m 4 ls []) := by
    intro n
    induction n with
    | zero =>
      intro x1 x2 ls hl h
      rw [mi_X12_allThatMay_l4] at h
      cases h
    | succ n_l4 ih_l4 =>
      have bl_b30 : ∀ (x2 : Int32) (k0 : Int32) (k1 : Int32) (ls : Array Slot), lv_has ls 3 [(0, .ref a_t), (2, .int x2)] → mi_X12_allThatMay_b30 (mi_X12_allThatMay_l4 t_told t_s n_l4) x2 k0 k1 = some r → W p l e (headSpec wsX12_allThatMay rm_X12_allThatMay).room s m args below meth c s.heap [] 0 0 Q (F0 m 30 ls [.int k1, .int k0]) := by
        intro x2 k0 k1 ls hl h
        unfold mi_X12_allThatMay_b30 at h
        refine lv_ior hx hb dX12_allThatMay_30 ?_
        refine lv_istore_n (lv' := [(1, .int (k0 ||| k1)), (0, .ref a_t), (2, .int x2)]) hx hb dX12_allThatMay_31 rfl hl (by decide) rfl (fun ls hl => ?_)
        refine lv_iinc (v := (x2 + 1)) (lv' := [(2, .int (x2 + 1)), (1, .int (k0 ||| k1)), (0, .ref a_t)]) hx hb dX12_allThatMay_32 hl (k := 2) rfl rfl (by decide) rfl (fun ls hl => ?_)
        refine lv_goto (tgt := 4) hx hb dX12_allThatMay_35 (by decide) ?_
        exact ih_l4 (k0 ||| k1) (x2 + 1) _ (lv_sub hl [2, 1, 0] rfl) h
      intro x1 x2 ls hl h
      rw [mi_X12_allThatMay_l4] at h
      refine lv_iload_n hx hb dX12_allThatMay_4 rfl (lv_at hl 2 rfl) ?_
      refine lv_aload_n hx hb dX12_allThatMay_5 rfl (lv_at hl 0 rfl) ?_
      refine va_get (D := D) (ci := 12) (v := .ref a_t_told) (C := RX12) (T := TX12) (N := 18) hx hb hts hi_X12 hown hK hP 0 rfl rfl 3 (by decide) (hts (.fieldLink RX12 13 "TriangleRestModel" "told" "[I") (List.mem_of_getElem? (i := 1) rfl)) (fun _ h9 => h9) rfl dX12_allThatMay_6 ?_
      refine lv_iconst (v := (0 : Int32)) hx hb dX12_allThatMay_9 (by decide) ?_
      refine va_iald hx hb hK hP 1 0 rfl rfl (jx_in_of (by decide +kernel)) dX12_allThatMay_10 ?_
      refine lv_icmp_ge (tgt := 38) hx hb dX12_allThatMay_11 (by decide) (fun c1 => ?_) (fun c1 => ?_)
      · have h := jx_t h c1
        refine lv_iload_n hx hb dX12_allThatMay_38 rfl (lv_at hl 1 rfl) ?_
        cases h
        exact hret 39 ls rfl dX12_allThatMay_39
      · have h := jx_f h c1
        refine lv_iload_n hx hb dX12_allThatMay_14 rfl (lv_at hl 1 rfl) ?_
        refine lv_aload_n hx hb dX12_allThatMay_15 rfl (lv_at hl 0 rfl) ?_
        refine lv_iload_n hx hb dX12_allThatMay_16 rfl (lv_at hl 2 rfl) ?_
        obtain ⟨r2, e3, h⟩ := jx_b1_of h
        refine jx_cV (o := some (.int r2)) (As := [.int x2]) (rest := [.int x1]) (b := a_t) ⟨hx, hb, hml, hown, hts⟩ (ct_X12_mayCut l D cI cZ cO a_t a_t_text a_t_told a_t_draft a_t_s a_t_images a_t_kept a_t_notes a_t_players a_t_answers a_t_room a_t_inRest t_trace t_typed t_noted t_at t_sort t_start t_value t_told t_s x2 r2 e3) (cwV 1 hts gX12_allThatMay_X12_mayCut rfl rfl rfl (by decide +kernel) ⟨Nat.le_of_ble_eq_true rfl, Nat.le_of_ble_eq_true rfl⟩) hK hN hP [0, 1, 2] rfl (va_recv hK hP (ci := 12) (q0 := 0) rfl rfl) rfl hl.1 rfl (Nat.le_of_ble_eq_true rfl) dX12_allThatMay_17 ⟨Nat.zero_le _, Nat.zero_le _⟩ ?_
        refine lv_if_eq (tgt := 29) hx hb dX12_allThatMay_20 (by decide) (fun c4 => ?_) (fun c4 => ?_)
        · have h := jx_t h c4
          refine lv_iconst (v := (0 : Int32)) hx hb dX12_allThatMay_29 (by decide) ?_
          exact bl_b30 x2 x1 (0 : Int32) _ (lv_sub hl [0, 2] rfl) h
        · have h := jx_f h c4
          refine lv_iconst (v := (1 : Int32)) hx hb dX12_allThatMay_23 (by decide) ?_
          refine lv_iload_n hx hb dX12_allThatMay_24 rfl (lv_at hl 2 rfl) ?_
          refine lv_ishl hx hb dX12_allThatMay_25 ?_
          refine lv_goto (tgt := 30) hx hb dX12_allThatMay_26 (by decide) ?_
          exact bl_b30 x2 x1 ((1 : Int32) <<< (x2 &&& 31)) _ (lv_sub hl [0, 2] rfl) h
  have h := hm
  unfold mi_X12_allThatMay at h
  refine lv_iconst (v := (0 : Int32)) hx hb dX12_allThatMay_0 (by decide) ?_
  refine lv_istore_n (lv' := [(1, .int (0 : Int32)), (0, .ref a_t)]) hx hb dX12_allThatMay_1 rfl hl (by decide) rfl (fun ls hl => ?_)
  refine lv_iconst (v := (0 : Int32)) hx hb dX12_allThatMay_2 (by decide) ?_
  refine lv_istore_n (lv' := [(2, .int (0 : Int32)), (1, .int (0 : Int32)), (0, .ref a_t)]) hx hb dX12_allThatMay_3 rfl hl (by decide) rfl (fun ls hl => ?_)
  exact bl_l4 jx_F (0 : Int32) (0 : Int32) _ (lv_sub hl [2, 1, 0] rfl) h
def mi_X12_section (t_told : Nat → Int32) (t_s : Nat → Int32) (p1 : Int32) (p2 : Int32) : Option (Int32) := jx_b1 (mi_X12_isSection t_told p1) fun r1 => (if r1 = 0 then (some ((-1 : Int32))) else (if p2 = (0 : Int32) then (jx_g (jx_in ((6 : Int32) + p1) 36) (some ((t_told (Int32.toNatClampNeg ((6 : Int32) + p1)))))) else (if p2 = (1 : Int32) then (jx_g (jx_in ((14 : Int32) + p1) 36) (some ((t_told (Int32.toNatClampNeg ((14 : Int32) + p1)))))) else (if p2 = (2 : Int32) then (jx_g (jx_in ((22 : Int32) + p1) 36) (some ((t_told (Int32.toNatClampNeg ((22 : Int32) + p1)))))) else (if p2 = (3 : Int32) then (some ((((t_s (Int32.toNatClampNeg (3 : Int32))) >>> (p1 &&& 31)) &&& (1 : Int32)))) else (if p2 = (4 : Int32) then (jx_b1 (mi_X12_first t_told t_s p1) fun r12 => (some (r12))) else (if p2 = (5 : Int32) then (jx_b1 (mi_X12_mayCut t_told t_s p1) fun r15 => (if r15 = 0 then (some ((0 : Int32))) else (some ((1 : Int32))))) else (some ((-1 : Int32))))))))))
abbrev rm_X12_section : Room := { frames := 4, cells := 0, slots := 0, locals := 87 }
set_option maxRecDepth 100000 in
set_option maxHeartbeats 4000000 in
theorem ct_X12_section (l : Launch) (D : va_G) (cI cZ cO : ClassId) (a_t a_t_text a_t_told a_t_draft a_t_s a_t_images a_t_kept a_t_notes a_t_players a_t_answers a_t_room a_t_inRest : Nat) (t_trace : Int64) (t_typed : Int32) (t_noted : Int32) (t_at : Int32) (t_sort : Int32) (t_start : Int32) (t_value : Int32) (t_told : Nat → Int32) (t_s : Nat → Int32) (p1 : Int32) (p2 : Int32) (r : Int32) (hm : mi_X12_section t_told t_s p1 p2 = some r) : Met l yX12_section wsX12_section rm_X12_section (va_Pc [.ref a_t, .int p1, .int p2] (jx_R D (jx_T cI cZ cO) [(a_t, .inr (12, [.long t_trace, .ref a_t_text, .int t_typed, .ref a_t_told, .ref a_t_draft, .ref a_t_s, .ref a_t_images, .ref a_t_kept, .ref a_t_notes, .int t_noted, .int t_at, .int t_sort, .int t_start, .int t_value, .ref a_t_players, .ref a_t_answers, .ref a_t_room, .ref a_t_inRest])), (a_t_told, .inl (cI, 36, .inl t_told)), (a_t_s, .inl (cI, 56, .inl t_s))])) (jx_S (some (.int r))) 0 0 (fun _ => False) := by
  refine jx_metR (ty := .int) (own := RX12) (cc := cX12_section) (maxL := 3) (by decide) rfl rfl (Nat.le_of_ble_eq_true rfl) ?_
  intro p e s m args below meth c Q ls hx hb hml hown hts hK hN hP hl hret
  have hi_X12 : ∀ w ∈ u_ws RX12 TX12 18, w ∈ wsX12_section := by decide +kernel
  have hl : lv_has ls 3 [(0, .ref a_t), (1, .int p1), (2, .int p2)] := hl
  have h := hm
  unfold mi_X12_section at h
  refine lv_aload_n hx hb dX12_section_0 rfl (lv_at hl 0 rfl) ?_
  refine lv_iload_n hx hb dX12_section_1 rfl (lv_at hl 1 rfl) ?_
  obtain ⟨r1, e2, h⟩ := jx_b1_of h
  refine jx_cV (o := some (.int r1)) (As := [.int p1]) (rest := []) (b := a_t) ⟨hx, hb, hml, hown, hts⟩ (ct_X12_isSection l D cI cZ cO a_t a_t_text a_t_told a_t_draft a_t_s a_t_images a_t_kept a_t_notes a_t_players a_t_answers a_t_room a_t_inRest t_trace t_typed t_noted t_at t_sort t_start t_value t_told p1 r1 e2) (cwV 1 hts gX12_section_X12_isSection rfl rfl rfl (by decide +kernel) ⟨Nat.le_of_ble_eq_true rfl, Nat.le_of_ble_eq_true rfl⟩) hK hN hP [0, 1] rfl (va_recv hK hP (ci := 12) (q0 := 0) rfl rfl) rfl hl.1 rfl (Nat.le_of_ble_eq_true rfl) dX12_section_2 ⟨Nat.zero_le _, Nat.zero_le _⟩ ?_
  refine lv_if_ne (tgt := 10) hx hb dX12_section_5 (by decide) (fun c3 => ?_) (fun c3 => ?_)
  · have h := jx_f h c3
    refine lv_iload_n hx hb dX12_section_10 rfl (lv_at hl 2 rfl) ?_
    by_cases s4 : p2 = (0 : Int32)
    · have h := jx_t h s4
      refine lv_tableIn (off := 37) (tgt := 48) hx hb dX12_section_11 (by rw [s4]; decide) (by rw [s4]; decide) (by rw [s4]; rfl) (by decide) ?_
      refine lv_aload_n hx hb dX12_section_48 rfl (lv_at hl 0 rfl) ?_
      refine va_get (D := D) (ci := 12) (v := .ref a_t_told) (C := RX12) (T := TX12) (N := 18) hx hb hts hi_X12 hown hK hP 0 rfl rfl 3 (by decide) (hts (.fieldLink RX12 13 "TriangleRestModel" "told" "[I") (List.mem_of_getElem? (i := 1) rfl)) (fun _ h9 => h9) rfl dX12_section_49 ?_
      refine lv_bipush (v := (6 : Int32)) hx hb dX12_section_52 (by decide) ?_
      refine lv_iload_n hx hb dX12_section_54 rfl (lv_at hl 1 rfl) ?_
      refine lv_iadd hx hb dX12_section_55 ?_
      obtain ⟨g5, h⟩ := jx_g_of h
      refine va_iald hx hb hK hP 1 0 rfl rfl (jx_in_of g5) dX12_section_56 ?_
      cases h
      exact hret 57 ls rfl dX12_section_57
    have h := jx_f h s4
    by_cases s6 : p2 = (1 : Int32)
    · have h := jx_t h s6
      refine lv_tableIn (off := 47) (tgt := 58) hx hb dX12_section_11 (by rw [s6]; decide) (by rw [s6]; decide) (by rw [s6]; rfl) (by decide) ?_
      refine lv_aload_n hx hb dX12_section_58 rfl (lv_at hl 0 rfl) ?_
      refine va_get (D := D) (ci := 12) (v := .ref a_t_told) (C := RX12) (T := TX12) (N := 18) hx hb hts hi_X12 hown hK hP 0 rfl rfl 3 (by decide) (hts (.fieldLink RX12 13 "TriangleRestModel" "told" "[I") (List.mem_of_getElem? (i := 1) rfl)) (fun _ h9 => h9) rfl dX12_section_59 ?_
      refine lv_bipush (v := (14 : Int32)) hx hb dX12_section_62 (by decide) ?_
      refine lv_iload_n hx hb dX12_section_64 rfl (lv_at hl 1 rfl) ?_
      refine lv_iadd hx hb dX12_section_65 ?_
      obtain ⟨g7, h⟩ := jx_g_of h
      refine va_iald hx hb hK hP 1 0 rfl rfl (jx_in_of g7) dX12_section_66 ?_
      cases h
      exact hret 67 ls rfl dX12_section_67
    have h := jx_f h s6
    by_cases s8 : p2 = (2 : Int32)
    · have h := jx_t h s8
      refine lv_tableIn (off := 57) (tgt := 68) hx hb dX12_section_11 (by rw [s8]; decide) (by rw [s8]; decide) (by rw [s8]; rfl) (by decide) ?_
      refine lv_aload_n hx hb dX12_section_68 rfl (lv_at hl 0 rfl) ?_
      refine va_get (D := D) (ci := 12) (v := .ref a_t_told) (C := RX12) (T := TX12) (N := 18) hx hb hts hi_X12 hown hK hP 0 rfl rfl 3 (by decide) (hts (.fieldLink RX12 13 "TriangleRestModel" "told" "[I") (List.mem_of_getElem? (i := 1) rfl)) (fun _ h9 => h9) rfl dX12_section_69 ?_
      refine lv_bipush (v := (22 : Int32)) hx hb dX12_section_72 (by decide) ?_
      refine lv_iload_n hx hb dX12_section_74 rfl (lv_at hl 1 rfl) ?_
      refine lv_iadd hx hb dX12_section_75 ?_
      obtain ⟨g9, h⟩ := jx_g_of h
      refine va_iald hx hb hK hP 1 0 rfl rfl (jx_in_of g9) dX12_section_76 ?_
      cases h
      exact hret 77 ls rfl dX12_section_77
    have h := jx_f h s8
    by_cases s10 : p2 = (3 : Int32)
    · have h := jx_t h s10
      refine lv_tableIn (off := 67) (tgt := 78) hx hb dX12_section_11 (by rw [s10]; decide) (by rw [s10]; decide) (by rw [s10]; rfl) (by decide) ?_
      refine lv_aload_n hx hb dX12_section_78 rfl (lv_at hl 0 rfl) ?_
      refine va_get (D := D) (ci := 12) (v := .ref a_t_s) (C := RX12) (T := TX12) (N := 18) hx hb hts hi_X12 hown hK hP 0 rfl rfl 5 (by decide) (hts (.fieldLink RX12 19 "TriangleRestModel" "s" "[I") (List.mem_of_getElem? (i := 2) rfl)) (fun _ h9 => h9) rfl dX12_section_79 ?_
      refine lv_iconst (v := (3 : Int32)) hx hb dX12_section_82 (by decide) ?_
      refine va_iald hx hb hK hP 2 0 rfl rfl (jx_in_of (by decide +kernel)) dX12_section_83 ?_
      refine lv_iload_n hx hb dX12_section_84 rfl (lv_at hl 1 rfl) ?_
      refine lv_ishr hx hb dX12_section_85 ?_
      refine lv_iconst (v := (1 : Int32)) hx hb dX12_section_86 (by decide) ?_
      refine lv_iand hx hb dX12_section_87 ?_
      cases h
      exact hret 88 ls rfl dX12_section_88
    have h := jx_f h s10
    by_cases s11 : p2 = (4 : Int32)
    · have h := jx_t h s11
      refine lv_tableIn (off := 78) (tgt := 89) hx hb dX12_section_11 (by rw [s11]; decide) (by rw [s11]; decide) (by rw [s11]; rfl) (by decide) ?_
      refine lv_aload_n hx hb dX12_section_89 rfl (lv_at hl 0 rfl) ?_
      refine lv_iload_n hx hb dX12_section_90 rfl (lv_at hl 1 rfl) ?_
      obtain ⟨r12, e13, h⟩ := jx_b1_of h
      refine jx_cV (o := some (.int r12)) (As := [.int p1]) (rest := []) (b := a_t) ⟨hx, hb, hml, hown, hts⟩ (ct_X12_first l D cI cZ cO a_t a_t_text a_t_told a_t_draft a_t_s a_t_images a_t_kept a_t_notes a_t_players a_t_answers a_t_room a_t_inRest t_trace t_typed t_noted t_at t_sort t_start t_value t_told t_s p1 r12 e13) (cwV 1 hts gX12_section_X12_first rfl rfl rfl (by decide +kernel) ⟨Nat.le_of_ble_eq_true rfl, Nat.le_of_ble_eq_true rfl⟩) hK hN hP [0, 1, 2] rfl (va_recv hK hP (ci := 12) (q0 := 0) rfl rfl) rfl hl.1 rfl (Nat.le_of_ble_eq_true rfl) dX12_section_91 ⟨Nat.zero_le _, Nat.zero_le _⟩ ?_
      cases h
      exact hret 94 ls rfl dX12_section_94
    have h := jx_f h s11
    by_cases s14 : p2 = (5 : Int32)
    · have h := jx_t h s14
      refine lv_tableIn (off := 84) (tgt := 95) hx hb dX12_section_11 (by rw [s14]; decide) (by rw [s14]; decide) (by rw [s14]; rfl) (by decide) ?_
      refine lv_aload_n hx hb dX12_section_95 rfl (lv_at hl 0 rfl) ?_
      refine lv_iload_n hx hb dX12_section_96 rfl (lv_at hl 1 rfl) ?_
      obtain ⟨r15, e16, h⟩ := jx_b1_of h
      refine jx_cV (o := some (.int r15)) (As := [.int p1]) (rest := []) (b := a_t) ⟨hx, hb, hml, hown, hts⟩ (ct_X12_mayCut l D cI cZ cO a_t a_t_text a_t_told a_t_draft a_t_s a_t_images a_t_kept a_t_notes a_t_players a_t_answers a_t_room a_t_inRest t_trace t_typed t_noted t_at t_sort t_start t_value t_told t_s p1 r15 e16) (cwV 1 hts gX12_section_X12_mayCut rfl rfl rfl (by decide +kernel) ⟨Nat.le_of_ble_eq_true rfl, Nat.le_of_ble_eq_true rfl⟩) hK hN hP [0, 1, 2] rfl (va_recv hK hP (ci := 12) (q0 := 0) rfl rfl) rfl hl.1 rfl (Nat.le_of_ble_eq_true rfl) dX12_section_97 ⟨Nat.zero_le _, Nat.zero_le _⟩ ?_
      refine lv_if_eq (tgt := 107) hx hb dX12_section_100 (by decide) (fun c17 => ?_) (fun c17 => ?_)
      · have h := jx_t h c17
        refine lv_iconst (v := (0 : Int32)) hx hb dX12_section_107 (by decide) ?_
        cases h
        exact hret 108 ls rfl dX12_section_108
      · have h := jx_f h c17
        refine lv_iconst (v := (1 : Int32)) hx hb dX12_section_103 (by decide) ?_
        refine lv_goto (tgt := 108) hx hb dX12_section_104 (by decide) ?_
        cases h
        exact hret 108 ls rfl dX12_section_108
    have h := jx_f h s14
    refine lv_tableOut (tgt := 109) hx hb dX12_section_11 (by have e_s4 := jx_ne s4 (k := 0) (by decide); have e_s6 := jx_ne s6 (k := 1) (by decide); have e_s8 := jx_ne s8 (k := 2) (by decide); have e_s10 := jx_ne s10 (k := 3) (by decide); have e_s11 := jx_ne s11 (k := 4) (by decide); have e_s14 := jx_ne s14 (k := 5) (by decide); omega) (by decide) ?_
    refine lv_iconst (v := (-1 : Int32)) hx hb dX12_section_109 (by decide) ?_
    cases h
    exact hret 110 ls rfl dX12_section_110
  · have h := jx_t h c3
    refine lv_iconst (v := (-1 : Int32)) hx hb dX12_section_8 (by decide) ?_
    cases h
    exact hret 9 ls rfl dX12_section_9
def mi_X12_thing (t_told : Nat → Int32) (p1 : Int32) : Option (Int32) := jx_b1 (mi_X12_in p1 (0 : Int32) ((t_told (Int32.toNatClampNeg (1 : Int32))) - (1 : Int32))) fun r1 => (if r1 = 0 then (some ((-1 : Int32))) else (jx_g (jx_in ((30 : Int32) + p1) 36) (some ((t_told (Int32.toNatClampNeg ((30 : Int32) + p1)))))))
abbrev rm_X12_thing : Room := { frames := 1, cells := 0, slots := 0, locals := 22 }
set_option maxRecDepth 100000 in
set_option maxHeartbeats 4000000 in
theorem ct_X12_thing (l : Launch) (D : va_G) (cI cZ cO : ClassId) (a_t a_t_text a_t_told a_t_draft a_t_s a_t_images a_t_kept a_t_notes a_t_players a_t_answers a_t_room a_t_inRest : Nat) (t_trace : Int64) (t_typed : Int32) (t_noted : Int32) (t_at : Int32) (t_sort : Int32) (t_start : Int32) (t_value : Int32) (t_told : Nat → Int32) (p1 : Int32) (r : Int32) (hm : mi_X12_thing t_told p1 = some r) : Met l yX12_thing wsX12_thing rm_X12_thing (va_Pc [.ref a_t, .int p1] (jx_R D (jx_T cI cZ cO) [(a_t, .inr (12, [.long t_trace, .ref a_t_text, .int t_typed, .ref a_t_told, .ref a_t_draft, .ref a_t_s, .ref a_t_images, .ref a_t_kept, .ref a_t_notes, .int t_noted, .int t_at, .int t_sort, .int t_start, .int t_value, .ref a_t_players, .ref a_t_answers, .ref a_t_room, .ref a_t_inRest])), (a_t_told, .inl (cI, 36, .inl t_told))])) (jx_S (some (.int r))) 0 0 (fun _ => False) := by
  refine jx_metR (ty := .int) (own := RX12) (cc := cX12_thing) (maxL := 2) (by decide) rfl rfl (Nat.le_of_ble_eq_true rfl) ?_
  intro p e s m args below meth c Q ls hx hb hml hown hts hK hN hP hl hret
  have hi_X12 : ∀ w ∈ u_ws RX12 TX12 18, w ∈ wsX12_thing := by decide +kernel
  have hl : lv_has ls 2 [(0, .ref a_t), (1, .int p1)] := hl
  have h := hm
  unfold mi_X12_thing at h
  refine lv_iload_n hx hb dX12_thing_0 rfl (lv_at hl 1 rfl) ?_
  refine lv_iconst (v := (0 : Int32)) hx hb dX12_thing_1 (by decide) ?_
  refine lv_aload_n hx hb dX12_thing_2 rfl (lv_at hl 0 rfl) ?_
  refine va_get (D := D) (ci := 12) (v := .ref a_t_told) (C := RX12) (T := TX12) (N := 18) hx hb hts hi_X12 hown hK hP 0 rfl rfl 3 (by decide) (hts (.fieldLink RX12 13 "TriangleRestModel" "told" "[I") (List.mem_of_getElem? (i := 1) rfl)) (fun _ h9 => h9) rfl dX12_thing_3 ?_
  refine lv_iconst (v := (1 : Int32)) hx hb dX12_thing_6 (by decide) ?_
  refine va_iald hx hb hK hP 1 0 rfl rfl (jx_in_of (by decide +kernel)) dX12_thing_7 ?_
  refine lv_iconst (v := (1 : Int32)) hx hb dX12_thing_8 (by decide) ?_
  refine lv_isub hx hb dX12_thing_9 ?_
  obtain ⟨r1, e2, h⟩ := jx_b1_of h
  refine jx_cS (o := some (.int r1)) (As := [.int p1, .int (0 : Int32), .int ((t_told (Int32.toNatClampNeg (1 : Int32))) - (1 : Int32))]) (rest := []) ⟨hx, hb, hml, hown, hts⟩ (ct_X12_in l p1 (0 : Int32) ((t_told (Int32.toNatClampNeg (1 : Int32))) - (1 : Int32)) r1 e2) (va_cwS 3 hts gX12_thing_X12_in rfl rfl rfl (by decide +kernel) ⟨Nat.le_of_ble_eq_true rfl, Nat.le_of_ble_eq_true rfl⟩) rfl hl.1 rfl (Nat.le_of_ble_eq_true rfl) dX12_thing_10 ⟨Nat.zero_le _, Nat.zero_le _⟩ ?_
  refine lv_if_eq (tgt := 28) hx hb dX12_thing_13 (by decide) (fun c3 => ?_) (fun c3 => ?_)
  · have h := jx_t h c3
    refine lv_iconst (v := (-1 : Int32)) hx hb dX12_thing_28 (by decide) ?_
    cases h
    exact hret 29 ls rfl dX12_thing_29
  · have h := jx_f h c3
    refine lv_aload_n hx hb dX12_thing_16 rfl (lv_at hl 0 rfl) ?_
    refine va_get (D := D) (ci := 12) (v := .ref a_t_told) (C := RX12) (T := TX12) (N := 18) hx hb hts hi_X12 hown hK hP 0 rfl rfl 3 (by decide) (hts (.fieldLink RX12 13 "TriangleRestModel" "told" "[I") (List.mem_of_getElem? (i := 1) rfl)) (fun _ h9 => h9) rfl dX12_thing_17 ?_
    refine lv_bipush (v := (30 : Int32)) hx hb dX12_thing_20 (by decide) ?_
    refine lv_iload_n hx hb dX12_thing_22 rfl (lv_at hl 1 rfl) ?_
    refine lv_iadd hx hb dX12_thing_23 ?_
    obtain ⟨g4, h⟩ := jx_g_of h
    refine va_iald hx hb hK hP 1 0 rfl rfl (jx_in_of g4) dX12_thing_24 ?_
    refine lv_goto (tgt := 29) hx hb dX12_thing_25 (by decide) ?_
    cases h
    exact hret 29 ls rfl dX12_thing_29
def mi_X12_sectionAt_b57 (k_l5 : Int32 → Int32 → Option (Int32)) (x3 : Int32) (k0 : Int32) : Option (Int32) := k_l5 k0 (x3 + 1)
def mi_X12_sectionAt_b56 (k_l5 : Int32 → Int32 → Option (Int32)) (x2 : Int32) (x3 : Int32) : Option (Int32) := mi_X12_sectionAt_b57 k_l5 x3 x2
def mi_X12_sectionAt_l5 (t_told : Nat → Int32) (t_s : Nat → Int32) (p1 : Int32) : Nat → Int32 → Int32 → Option (Int32)
  | 0, _, _ => none
  | n + 1, x2, x3 => if (t_told (Int32.toNatClampNeg (0 : Int32))) ≤ x3 then (some (x2)) else (jx_b1 (mi_X12_has (t_s (Int32.toNatClampNeg (3 : Int32))) x3) fun r2 => (if r2 = 0 then (jx_b1 (mi_X12_first t_told t_s x3) fun r5 => (if p1 < r5 then (mi_X12_sectionAt_b56 (mi_X12_sectionAt_l5 t_told t_s p1 n) x2 x3) else (jx_b1 (mi_X12_first t_told t_s x3) fun r8 => (jx_b1 (mi_X12_minutes t_told x3) fun r10 => (if (r8 + r10) ≤ p1 then (mi_X12_sectionAt_b56 (mi_X12_sectionAt_l5 t_told t_s p1 n) x2 x3) else (mi_X12_sectionAt_b57 (mi_X12_sectionAt_l5 t_told t_s p1 n) x3 x3)))))) else (mi_X12_sectionAt_b56 (mi_X12_sectionAt_l5 t_told t_s p1 n) x2 x3)))
def mi_X12_sectionAt (t_told : Nat → Int32) (t_s : Nat → Int32) (p1 : Int32) : Option (Int32) := mi_X12_sectionAt_l5 t_told t_s p1 jx_F (-9 : Int32) (0 : Int32)
abbrev rm_X12_sectionAt : Room := { frames := 3, cells := 0, slots := 0, locals := 66 }
set_option maxRecDepth 100000 in
set_option maxHeartbeats 4000000 in
theorem ct_X12_sectionAt (l : Launch) (D : va_G) (cI cZ cO : ClassId) (a_t a_t_text a_t_told a_t_draft a_t_s a_t_images a_t_kept a_t_notes a_t_players a_t_answers a_t_room a_t_inRest : Nat) (t_trace : Int64) (t_typed : Int32) (t_noted : Int32) (t_at : Int32) (t_sort : Int32) (t_start : Int32) (t_value : Int32) (t_told : Nat → Int32) (t_s : Nat → Int32) (p1 : Int32) (r : Int32) (hm : mi_X12_sectionAt t_told t_s p1 = some r) : Met l yX12_sectionAt wsX12_sectionAt rm_X12_sectionAt (va_Pc [.ref a_t, .int p1] (jx_R D (jx_T cI cZ cO) [(a_t, .inr (12, [.long t_trace, .ref a_t_text, .int t_typed, .ref a_t_told, .ref a_t_draft, .ref a_t_s, .ref a_t_images, .ref a_t_kept, .ref a_t_notes, .int t_noted, .int t_at, .int t_sort, .int t_start, .int t_value, .ref a_t_players, .ref a_t_answers, .ref a_t_room, .ref a_t_inRest])), (a_t_told, .inl (cI, 36, .inl t_told)), (a_t_s, .inl (cI, 56, .inl t_s))])) (jx_S (some (.int r))) 0 0 (fun _ => False) := by
  refine jx_metR (ty := .int) (own := RX12) (cc := cX12_sectionAt) (maxL := 4) (by decide) rfl rfl (Nat.le_of_ble_eq_true rfl) ?_
  intro p e s m args below meth c Q ls hx hb hml hown hts hK hN hP hl hret
  have hi_X12 : ∀ w ∈ u_ws RX12 TX12 18, w ∈ wsX12_sectionAt := by decide +kernel
  have hl : lv_has ls 4 [(0, .ref a_t), (1, .int p1)] := hl
  have bl_l5 : ∀ (n : Nat) (x2 : Int32) (x3 : Int32) (ls : Array Slot), lv_has ls 4 [(0, .ref a_t), (1, .int p1), (2, .int x2), (3, .int x3)] → mi_X12_sectionAt_l5 t_told t_s p1 n x2 x3 = some r → W p l e (headSpec wsX12_sectionAt rm_X12_sectionAt).room s m args below meth c s.heap [] 0 0 Q (F0 m 5 ls []) := by
    intro n
    induction n with
    | zero =>
      intro x2 x3 ls hl h
      rw [mi_X12_sectionAt_l5] at h
      cases h
    | succ n_l5 ih_l5 =>
      have bl_b57 : ∀ (x3 : Int32) (k0 : Int32) (ls : Array Slot), lv_has ls 4 [(0, .ref a_t), (1, .int p1), (3, .int x3)] → mi_X12_sectionAt_b57 (mi_X12_sectionAt_l5 t_told t_s p1 n_l5) x3 k0 = some r → W p l e (headSpec wsX12_sectionAt rm_X12_sectionAt).room s m args below meth c s.heap [] 0 0 Q (F0 m 57 ls [.int k0]) := by
        intro x3 k0 ls hl h
        unfold mi_X12_sectionAt_b57 at h
        refine lv_istore_n (lv' := [(2, .int k0), (0, .ref a_t), (1, .int p1), (3, .int x3)]) hx hb dX12_sectionAt_57 rfl hl (by decide) rfl (fun ls hl => ?_)
        refine lv_iinc (v := (x3 + 1)) (lv' := [(3, .int (x3 + 1)), (2, .int k0), (0, .ref a_t), (1, .int p1)]) hx hb dX12_sectionAt_58 hl (k := 3) rfl rfl (by decide) rfl (fun ls hl => ?_)
        refine lv_goto (tgt := 5) hx hb dX12_sectionAt_61 (by decide) ?_
        exact ih_l5 k0 (x3 + 1) _ (lv_sub hl [2, 3, 1, 0] rfl) h
      have bl_b56 : ∀ (x2 : Int32) (x3 : Int32) (ls : Array Slot), lv_has ls 4 [(0, .ref a_t), (1, .int p1), (2, .int x2), (3, .int x3)] → mi_X12_sectionAt_b56 (mi_X12_sectionAt_l5 t_told t_s p1 n_l5) x2 x3 = some r → W p l e (headSpec wsX12_sectionAt rm_X12_sectionAt).room s m args below meth c s.heap [] 0 0 Q (F0 m 56 ls []) := by
        intro x2 x3 ls hl h
        unfold mi_X12_sectionAt_b56 at h
        refine lv_iload_n hx hb dX12_sectionAt_56 rfl (lv_at hl 2 rfl) ?_
        exact bl_b57 x3 x2 _ (lv_sub hl [0, 1, 3] rfl) h
      intro x2 x3 ls hl h
      rw [mi_X12_sectionAt_l5] at h
      refine lv_iload_n hx hb dX12_sectionAt_5 rfl (lv_at hl 3 rfl) ?_
      refine lv_aload_n hx hb dX12_sectionAt_6 rfl (lv_at hl 0 rfl) ?_
      refine va_get (D := D) (ci := 12) (v := .ref a_t_told) (C := RX12) (T := TX12) (N := 18) hx hb hts hi_X12 hown hK hP 0 rfl rfl 3 (by decide) (hts (.fieldLink RX12 13 "TriangleRestModel" "told" "[I") (List.mem_of_getElem? (i := 1) rfl)) (fun _ h9 => h9) rfl dX12_sectionAt_7 ?_
      refine lv_iconst (v := (0 : Int32)) hx hb dX12_sectionAt_10 (by decide) ?_
      refine va_iald hx hb hK hP 1 0 rfl rfl (jx_in_of (by decide +kernel)) dX12_sectionAt_11 ?_
      refine lv_icmp_ge (tgt := 64) hx hb dX12_sectionAt_12 (by decide) (fun c1 => ?_) (fun c1 => ?_)
      · have h := jx_t h c1
        refine lv_iload_n hx hb dX12_sectionAt_64 rfl (lv_at hl 2 rfl) ?_
        cases h
        exact hret 65 ls rfl dX12_sectionAt_65
      · have h := jx_f h c1
        refine lv_aload_n hx hb dX12_sectionAt_15 rfl (lv_at hl 0 rfl) ?_
        refine va_get (D := D) (ci := 12) (v := .ref a_t_s) (C := RX12) (T := TX12) (N := 18) hx hb hts hi_X12 hown hK hP 0 rfl rfl 5 (by decide) (hts (.fieldLink RX12 19 "TriangleRestModel" "s" "[I") (List.mem_of_getElem? (i := 2) rfl)) (fun _ h9 => h9) rfl dX12_sectionAt_16 ?_
        refine lv_iconst (v := (3 : Int32)) hx hb dX12_sectionAt_19 (by decide) ?_
        refine va_iald hx hb hK hP 2 0 rfl rfl (jx_in_of (by decide +kernel)) dX12_sectionAt_20 ?_
        refine lv_iload_n hx hb dX12_sectionAt_21 rfl (lv_at hl 3 rfl) ?_
        obtain ⟨r2, e3, h⟩ := jx_b1_of h
        refine jx_cS (o := some (.int r2)) (As := [.int (t_s (Int32.toNatClampNeg (3 : Int32))), .int x3]) (rest := []) ⟨hx, hb, hml, hown, hts⟩ (ct_X12_has l (t_s (Int32.toNatClampNeg (3 : Int32))) x3 r2 e3) (va_cwS 2 hts gX12_sectionAt_X12_has rfl rfl rfl (by decide +kernel) ⟨Nat.le_of_ble_eq_true rfl, Nat.le_of_ble_eq_true rfl⟩) rfl hl.1 rfl (Nat.le_of_ble_eq_true rfl) dX12_sectionAt_22 ⟨Nat.zero_le _, Nat.zero_le _⟩ ?_
        refine lv_if_ne (tgt := 56) hx hb dX12_sectionAt_25 (by decide) (fun c4 => ?_) (fun c4 => ?_)
        · have h := jx_f h c4
          exact bl_b56 x2 x3 _ (lv_sub hl [0, 1, 2, 3] rfl) h
        · have h := jx_t h c4
          refine lv_iload_n hx hb dX12_sectionAt_28 rfl (lv_at hl 1 rfl) ?_
          refine lv_aload_n hx hb dX12_sectionAt_29 rfl (lv_at hl 0 rfl) ?_
          refine lv_iload_n hx hb dX12_sectionAt_30 rfl (lv_at hl 3 rfl) ?_
          obtain ⟨r5, e6, h⟩ := jx_b1_of h
          refine jx_cV (o := some (.int r5)) (As := [.int x3]) (rest := [.int p1]) (b := a_t) ⟨hx, hb, hml, hown, hts⟩ (ct_X12_first l D cI cZ cO a_t a_t_text a_t_told a_t_draft a_t_s a_t_images a_t_kept a_t_notes a_t_players a_t_answers a_t_room a_t_inRest t_trace t_typed t_noted t_at t_sort t_start t_value t_told t_s x3 r5 e6) (cwV 1 hts gX12_sectionAt_X12_first rfl rfl rfl (by decide +kernel) ⟨Nat.le_of_ble_eq_true rfl, Nat.le_of_ble_eq_true rfl⟩) hK hN hP [0, 1, 2] rfl (va_recv hK hP (ci := 12) (q0 := 0) rfl rfl) rfl hl.1 rfl (Nat.le_of_ble_eq_true rfl) dX12_sectionAt_31 ⟨Nat.zero_le _, Nat.zero_le _⟩ ?_
          refine lv_icmp_lt (tgt := 56) hx hb dX12_sectionAt_34 (by decide) (fun c7 => ?_) (fun c7 => ?_)
          · have h := jx_t h c7
            exact bl_b56 x2 x3 _ (lv_sub hl [0, 1, 2, 3] rfl) h
          · have h := jx_f h c7
            refine lv_iload_n hx hb dX12_sectionAt_37 rfl (lv_at hl 1 rfl) ?_
            refine lv_aload_n hx hb dX12_sectionAt_38 rfl (lv_at hl 0 rfl) ?_
            refine lv_iload_n hx hb dX12_sectionAt_39 rfl (lv_at hl 3 rfl) ?_
            obtain ⟨r8, e9, h⟩ := jx_b1_of h
            refine jx_cV (o := some (.int r8)) (As := [.int x3]) (rest := [.int p1]) (b := a_t) ⟨hx, hb, hml, hown, hts⟩ (ct_X12_first l D cI cZ cO a_t a_t_text a_t_told a_t_draft a_t_s a_t_images a_t_kept a_t_notes a_t_players a_t_answers a_t_room a_t_inRest t_trace t_typed t_noted t_at t_sort t_start t_value t_told t_s x3 r8 e9) (cwV 1 hts gX12_sectionAt_X12_first rfl rfl rfl (by decide +kernel) ⟨Nat.le_of_ble_eq_true rfl, Nat.le_of_ble_eq_true rfl⟩) hK hN hP [0, 1, 2] rfl (va_recv hK hP (ci := 12) (q0 := 0) rfl rfl) rfl hl.1 rfl (Nat.le_of_ble_eq_true rfl) dX12_sectionAt_40 ⟨Nat.zero_le _, Nat.zero_le _⟩ ?_
            refine lv_aload_n hx hb dX12_sectionAt_43 rfl (lv_at hl 0 rfl) ?_
            refine lv_iload_n hx hb dX12_sectionAt_44 rfl (lv_at hl 3 rfl) ?_
            obtain ⟨r10, e11, h⟩ := jx_b1_of h
            refine jx_cV (o := some (.int r10)) (As := [.int x3]) (rest := [.int r8, .int p1]) (b := a_t) ⟨hx, hb, hml, hown, hts⟩ (ct_X12_minutes l D cI cZ cO a_t a_t_text a_t_told a_t_draft a_t_s a_t_images a_t_kept a_t_notes a_t_players a_t_answers a_t_room a_t_inRest t_trace t_typed t_noted t_at t_sort t_start t_value t_told x3 r10 e11) (cwV 1 hts gX12_sectionAt_X12_minutes rfl rfl rfl (by decide +kernel) ⟨Nat.le_of_ble_eq_true rfl, Nat.le_of_ble_eq_true rfl⟩) hK hN hP [0, 1] rfl (va_recv hK hP (ci := 12) (q0 := 0) rfl rfl) rfl hl.1 rfl (Nat.le_of_ble_eq_true rfl) dX12_sectionAt_45 ⟨Nat.zero_le _, Nat.zero_le _⟩ ?_
            refine lv_iadd hx hb dX12_sectionAt_48 ?_
            refine lv_icmp_ge (tgt := 56) hx hb dX12_sectionAt_49 (by decide) (fun c12 => ?_) (fun c12 => ?_)
            · have h := jx_t h c12
              exact bl_b56 x2 x3 _ (lv_sub hl [0, 1, 2, 3] rfl) h
            · have h := jx_f h c12
              refine lv_iload_n hx hb dX12_sectionAt_52 rfl (lv_at hl 3 rfl) ?_
              refine lv_goto (tgt := 57) hx hb dX12_sectionAt_53 (by decide) ?_
              exact bl_b57 x3 x3 _ (lv_sub hl [0, 1, 3] rfl) h
  have h := hm
  unfold mi_X12_sectionAt at h
  refine lv_bipush (v := (-9 : Int32)) hx hb dX12_sectionAt_0 (by decide) ?_
  refine lv_istore_n (lv' := [(2, .int (-9 : Int32)), (0, .ref a_t), (1, .int p1)]) hx hb dX12_sectionAt_2 rfl hl (by decide) rfl (fun ls hl => ?_)
  refine lv_iconst (v := (0 : Int32)) hx hb dX12_sectionAt_3 (by decide) ?_
  refine lv_istore_n (lv' := [(3, .int (0 : Int32)), (2, .int (-9 : Int32)), (0, .ref a_t), (1, .int p1)]) hx hb dX12_sectionAt_4 rfl hl (by decide) rfl (fun ls hl => ?_)
  exact bl_l5 jx_F (-9 : Int32) (0 : Int32) _ (lv_sub hl [2, 3, 1, 0] rfl) h
def mi_X12_bar (t_told : Nat → Int32) (t_s : Nat → Int32) (p1 : Int32) (p2 : Int32) : Option (Int32) := jx_b1 (mi_X12_in p1 (0 : Int32) (999 : Int32)) fun r1 => (if r1 = 0 then (some ((-1 : Int32))) else (jx_b1 (mi_X12_in p2 (0 : Int32) (3 : Int32)) fun r4 => (if r4 = 0 then (some ((-1 : Int32))) else (jx_b1 (mi_X12_sectionAt t_told t_s p1) fun r7 => (if r7 = (-9 : Int32) then (some ((-9 : Int32))) else (jx_b1 (mi_X12_first t_told t_s r7) fun r10 => (if p2 = 0 then (some (r7)) else (if p2 = (1 : Int32) then (jx_g (jx_in ((6 : Int32) + r7) 36) (jx_g (jx_nz (t_told (Int32.toNatClampNeg ((6 : Int32) + r7)))) (some (((p1 - r10) / (t_told (Int32.toNatClampNeg ((6 : Int32) + r7)))))))) else (if p2 = (2 : Int32) then (jx_g (jx_in ((6 : Int32) + r7) 36) (jx_g (jx_nz (t_told (Int32.toNatClampNeg ((6 : Int32) + r7)))) (some (((p1 - r10) - (p1 - r10) / (t_told (Int32.toNatClampNeg ((6 : Int32) + r7))) * (t_told (Int32.toNatClampNeg ((6 : Int32) + r7)))))))) else (jx_g (jx_in ((22 : Int32) + r7) 36) (some ((t_told (Int32.toNatClampNeg ((22 : Int32) + r7)))))))))))))))
abbrev rm_X12_bar : Room := { frames := 4, cells := 0, slots := 0, locals := 89 }
set_option maxRecDepth 100000 in
set_option maxHeartbeats 4000000 in
theorem ct_X12_bar (l : Launch) (D : va_G) (cI cZ cO : ClassId) (a_t a_t_text a_t_told a_t_draft a_t_s a_t_images a_t_kept a_t_notes a_t_players a_t_answers a_t_room a_t_inRest : Nat) (t_trace : Int64) (t_typed : Int32) (t_noted : Int32) (t_at : Int32) (t_sort : Int32) (t_start : Int32) (t_value : Int32) (t_told : Nat → Int32) (t_s : Nat → Int32) (p1 : Int32) (p2 : Int32) (r : Int32) (hm : mi_X12_bar t_told t_s p1 p2 = some r) : Met l yX12_bar wsX12_bar rm_X12_bar (va_Pc [.ref a_t, .int p1, .int p2] (jx_R D (jx_T cI cZ cO) [(a_t, .inr (12, [.long t_trace, .ref a_t_text, .int t_typed, .ref a_t_told, .ref a_t_draft, .ref a_t_s, .ref a_t_images, .ref a_t_kept, .ref a_t_notes, .int t_noted, .int t_at, .int t_sort, .int t_start, .int t_value, .ref a_t_players, .ref a_t_answers, .ref a_t_room, .ref a_t_inRest])), (a_t_told, .inl (cI, 36, .inl t_told)), (a_t_s, .inl (cI, 56, .inl t_s))])) (jx_S (some (.int r))) 0 0 (fun _ => False) := by
  refine jx_metR (ty := .int) (own := RX12) (cc := cX12_bar) (maxL := 5) (by decide) rfl rfl (Nat.le_of_ble_eq_true rfl) ?_
  intro p e s m args below meth c Q ls hx hb hml hown hts hK hN hP hl hret
  have hi_X12 : ∀ w ∈ u_ws RX12 TX12 18, w ∈ wsX12_bar := by decide +kernel
  have hl : lv_has ls 5 [(0, .ref a_t), (1, .int p1), (2, .int p2)] := hl
  have h := hm
  unfold mi_X12_bar at h
  refine lv_iload_n hx hb dX12_bar_0 rfl (lv_at hl 1 rfl) ?_
  refine lv_iconst (v := (0 : Int32)) hx hb dX12_bar_1 (by decide) ?_
  refine lv_sipush (v := (999 : Int32)) hx hb dX12_bar_2 (by decide) ?_
  obtain ⟨r1, e2, h⟩ := jx_b1_of h
  refine jx_cS (o := some (.int r1)) (As := [.int p1, .int (0 : Int32), .int (999 : Int32)]) (rest := []) ⟨hx, hb, hml, hown, hts⟩ (ct_X12_in l p1 (0 : Int32) (999 : Int32) r1 e2) (va_cwS 3 hts gX12_bar_X12_in rfl rfl rfl (by decide +kernel) ⟨Nat.le_of_ble_eq_true rfl, Nat.le_of_ble_eq_true rfl⟩) rfl hl.1 rfl (Nat.le_of_ble_eq_true rfl) dX12_bar_5 ⟨Nat.zero_le _, Nat.zero_le _⟩ ?_
  refine lv_if_eq (tgt := 20) hx hb dX12_bar_8 (by decide) (fun c3 => ?_) (fun c3 => ?_)
  · have h := jx_t h c3
    refine lv_iconst (v := (-1 : Int32)) hx hb dX12_bar_20 (by decide) ?_
    cases h
    exact hret 21 ls rfl dX12_bar_21
  · have h := jx_f h c3
    refine lv_iload_n hx hb dX12_bar_11 rfl (lv_at hl 2 rfl) ?_
    refine lv_iconst (v := (0 : Int32)) hx hb dX12_bar_12 (by decide) ?_
    refine lv_iconst (v := (3 : Int32)) hx hb dX12_bar_13 (by decide) ?_
    obtain ⟨r4, e5, h⟩ := jx_b1_of h
    refine jx_cS (o := some (.int r4)) (As := [.int p2, .int (0 : Int32), .int (3 : Int32)]) (rest := []) ⟨hx, hb, hml, hown, hts⟩ (ct_X12_in l p2 (0 : Int32) (3 : Int32) r4 e5) (va_cwS 3 hts gX12_bar_X12_in rfl rfl rfl (by decide +kernel) ⟨Nat.le_of_ble_eq_true rfl, Nat.le_of_ble_eq_true rfl⟩) rfl hl.1 rfl (Nat.le_of_ble_eq_true rfl) dX12_bar_14 ⟨Nat.zero_le _, Nat.zero_le _⟩ ?_
    refine lv_if_ne (tgt := 22) hx hb dX12_bar_17 (by decide) (fun c6 => ?_) (fun c6 => ?_)
    · have h := jx_f h c6
      refine lv_aload_n hx hb dX12_bar_22 rfl (lv_at hl 0 rfl) ?_
      refine lv_iload_n hx hb dX12_bar_23 rfl (lv_at hl 1 rfl) ?_
      obtain ⟨r7, e8, h⟩ := jx_b1_of h
      refine jx_cV (o := some (.int r7)) (As := [.int p1]) (rest := []) (b := a_t) ⟨hx, hb, hml, hown, hts⟩ (ct_X12_sectionAt l D cI cZ cO a_t a_t_text a_t_told a_t_draft a_t_s a_t_images a_t_kept a_t_notes a_t_players a_t_answers a_t_room a_t_inRest t_trace t_typed t_noted t_at t_sort t_start t_value t_told t_s p1 r7 e8) (cwV 1 hts gX12_bar_X12_sectionAt rfl rfl rfl (by decide +kernel) ⟨Nat.le_of_ble_eq_true rfl, Nat.le_of_ble_eq_true rfl⟩) hK hN hP [0, 1, 2] rfl (va_recv hK hP (ci := 12) (q0 := 0) rfl rfl) rfl hl.1 rfl (Nat.le_of_ble_eq_true rfl) dX12_bar_24 ⟨Nat.zero_le _, Nat.zero_le _⟩ ?_
      refine lv_istore_n (lv' := [(3, .int r7), (0, .ref a_t), (1, .int p1), (2, .int p2)]) hx hb dX12_bar_27 rfl hl (by decide) rfl (fun ls hl => ?_)
      refine lv_iload_n hx hb dX12_bar_28 rfl (lv_at hl 0 rfl) ?_
      refine lv_bipush (v := (-9 : Int32)) hx hb dX12_bar_29 (by decide) ?_
      refine lv_icmp_ne (tgt := 37) hx hb dX12_bar_31 (by decide) (fun c9 => ?_) (fun c9 => ?_)
      · have h := jx_f h c9
        refine lv_iload_n hx hb dX12_bar_37 rfl (lv_at hl 2 rfl) ?_
        refine lv_aload_n hx hb dX12_bar_38 rfl (lv_at hl 1 rfl) ?_
        refine lv_iload_n hx hb dX12_bar_39 rfl (lv_at hl 0 rfl) ?_
        obtain ⟨r10, e11, h⟩ := jx_b1_of h
        refine jx_cV (o := some (.int r10)) (As := [.int r7]) (rest := [.int p1]) (b := a_t) ⟨hx, hb, hml, hown, hts⟩ (ct_X12_first l D cI cZ cO a_t a_t_text a_t_told a_t_draft a_t_s a_t_images a_t_kept a_t_notes a_t_players a_t_answers a_t_room a_t_inRest t_trace t_typed t_noted t_at t_sort t_start t_value t_told t_s r7 r10 e11) (cwV 1 hts gX12_bar_X12_first rfl rfl rfl (by decide +kernel) ⟨Nat.le_of_ble_eq_true rfl, Nat.le_of_ble_eq_true rfl⟩) hK hN hP [0, 1, 2] rfl (va_recv hK hP (ci := 12) (q0 := 0) rfl rfl) rfl hl.1 rfl (Nat.le_of_ble_eq_true rfl) dX12_bar_40 ⟨Nat.zero_le _, Nat.zero_le _⟩ ?_
        refine lv_isub hx hb dX12_bar_43 ?_
        refine lv_istore (lv' := [(4, .int (p1 - r10)), (3, .int r7), (0, .ref a_t), (1, .int p1), (2, .int p2)]) hx hb dX12_bar_44 hl (by decide) rfl (fun ls hl => ?_)
        refine lv_iload_n hx hb dX12_bar_46 rfl (lv_at hl 4 rfl) ?_
        refine lv_if_ne (tgt := 54) hx hb dX12_bar_47 (by decide) (fun c12 => ?_) (fun c12 => ?_)
        · have h := jx_f h c12
          refine lv_iload_n hx hb dX12_bar_54 rfl (lv_at hl 4 rfl) ?_
          refine lv_iconst (v := (1 : Int32)) hx hb dX12_bar_55 (by decide) ?_
          refine lv_icmp_ne (tgt := 74) hx hb dX12_bar_56 (by decide) (fun c13 => ?_) (fun c13 => ?_)
          · have h := jx_f h c13
            refine lv_iload_n hx hb dX12_bar_74 rfl (lv_at hl 4 rfl) ?_
            refine lv_iconst (v := (2 : Int32)) hx hb dX12_bar_75 (by decide) ?_
            refine lv_icmp_ne (tgt := 94) hx hb dX12_bar_76 (by decide) (fun c14 => ?_) (fun c14 => ?_)
            · have h := jx_f h c14
              refine lv_aload_n hx hb dX12_bar_94 rfl (lv_at hl 2 rfl) ?_
              refine va_get (D := D) (ci := 12) (v := .ref a_t_told) (C := RX12) (T := TX12) (N := 18) hx hb hts hi_X12 hown hK hP 0 rfl rfl 3 (by decide) (hts (.fieldLink RX12 13 "TriangleRestModel" "told" "[I") (List.mem_of_getElem? (i := 1) rfl)) (fun _ h9 => h9) rfl dX12_bar_95 ?_
              refine lv_bipush (v := (22 : Int32)) hx hb dX12_bar_98 (by decide) ?_
              refine lv_iload_n hx hb dX12_bar_100 rfl (lv_at hl 1 rfl) ?_
              refine lv_iadd hx hb dX12_bar_101 ?_
              obtain ⟨g15, h⟩ := jx_g_of h
              refine va_iald hx hb hK hP 1 0 rfl rfl (jx_in_of g15) dX12_bar_102 ?_
              cases h
              exact hret 103 ls rfl dX12_bar_103
            · have h := jx_t h c14
              refine lv_iload hx hb dX12_bar_79 (lv_at hl 0 rfl) ?_
              refine lv_aload_n hx hb dX12_bar_81 rfl (lv_at hl 2 rfl) ?_
              refine va_get (D := D) (ci := 12) (v := .ref a_t_told) (C := RX12) (T := TX12) (N := 18) hx hb hts hi_X12 hown hK hP 0 rfl rfl 3 (by decide) (hts (.fieldLink RX12 13 "TriangleRestModel" "told" "[I") (List.mem_of_getElem? (i := 1) rfl)) (fun _ h9 => h9) rfl dX12_bar_82 ?_
              refine lv_bipush (v := (6 : Int32)) hx hb dX12_bar_85 (by decide) ?_
              refine lv_iload_n hx hb dX12_bar_87 rfl (lv_at hl 1 rfl) ?_
              refine lv_iadd hx hb dX12_bar_88 ?_
              obtain ⟨g16, h⟩ := jx_g_of h
              refine va_iald hx hb hK hP 1 0 rfl rfl (jx_in_of g16) dX12_bar_89 ?_
              obtain ⟨g17, h⟩ := jx_g_of h
              refine lv_irem hx hb dX12_bar_90 (jx_nz_of g17) ?_
              refine lv_goto (tgt := 103) hx hb dX12_bar_91 (by decide) ?_
              cases h
              exact hret 103 ls rfl dX12_bar_103
          · have h := jx_t h c13
            refine lv_iload hx hb dX12_bar_59 (lv_at hl 0 rfl) ?_
            refine lv_aload_n hx hb dX12_bar_61 rfl (lv_at hl 2 rfl) ?_
            refine va_get (D := D) (ci := 12) (v := .ref a_t_told) (C := RX12) (T := TX12) (N := 18) hx hb hts hi_X12 hown hK hP 0 rfl rfl 3 (by decide) (hts (.fieldLink RX12 13 "TriangleRestModel" "told" "[I") (List.mem_of_getElem? (i := 1) rfl)) (fun _ h9 => h9) rfl dX12_bar_62 ?_
            refine lv_bipush (v := (6 : Int32)) hx hb dX12_bar_65 (by decide) ?_
            refine lv_iload_n hx hb dX12_bar_67 rfl (lv_at hl 1 rfl) ?_
            refine lv_iadd hx hb dX12_bar_68 ?_
            obtain ⟨g18, h⟩ := jx_g_of h
            refine va_iald hx hb hK hP 1 0 rfl rfl (jx_in_of g18) dX12_bar_69 ?_
            obtain ⟨g19, h⟩ := jx_g_of h
            refine lv_idiv hx hb dX12_bar_70 (jx_nz_of g19) ?_
            refine lv_goto (tgt := 103) hx hb dX12_bar_71 (by decide) ?_
            cases h
            exact hret 103 ls rfl dX12_bar_103
        · have h := jx_t h c12
          refine lv_iload_n hx hb dX12_bar_50 rfl (lv_at hl 1 rfl) ?_
          refine lv_goto (tgt := 103) hx hb dX12_bar_51 (by decide) ?_
          cases h
          exact hret 103 ls rfl dX12_bar_103
      · have h := jx_t h c9
        refine lv_bipush (v := (-9 : Int32)) hx hb dX12_bar_34 (by decide) ?_
        cases h
        exact hret 36 ls rfl dX12_bar_36
    · have h := jx_t h c6
      refine lv_iconst (v := (-1 : Int32)) hx hb dX12_bar_20 (by decide) ?_
      cases h
      exact hret 21 ls rfl dX12_bar_21
def mi_X12_keeps_l52 : Nat → Int32 → (Nat → Int32) → Option ((Nat → Int32))
  | 0, _, _ => none
  | n + 1, x1, t_s => if (5 : Int32) ≤ x1 then (some ((upd t_s (Int32.toNatClampNeg (5 : Int32)) ((t_s (Int32.toNatClampNeg (5 : Int32))) + (1 : Int32))))) else (jx_g (jx_in x1 56) (jx_g (jx_in (((6 : Int32) + ((5 : Int32) * (t_s (Int32.toNatClampNeg (5 : Int32))))) + x1) 56) (mi_X12_keeps_l52 n (x1 + 1) (upd t_s (Int32.toNatClampNeg (((6 : Int32) + ((5 : Int32) * (t_s (Int32.toNatClampNeg (5 : Int32))))) + x1)) (t_s (Int32.toNatClampNeg x1))))))
def mi_X12_keeps_b50 (t_s : Nat → Int32) : Option ((Nat → Int32)) := mi_X12_keeps_l52 jx_F (0 : Int32) t_s
def mi_X12_keeps_l14 : Nat → Int32 → (Nat → Int32) → Option ((Nat → Int32))
  | 0, _, _ => none
  | n + 1, x1, t_s => if (51 : Int32) ≤ x1 then (mi_X12_keeps_b50 (upd t_s (Int32.toNatClampNeg (5 : Int32)) ((t_s (Int32.toNatClampNeg (5 : Int32))) - (1 : Int32)))) else (jx_g (jx_in (x1 + (5 : Int32)) 56) (jx_g (jx_in x1 56) (mi_X12_keeps_l14 n (x1 + 1) (upd t_s (Int32.toNatClampNeg x1) (t_s (Int32.toNatClampNeg (x1 + (5 : Int32))))))))
def mi_X12_keeps (t_s : Nat → Int32) : Option ((Nat → Int32)) := if (t_s (Int32.toNatClampNeg (5 : Int32))) = (10 : Int32) then (mi_X12_keeps_l14 jx_F (6 : Int32) t_s) else (mi_X12_keeps_b50 t_s)
abbrev rm_X12_keeps : Room := { frames := 0, cells := 0, slots := 0, locals := 0 }
set_option maxRecDepth 100000 in
set_option maxHeartbeats 4000000 in
theorem ct_X12_keeps (l : Launch) (D : va_G) (cI cZ cO : ClassId) (a_t a_t_text a_t_told a_t_draft a_t_s a_t_images a_t_kept a_t_notes a_t_players a_t_answers a_t_room a_t_inRest : Nat) (sz : Nat) (t_trace : Int64) (t_typed : Int32) (t_noted : Int32) (t_at : Int32) (t_sort : Int32) (t_start : Int32) (t_value : Int32) (t_s : Nat → Int32) (z_t_s : Nat → Int32) (hm : mi_X12_keeps t_s = some z_t_s) : Met l yX12_keeps wsX12_keeps rm_X12_keeps (va_Pc [.ref a_t] (jx_W D (jx_T cI cZ cO) sz [(a_t, .inr (12, [.long t_trace, .ref a_t_text, .int t_typed, .ref a_t_told, .ref a_t_draft, .ref a_t_s, .ref a_t_images, .ref a_t_kept, .ref a_t_notes, .int t_noted, .int t_at, .int t_sort, .int t_start, .int t_value, .ref a_t_players, .ref a_t_answers, .ref a_t_room, .ref a_t_inRest])), (a_t_s, .inl (cI, 56, .inl t_s))])) (jx_Q none D [(a_t, .inr (12, [.long t_trace, .ref a_t_text, .int t_typed, .ref a_t_told, .ref a_t_draft, .ref a_t_s, .ref a_t_images, .ref a_t_kept, .ref a_t_notes, .int t_noted, .int t_at, .int t_sort, .int t_start, .int t_value, .ref a_t_players, .ref a_t_answers, .ref a_t_room, .ref a_t_inRest])), (a_t_s, .inl (cI, 56, .inl z_t_s))] (va_A [(a_t, .inr (12, [.long t_trace, .ref a_t_text, .int t_typed, .ref a_t_told, .ref a_t_draft, .ref a_t_s, .ref a_t_images, .ref a_t_kept, .ref a_t_notes, .int t_noted, .int t_at, .int t_sort, .int t_start, .int t_value, .ref a_t_players, .ref a_t_answers, .ref a_t_room, .ref a_t_inRest])), (a_t_s, .inl (cI, 56, .inl t_s))] sz)) 0 0 (va_A [(a_t, .inr (12, [.long t_trace, .ref a_t_text, .int t_typed, .ref a_t_told, .ref a_t_draft, .ref a_t_s, .ref a_t_images, .ref a_t_kept, .ref a_t_notes, .int t_noted, .int t_at, .int t_sort, .int t_start, .int t_value, .ref a_t_players, .ref a_t_answers, .ref a_t_room, .ref a_t_inRest])), (a_t_s, .inl (cI, 56, .inl t_s))] sz) := by
  refine jx_metV (own := RX12) (cc := cX12_keeps) (maxL := 2) (by decide) rfl rfl (Nat.le_of_ble_eq_true rfl) ?_
  intro p e s m args below meth c Q ls A hx hb hml hown hts hK hN hA hP hD hS hl hret
  have hi_X12 : ∀ w ∈ u_ws RX12 TX12 18, w ∈ wsX12_keeps := by decide +kernel
  have hl : lv_has ls 2 [(0, .ref a_t)] := hl
  have bl_l52 : ∀ (n : Nat) (x1 : Int32) (t_s : Nat → Int32) (H : Heap) (locs : List Loc) (ls : Array Slot), va_P D vwCl [(a_t, .inr (12, [.long t_trace, .ref a_t_text, .int t_typed, .ref a_t_told, .ref a_t_draft, .ref a_t_s, .ref a_t_images, .ref a_t_kept, .ref a_t_notes, .int t_noted, .int t_at, .int t_sort, .int t_start, .int t_value, .ref a_t_players, .ref a_t_answers, .ref a_t_room, .ref a_t_inRest])), (a_t_s, .inl (cI, 56, .inl t_s))] H → va_D A [(a_t, .inr (12, [.long t_trace, .ref a_t_text, .int t_typed, .ref a_t_told, .ref a_t_draft, .ref a_t_s, .ref a_t_images, .ref a_t_kept, .ref a_t_notes, .int t_noted, .int t_at, .int t_sort, .int t_start, .int t_value, .ref a_t_players, .ref a_t_answers, .ref a_t_room, .ref a_t_inRest])), (a_t_s, .inl (cI, 56, .inl t_s))] → va_S A s.heap H locs → lv_has ls 2 [(0, .ref a_t), (1, .int x1)] → mi_X12_keeps_l52 n x1 t_s = some z_t_s → W p l e (headSpec wsX12_keeps rm_X12_keeps).room s m args below meth c H locs 0 0 Q (F0 m 52 ls []) := by
    intro n
    induction n with
    | zero =>
      intro x1 t_s H locs ls hP hD hS hl h
      rw [mi_X12_keeps_l52] at h
      cases h
    | succ n_l52 ih_l52 =>
      intro x1 t_s H locs ls hP hD hS hl h
      rw [mi_X12_keeps_l52] at h
      refine lv_iload_n hx hb dX12_keeps_52 rfl (lv_at hl 1 rfl) ?_
      refine lv_iconst (v := (5 : Int32)) hx hb dX12_keeps_53 (by decide) ?_
      refine lv_icmp_ge (tgt := 87) hx hb dX12_keeps_54 (by decide) (fun c4 => ?_) (fun c4 => ?_)
      · have h := jx_t h c4
        refine lv_aload_n hx hb dX12_keeps_87 rfl (lv_at hl 0 rfl) ?_
        refine va_get (D := D) (ci := 12) (v := .ref a_t_s) (C := RX12) (T := TX12) (N := 18) hx hb hts hi_X12 hown hK hP 0 rfl rfl 5 (by decide) (hts (.fieldLink RX12 19 "TriangleRestModel" "s" "[I") (List.mem_of_getElem? (i := 1) rfl)) (fun _ h9 => h9) rfl dX12_keeps_88 ?_
        refine lv_iconst (v := (5 : Int32)) hx hb dX12_keeps_91 (by decide) ?_
        refine lv_dup2_11 hx hb dX12_keeps_92 rfl rfl ?_
        refine va_iald hx hb hK hP 1 0 rfl rfl (jx_in_of (by decide +kernel)) dX12_keeps_93 ?_
        refine lv_iconst (v := (1 : Int32)) hx hb dX12_keeps_94 (by decide) ?_
        refine lv_iadd hx hb dX12_keeps_95 ?_
        refine va_iast hx hb hK hP hD hS 1 0 rfl rfl (jx_in_of (by decide +kernel)) dX12_keeps_96 (fun H locs hP hD hS => ?_)
        have hP : va_P D vwCl [(a_t, .inr (12, [.long t_trace, .ref a_t_text, .int t_typed, .ref a_t_told, .ref a_t_draft, .ref a_t_s, .ref a_t_images, .ref a_t_kept, .ref a_t_notes, .int t_noted, .int t_at, .int t_sort, .int t_start, .int t_value, .ref a_t_players, .ref a_t_answers, .ref a_t_room, .ref a_t_inRest])), (a_t_s, .inl (cI, 56, .inl (upd t_s (Int32.toNatClampNeg (5 : Int32)) ((t_s (Int32.toNatClampNeg (5 : Int32))) + (1 : Int32)))))] H := hP
        have hD : va_D A [(a_t, .inr (12, [.long t_trace, .ref a_t_text, .int t_typed, .ref a_t_told, .ref a_t_draft, .ref a_t_s, .ref a_t_images, .ref a_t_kept, .ref a_t_notes, .int t_noted, .int t_at, .int t_sort, .int t_start, .int t_value, .ref a_t_players, .ref a_t_answers, .ref a_t_room, .ref a_t_inRest])), (a_t_s, .inl (cI, 56, .inl (upd t_s (Int32.toNatClampNeg (5 : Int32)) ((t_s (Int32.toNatClampNeg (5 : Int32))) + (1 : Int32)))))] := hD
        cases h
        exact hret 97 ls _ _ hP hD hS dX12_keeps_97
      · have h := jx_f h c4
        refine lv_aload_n hx hb dX12_keeps_57 rfl (lv_at hl 0 rfl) ?_
        refine va_get (D := D) (ci := 12) (v := .ref a_t_s) (C := RX12) (T := TX12) (N := 18) hx hb hts hi_X12 hown hK hP 0 rfl rfl 5 (by decide) (hts (.fieldLink RX12 19 "TriangleRestModel" "s" "[I") (List.mem_of_getElem? (i := 1) rfl)) (fun _ h9 => h9) rfl dX12_keeps_58 ?_
        refine lv_bipush (v := (6 : Int32)) hx hb dX12_keeps_61 (by decide) ?_
        refine lv_iconst (v := (5 : Int32)) hx hb dX12_keeps_63 (by decide) ?_
        refine lv_aload_n hx hb dX12_keeps_64 rfl (lv_at hl 0 rfl) ?_
        refine va_get (D := D) (ci := 12) (v := .ref a_t_s) (C := RX12) (T := TX12) (N := 18) hx hb hts hi_X12 hown hK hP 0 rfl rfl 5 (by decide) (hts (.fieldLink RX12 19 "TriangleRestModel" "s" "[I") (List.mem_of_getElem? (i := 1) rfl)) (fun _ h9 => h9) rfl dX12_keeps_65 ?_
        refine lv_iconst (v := (5 : Int32)) hx hb dX12_keeps_68 (by decide) ?_
        refine va_iald hx hb hK hP 1 0 rfl rfl (jx_in_of (by decide +kernel)) dX12_keeps_69 ?_
        refine lv_imul hx hb dX12_keeps_70 ?_
        refine lv_iadd hx hb dX12_keeps_71 ?_
        refine lv_iload_n hx hb dX12_keeps_72 rfl (lv_at hl 1 rfl) ?_
        refine lv_iadd hx hb dX12_keeps_73 ?_
        refine lv_aload_n hx hb dX12_keeps_74 rfl (lv_at hl 0 rfl) ?_
        refine va_get (D := D) (ci := 12) (v := .ref a_t_s) (C := RX12) (T := TX12) (N := 18) hx hb hts hi_X12 hown hK hP 0 rfl rfl 5 (by decide) (hts (.fieldLink RX12 19 "TriangleRestModel" "s" "[I") (List.mem_of_getElem? (i := 1) rfl)) (fun _ h9 => h9) rfl dX12_keeps_75 ?_
        refine lv_iload_n hx hb dX12_keeps_78 rfl (lv_at hl 1 rfl) ?_
        obtain ⟨g5, h⟩ := jx_g_of h
        refine va_iald hx hb hK hP 1 0 rfl rfl (jx_in_of g5) dX12_keeps_79 ?_
        obtain ⟨g6, h⟩ := jx_g_of h
        refine va_iast hx hb hK hP hD hS 1 0 rfl rfl (jx_in_of g6) dX12_keeps_80 (fun H locs hP hD hS => ?_)
        have hP : va_P D vwCl [(a_t, .inr (12, [.long t_trace, .ref a_t_text, .int t_typed, .ref a_t_told, .ref a_t_draft, .ref a_t_s, .ref a_t_images, .ref a_t_kept, .ref a_t_notes, .int t_noted, .int t_at, .int t_sort, .int t_start, .int t_value, .ref a_t_players, .ref a_t_answers, .ref a_t_room, .ref a_t_inRest])), (a_t_s, .inl (cI, 56, .inl (upd t_s (Int32.toNatClampNeg (((6 : Int32) + ((5 : Int32) * (t_s (Int32.toNatClampNeg (5 : Int32))))) + x1)) (t_s (Int32.toNatClampNeg x1)))))] H := hP
        have hD : va_D A [(a_t, .inr (12, [.long t_trace, .ref a_t_text, .int t_typed, .ref a_t_told, .ref a_t_draft, .ref a_t_s, .ref a_t_images, .ref a_t_kept, .ref a_t_notes, .int t_noted, .int t_at, .int t_sort, .int t_start, .int t_value, .ref a_t_players, .ref a_t_answers, .ref a_t_room, .ref a_t_inRest])), (a_t_s, .inl (cI, 56, .inl (upd t_s (Int32.toNatClampNeg (((6 : Int32) + ((5 : Int32) * (t_s (Int32.toNatClampNeg (5 : Int32))))) + x1)) (t_s (Int32.toNatClampNeg x1)))))] := hD
        refine lv_iinc (v := (x1 + 1)) (lv' := [(1, .int (x1 + 1)), (0, .ref a_t)]) hx hb dX12_keeps_81 hl (k := 1) rfl rfl (by decide) rfl (fun ls hl => ?_)
        refine lv_goto (tgt := 52) hx hb dX12_keeps_84 (by decide) ?_
        exact ih_l52 (x1 + 1) (upd t_s (Int32.toNatClampNeg (((6 : Int32) + ((5 : Int32) * (t_s (Int32.toNatClampNeg (5 : Int32))))) + x1)) (t_s (Int32.toNatClampNeg x1))) _ _ _ hP hD hS (lv_sub hl [1, 0] rfl) h
  have bl_b50 : ∀ (t_s : Nat → Int32) (H : Heap) (locs : List Loc) (ls : Array Slot), va_P D vwCl [(a_t, .inr (12, [.long t_trace, .ref a_t_text, .int t_typed, .ref a_t_told, .ref a_t_draft, .ref a_t_s, .ref a_t_images, .ref a_t_kept, .ref a_t_notes, .int t_noted, .int t_at, .int t_sort, .int t_start, .int t_value, .ref a_t_players, .ref a_t_answers, .ref a_t_room, .ref a_t_inRest])), (a_t_s, .inl (cI, 56, .inl t_s))] H → va_D A [(a_t, .inr (12, [.long t_trace, .ref a_t_text, .int t_typed, .ref a_t_told, .ref a_t_draft, .ref a_t_s, .ref a_t_images, .ref a_t_kept, .ref a_t_notes, .int t_noted, .int t_at, .int t_sort, .int t_start, .int t_value, .ref a_t_players, .ref a_t_answers, .ref a_t_room, .ref a_t_inRest])), (a_t_s, .inl (cI, 56, .inl t_s))] → va_S A s.heap H locs → lv_has ls 2 [(0, .ref a_t)] → mi_X12_keeps_b50 t_s = some z_t_s → W p l e (headSpec wsX12_keeps rm_X12_keeps).room s m args below meth c H locs 0 0 Q (F0 m 50 ls []) := by
    intro t_s H locs ls hP hD hS hl h
    unfold mi_X12_keeps_b50 at h
    refine lv_iconst (v := (0 : Int32)) hx hb dX12_keeps_50 (by decide) ?_
    refine lv_istore_n (lv' := [(1, .int (0 : Int32)), (0, .ref a_t)]) hx hb dX12_keeps_51 rfl hl (by decide) rfl (fun ls hl => ?_)
    exact bl_l52 jx_F (0 : Int32) t_s _ _ _ hP hD hS (lv_sub hl [1, 0] rfl) h
  have bl_l14 : ∀ (n : Nat) (x1 : Int32) (t_s : Nat → Int32) (H : Heap) (locs : List Loc) (ls : Array Slot), va_P D vwCl [(a_t, .inr (12, [.long t_trace, .ref a_t_text, .int t_typed, .ref a_t_told, .ref a_t_draft, .ref a_t_s, .ref a_t_images, .ref a_t_kept, .ref a_t_notes, .int t_noted, .int t_at, .int t_sort, .int t_start, .int t_value, .ref a_t_players, .ref a_t_answers, .ref a_t_room, .ref a_t_inRest])), (a_t_s, .inl (cI, 56, .inl t_s))] H → va_D A [(a_t, .inr (12, [.long t_trace, .ref a_t_text, .int t_typed, .ref a_t_told, .ref a_t_draft, .ref a_t_s, .ref a_t_images, .ref a_t_kept, .ref a_t_notes, .int t_noted, .int t_at, .int t_sort, .int t_start, .int t_value, .ref a_t_players, .ref a_t_answers, .ref a_t_room, .ref a_t_inRest])), (a_t_s, .inl (cI, 56, .inl t_s))] → va_S A s.heap H locs → lv_has ls 2 [(0, .ref a_t), (1, .int x1)] → mi_X12_keeps_l14 n x1 t_s = some z_t_s → W p l e (headSpec wsX12_keeps rm_X12_keeps).room s m args below meth c H locs 0 0 Q (F0 m 14 ls []) := by
    intro n
    induction n with
    | zero =>
      intro x1 t_s H locs ls hP hD hS hl h
      rw [mi_X12_keeps_l14] at h
      cases h
    | succ n_l14 ih_l14 =>
      intro x1 t_s H locs ls hP hD hS hl h
      rw [mi_X12_keeps_l14] at h
      refine lv_iload_n hx hb dX12_keeps_14 rfl (lv_at hl 1 rfl) ?_
      refine lv_bipush (v := (51 : Int32)) hx hb dX12_keeps_15 (by decide) ?_
      refine lv_icmp_ge (tgt := 40) hx hb dX12_keeps_17 (by decide) (fun c1 => ?_) (fun c1 => ?_)
      · have h := jx_t h c1
        refine lv_aload_n hx hb dX12_keeps_40 rfl (lv_at hl 0 rfl) ?_
        refine va_get (D := D) (ci := 12) (v := .ref a_t_s) (C := RX12) (T := TX12) (N := 18) hx hb hts hi_X12 hown hK hP 0 rfl rfl 5 (by decide) (hts (.fieldLink RX12 19 "TriangleRestModel" "s" "[I") (List.mem_of_getElem? (i := 1) rfl)) (fun _ h9 => h9) rfl dX12_keeps_41 ?_
        refine lv_iconst (v := (5 : Int32)) hx hb dX12_keeps_44 (by decide) ?_
        refine lv_dup2_11 hx hb dX12_keeps_45 rfl rfl ?_
        refine va_iald hx hb hK hP 1 0 rfl rfl (jx_in_of (by decide +kernel)) dX12_keeps_46 ?_
        refine lv_iconst (v := (1 : Int32)) hx hb dX12_keeps_47 (by decide) ?_
        refine lv_isub hx hb dX12_keeps_48 ?_
        refine va_iast hx hb hK hP hD hS 1 0 rfl rfl (jx_in_of (by decide +kernel)) dX12_keeps_49 (fun H locs hP hD hS => ?_)
        have hP : va_P D vwCl [(a_t, .inr (12, [.long t_trace, .ref a_t_text, .int t_typed, .ref a_t_told, .ref a_t_draft, .ref a_t_s, .ref a_t_images, .ref a_t_kept, .ref a_t_notes, .int t_noted, .int t_at, .int t_sort, .int t_start, .int t_value, .ref a_t_players, .ref a_t_answers, .ref a_t_room, .ref a_t_inRest])), (a_t_s, .inl (cI, 56, .inl (upd t_s (Int32.toNatClampNeg (5 : Int32)) ((t_s (Int32.toNatClampNeg (5 : Int32))) - (1 : Int32)))))] H := hP
        have hD : va_D A [(a_t, .inr (12, [.long t_trace, .ref a_t_text, .int t_typed, .ref a_t_told, .ref a_t_draft, .ref a_t_s, .ref a_t_images, .ref a_t_kept, .ref a_t_notes, .int t_noted, .int t_at, .int t_sort, .int t_start, .int t_value, .ref a_t_players, .ref a_t_answers, .ref a_t_room, .ref a_t_inRest])), (a_t_s, .inl (cI, 56, .inl (upd t_s (Int32.toNatClampNeg (5 : Int32)) ((t_s (Int32.toNatClampNeg (5 : Int32))) - (1 : Int32)))))] := hD
        exact bl_b50 (upd t_s (Int32.toNatClampNeg (5 : Int32)) ((t_s (Int32.toNatClampNeg (5 : Int32))) - (1 : Int32))) _ _ _ hP hD hS (lv_sub hl [0] rfl) h
      · have h := jx_f h c1
        refine lv_aload_n hx hb dX12_keeps_20 rfl (lv_at hl 0 rfl) ?_
        refine va_get (D := D) (ci := 12) (v := .ref a_t_s) (C := RX12) (T := TX12) (N := 18) hx hb hts hi_X12 hown hK hP 0 rfl rfl 5 (by decide) (hts (.fieldLink RX12 19 "TriangleRestModel" "s" "[I") (List.mem_of_getElem? (i := 1) rfl)) (fun _ h9 => h9) rfl dX12_keeps_21 ?_
        refine lv_iload_n hx hb dX12_keeps_24 rfl (lv_at hl 1 rfl) ?_
        refine lv_aload_n hx hb dX12_keeps_25 rfl (lv_at hl 0 rfl) ?_
        refine va_get (D := D) (ci := 12) (v := .ref a_t_s) (C := RX12) (T := TX12) (N := 18) hx hb hts hi_X12 hown hK hP 0 rfl rfl 5 (by decide) (hts (.fieldLink RX12 19 "TriangleRestModel" "s" "[I") (List.mem_of_getElem? (i := 1) rfl)) (fun _ h9 => h9) rfl dX12_keeps_26 ?_
        refine lv_iload_n hx hb dX12_keeps_29 rfl (lv_at hl 1 rfl) ?_
        refine lv_iconst (v := (5 : Int32)) hx hb dX12_keeps_30 (by decide) ?_
        refine lv_iadd hx hb dX12_keeps_31 ?_
        obtain ⟨g2, h⟩ := jx_g_of h
        refine va_iald hx hb hK hP 1 0 rfl rfl (jx_in_of g2) dX12_keeps_32 ?_
        obtain ⟨g3, h⟩ := jx_g_of h
        refine va_iast hx hb hK hP hD hS 1 0 rfl rfl (jx_in_of g3) dX12_keeps_33 (fun H locs hP hD hS => ?_)
        have hP : va_P D vwCl [(a_t, .inr (12, [.long t_trace, .ref a_t_text, .int t_typed, .ref a_t_told, .ref a_t_draft, .ref a_t_s, .ref a_t_images, .ref a_t_kept, .ref a_t_notes, .int t_noted, .int t_at, .int t_sort, .int t_start, .int t_value, .ref a_t_players, .ref a_t_answers, .ref a_t_room, .ref a_t_inRest])), (a_t_s, .inl (cI, 56, .inl (upd t_s (Int32.toNatClampNeg x1) (t_s (Int32.toNatClampNeg (x1 + (5 : Int32)))))))] H := hP
        have hD : va_D A [(a_t, .inr (12, [.long t_trace, .ref a_t_text, .int t_typed, .ref a_t_told, .ref a_t_draft, .ref a_t_s, .ref a_t_images, .ref a_t_kept, .ref a_t_notes, .int t_noted, .int t_at, .int t_sort, .int t_start, .int t_value, .ref a_t_players, .ref a_t_answers, .ref a_t_room, .ref a_t_inRest])), (a_t_s, .inl (cI, 56, .inl (upd t_s (Int32.toNatClampNeg x1) (t_s (Int32.toNatClampNeg (x1 + (5 : Int32)))))))] := hD
        refine lv_iinc (v := (x1 + 1)) (lv' := [(1, .int (x1 + 1)), (0, .ref a_t)]) hx hb dX12_keeps_34 hl (k := 1) rfl rfl (by decide) rfl (fun ls hl => ?_)
        refine lv_goto (tgt := 14) hx hb dX12_keeps_37 (by decide) ?_
        exact ih_l14 (x1 + 1) (upd t_s (Int32.toNatClampNeg x1) (t_s (Int32.toNatClampNeg (x1 + (5 : Int32))))) _ _ _ hP hD hS (lv_sub hl [1, 0] rfl) h
  have h := hm
  unfold mi_X12_keeps at h
  refine lv_aload_n hx hb dX12_keeps_0 rfl (lv_at hl 0 rfl) ?_
  refine va_get (D := D) (ci := 12) (v := .ref a_t_s) (C := RX12) (T := TX12) (N := 18) hx hb hts hi_X12 hown hK hP 0 rfl rfl 5 (by decide) (hts (.fieldLink RX12 19 "TriangleRestModel" "s" "[I") (List.mem_of_getElem? (i := 1) rfl)) (fun _ h9 => h9) rfl dX12_keeps_1 ?_
  refine lv_iconst (v := (5 : Int32)) hx hb dX12_keeps_4 (by decide) ?_
  refine va_iald hx hb hK hP 1 0 rfl rfl (jx_in_of (by decide +kernel)) dX12_keeps_5 ?_
  refine lv_bipush (v := (10 : Int32)) hx hb dX12_keeps_6 (by decide) ?_
  refine lv_icmp_ne (tgt := 50) hx hb dX12_keeps_8 (by decide) (fun c7 => ?_) (fun c7 => ?_)
  · have h := jx_f h c7
    exact bl_b50 t_s _ _ _ hP hD hS (lv_sub hl [0] rfl) h
  · have h := jx_t h c7
    refine lv_bipush (v := (6 : Int32)) hx hb dX12_keeps_11 (by decide) ?_
    refine lv_istore_n (lv' := [(1, .int (6 : Int32)), (0, .ref a_t)]) hx hb dX12_keeps_13 rfl hl (by decide) rfl (fun ls hl => ?_)
    exact bl_l14 jx_F (6 : Int32) t_s _ _ _ hP hD hS (lv_sub hl [1, 0] rfl) h
def mi_X12_bars_b107 (p1 : Int32) (k1 : Int32) (k2 : Int32) (t_s : Nat → Int32) : Option (Int32 × (Nat → Int32)) := jx_g (jx_in k1 56) (jx_l (((upd (upd t_s (Int32.toNatClampNeg k1) k2) (Int32.toNatClampNeg (0 : Int32)) (((upd t_s (Int32.toNatClampNeg k1) k2) (Int32.toNatClampNeg (0 : Int32))) + p1)) (Int32.toNatClampNeg (1 : Int32))) + p1) fun v3 => (some (((upd (upd (upd t_s (Int32.toNatClampNeg k1) k2) (Int32.toNatClampNeg (0 : Int32)) (((upd t_s (Int32.toNatClampNeg k1) k2) (Int32.toNatClampNeg (0 : Int32))) + p1)) (Int32.toNatClampNeg (1 : Int32)) v3) (Int32.toNatClampNeg (0 : Int32))), (upd (upd (upd t_s (Int32.toNatClampNeg k1) k2) (Int32.toNatClampNeg (0 : Int32)) (((upd t_s (Int32.toNatClampNeg k1) k2) (Int32.toNatClampNeg (0 : Int32))) + p1)) (Int32.toNatClampNeg (1 : Int32)) v3))))
def mi_X12_bars_b87 (p1 : Int32) (k0 : Int32) (t_s : Nat → Int32) : Option (Int32 × (Nat → Int32)) := if k0 = 0 then (mi_X12_bars_b107 p1 (4 : Int32) (t_s (Int32.toNatClampNeg (4 : Int32))) t_s) else (mi_X12_bars_b107 p1 (4 : Int32) (1 : Int32) t_s)
def mi_X12_bars_b86 (p1 : Int32) (t_s : Nat → Int32) : Option (Int32 × (Nat → Int32)) := mi_X12_bars_b87 p1 (0 : Int32) t_s
def mi_X12_bars (t_told : Nat → Int32) (t_s : Nat → Int32) (p1 : Int32) : Option (Int32 × (Nat → Int32)) := jx_b1 (mi_X12_in p1 (1 : Int32) (99 : Int32)) fun r4 => (if r4 = 0 then (some ((-1 : Int32), t_s)) else (jx_b1 (mi_X12_length t_told t_s) fun r7 => (if ((t_s (Int32.toNatClampNeg (0 : Int32))) + p1) ≤ r7 then (jx_b1 (mi_X12_keeps t_s) fun t_s_10 => (jx_b1 (mi_X12_noteBar t_told (t_s_10 (Int32.toNatClampNeg (3 : Int32)))) fun r12 => (if r12 < (t_s_10 (Int32.toNatClampNeg (0 : Int32))) then (mi_X12_bars_b86 p1 t_s_10) else (if ((t_s_10 (Int32.toNatClampNeg (0 : Int32))) + p1) ≤ r12 then (mi_X12_bars_b86 p1 t_s_10) else (if (t_s_10 (Int32.toNatClampNeg (1 : Int32))) = (t_s_10 (Int32.toNatClampNeg (0 : Int32))) then (mi_X12_bars_b87 p1 (1 : Int32) t_s_10) else (mi_X12_bars_b86 p1 t_s_10)))))) else (some ((-2 : Int32), t_s)))))
abbrev rm_X12_bars : Room := { frames := 3, cells := 0, slots := 0, locals := 67 }
set_option maxRecDepth 100000 in
set_option maxHeartbeats 4000000 in
theorem ct_X12_bars (l : Launch) (D : va_G) (cI cZ cO : ClassId) (a_t a_t_text a_t_told a_t_draft a_t_s a_t_images a_t_kept a_t_notes a_t_players a_t_answers a_t_room a_t_inRest : Nat) (sz : Nat) (t_trace : Int64) (t_typed : Int32) (t_noted : Int32) (t_at : Int32) (t_sort : Int32) (t_start : Int32) (t_value : Int32) (t_told : Nat → Int32) (t_s : Nat → Int32) (p1 : Int32) (r : Int32) (z_t_s : Nat → Int32) (hm : mi_X12_bars t_told t_s p1 = some (r, z_t_s)) : Met l yX12_bars wsX12_bars rm_X12_bars (va_Pc [.ref a_t, .int p1] (jx_W D (jx_T cI cZ cO) sz [(a_t, .inr (12, [.long t_trace, .ref a_t_text, .int t_typed, .ref a_t_told, .ref a_t_draft, .ref a_t_s, .ref a_t_images, .ref a_t_kept, .ref a_t_notes, .int t_noted, .int t_at, .int t_sort, .int t_start, .int t_value, .ref a_t_players, .ref a_t_answers, .ref a_t_room, .ref a_t_inRest])), (a_t_told, .inl (cI, 36, .inl t_told)), (a_t_s, .inl (cI, 56, .inl t_s))])) (jx_Q (some (.int r)) D [(a_t, .inr (12, [.long t_trace, .ref a_t_text, .int t_typed, .ref a_t_told, .ref a_t_draft, .ref a_t_s, .ref a_t_images, .ref a_t_kept, .ref a_t_notes, .int t_noted, .int t_at, .int t_sort, .int t_start, .int t_value, .ref a_t_players, .ref a_t_answers, .ref a_t_room, .ref a_t_inRest])), (a_t_told, .inl (cI, 36, .inl t_told)), (a_t_s, .inl (cI, 56, .inl z_t_s))] (va_A [(a_t, .inr (12, [.long t_trace, .ref a_t_text, .int t_typed, .ref a_t_told, .ref a_t_draft, .ref a_t_s, .ref a_t_images, .ref a_t_kept, .ref a_t_notes, .int t_noted, .int t_at, .int t_sort, .int t_start, .int t_value, .ref a_t_players, .ref a_t_answers, .ref a_t_room, .ref a_t_inRest])), (a_t_told, .inl (cI, 36, .inl t_told)), (a_t_s, .inl (cI, 56, .inl t_s))] sz)) 0 0 (va_A [(a_t, .inr (12, [.long t_trace, .ref a_t_text, .int t_typed, .ref a_t_told, .ref a_t_draft, .ref a_t_s, .ref a_t_images, .ref a_t_kept, .ref a_t_notes, .int t_noted, .int t_at, .int t_sort, .int t_start, .int t_value, .ref a_t_players, .ref a_t_answers, .ref a_t_room, .ref a_t_inRest])), (a_t_told, .inl (cI, 36, .inl t_told)), (a_t_s, .inl (cI, 56, .inl t_s))] sz) := by
  refine jx_metW (ty := .int) (own := RX12) (cc := cX12_bars) (maxL := 4) (by decide) rfl rfl (Nat.le_of_ble_eq_true rfl) ?_
  intro p e s m args below meth c Q ls A hx hb hml hown hts hK hN hA hP hD hS hl hret
  have hi_X12 : ∀ w ∈ u_ws RX12 TX12 18, w ∈ wsX12_bars := by decide +kernel
  have hl : lv_has ls 4 [(0, .ref a_t), (1, .int p1)] := hl
  have bl_b107 : ∀ (k1 : Int32) (k2 : Int32) (t_s : Nat → Int32) (H : Heap) (locs : List Loc) (ls : Array Slot), va_P D vwCl [(a_t, .inr (12, [.long t_trace, .ref a_t_text, .int t_typed, .ref a_t_told, .ref a_t_draft, .ref a_t_s, .ref a_t_images, .ref a_t_kept, .ref a_t_notes, .int t_noted, .int t_at, .int t_sort, .int t_start, .int t_value, .ref a_t_players, .ref a_t_answers, .ref a_t_room, .ref a_t_inRest])), (a_t_told, .inl (cI, 36, .inl t_told)), (a_t_s, .inl (cI, 56, .inl t_s))] H → va_D A [(a_t, .inr (12, [.long t_trace, .ref a_t_text, .int t_typed, .ref a_t_told, .ref a_t_draft, .ref a_t_s, .ref a_t_images, .ref a_t_kept, .ref a_t_notes, .int t_noted, .int t_at, .int t_sort, .int t_start, .int t_value, .ref a_t_players, .ref a_t_answers, .ref a_t_room, .ref a_t_inRest])), (a_t_told, .inl (cI, 36, .inl t_told)), (a_t_s, .inl (cI, 56, .inl t_s))] → va_S A s.heap H locs → lv_has ls 4 [(0, .ref a_t), (1, .int p1)] → mi_X12_bars_b107 p1 k1 k2 t_s = some (r, z_t_s) → W p l e (headSpec wsX12_bars rm_X12_bars).room s m args below meth c H locs 0 0 Q (F0 m 107 ls [.int k2, .int k1, .ref a_t_s]) := by
    intro k1 k2 t_s H locs ls hP hD hS hl h
    unfold mi_X12_bars_b107 at h
    obtain ⟨g2, h⟩ := jx_g_of h
    refine va_iast hx hb hK hP hD hS 2 0 rfl rfl (jx_in_of g2) dX12_bars_107 (fun H locs hP hD hS => ?_)
    have hP : va_P D vwCl [(a_t, .inr (12, [.long t_trace, .ref a_t_text, .int t_typed, .ref a_t_told, .ref a_t_draft, .ref a_t_s, .ref a_t_images, .ref a_t_kept, .ref a_t_notes, .int t_noted, .int t_at, .int t_sort, .int t_start, .int t_value, .ref a_t_players, .ref a_t_answers, .ref a_t_room, .ref a_t_inRest])), (a_t_told, .inl (cI, 36, .inl t_told)), (a_t_s, .inl (cI, 56, .inl (upd t_s (Int32.toNatClampNeg k1) k2)))] H := hP
    have hD : va_D A [(a_t, .inr (12, [.long t_trace, .ref a_t_text, .int t_typed, .ref a_t_told, .ref a_t_draft, .ref a_t_s, .ref a_t_images, .ref a_t_kept, .ref a_t_notes, .int t_noted, .int t_at, .int t_sort, .int t_start, .int t_value, .ref a_t_players, .ref a_t_answers, .ref a_t_room, .ref a_t_inRest])), (a_t_told, .inl (cI, 36, .inl t_told)), (a_t_s, .inl (cI, 56, .inl (upd t_s (Int32.toNatClampNeg k1) k2)))] := hD
    refine lv_aload_n hx hb dX12_bars_108 rfl (lv_at hl 0 rfl) ?_
    refine va_get (D := D) (ci := 12) (v := .ref a_t_s) (C := RX12) (T := TX12) (N := 18) hx hb hts hi_X12 hown hK hP 0 rfl rfl 5 (by decide) (hts (.fieldLink RX12 19 "TriangleRestModel" "s" "[I") (List.mem_of_getElem? (i := 1) rfl)) (fun _ h9 => h9) rfl dX12_bars_109 ?_
    refine lv_iconst (v := (0 : Int32)) hx hb dX12_bars_112 (by decide) ?_
    refine lv_dup2_11 hx hb dX12_bars_113 rfl rfl ?_
    refine va_iald hx hb hK hP 2 0 rfl rfl (jx_in_of (by decide +kernel)) dX12_bars_114 ?_
    refine lv_iload_n hx hb dX12_bars_115 rfl (lv_at hl 1 rfl) ?_
    refine lv_iadd hx hb dX12_bars_116 ?_
    refine va_iast hx hb hK hP hD hS 2 0 rfl rfl (jx_in_of (by decide +kernel)) dX12_bars_117 (fun H locs hP hD hS => ?_)
    have hP : va_P D vwCl [(a_t, .inr (12, [.long t_trace, .ref a_t_text, .int t_typed, .ref a_t_told, .ref a_t_draft, .ref a_t_s, .ref a_t_images, .ref a_t_kept, .ref a_t_notes, .int t_noted, .int t_at, .int t_sort, .int t_start, .int t_value, .ref a_t_players, .ref a_t_answers, .ref a_t_room, .ref a_t_inRest])), (a_t_told, .inl (cI, 36, .inl t_told)), (a_t_s, .inl (cI, 56, .inl (upd (upd t_s (Int32.toNatClampNeg k1) k2) (Int32.toNatClampNeg (0 : Int32)) (((upd t_s (Int32.toNatClampNeg k1) k2) (Int32.toNatClampNeg (0 : Int32))) + p1))))] H := hP
    have hD : va_D A [(a_t, .inr (12, [.long t_trace, .ref a_t_text, .int t_typed, .ref a_t_told, .ref a_t_draft, .ref a_t_s, .ref a_t_images, .ref a_t_kept, .ref a_t_notes, .int t_noted, .int t_at, .int t_sort, .int t_start, .int t_value, .ref a_t_players, .ref a_t_answers, .ref a_t_room, .ref a_t_inRest])), (a_t_told, .inl (cI, 36, .inl t_told)), (a_t_s, .inl (cI, 56, .inl (upd (upd t_s (Int32.toNatClampNeg k1) k2) (Int32.toNatClampNeg (0 : Int32)) (((upd t_s (Int32.toNatClampNeg k1) k2) (Int32.toNatClampNeg (0 : Int32))) + p1))))] := hD
    refine lv_aload_n hx hb dX12_bars_118 rfl (lv_at hl 0 rfl) ?_
    refine va_get (D := D) (ci := 12) (v := .ref a_t_s) (C := RX12) (T := TX12) (N := 18) hx hb hts hi_X12 hown hK hP 0 rfl rfl 5 (by decide) (hts (.fieldLink RX12 19 "TriangleRestModel" "s" "[I") (List.mem_of_getElem? (i := 1) rfl)) (fun _ h9 => h9) rfl dX12_bars_119 ?_
    refine lv_iconst (v := (1 : Int32)) hx hb dX12_bars_122 (by decide) ?_
    refine lv_dup2_11 hx hb dX12_bars_123 rfl rfl ?_
    refine va_iald hx hb hK hP 2 0 rfl rfl (jx_in_of (by decide +kernel)) dX12_bars_124 ?_
    refine lv_iload_n hx hb dX12_bars_125 rfl (lv_at hl 1 rfl) ?_
    refine lv_iadd hx hb dX12_bars_126 ?_
    refine lv_topi (fun v3 e_v3 => ?_)
    have h := jx_l_of e_v3 h
    refine va_iast hx hb hK hP hD hS 2 0 rfl rfl (jx_in_of (by decide +kernel)) dX12_bars_127 (fun H locs hP hD hS => ?_)
    have hP : va_P D vwCl [(a_t, .inr (12, [.long t_trace, .ref a_t_text, .int t_typed, .ref a_t_told, .ref a_t_draft, .ref a_t_s, .ref a_t_images, .ref a_t_kept, .ref a_t_notes, .int t_noted, .int t_at, .int t_sort, .int t_start, .int t_value, .ref a_t_players, .ref a_t_answers, .ref a_t_room, .ref a_t_inRest])), (a_t_told, .inl (cI, 36, .inl t_told)), (a_t_s, .inl (cI, 56, .inl (upd (upd (upd t_s (Int32.toNatClampNeg k1) k2) (Int32.toNatClampNeg (0 : Int32)) (((upd t_s (Int32.toNatClampNeg k1) k2) (Int32.toNatClampNeg (0 : Int32))) + p1)) (Int32.toNatClampNeg (1 : Int32)) v3)))] H := hP
    have hD : va_D A [(a_t, .inr (12, [.long t_trace, .ref a_t_text, .int t_typed, .ref a_t_told, .ref a_t_draft, .ref a_t_s, .ref a_t_images, .ref a_t_kept, .ref a_t_notes, .int t_noted, .int t_at, .int t_sort, .int t_start, .int t_value, .ref a_t_players, .ref a_t_answers, .ref a_t_room, .ref a_t_inRest])), (a_t_told, .inl (cI, 36, .inl t_told)), (a_t_s, .inl (cI, 56, .inl (upd (upd (upd t_s (Int32.toNatClampNeg k1) k2) (Int32.toNatClampNeg (0 : Int32)) (((upd t_s (Int32.toNatClampNeg k1) k2) (Int32.toNatClampNeg (0 : Int32))) + p1)) (Int32.toNatClampNeg (1 : Int32)) v3)))] := hD
    refine lv_aload_n hx hb dX12_bars_128 rfl (lv_at hl 0 rfl) ?_
    refine va_get (D := D) (ci := 12) (v := .ref a_t_s) (C := RX12) (T := TX12) (N := 18) hx hb hts hi_X12 hown hK hP 0 rfl rfl 5 (by decide) (hts (.fieldLink RX12 19 "TriangleRestModel" "s" "[I") (List.mem_of_getElem? (i := 1) rfl)) (fun _ h9 => h9) rfl dX12_bars_129 ?_
    refine lv_iconst (v := (0 : Int32)) hx hb dX12_bars_132 (by decide) ?_
    refine va_iald hx hb hK hP 2 0 rfl rfl (jx_in_of (by decide +kernel)) dX12_bars_133 ?_
    cases h
    exact hret 134 ls _ _ hP hD hS rfl dX12_bars_134
  have bl_b87 : ∀ (k0 : Int32) (t_s : Nat → Int32) (H : Heap) (locs : List Loc) (ls : Array Slot), va_P D vwCl [(a_t, .inr (12, [.long t_trace, .ref a_t_text, .int t_typed, .ref a_t_told, .ref a_t_draft, .ref a_t_s, .ref a_t_images, .ref a_t_kept, .ref a_t_notes, .int t_noted, .int t_at, .int t_sort, .int t_start, .int t_value, .ref a_t_players, .ref a_t_answers, .ref a_t_room, .ref a_t_inRest])), (a_t_told, .inl (cI, 36, .inl t_told)), (a_t_s, .inl (cI, 56, .inl t_s))] H → va_D A [(a_t, .inr (12, [.long t_trace, .ref a_t_text, .int t_typed, .ref a_t_told, .ref a_t_draft, .ref a_t_s, .ref a_t_images, .ref a_t_kept, .ref a_t_notes, .int t_noted, .int t_at, .int t_sort, .int t_start, .int t_value, .ref a_t_players, .ref a_t_answers, .ref a_t_room, .ref a_t_inRest])), (a_t_told, .inl (cI, 36, .inl t_told)), (a_t_s, .inl (cI, 56, .inl t_s))] → va_S A s.heap H locs → lv_has ls 4 [(0, .ref a_t), (1, .int p1)] → mi_X12_bars_b87 p1 k0 t_s = some (r, z_t_s) → W p l e (headSpec wsX12_bars rm_X12_bars).room s m args below meth c H locs 0 0 Q (F0 m 87 ls [.int k0]) := by
    intro k0 t_s H locs ls hP hD hS hl h
    unfold mi_X12_bars_b87 at h
    refine lv_istore_n (lv' := [(3, .int k0), (0, .ref a_t), (1, .int p1)]) hx hb dX12_bars_87 rfl hl (by decide) rfl (fun ls hl => ?_)
    refine lv_aload_n hx hb dX12_bars_88 rfl (lv_at hl 1 rfl) ?_
    refine va_get (D := D) (ci := 12) (v := .ref a_t_s) (C := RX12) (T := TX12) (N := 18) hx hb hts hi_X12 hown hK hP 0 rfl rfl 5 (by decide) (hts (.fieldLink RX12 19 "TriangleRestModel" "s" "[I") (List.mem_of_getElem? (i := 1) rfl)) (fun _ h9 => h9) rfl dX12_bars_89 ?_
    refine lv_iconst (v := (4 : Int32)) hx hb dX12_bars_92 (by decide) ?_
    refine lv_iload_n hx hb dX12_bars_93 rfl (lv_at hl 0 rfl) ?_
    refine lv_if_eq (tgt := 101) hx hb dX12_bars_94 (by decide) (fun c1 => ?_) (fun c1 => ?_)
    · have h := jx_t h c1
      refine lv_aload_n hx hb dX12_bars_101 rfl (lv_at hl 1 rfl) ?_
      refine va_get (D := D) (ci := 12) (v := .ref a_t_s) (C := RX12) (T := TX12) (N := 18) hx hb hts hi_X12 hown hK hP 0 rfl rfl 5 (by decide) (hts (.fieldLink RX12 19 "TriangleRestModel" "s" "[I") (List.mem_of_getElem? (i := 1) rfl)) (fun _ h9 => h9) rfl dX12_bars_102 ?_
      refine lv_iconst (v := (4 : Int32)) hx hb dX12_bars_105 (by decide) ?_
      refine va_iald hx hb hK hP 2 0 rfl rfl (jx_in_of (by decide +kernel)) dX12_bars_106 ?_
      exact bl_b107 (4 : Int32) (t_s (Int32.toNatClampNeg (4 : Int32))) t_s _ _ _ hP hD hS (lv_sub hl [1, 2] rfl) h
    · have h := jx_f h c1
      refine lv_iconst (v := (1 : Int32)) hx hb dX12_bars_97 (by decide) ?_
      refine lv_goto (tgt := 107) hx hb dX12_bars_98 (by decide) ?_
      exact bl_b107 (4 : Int32) (1 : Int32) t_s _ _ _ hP hD hS (lv_sub hl [1, 2] rfl) h
  have bl_b86 : ∀ (t_s : Nat → Int32) (H : Heap) (locs : List Loc) (ls : Array Slot), va_P D vwCl [(a_t, .inr (12, [.long t_trace, .ref a_t_text, .int t_typed, .ref a_t_told, .ref a_t_draft, .ref a_t_s, .ref a_t_images, .ref a_t_kept, .ref a_t_notes, .int t_noted, .int t_at, .int t_sort, .int t_start, .int t_value, .ref a_t_players, .ref a_t_answers, .ref a_t_room, .ref a_t_inRest])), (a_t_told, .inl (cI, 36, .inl t_told)), (a_t_s, .inl (cI, 56, .inl t_s))] H → va_D A [(a_t, .inr (12, [.long t_trace, .ref a_t_text, .int t_typed, .ref a_t_told, .ref a_t_draft, .ref a_t_s, .ref a_t_images, .ref a_t_kept, .ref a_t_notes, .int t_noted, .int t_at, .int t_sort, .int t_start, .int t_value, .ref a_t_players, .ref a_t_answers, .ref a_t_room, .ref a_t_inRest])), (a_t_told, .inl (cI, 36, .inl t_told)), (a_t_s, .inl (cI, 56, .inl t_s))] → va_S A s.heap H locs → lv_has ls 4 [(0, .ref a_t), (1, .int p1)] → mi_X12_bars_b86 p1 t_s = some (r, z_t_s) → W p l e (headSpec wsX12_bars rm_X12_bars).room s m args below meth c H locs 0 0 Q (F0 m 86 ls []) := by
    intro t_s H locs ls hP hD hS hl h
    unfold mi_X12_bars_b86 at h
    refine lv_iconst (v := (0 : Int32)) hx hb dX12_bars_86 (by decide) ?_
    exact bl_b87 (0 : Int32) t_s _ _ _ hP hD hS (lv_sub hl [0, 1] rfl) h
  have h := hm
  unfold mi_X12_bars at h
  refine lv_iload_n hx hb dX12_bars_0 rfl (lv_at hl 1 rfl) ?_
  refine lv_iconst (v := (1 : Int32)) hx hb dX12_bars_1 (by decide) ?_
  refine lv_bipush (v := (99 : Int32)) hx hb dX12_bars_2 (by decide) ?_
  obtain ⟨r4, e5, h⟩ := jx_b1_of h
  refine jx_cS (o := some (.int r4)) (As := [.int p1, .int (1 : Int32), .int (99 : Int32)]) (rest := []) ⟨hx, hb, hml, hown, hts⟩ (ct_X12_in l p1 (1 : Int32) (99 : Int32) r4 e5) (va_cwS 3 hts gX12_bars_X12_in rfl rfl rfl (by decide +kernel) ⟨Nat.le_of_ble_eq_true rfl, Nat.le_of_ble_eq_true rfl⟩) rfl hl.1 rfl (Nat.le_of_ble_eq_true rfl) dX12_bars_4 ⟨Nat.zero_le _, Nat.zero_le _⟩ ?_
  refine lv_if_ne (tgt := 12) hx hb dX12_bars_7 (by decide) (fun c6 => ?_) (fun c6 => ?_)
  · have h := jx_f h c6
    refine lv_aload_n hx hb dX12_bars_12 rfl (lv_at hl 0 rfl) ?_
    refine va_get (D := D) (ci := 12) (v := .ref a_t_s) (C := RX12) (T := TX12) (N := 18) hx hb hts hi_X12 hown hK hP 0 rfl rfl 5 (by decide) (hts (.fieldLink RX12 19 "TriangleRestModel" "s" "[I") (List.mem_of_getElem? (i := 1) rfl)) (fun _ h9 => h9) rfl dX12_bars_13 ?_
    refine lv_iconst (v := (0 : Int32)) hx hb dX12_bars_16 (by decide) ?_
    refine va_iald hx hb hK hP 2 0 rfl rfl (jx_in_of (by decide +kernel)) dX12_bars_17 ?_
    refine lv_iload_n hx hb dX12_bars_18 rfl (lv_at hl 1 rfl) ?_
    refine lv_iadd hx hb dX12_bars_19 ?_
    refine lv_aload_n hx hb dX12_bars_20 rfl (lv_at hl 0 rfl) ?_
    obtain ⟨r7, e8, h⟩ := jx_b1_of h
    refine jx_cV (o := some (.int r7)) (As := []) (rest := [.int ((t_s (Int32.toNatClampNeg (0 : Int32))) + p1)]) (b := a_t) ⟨hx, hb, hml, hown, hts⟩ (ct_X12_length l D cI cZ cO a_t a_t_text a_t_told a_t_draft a_t_s a_t_images a_t_kept a_t_notes a_t_players a_t_answers a_t_room a_t_inRest t_trace t_typed t_noted t_at t_sort t_start t_value t_told t_s r7 e8) (cwV 0 hts gX12_bars_X12_length rfl rfl rfl (by decide +kernel) ⟨Nat.le_of_ble_eq_true rfl, Nat.le_of_ble_eq_true rfl⟩) hK hN hP [0, 1, 2] rfl (va_recv hK hP (ci := 12) (q0 := 0) rfl rfl) rfl hl.1 rfl (Nat.le_of_ble_eq_true rfl) dX12_bars_21 ⟨Nat.zero_le _, Nat.zero_le _⟩ ?_
    refine lv_icmp_le (tgt := 30) hx hb dX12_bars_24 (by decide) (fun c9 => ?_) (fun c9 => ?_)
    · have h := jx_t h c9
      refine lv_aload_n hx hb dX12_bars_30 rfl (lv_at hl 0 rfl) ?_
      obtain ⟨t_s_10, e11, h⟩ := jx_b1_of h
      refine jx_cW (o := none) (As := []) (rest := []) (b := a_t) (wr := [(a_t_told, .inl (cI, 36, .inl t_told))]) (wd' := [(a_t, .inr (12, [.long t_trace, .ref a_t_text, .int t_typed, .ref a_t_told, .ref a_t_draft, .ref a_t_s, .ref a_t_images, .ref a_t_kept, .ref a_t_notes, .int t_noted, .int t_at, .int t_sort, .int t_start, .int t_value, .ref a_t_players, .ref a_t_answers, .ref a_t_room, .ref a_t_inRest])), (a_t_told, .inl (cI, 36, .inl t_told)), (a_t_s, .inl (cI, 56, .inl t_s_10))]) ⟨hx, hb, hml, hown, hts⟩ (ct_X12_keeps l D cI cZ cO a_t a_t_text a_t_told a_t_draft a_t_s a_t_images a_t_kept a_t_notes a_t_players a_t_answers a_t_room a_t_inRest s.heap.size t_trace t_typed t_noted t_at t_sort t_start t_value t_s t_s_10 e11) (cwV 0 hts gX12_bars_X12_keeps rfl rfl rfl (by decide +kernel) ⟨Nat.le_of_ble_eq_true rfl, Nat.le_of_ble_eq_true rfl⟩) hK hN hP hD hS hA [0, 2] [1] (by decide) rfl rfl (by decide) (by decide) rfl (va_recv hK hP (ci := 12) (q0 := 0) rfl rfl) rfl hl.1 rfl (Nat.le_of_ble_eq_true rfl) dX12_bars_31 ⟨Nat.zero_le _, Nat.zero_le _⟩ [1, 0, 2] (by decide) rfl (fun H locs hP hD hS => ?_)
      refine lv_aload_n hx hb dX12_bars_34 rfl (lv_at hl 0 rfl) ?_
      refine lv_aload_n hx hb dX12_bars_35 rfl (lv_at hl 0 rfl) ?_
      refine va_get (D := D) (ci := 12) (v := .ref a_t_s) (C := RX12) (T := TX12) (N := 18) hx hb hts hi_X12 hown hK hP 0 rfl rfl 5 (by decide) (hts (.fieldLink RX12 19 "TriangleRestModel" "s" "[I") (List.mem_of_getElem? (i := 1) rfl)) (fun _ h9 => h9) rfl dX12_bars_36 ?_
      refine lv_iconst (v := (3 : Int32)) hx hb dX12_bars_39 (by decide) ?_
      refine va_iald hx hb hK hP 2 0 rfl rfl (jx_in_of (by decide +kernel)) dX12_bars_40 ?_
      obtain ⟨r12, e13, h⟩ := jx_b1_of h
      refine jx_cV (o := some (.int r12)) (As := [.int (t_s_10 (Int32.toNatClampNeg (3 : Int32)))]) (rest := []) (b := a_t) ⟨hx, hb, hml, hown, hts⟩ (ct_X12_noteBar l D cI cZ cO a_t a_t_text a_t_told a_t_draft a_t_s a_t_images a_t_kept a_t_notes a_t_players a_t_answers a_t_room a_t_inRest t_trace t_typed t_noted t_at t_sort t_start t_value t_told (t_s_10 (Int32.toNatClampNeg (3 : Int32))) r12 e13) (cwV 1 hts gX12_bars_X12_noteBar rfl rfl rfl (by decide +kernel) ⟨Nat.le_of_ble_eq_true rfl, Nat.le_of_ble_eq_true rfl⟩) hK hN hP [0, 1] rfl (va_recv hK hP (ci := 12) (q0 := 0) rfl rfl) rfl hl.1 rfl (Nat.le_of_ble_eq_true rfl) dX12_bars_41 ⟨Nat.zero_le _, Nat.zero_le _⟩ ?_
      refine lv_istore_n (lv' := [(2, .int r12), (0, .ref a_t), (1, .int p1)]) hx hb dX12_bars_44 rfl hl (by decide) rfl (fun ls hl => ?_)
      refine lv_aload_n hx hb dX12_bars_45 rfl (lv_at hl 1 rfl) ?_
      refine va_get (D := D) (ci := 12) (v := .ref a_t_s) (C := RX12) (T := TX12) (N := 18) hx hb hts hi_X12 hown hK hP 0 rfl rfl 5 (by decide) (hts (.fieldLink RX12 19 "TriangleRestModel" "s" "[I") (List.mem_of_getElem? (i := 1) rfl)) (fun _ h9 => h9) rfl dX12_bars_46 ?_
      refine lv_iconst (v := (0 : Int32)) hx hb dX12_bars_49 (by decide) ?_
      refine va_iald hx hb hK hP 2 0 rfl rfl (jx_in_of (by decide +kernel)) dX12_bars_50 ?_
      refine lv_iload_n hx hb dX12_bars_51 rfl (lv_at hl 0 rfl) ?_
      refine lv_icmp_gt (tgt := 86) hx hb dX12_bars_52 (by decide) (fun c14 => ?_) (fun c14 => ?_)
      · have h := jx_t h c14
        exact bl_b86 t_s_10 _ _ _ hP hD hS (lv_sub hl [1, 2] rfl) h
      · have h := jx_f h c14
        refine lv_aload_n hx hb dX12_bars_55 rfl (lv_at hl 1 rfl) ?_
        refine va_get (D := D) (ci := 12) (v := .ref a_t_s) (C := RX12) (T := TX12) (N := 18) hx hb hts hi_X12 hown hK hP 0 rfl rfl 5 (by decide) (hts (.fieldLink RX12 19 "TriangleRestModel" "s" "[I") (List.mem_of_getElem? (i := 1) rfl)) (fun _ h9 => h9) rfl dX12_bars_56 ?_
        refine lv_iconst (v := (0 : Int32)) hx hb dX12_bars_59 (by decide) ?_
        refine va_iald hx hb hK hP 2 0 rfl rfl (jx_in_of (by decide +kernel)) dX12_bars_60 ?_
        refine lv_iload_n hx hb dX12_bars_61 rfl (lv_at hl 2 rfl) ?_
        refine lv_iadd hx hb dX12_bars_62 ?_
        refine lv_iload_n hx hb dX12_bars_63 rfl (lv_at hl 0 rfl) ?_
        refine lv_icmp_le (tgt := 86) hx hb dX12_bars_64 (by decide) (fun c15 => ?_) (fun c15 => ?_)
        · have h := jx_t h c15
          exact bl_b86 t_s_10 _ _ _ hP hD hS (lv_sub hl [1, 2] rfl) h
        · have h := jx_f h c15
          refine lv_aload_n hx hb dX12_bars_67 rfl (lv_at hl 1 rfl) ?_
          refine va_get (D := D) (ci := 12) (v := .ref a_t_s) (C := RX12) (T := TX12) (N := 18) hx hb hts hi_X12 hown hK hP 0 rfl rfl 5 (by decide) (hts (.fieldLink RX12 19 "TriangleRestModel" "s" "[I") (List.mem_of_getElem? (i := 1) rfl)) (fun _ h9 => h9) rfl dX12_bars_68 ?_
          refine lv_iconst (v := (1 : Int32)) hx hb dX12_bars_71 (by decide) ?_
          refine va_iald hx hb hK hP 2 0 rfl rfl (jx_in_of (by decide +kernel)) dX12_bars_72 ?_
          refine lv_aload_n hx hb dX12_bars_73 rfl (lv_at hl 1 rfl) ?_
          refine va_get (D := D) (ci := 12) (v := .ref a_t_s) (C := RX12) (T := TX12) (N := 18) hx hb hts hi_X12 hown hK hP 0 rfl rfl 5 (by decide) (hts (.fieldLink RX12 19 "TriangleRestModel" "s" "[I") (List.mem_of_getElem? (i := 1) rfl)) (fun _ h9 => h9) rfl dX12_bars_74 ?_
          refine lv_iconst (v := (0 : Int32)) hx hb dX12_bars_77 (by decide) ?_
          refine va_iald hx hb hK hP 2 0 rfl rfl (jx_in_of (by decide +kernel)) dX12_bars_78 ?_
          refine lv_icmp_ne (tgt := 86) hx hb dX12_bars_79 (by decide) (fun c16 => ?_) (fun c16 => ?_)
          · have h := jx_f h c16
            exact bl_b86 t_s_10 _ _ _ hP hD hS (lv_sub hl [1, 2] rfl) h
          · have h := jx_t h c16
            refine lv_iconst (v := (1 : Int32)) hx hb dX12_bars_82 (by decide) ?_
            refine lv_goto (tgt := 87) hx hb dX12_bars_83 (by decide) ?_
            exact bl_b87 (1 : Int32) t_s_10 _ _ _ hP hD hS (lv_sub hl [1, 2] rfl) h
    · have h := jx_f h c9
      refine lv_bipush (v := (-2 : Int32)) hx hb dX12_bars_27 (by decide) ?_
      cases h
      exact hret 29 ls _ _ hP hD hS rfl dX12_bars_29
  · have h := jx_t h c6
    refine lv_iconst (v := (-1 : Int32)) hx hb dX12_bars_10 (by decide) ?_
    cases h
    exact hret 11 ls _ _ hP hD hS rfl dX12_bars_11
def mi_X12_slips (t_s : Nat → Int32) (p1 : Int32) : Option (Int32 × (Nat → Int32)) := jx_b1 (mi_X12_in p1 (-9 : Int32) (9 : Int32)) fun r1 => (if r1 = 0 then (some ((-1000000 : Int32), t_s)) else (if p1 = 0 then (some ((-1000000 : Int32), t_s)) else (jx_b1 (mi_X12_keeps t_s) fun t_s_5 => (some (((upd t_s_5 (Int32.toNatClampNeg (1 : Int32)) ((t_s_5 (Int32.toNatClampNeg (1 : Int32))) + p1)) (Int32.toNatClampNeg (1 : Int32))), (upd t_s_5 (Int32.toNatClampNeg (1 : Int32)) ((t_s_5 (Int32.toNatClampNeg (1 : Int32))) + p1)))))))
abbrev rm_X12_slips : Room := { frames := 1, cells := 0, slots := 0, locals := 22 }
set_option maxRecDepth 100000 in
set_option maxHeartbeats 4000000 in
theorem ct_X12_slips (l : Launch) (D : va_G) (cI cZ cO : ClassId) (a_t a_t_text a_t_told a_t_draft a_t_s a_t_images a_t_kept a_t_notes a_t_players a_t_answers a_t_room a_t_inRest : Nat) (sz : Nat) (t_trace : Int64) (t_typed : Int32) (t_noted : Int32) (t_at : Int32) (t_sort : Int32) (t_start : Int32) (t_value : Int32) (t_s : Nat → Int32) (p1 : Int32) (r : Int32) (z_t_s : Nat → Int32) (hm : mi_X12_slips t_s p1 = some (r, z_t_s)) : Met l yX12_slips wsX12_slips rm_X12_slips (va_Pc [.ref a_t, .int p1] (jx_W D (jx_T cI cZ cO) sz [(a_t, .inr (12, [.long t_trace, .ref a_t_text, .int t_typed, .ref a_t_told, .ref a_t_draft, .ref a_t_s, .ref a_t_images, .ref a_t_kept, .ref a_t_notes, .int t_noted, .int t_at, .int t_sort, .int t_start, .int t_value, .ref a_t_players, .ref a_t_answers, .ref a_t_room, .ref a_t_inRest])), (a_t_s, .inl (cI, 56, .inl t_s))])) (jx_Q (some (.int r)) D [(a_t, .inr (12, [.long t_trace, .ref a_t_text, .int t_typed, .ref a_t_told, .ref a_t_draft, .ref a_t_s, .ref a_t_images, .ref a_t_kept, .ref a_t_notes, .int t_noted, .int t_at, .int t_sort, .int t_start, .int t_value, .ref a_t_players, .ref a_t_answers, .ref a_t_room, .ref a_t_inRest])), (a_t_s, .inl (cI, 56, .inl z_t_s))] (va_A [(a_t, .inr (12, [.long t_trace, .ref a_t_text, .int t_typed, .ref a_t_told, .ref a_t_draft, .ref a_t_s, .ref a_t_images, .ref a_t_kept, .ref a_t_notes, .int t_noted, .int t_at, .int t_sort, .int t_start, .int t_value, .ref a_t_players, .ref a_t_answers, .ref a_t_room, .ref a_t_inRest])), (a_t_s, .inl (cI, 56, .inl t_s))] sz)) 0 0 (va_A [(a_t, .inr (12, [.long t_trace, .ref a_t_text, .int t_typed, .ref a_t_told, .ref a_t_draft, .ref a_t_s, .ref a_t_images, .ref a_t_kept, .ref a_t_notes, .int t_noted, .int t_at, .int t_sort, .int t_start, .int t_value, .ref a_t_players, .ref a_t_answers, .ref a_t_room, .ref a_t_inRest])), (a_t_s, .inl (cI, 56, .inl t_s))] sz) := by
  refine jx_metW (ty := .int) (own := RX12) (cc := cX12_slips) (maxL := 2) (by decide) rfl rfl (Nat.le_of_ble_eq_true rfl) ?_
  intro p e s m args below meth c Q ls A hx hb hml hown hts hK hN hA hP hD hS hl hret
  have hi_X12 : ∀ w ∈ u_ws RX12 TX12 18, w ∈ wsX12_slips := by decide +kernel
  have hl : lv_has ls 2 [(0, .ref a_t), (1, .int p1)] := hl
  have h := hm
  unfold mi_X12_slips at h
  refine lv_iload_n hx hb dX12_slips_0 rfl (lv_at hl 1 rfl) ?_
  refine lv_bipush (v := (-9 : Int32)) hx hb dX12_slips_1 (by decide) ?_
  refine lv_bipush (v := (9 : Int32)) hx hb dX12_slips_3 (by decide) ?_
  obtain ⟨r1, e2, h⟩ := jx_b1_of h
  refine jx_cS (o := some (.int r1)) (As := [.int p1, .int (-9 : Int32), .int (9 : Int32)]) (rest := []) ⟨hx, hb, hml, hown, hts⟩ (ct_X12_in l p1 (-9 : Int32) (9 : Int32) r1 e2) (va_cwS 3 hts gX12_slips_X12_in rfl rfl rfl (by decide +kernel) ⟨Nat.le_of_ble_eq_true rfl, Nat.le_of_ble_eq_true rfl⟩) rfl hl.1 rfl (Nat.le_of_ble_eq_true rfl) dX12_slips_5 ⟨Nat.zero_le _, Nat.zero_le _⟩ ?_
  refine lv_if_eq (tgt := 15) hx hb dX12_slips_8 (by decide) (fun c3 => ?_) (fun c3 => ?_)
  · have h := jx_t h c3
    refine lv_ldc (v := (-1000000 : Int32)) hx hb hown (hts (.constant RX12 127 (-1000000)) (List.mem_of_getElem? (i := 1) rfl)) dX12_slips_15 ?_
    cases h
    exact hret 17 ls _ _ hP hD hS rfl dX12_slips_17
  · have h := jx_f h c3
    refine lv_iload_n hx hb dX12_slips_11 rfl (lv_at hl 1 rfl) ?_
    refine lv_if_ne (tgt := 18) hx hb dX12_slips_12 (by decide) (fun c4 => ?_) (fun c4 => ?_)
    · have h := jx_f h c4
      refine lv_aload_n hx hb dX12_slips_18 rfl (lv_at hl 0 rfl) ?_
      obtain ⟨t_s_5, e6, h⟩ := jx_b1_of h
      refine jx_cW (o := none) (As := []) (rest := []) (b := a_t) (wr := []) (wd' := [(a_t, .inr (12, [.long t_trace, .ref a_t_text, .int t_typed, .ref a_t_told, .ref a_t_draft, .ref a_t_s, .ref a_t_images, .ref a_t_kept, .ref a_t_notes, .int t_noted, .int t_at, .int t_sort, .int t_start, .int t_value, .ref a_t_players, .ref a_t_answers, .ref a_t_room, .ref a_t_inRest])), (a_t_s, .inl (cI, 56, .inl t_s_5))]) ⟨hx, hb, hml, hown, hts⟩ (ct_X12_keeps l D cI cZ cO a_t a_t_text a_t_told a_t_draft a_t_s a_t_images a_t_kept a_t_notes a_t_players a_t_answers a_t_room a_t_inRest s.heap.size t_trace t_typed t_noted t_at t_sort t_start t_value t_s t_s_5 e6) (cwV 0 hts gX12_slips_X12_keeps rfl rfl rfl (by decide +kernel) ⟨Nat.le_of_ble_eq_true rfl, Nat.le_of_ble_eq_true rfl⟩) hK hN hP hD hS hA [0, 1] [] (by decide) rfl rfl (by decide) (by decide) rfl (va_recv hK hP (ci := 12) (q0 := 0) rfl rfl) rfl hl.1 rfl (Nat.le_of_ble_eq_true rfl) dX12_slips_19 ⟨Nat.zero_le _, Nat.zero_le _⟩ [0, 1] (by decide) rfl (fun H locs hP hD hS => ?_)
      refine lv_aload_n hx hb dX12_slips_22 rfl (lv_at hl 0 rfl) ?_
      refine va_get (D := D) (ci := 12) (v := .ref a_t_s) (C := RX12) (T := TX12) (N := 18) hx hb hts hi_X12 hown hK hP 0 rfl rfl 5 (by decide) (hts (.fieldLink RX12 19 "TriangleRestModel" "s" "[I") (List.mem_of_getElem? (i := 2) rfl)) (fun _ h9 => h9) rfl dX12_slips_23 ?_
      refine lv_iconst (v := (1 : Int32)) hx hb dX12_slips_26 (by decide) ?_
      refine lv_dup2_11 hx hb dX12_slips_27 rfl rfl ?_
      refine va_iald hx hb hK hP 1 0 rfl rfl (jx_in_of (by decide +kernel)) dX12_slips_28 ?_
      refine lv_iload_n hx hb dX12_slips_29 rfl (lv_at hl 1 rfl) ?_
      refine lv_iadd hx hb dX12_slips_30 ?_
      refine va_iast hx hb hK hP hD hS 1 0 rfl rfl (jx_in_of (by decide +kernel)) dX12_slips_31 (fun H locs hP hD hS => ?_)
      have hP : va_P D vwCl [(a_t, .inr (12, [.long t_trace, .ref a_t_text, .int t_typed, .ref a_t_told, .ref a_t_draft, .ref a_t_s, .ref a_t_images, .ref a_t_kept, .ref a_t_notes, .int t_noted, .int t_at, .int t_sort, .int t_start, .int t_value, .ref a_t_players, .ref a_t_answers, .ref a_t_room, .ref a_t_inRest])), (a_t_s, .inl (cI, 56, .inl (upd t_s_5 (Int32.toNatClampNeg (1 : Int32)) ((t_s_5 (Int32.toNatClampNeg (1 : Int32))) + p1))))] H := hP
      have hD : va_D A [(a_t, .inr (12, [.long t_trace, .ref a_t_text, .int t_typed, .ref a_t_told, .ref a_t_draft, .ref a_t_s, .ref a_t_images, .ref a_t_kept, .ref a_t_notes, .int t_noted, .int t_at, .int t_sort, .int t_start, .int t_value, .ref a_t_players, .ref a_t_answers, .ref a_t_room, .ref a_t_inRest])), (a_t_s, .inl (cI, 56, .inl (upd t_s_5 (Int32.toNatClampNeg (1 : Int32)) ((t_s_5 (Int32.toNatClampNeg (1 : Int32))) + p1))))] := hD
      refine lv_aload_n hx hb dX12_slips_32 rfl (lv_at hl 0 rfl) ?_
      refine va_get (D := D) (ci := 12) (v := .ref a_t_s) (C := RX12) (T := TX12) (N := 18) hx hb hts hi_X12 hown hK hP 0 rfl rfl 5 (by decide) (hts (.fieldLink RX12 19 "TriangleRestModel" "s" "[I") (List.mem_of_getElem? (i := 2) rfl)) (fun _ h9 => h9) rfl dX12_slips_33 ?_
      refine lv_iconst (v := (1 : Int32)) hx hb dX12_slips_36 (by decide) ?_
      refine va_iald hx hb hK hP 1 0 rfl rfl (jx_in_of (by decide +kernel)) dX12_slips_37 ?_
      cases h
      exact hret 38 ls _ _ hP hD hS rfl dX12_slips_38
    · have h := jx_t h c4
      refine lv_ldc (v := (-1000000 : Int32)) hx hb hown (hts (.constant RX12 127 (-1000000)) (List.mem_of_getElem? (i := 1) rfl)) dX12_slips_15 ?_
      cases h
      exact hret 17 ls _ _ hP hD hS rfl dX12_slips_17
def mi_X12_cue_b204 (k_l70 : Int32 → Int32 → Int32 → (Nat → Int32) → Option (Int32 × (Nat → Int32))) (x1 : Int32) (x3 : Int32) (k0 : Int32) (t_s : Nat → Int32) : Option (Int32 × (Nat → Int32)) := k_l70 x1 k0 (x3 + (-1)) t_s
def mi_X12_cue_b203 (k_l70 : Int32 → Int32 → Int32 → (Nat → Int32) → Option (Int32 × (Nat → Int32))) (x1 : Int32) (x2 : Int32) (x3 : Int32) (t_s : Nat → Int32) : Option (Int32 × (Nat → Int32)) := mi_X12_cue_b204 k_l70 x1 x3 x2 t_s
def mi_X12_cue_b153 (t_told : Nat → Int32) (k_l70 : Int32 → Int32 → Int32 → (Nat → Int32) → Option (Int32 × (Nat → Int32))) (x1 : Int32) (x3 : Int32) (x4 : Int32) (k0 : Int32) (t_s : Nat → Int32) : Option (Int32 × (Nat → Int32)) := if x4 = 0 then (mi_X12_cue_b203 k_l70 x1 k0 x3 t_s) else (jx_b1 (mi_X12_first t_told t_s x3) fun r26 => (jx_b1 (mi_X12_apart r26 (t_s (Int32.toNatClampNeg (1 : Int32)))) fun r28 => (jx_b1 (mi_X12_apart k0 (t_s (Int32.toNatClampNeg (1 : Int32)))) fun r30 => (if r28 = r30 then (jx_b1 (mi_X12_first t_told t_s x3) fun r33 => (if k0 ≤ r33 then (mi_X12_cue_b203 k_l70 x1 k0 x3 t_s) else (jx_b1 (mi_X12_first t_told t_s x3) fun r36 => (mi_X12_cue_b204 k_l70 x1 x3 r36 t_s)))) else (mi_X12_cue_b203 k_l70 x1 k0 x3 t_s)))))
def mi_X12_cue_b152 (t_told : Nat → Int32) (k_l70 : Int32 → Int32 → Int32 → (Nat → Int32) → Option (Int32 × (Nat → Int32))) (x1 : Int32) (x2 : Int32) (x3 : Int32) (x4 : Int32) (t_s : Nat → Int32) : Option (Int32 × (Nat → Int32)) := mi_X12_cue_b153 t_told k_l70 x1 x3 x4 x2 t_s
def mi_X12_cue_b110 (t_told : Nat → Int32) (k_l70 : Int32 → Int32 → Int32 → (Nat → Int32) → Option (Int32 × (Nat → Int32))) (x1 : Int32) (x2 : Int32) (x3 : Int32) (k0 : Int32) (t_s : Nat → Int32) : Option (Int32 × (Nat → Int32)) := if k0 = 0 then (mi_X12_cue_b152 t_told k_l70 x1 x2 x3 k0 t_s) else (jx_b1 (mi_X12_first t_told t_s x3) fun r16 => (jx_b1 (mi_X12_apart r16 (t_s (Int32.toNatClampNeg (1 : Int32)))) fun r18 => (jx_b1 (mi_X12_apart x2 (t_s (Int32.toNatClampNeg (1 : Int32)))) fun r20 => (if r20 ≤ r18 then (mi_X12_cue_b152 t_told k_l70 x1 x2 x3 k0 t_s) else (jx_b1 (mi_X12_first t_told t_s x3) fun r23 => (mi_X12_cue_b153 t_told k_l70 x1 x3 k0 r23 t_s))))))
def mi_X12_cue_b109 (t_told : Nat → Int32) (k_l70 : Int32 → Int32 → Int32 → (Nat → Int32) → Option (Int32 × (Nat → Int32))) (x1 : Int32) (x2 : Int32) (x3 : Int32) (t_s : Nat → Int32) : Option (Int32 × (Nat → Int32)) := mi_X12_cue_b110 t_told k_l70 x1 x2 x3 (0 : Int32) t_s
def mi_X12_cue_l70 (t_told : Nat → Int32) : Nat → Int32 → Int32 → Int32 → (Nat → Int32) → Option (Int32 × (Nat → Int32))
  | 0, _, _, _, _ => none
  | n + 1, x1, x2, x3, t_s => if x3 < 0 then (some (x2, (upd t_s (Int32.toNatClampNeg (1 : Int32)) x2))) else (jx_g (jx_in ((22 : Int32) + x3) 36) (jx_g (jx_in ((22 : Int32) + x1) 36) (if (t_told (Int32.toNatClampNeg ((22 : Int32) + x3))) = (t_told (Int32.toNatClampNeg ((22 : Int32) + x1))) then (jx_b1 (mi_X12_first t_told t_s x3) fun r12 => (if r12 = (-9 : Int32) then (mi_X12_cue_b109 t_told (mi_X12_cue_l70 t_told n) x1 x2 x3 t_s) else (mi_X12_cue_b110 t_told (mi_X12_cue_l70 t_told n) x1 x2 x3 (1 : Int32) t_s))) else (mi_X12_cue_b109 t_told (mi_X12_cue_l70 t_told n) x1 x2 x3 t_s))))
def mi_X12_cue_b34 (k_l5 : Int32 → Int32 → (Nat → Int32) → Option (Int32 × (Nat → Int32))) (x2 : Int32) (k0 : Int32) (t_s : Nat → Int32) : Option (Int32 × (Nat → Int32)) := k_l5 k0 (x2 + 1) t_s
def mi_X12_cue_l5 (t_told : Nat → Int32) : Nat → Int32 → Int32 → (Nat → Int32) → Option (Int32 × (Nat → Int32))
  | 0, _, _, _ => none
  | n + 1, x1, x2, t_s => if (t_told (Int32.toNatClampNeg (0 : Int32))) ≤ x2 then (if x1 = (-9 : Int32) then (some ((-1000000 : Int32), t_s)) else (jx_b1 (mi_X12_keeps t_s) fun t_s_3 => (mi_X12_cue_l70 t_told jx_F x1 (t_s_3 (Int32.toNatClampNeg (0 : Int32))) ((t_told (Int32.toNatClampNeg (0 : Int32))) - (1 : Int32)) t_s_3))) else (jx_b1 (mi_X12_first t_told t_s x2) fun r5 => (if r5 = (t_s (Int32.toNatClampNeg (0 : Int32))) then (mi_X12_cue_b34 (mi_X12_cue_l5 t_told n) x2 x2 t_s) else (mi_X12_cue_b34 (mi_X12_cue_l5 t_told n) x2 x1 t_s)))
def mi_X12_cue (t_told : Nat → Int32) (t_s : Nat → Int32) : Option (Int32 × (Nat → Int32)) := mi_X12_cue_l5 t_told jx_F (-9 : Int32) (0 : Int32) t_s
abbrev rm_X12_cue : Room := { frames := 3, cells := 0, slots := 0, locals := 66 }
set_option maxRecDepth 100000 in
set_option maxHeartbeats 4000000 in
theorem ct_X12_cue (l : Launch) (D : va_G) (cI cZ cO : ClassId) (a_t a_t_text a_t_told a_t_draft a_t_s a_t_images a_t_kept a_t_notes a_t_players a_t_answers a_t_room a_t_inRest : Nat) (sz : Nat) (t_trace : Int64) (t_typed : Int32) (t_noted : Int32) (t_at : Int32) (t_sort : Int32) (t_start : Int32) (t_value : Int32) (t_told : Nat → Int32) (t_s : Nat → Int32) (r : Int32) (z_t_s : Nat → Int32) (hm : mi_X12_cue t_told t_s = some (r, z_t_s)) : Met l yX12_cue wsX12_cue rm_X12_cue (va_Pc [.ref a_t] (jx_W D (jx_T cI cZ cO) sz [(a_t, .inr (12, [.long t_trace, .ref a_t_text, .int t_typed, .ref a_t_told, .ref a_t_draft, .ref a_t_s, .ref a_t_images, .ref a_t_kept, .ref a_t_notes, .int t_noted, .int t_at, .int t_sort, .int t_start, .int t_value, .ref a_t_players, .ref a_t_answers, .ref a_t_room, .ref a_t_inRest])), (a_t_told, .inl (cI, 36, .inl t_told)), (a_t_s, .inl (cI, 56, .inl t_s))])) (jx_Q (some (.int r)) D [(a_t, .inr (12, [.long t_trace, .ref a_t_text, .int t_typed, .ref a_t_told, .ref a_t_draft, .ref a_t_s, .ref a_t_images, .ref a_t_kept, .ref a_t_notes, .int t_noted, .int t_at, .int t_sort, .int t_start, .int t_value, .ref a_t_players, .ref a_t_answers, .ref a_t_room, .ref a_t_inRest])), (a_t_told, .inl (cI, 36, .inl t_told)), (a_t_s, .inl (cI, 56, .inl z_t_s))] (va_A [(a_t, .inr (12, [.long t_trace, .ref a_t_text, .int t_typed, .ref a_t_told, .ref a_t_draft, .ref a_t_s, .ref a_t_images, .ref a_t_kept, .ref a_t_notes, .int t_noted, .int t_at, .int t_sort, .int t_start, .int t_value, .ref a_t_players, .ref a_t_answers, .ref a_t_room, .ref a_t_inRest])), (a_t_told, .inl (cI, 36, .inl t_told)), (a_t_s, .inl (cI, 56, .inl t_s))] sz)) 0 0 (va_A [(a_t, .inr (12, [.long t_trace, .ref a_t_text, .int t_typed, .ref a_t_told, .ref a_t_draft, .ref a_t_s, .ref a_t_images, .ref a_t_kept, .ref a_t_notes, .int t_noted, .int t_at, .int t_sort, .int t_start, .int t_value, .ref a_t_players, .ref a_t_answers, .ref a_t_room, .ref a_t_inRest])), (a_t_told, .inl (cI, 36, .inl t_told)), (a_t_s, .inl (cI, 56, .inl t_s))] sz) := by
  refine jx_metW (ty := .int) (own := RX12) (cc := cX12_cue) (maxL := 5) (by decide) rfl rfl (Nat.le_of_ble_eq_true rfl) ?_
  intro p e s m args below meth c Q ls A hx hb hml hown hts hK hN hA hP hD hS hl hret
  have hi_X12 : ∀ w ∈ u_ws RX12 TX12 18, w ∈ wsX12_cue := by decide +kernel
  have hl : lv_has ls 5 [(0, .ref a_t)] := hl
  have bl_l70 : ∀ (n : Nat) (x1 : Int32) (x2 : Int32) (x3 : Int32) (t_s : Nat → Int32) (H : Heap) (locs : List Loc) (ls : Array Slot), va_P D vwCl [(a_t, .inr (12, [.long t_trace, .ref a_t_text, .int t_typed, .ref a_t_told, .ref a_t_draft, .ref a_t_s, .ref a_t_images, .ref a_t_kept, .ref a_t_notes, .int t_noted, .int t_at, .int t_sort, .int t_start, .int t_value, .ref a_t_players, .ref a_t_answers, .ref a_t_room, .ref a_t_inRest])), (a_t_told, .inl (cI, 36, .inl t_told)), (a_t_s, .inl (cI, 56, .inl t_s))] H → va_D A [(a_t, .inr (12, [.long t_trace, .ref a_t_text, .int t_typed, .ref a_t_told, .ref a_t_draft, .ref a_t_s, .ref a_t_images, .ref a_t_kept, .ref a_t_notes, .int t_noted, .int t_at, .int t_sort, .int t_start, .int t_value, .ref a_t_players, .ref a_t_answers, .ref a_t_room, .ref a_t_inRest])), (a_t_told, .inl (cI, 36, .inl t_told)), (a_t_s, .inl (cI, 56, .inl t_s))] → va_S A s.heap H locs → lv_has ls 5 [(0, .ref a_t), (1, .int x1), (2, .int x2), (3, .int x3)] → mi_X12_cue_l70 t_told n x1 x2 x3 t_s = some (r, z_t_s) → W p l e (headSpec wsX12_cue rm_X12_cue).room s m args below meth c H locs 0 0 Q (F0 m 70 ls []) := by
    intro n
    induction n with
    | zero =>
      intro x1 x2 x3 t_s H locs ls hP hD hS hl h
      rw [mi_X12_cue_l70] at h
      cases h
    | succ n_l70 ih_l70 =>
      have bl_b204 : ∀ (x1 : Int32) (x3 : Int32) (k0 : Int32) (t_s : Nat → Int32) (H : Heap) (locs : List Loc) (ls : Array Slot), va_P D vwCl [(a_t, .inr (12, [.long t_trace, .ref a_t_text, .int t_typed, .ref a_t_told, .ref a_t_draft, .ref a_t_s, .ref a_t_images, .ref a_t_kept, .ref a_t_notes, .int t_noted, .int t_at, .int t_sort, .int t_start, .int t_value, .ref a_t_players, .ref a_t_answers, .ref a_t_room, .ref a_t_inRest])), (a_t_told, .inl (cI, 36, .inl t_told)), (a_t_s, .inl (cI, 56, .inl t_s))] H → va_D A [(a_t, .inr (12, [.long t_trace, .ref a_t_text, .int t_typed, .ref a_t_told, .ref a_t_draft, .ref a_t_s, .ref a_t_images, .ref a_t_kept, .ref a_t_notes, .int t_noted, .int t_at, .int t_sort, .int t_start, .int t_value, .ref a_t_players, .ref a_t_answers, .ref a_t_room, .ref a_t_inRest])), (a_t_told, .inl (cI, 36, .inl t_told)), (a_t_s, .inl (cI, 56, .inl t_s))] → va_S A s.heap H locs → lv_has ls 5 [(0, .ref a_t), (1, .int x1), (3, .int x3)] → mi_X12_cue_b204 (mi_X12_cue_l70 t_told n_l70) x1 x3 k0 t_s = some (r, z_t_s) → W p l e (headSpec wsX12_cue rm_X12_cue).room s m args below meth c H locs 0 0 Q (F0 m 204 ls [.int k0]) := by
        intro x1 x3 k0 t_s H locs ls hP hD hS hl h
        unfold mi_X12_cue_b204 at h
        refine lv_istore_n (lv' := [(2, .int k0), (0, .ref a_t), (1, .int x1), (3, .int x3)]) hx hb dX12_cue_204 rfl hl (by decide) rfl (fun ls hl => ?_)
        refine lv_iinc (v := (x3 + (-1))) (lv' := [(3, .int (x3 + (-1))), (2, .int k0), (0, .ref a_t), (1, .int x1)]) hx hb dX12_cue_205 hl (k := 3) rfl rfl (by decide) rfl (fun ls hl => ?_)
        refine lv_goto (tgt := 70) hx hb dX12_cue_208 (by decide) ?_
        exact ih_l70 x1 k0 (x3 + (-1)) t_s _ _ _ hP hD hS (lv_sub hl [2, 3, 1, 0] rfl) h
      have bl_b203 : ∀ (x1 : Int32) (x2 : Int32) (x3 : Int32) (t_s : Nat → Int32) (H : Heap) (locs : List Loc) (ls : Array Slot), va_P D vwCl [(a_t, .inr (12, [.long t_trace, .ref a_t_text, .int t_typed, .ref a_t_told, .ref a_t_draft, .ref a_t_s, .ref a_t_images, .ref a_t_kept, .ref a_t_notes, .int t_noted, .int t_at, .int t_sort, .int t_start, .int t_value, .ref a_t_players, .ref a_t_answers, .ref a_t_room, .ref a_t_inRest])), (a_t_told, .inl (cI, 36, .inl t_told)), (a_t_s, .inl (cI, 56, .inl t_s))] H → va_D A [(a_t, .inr (12, [.long t_trace, .ref a_t_text, .int t_typed, .ref a_t_told, .ref a_t_draft, .ref a_t_s, .ref a_t_images, .ref a_t_kept, .ref a_t_notes, .int t_noted, .int t_at, .int t_sort, .int t_start, .int t_value, .ref a_t_players, .ref a_t_answers, .ref a_t_room, .ref a_t_inRest])), (a_t_told, .inl (cI, 36, .inl t_told)), (a_t_s, .inl (cI, 56, .inl t_s))] → va_S A s.heap H locs → lv_has ls 5 [(0, .ref a_t), (1, .int x1), (2, .int x2), (3, .int x3)] → mi_X12_cue_b203 (mi_X12_cue_l70 t_told n_l70) x1 x2 x3 t_s = some (r, z_t_s) → W p l e (headSpec wsX12_cue rm_X12_cue).room s m args below meth c H locs 0 0 Q (F0 m 203 ls []) := by
        intro x1 x2 x3 t_s H locs ls hP hD hS hl h
        unfold mi_X12_cue_b203 at h
        refine lv_iload_n hx hb dX12_cue_203 rfl (lv_at hl 2 rfl) ?_
        exact bl_b204 x1 x3 x2 t_s _ _ _ hP hD hS (lv_sub hl [0, 1, 3] rfl) h
      have bl_b153 : ∀ (x1 : Int32) (x3 : Int32) (x4 : Int32) (k0 : Int32) (t_s : Nat → Int32) (H : Heap) (locs : List Loc) (ls : Array Slot), va_P D vwCl [(a_t, .inr (12, [.long t_trace, .ref a_t_text, .int t_typed, .ref a_t_told, .ref a_t_draft, .ref a_t_s, .ref a_t_images, .ref a_t_kept, .ref a_t_notes, .int t_noted, .int t_at, .int t_sort, .int t_start, .int t_value, .ref a_t_players, .ref a_t_answers, .ref a_t_room, .ref a_t_inRest])), (a_t_told, .inl (cI, 36, .inl t_told)), (a_t_s, .inl (cI, 56, .inl t_s))] H → va_D A [(a_t, .inr (12, [.long t_trace, .ref a_t_text, .int t_typed, .ref a_t_told, .ref a_t_draft, .ref a_t_s, .ref a_t_images, .ref a_t_kept, .ref a_t_notes, .int t_noted, .int t_at, .int t_sort, .int t_start, .int t_value, .ref a_t_players, .ref a_t_answers, .ref a_t_room, .ref a_t_inRest])), (a_t_told, .inl (cI, 36, .inl t_told)), (a_t_s, .inl (cI, 56, .inl t_s))] → va_S A s.heap H locs → lv_has ls 5 [(0, .ref a_t), (1, .int x1), (3, .int x3), (4, .int x4)] → mi_X12_cue_b153 t_told (mi_X12_cue_l70 t_told n_l70) x1 x3 x4 k0 t_s = some (r, z_t_s) → W p l e (headSpec wsX12_cue rm_X12_cue).room s m args below meth c H locs 0 0 Q (F0 m 153 ls [.int k0]) := by
        intro x1 x3 x4 k0 t_s H locs ls hP hD hS hl h
        unfold mi_X12_cue_b153 at h
        refine lv_istore_n (lv' := [(2, .int k0), (0, .ref a_t), (1, .int x1), (3, .int x3), (4, .int x4)]) hx hb dX12_cue_153 rfl hl (by decide) rfl (fun ls hl => ?_)
        refine lv_iload hx hb dX12_cue_154 (lv_at hl 4 rfl) ?_
        refine lv_if_eq (tgt := 203) hx hb dX12_cue_156 (by decide) (fun c25 => ?_) (fun c25 => ?_)
        · have h := jx_t h c25
          exact bl_b203 x1 k0 x3 t_s _ _ _ hP hD hS (lv_sub hl [1, 2, 0, 3] rfl) h
        · have h := jx_f h c25
          refine lv_aload_n hx hb dX12_cue_159 rfl (lv_at hl 1 rfl) ?_
          refine lv_iload_n hx hb dX12_cue_160 rfl (lv_at hl 3 rfl) ?_
          obtain ⟨r26, e27, h⟩ := jx_b1_of h
          refine jx_cV (o := some (.int r26)) (As := [.int x3]) (rest := []) (b := a_t) ⟨hx, hb, hml, hown, hts⟩ (ct_X12_first l D cI cZ cO a_t a_t_text a_t_told a_t_draft a_t_s a_t_images a_t_kept a_t_notes a_t_players a_t_answers a_t_room a_t_inRest t_trace t_typed t_noted t_at t_sort t_start t_value t_told t_s x3 r26 e27) (cwV 1 hts gX12_cue_X12_first rfl rfl rfl (by decide +kernel) ⟨Nat.le_of_ble_eq_true rfl, Nat.le_of_ble_eq_true rfl⟩) hK hN hP [0, 1, 2] rfl (va_recv hK hP (ci := 12) (q0 := 0) rfl rfl) rfl hl.1 rfl (Nat.le_of_ble_eq_true rfl) dX12_cue_161 ⟨Nat.zero_le _, Nat.zero_le _⟩ ?_
          refine lv_aload_n hx hb dX12_cue_164 rfl (lv_at hl 1 rfl) ?_
          refine va_get (D := D) (ci := 12) (v := .ref a_t_s) (C := RX12) (T := TX12) (N := 18) hx hb hts hi_X12 hown hK hP 0 rfl rfl 5 (by decide) (hts (.fieldLink RX12 19 "TriangleRestModel" "s" "[I") (List.mem_of_getElem? (i := 2) rfl)) (fun _ h9 => h9) rfl dX12_cue_165 ?_
          refine lv_iconst (v := (1 : Int32)) hx hb dX12_cue_168 (by decide) ?_
          refine va_iald hx hb hK hP 2 0 rfl rfl (jx_in_of (by decide +kernel)) dX12_cue_169 ?_
          obtain ⟨r28, e29, h⟩ := jx_b1_of h
          refine jx_cS (o := some (.int r28)) (As := [.int r26, .int (t_s (Int32.toNatClampNeg (1 : Int32)))]) (rest := []) ⟨hx, hb, hml, hown, hts⟩ (ct_X12_apart l r26 (t_s (Int32.toNatClampNeg (1 : Int32))) r28 e29) (va_cwS 2 hts gX12_cue_X12_apart rfl rfl rfl (by decide +kernel) ⟨Nat.le_of_ble_eq_true rfl, Nat.le_of_ble_eq_true rfl⟩) rfl hl.1 rfl (Nat.le_of_ble_eq_true rfl) dX12_cue_170 ⟨Nat.zero_le _, Nat.zero_le _⟩ ?_
          refine lv_iload_n hx hb dX12_cue_173 rfl (lv_at hl 0 rfl) ?_
          refine lv_aload_n hx hb dX12_cue_174 rfl (lv_at hl 1 rfl) ?_
          refine va_get (D := D) (ci := 12) (v := .ref a_t_s) (C := RX12) (T := TX12) (N := 18) hx hb hts hi_X12 hown hK hP 0 rfl rfl 5 (by decide) (hts (.fieldLink RX12 19 "TriangleRestModel" "s" "[I") (List.mem_of_getElem? (i := 2) rfl)) (fun _ h9 => h9) rfl dX12_cue_175 ?_
          refine lv_iconst (v := (1 : Int32)) hx hb dX12_cue_178 (by decide) ?_
          refine va_iald hx hb hK hP 2 0 rfl rfl (jx_in_of (by decide +kernel)) dX12_cue_179 ?_
          obtain ⟨r30, e31, h⟩ := jx_b1_of h
          refine jx_cS (o := some (.int r30)) (As := [.int k0, .int (t_s (Int32.toNatClampNeg (1 : Int32)))]) (rest := [.int r28]) ⟨hx, hb, hml, hown, hts⟩ (ct_X12_apart l k0 (t_s (Int32.toNatClampNeg (1 : Int32))) r30 e31) (va_cwS 2 hts gX12_cue_X12_apart rfl rfl rfl (by decide +kernel) ⟨Nat.le_of_ble_eq_true rfl, Nat.le_of_ble_eq_true rfl⟩) rfl hl.1 rfl (Nat.le_of_ble_eq_true rfl) dX12_cue_180 ⟨Nat.zero_le _, Nat.zero_le _⟩ ?_
          refine lv_icmp_ne (tgt := 203) hx hb dX12_cue_183 (by decide) (fun c32 => ?_) (fun c32 => ?_)
          · have h := jx_f h c32
            exact bl_b203 x1 k0 x3 t_s _ _ _ hP hD hS (lv_sub hl [1, 2, 0, 3] rfl) h
          · have h := jx_t h c32
            refine lv_aload_n hx hb dX12_cue_186 rfl (lv_at hl 1 rfl) ?_
            refine lv_iload_n hx hb dX12_cue_187 rfl (lv_at hl 3 rfl) ?_
            obtain ⟨r33, e34, h⟩ := jx_b1_of h
            refine jx_cV (o := some (.int r33)) (As := [.int x3]) (rest := []) (b := a_t) ⟨hx, hb, hml, hown, hts⟩ (ct_X12_first l D cI cZ cO a_t a_t_text a_t_told a_t_draft a_t_s a_t_images a_t_kept a_t_notes a_t_players a_t_answers a_t_room a_t_inRest t_trace t_typed t_noted t_at t_sort t_start t_value t_told t_s x3 r33 e34) (cwV 1 hts gX12_cue_X12_first rfl rfl rfl (by decide +kernel) ⟨Nat.le_of_ble_eq_true rfl, Nat.le_of_ble_eq_true rfl⟩) hK hN hP [0, 1, 2] rfl (va_recv hK hP (ci := 12) (q0 := 0) rfl rfl) rfl hl.1 rfl (Nat.le_of_ble_eq_true rfl) dX12_cue_188 ⟨Nat.zero_le _, Nat.zero_le _⟩ ?_
            refine lv_iload_n hx hb dX12_cue_191 rfl (lv_at hl 0 rfl) ?_
            refine lv_icmp_ge (tgt := 203) hx hb dX12_cue_192 (by decide) (fun c35 => ?_) (fun c35 => ?_)
            · have h := jx_t h c35
              exact bl_b203 x1 k0 x3 t_s _ _ _ hP hD hS (lv_sub hl [1, 2, 0, 3] rfl) h
            · have h := jx_f h c35
              refine lv_aload_n hx hb dX12_cue_195 rfl (lv_at hl 1 rfl) ?_
              refine lv_iload_n hx hb dX12_cue_196 rfl (lv_at hl 3 rfl) ?_
              obtain ⟨r36, e37, h⟩ := jx_b1_of h
              refine jx_cV (o := some (.int r36)) (As := [.int x3]) (rest := []) (b := a_t) ⟨hx, hb, hml, hown, hts⟩ (ct_X12_first l D cI cZ cO a_t a_t_text a_t_told a_t_draft a_t_s a_t_images a_t_kept a_t_notes a_t_players a_t_answers a_t_room a_t_inRest t_trace t_typed t_noted t_at t_sort t_start t_value t_told t_s x3 r36 e37) (cwV 1 hts gX12_cue_X12_first rfl rfl rfl (by decide +kernel) ⟨Nat.le_of_ble_eq_true rfl, Nat.le_of_ble_eq_true rfl⟩) hK hN hP [0, 1, 2] rfl (va_recv hK hP (ci := 12) (q0 := 0) rfl rfl) rfl hl.1 rfl (Nat.le_of_ble_eq_true rfl) dX12_cue_197 ⟨Nat.zero_le _, Nat.zero_le _⟩ ?_
              refine lv_goto (tgt := 204) hx hb dX12_cue_200 (by decide) ?_
              exact bl_b204 x1 x3 r36 t_s _ _ _ hP hD hS (lv_sub hl [1, 2, 3] rfl) h
      have bl_b152 : ∀ (x1 : Int32) (x2 : Int32) (x3 : Int32) (x4 : Int32) (t_s : Nat → Int32) (H : Heap) (locs : List Loc) (ls : Array Slot), va_P D vwCl [(a_t, .inr (12, [.long t_trace, .ref a_t_text, .int t_typed, .ref a_t_told, .ref a_t_draft, .ref a_t_s, .ref a_t_images, .ref a_t_kept, .ref a_t_notes, .int t_noted, .int t_at, .int t_sort, .int t_start, .int t_value, .ref a_t_players, .ref a_t_answers, .ref a_t_room, .ref a_t_inRest])), (a_t_told, .inl (cI, 36, .inl t_told)), (a_t_s, .inl (cI, 56, .inl t_s))] H → va_D A [(a_t, .inr (12, [.long t_trace, .ref a_t_text, .int t_typed, .ref a_t_told, .ref a_t_draft, .ref a_t_s, .ref a_t_images, .ref a_t_kept, .ref a_t_notes, .int t_noted, .int t_at, .int t_sort, .int t_start, .int t_value, .ref a_t_players, .ref a_t_answers, .ref a_t_room, .ref a_t_inRest])), (a_t_told, .inl (cI, 36, .inl t_told)), (a_t_s, .inl (cI, 56, .inl t_s))] → va_S A s.heap H locs → lv_has ls 5 [(0, .ref a_t), (1, .int x1), (2, .int x2), (3, .int x3), (4, .int x4)] → mi_X12_cue_b152 t_told (mi_X12_cue_l70 t_told n_l70) x1 x2 x3 x4 t_s = some (r, z_t_s) → W p l e (headSpec wsX12_cue rm_X12_cue).room s m args below meth c H locs 0 0 Q (F0 m 152 ls []) := by
        intro x1 x2 x3 x4 t_s H locs ls hP hD hS hl h
        unfold mi_X12_cue_b152 at h
        refine lv_iload_n hx hb dX12_cue_152 rfl (lv_at hl 2 rfl) ?_
        exact bl_b153 x1 x3 x4 x2 t_s _ _ _ hP hD hS (lv_sub hl [0, 1, 3, 4] rfl) h
      have bl_b110 : ∀ (x1 : Int32) (x2 : Int32) (x3 : Int32) (k0 : Int32) (t_s : Nat → Int32) (H : Heap) (locs : List Loc) (ls : Array Slot), va_P D vwCl [(a_t, .inr (12, [.long t_trace, .ref a_t_text, .int t_typed, .ref a_t_told, .ref a_t_draft, .ref a_t_s, .ref a_t_images, .ref a_t_kept, .ref a_t_notes, .int t_noted, .int t_at, .int t_sort, .int t_start, .int t_value, .ref a_t_players, .ref a_t_answers, .ref a_t_room, .ref a_t_inRest])), (a_t_told, .inl (cI, 36, .inl t_told)), (a_t_s, .inl (cI, 56, .inl t_s))] H → va_D A [(a_t, .inr (12, [.long t_trace, .ref a_t_text, .int t_typed, .ref a_t_told, .ref a_t_draft, .ref a_t_s, .ref a_t_images, .ref a_t_kept, .ref a_t_notes, .int t_noted, .int t_at, .int t_sort, .int t_start, .int t_value, .ref a_t_players, .ref a_t_answers, .ref a_t_room, .ref a_t_inRest])), (a_t_told, .inl (cI, 36, .inl t_told)), (a_t_s, .inl (cI, 56, .inl t_s))] → va_S A s.heap H locs → lv_has ls 5 [(0, .ref a_t), (1, .int x1), (2, .int x2), (3, .int x3)] → mi_X12_cue_b110 t_told (mi_X12_cue_l70 t_told n_l70) x1 x2 x3 k0 t_s = some (r, z_t_s) → W p l e (headSpec wsX12_cue rm_X12_cue).room s m args below meth c H locs 0 0 Q (F0 m 110 ls [.int k0]) := by
        intro x1 x2 x3 k0 t_s H locs ls hP hD hS hl h
        unfold mi_X12_cue_b110 at h
        refine lv_istore (lv' := [(4, .int k0), (0, .ref a_t), (1, .int x1), (2, .int x2), (3, .int x3)]) hx hb dX12_cue_110 hl (by decide) rfl (fun ls hl => ?_)
        refine lv_iload hx hb dX12_cue_112 (lv_at hl 0 rfl) ?_
        refine lv_if_eq (tgt := 152) hx hb dX12_cue_114 (by decide) (fun c15 => ?_) (fun c15 => ?_)
        · have h := jx_t h c15
          exact bl_b152 x1 x2 x3 k0 t_s _ _ _ hP hD hS (lv_sub hl [1, 2, 3, 4, 0] rfl) h
        · have h := jx_f h c15
          refine lv_aload_n hx hb dX12_cue_117 rfl (lv_at hl 1 rfl) ?_
          refine lv_iload_n hx hb dX12_cue_118 rfl (lv_at hl 4 rfl) ?_
          obtain ⟨r16, e17, h⟩ := jx_b1_of h
          refine jx_cV (o := some (.int r16)) (As := [.int x3]) (rest := []) (b := a_t) ⟨hx, hb, hml, hown, hts⟩ (ct_X12_first l D cI cZ cO a_t a_t_text a_t_told a_t_draft a_t_s a_t_images a_t_kept a_t_notes a_t_players a_t_answers a_t_room a_t_inRest t_trace t_typed t_noted t_at t_sort t_start t_value t_told t_s x3 r16 e17) (cwV 1 hts gX12_cue_X12_first rfl rfl rfl (by decide +kernel) ⟨Nat.le_of_ble_eq_true rfl, Nat.le_of_ble_eq_true rfl⟩) hK hN hP [0, 1, 2] rfl (va_recv hK hP (ci := 12) (q0 := 0) rfl rfl) rfl hl.1 rfl (Nat.le_of_ble_eq_true rfl) dX12_cue_119 ⟨Nat.zero_le _, Nat.zero_le _⟩ ?_
          refine lv_aload_n hx hb dX12_cue_122 rfl (lv_at hl 1 rfl) ?_
          refine va_get (D := D) (ci := 12) (v := .ref a_t_s) (C := RX12) (T := TX12) (N := 18) hx hb hts hi_X12 hown hK hP 0 rfl rfl 5 (by decide) (hts (.fieldLink RX12 19 "TriangleRestModel" "s" "[I") (List.mem_of_getElem? (i := 2) rfl)) (fun _ h9 => h9) rfl dX12_cue_123 ?_
          refine lv_iconst (v := (1 : Int32)) hx hb dX12_cue_126 (by decide) ?_
          refine va_iald hx hb hK hP 2 0 rfl rfl (jx_in_of (by decide +kernel)) dX12_cue_127 ?_
          obtain ⟨r18, e19, h⟩ := jx_b1_of h
          refine jx_cS (o := some (.int r18)) (As := [.int r16, .int (t_s (Int32.toNatClampNeg (1 : Int32)))]) (rest := []) ⟨hx, hb, hml, hown, hts⟩ (ct_X12_apart l r16 (t_s (Int32.toNatClampNeg (1 : Int32))) r18 e19) (va_cwS 2 hts gX12_cue_X12_apart rfl rfl rfl (by decide +kernel) ⟨Nat.le_of_ble_eq_true rfl, Nat.le_of_ble_eq_true rfl⟩) rfl hl.1 rfl (Nat.le_of_ble_eq_true rfl) dX12_cue_128 ⟨Nat.zero_le _, Nat.zero_le _⟩ ?_
          refine lv_iload_n hx hb dX12_cue_131 rfl (lv_at hl 3 rfl) ?_
          refine lv_aload_n hx hb dX12_cue_132 rfl (lv_at hl 1 rfl) ?_
          refine va_get (D := D) (ci := 12) (v := .ref a_t_s) (C := RX12) (T := TX12) (N := 18) hx hb hts hi_X12 hown hK hP 0 rfl rfl 5 (by decide) (hts (.fieldLink RX12 19 "TriangleRestModel" "s" "[I") (List.mem_of_getElem? (i := 2) rfl)) (fun _ h9 => h9) rfl dX12_cue_133 ?_
          refine lv_iconst (v := (1 : Int32)) hx hb dX12_cue_136 (by decide) ?_
          refine va_iald hx hb hK hP 2 0 rfl rfl (jx_in_of (by decide +kernel)) dX12_cue_137 ?_
          obtain ⟨r20, e21, h⟩ := jx_b1_of h
          refine jx_cS (o := some (.int r20)) (As := [.int x2, .int (t_s (Int32.toNatClampNeg (1 : Int32)))]) (rest := [.int r18]) ⟨hx, hb, hml, hown, hts⟩ (ct_X12_apart l x2 (t_s (Int32.toNatClampNeg (1 : Int32))) r20 e21) (va_cwS 2 hts gX12_cue_X12_apart rfl rfl rfl (by decide +kernel) ⟨Nat.le_of_ble_eq_true rfl, Nat.le_of_ble_eq_true rfl⟩) rfl hl.1 rfl (Nat.le_of_ble_eq_true rfl) dX12_cue_138 ⟨Nat.zero_le _, Nat.zero_le _⟩ ?_
          refine lv_icmp_ge (tgt := 152) hx hb dX12_cue_141 (by decide) (fun c22 => ?_) (fun c22 => ?_)
          · have h := jx_t h c22
            exact bl_b152 x1 x2 x3 k0 t_s _ _ _ hP hD hS (lv_sub hl [1, 2, 3, 4, 0] rfl) h
          · have h := jx_f h c22
            refine lv_aload_n hx hb dX12_cue_144 rfl (lv_at hl 1 rfl) ?_
            refine lv_iload_n hx hb dX12_cue_145 rfl (lv_at hl 4 rfl) ?_
            obtain ⟨r23, e24, h⟩ := jx_b1_of h
            refine jx_cV (o := some (.int r23)) (As := [.int x3]) (rest := []) (b := a_t) ⟨hx, hb, hml, hown, hts⟩ (ct_X12_first l D cI cZ cO a_t a_t_text a_t_told a_t_draft a_t_s a_t_images a_t_kept a_t_notes a_t_players a_t_answers a_t_room a_t_inRest t_trace t_typed t_noted t_at t_sort t_start t_value t_told t_s x3 r23 e24) (cwV 1 hts gX12_cue_X12_first rfl rfl rfl (by decide +kernel) ⟨Nat.le_of_ble_eq_true rfl, Nat.le_of_ble_eq_true rfl⟩) hK hN hP [0, 1, 2] rfl (va_recv hK hP (ci := 12) (q0 := 0) rfl rfl) rfl hl.1 rfl (Nat.le_of_ble_eq_true rfl) dX12_cue_146 ⟨Nat.zero_le _, Nat.zero_le _⟩ ?_
            refine lv_goto (tgt := 153) hx hb dX12_cue_149 (by decide) ?_
            exact bl_b153 x1 x3 k0 r23 t_s _ _ _ hP hD hS (lv_sub hl [1, 2, 4, 0] rfl) h
      have bl_b109 : ∀ (x1 : Int32) (x2 : Int32) (x3 : Int32) (t_s : Nat → Int32) (H : Heap) (locs : List Loc) (ls : Array Slot), va_P D vwCl [(a_t, .inr (12, [.long t_trace, .ref a_t_text, .int t_typed, .ref a_t_told, .ref a_t_draft, .ref a_t_s, .ref a_t_images, .ref a_t_kept, .ref a_t_notes, .int t_noted, .int t_at, .int t_sort, .int t_start, .int t_value, .ref a_t_players, .ref a_t_answers, .ref a_t_room, .ref a_t_inRest])), (a_t_told, .inl (cI, 36, .inl t_told)), (a_t_s, .inl (cI, 56, .inl t_s))] H → va_D A [(a_t, .inr (12, [.long t_trace, .ref a_t_text, .int t_typed, .ref a_t_told, .ref a_t_draft, .ref a_t_s, .ref a_t_images, .ref a_t_kept, .ref a_t_notes, .int t_noted, .int t_at, .int t_sort, .int t_start, .int t_value, .ref a_t_players, .ref a_t_answers, .ref a_t_room, .ref a_t_inRest])), (a_t_told, .inl (cI, 36, .inl t_told)), (a_t_s, .inl (cI, 56, .inl t_s))] → va_S A s.heap H locs → lv_has ls 5 [(0, .ref a_t), (1, .int x1), (2, .int x2), (3, .int x3)] → mi_X12_cue_b109 t_told (mi_X12_cue_l70 t_told n_l70) x1 x2 x3 t_s = some (r, z_t_s) → W p l e (headSpec wsX12_cue rm_X12_cue).room s m args below meth c H locs 0 0 Q (F0 m 109 ls []) := by
        intro x1 x2 x3 t_s H locs ls hP hD hS hl h
        unfold mi_X12_cue_b109 at h
        refine lv_iconst (v := (0 : Int32)) hx hb dX12_cue_109 (by decide) ?_
        exact bl_b110 x1 x2 x3 (0 : Int32) t_s _ _ _ hP hD hS (lv_sub hl [0, 1, 2, 3] rfl) h
      intro x1 x2 x3 t_s H locs ls hP hD hS hl h
      rw [mi_X12_cue_l70] at h
      refine lv_iload_n hx hb dX12_cue_70 rfl (lv_at hl 3 rfl) ?_
      refine lv_if_lt (tgt := 211) hx hb dX12_cue_71 (by decide) (fun c8 => ?_) (fun c8 => ?_)
      · have h := jx_t h c8
        refine lv_aload_n hx hb dX12_cue_211 rfl (lv_at hl 0 rfl) ?_
        refine va_get (D := D) (ci := 12) (v := .ref a_t_s) (C := RX12) (T := TX12) (N := 18) hx hb hts hi_X12 hown hK hP 0 rfl rfl 5 (by decide) (hts (.fieldLink RX12 19 "TriangleRestModel" "s" "[I") (List.mem_of_getElem? (i := 2) rfl)) (fun _ h9 => h9) rfl dX12_cue_212 ?_
        refine lv_iconst (v := (1 : Int32)) hx hb dX12_cue_215 (by decide) ?_
        refine lv_iload_n hx hb dX12_cue_216 rfl (lv_at hl 2 rfl) ?_
        refine va_iast hx hb hK hP hD hS 2 0 rfl rfl (jx_in_of (by decide +kernel)) dX12_cue_217 (fun H locs hP hD hS => ?_)
        have hP : va_P D vwCl [(a_t, .inr (12, [.long t_trace, .ref a_t_text, .int t_typed, .ref a_t_told, .ref a_t_draft, .ref a_t_s, .ref a_t_images, .ref a_t_kept, .ref a_t_notes, .int t_noted, .int t_at, .int t_sort, .int t_start, .int t_value, .ref a_t_players, .ref a_t_answers, .ref a_t_room, .ref a_t_inRest])), (a_t_told, .inl (cI, 36, .inl t_told)), (a_t_s, .inl (cI, 56, .inl (upd t_s (Int32.toNatClampNeg (1 : Int32)) x2)))] H := hP
        have hD : va_D A [(a_t, .inr (12, [.long t_trace, .ref a_t_text, .int t_typed, .ref a_t_told, .ref a_t_draft, .ref a_t_s, .ref a_t_images, .ref a_t_kept, .ref a_t_notes, .int t_noted, .int t_at, .int t_sort, .int t_start, .int t_value, .ref a_t_players, .ref a_t_answers, .ref a_t_room, .ref a_t_inRest])), (a_t_told, .inl (cI, 36, .inl t_told)), (a_t_s, .inl (cI, 56, .inl (upd t_s (Int32.toNatClampNeg (1 : Int32)) x2)))] := hD
        refine lv_iload_n hx hb dX12_cue_218 rfl (lv_at hl 2 rfl) ?_
        cases h
        exact hret 219 ls _ _ hP hD hS rfl dX12_cue_219
      · have h := jx_f h c8
        refine lv_aload_n hx hb dX12_cue_74 rfl (lv_at hl 0 rfl) ?_
        refine va_get (D := D) (ci := 12) (v := .ref a_t_told) (C := RX12) (T := TX12) (N := 18) hx hb hts hi_X12 hown hK hP 0 rfl rfl 3 (by decide) (hts (.fieldLink RX12 13 "TriangleRestModel" "told" "[I") (List.mem_of_getElem? (i := 1) rfl)) (fun _ h9 => h9) rfl dX12_cue_75 ?_
        refine lv_bipush (v := (22 : Int32)) hx hb dX12_cue_78 (by decide) ?_
        refine lv_iload_n hx hb dX12_cue_80 rfl (lv_at hl 3 rfl) ?_
        refine lv_iadd hx hb dX12_cue_81 ?_
        obtain ⟨g9, h⟩ := jx_g_of h
        refine va_iald hx hb hK hP 1 0 rfl rfl (jx_in_of g9) dX12_cue_82 ?_
        refine lv_aload_n hx hb dX12_cue_83 rfl (lv_at hl 0 rfl) ?_
        refine va_get (D := D) (ci := 12) (v := .ref a_t_told) (C := RX12) (T := TX12) (N := 18) hx hb hts hi_X12 hown hK hP 0 rfl rfl 3 (by decide) (hts (.fieldLink RX12 13 "TriangleRestModel" "told" "[I") (List.mem_of_getElem? (i := 1) rfl)) (fun _ h9 => h9) rfl dX12_cue_84 ?_
        refine lv_bipush (v := (22 : Int32)) hx hb dX12_cue_87 (by decide) ?_
        refine lv_iload_n hx hb dX12_cue_89 rfl (lv_at hl 1 rfl) ?_
        refine lv_iadd hx hb dX12_cue_90 ?_
        obtain ⟨g10, h⟩ := jx_g_of h
        refine va_iald hx hb hK hP 1 0 rfl rfl (jx_in_of g10) dX12_cue_91 ?_
        refine lv_icmp_ne (tgt := 109) hx hb dX12_cue_92 (by decide) (fun c11 => ?_) (fun c11 => ?_)
        · have h := jx_f h c11
          exact bl_b109 x1 x2 x3 t_s _ _ _ hP hD hS (lv_sub hl [0, 1, 2, 3] rfl) h
        · have h := jx_t h c11
          refine lv_aload_n hx hb dX12_cue_95 rfl (lv_at hl 0 rfl) ?_
          refine lv_iload_n hx hb dX12_cue_96 rfl (lv_at hl 3 rfl) ?_
          obtain ⟨r12, e13, h⟩ := jx_b1_of h
          refine jx_cV (o := some (.int r12)) (As := [.int x3]) (rest := []) (b := a_t) ⟨hx, hb, hml, hown, hts⟩ (ct_X12_first l D cI cZ cO a_t a_t_text a_t_told a_t_draft a_t_s a_t_images a_t_kept a_t_notes a_t_players a_t_answers a_t_room a_t_inRest t_trace t_typed t_noted t_at t_sort t_start t_value t_told t_s x3 r12 e13) (cwV 1 hts gX12_cue_X12_first rfl rfl rfl (by decide +kernel) ⟨Nat.le_of_ble_eq_true rfl, Nat.le_of_ble_eq_true rfl⟩) hK hN hP [0, 1, 2] rfl (va_recv hK hP (ci := 12) (q0 := 0) rfl rfl) rfl hl.1 rfl (Nat.le_of_ble_eq_true rfl) dX12_cue_97 ⟨Nat.zero_le _, Nat.zero_le _⟩ ?_
          refine lv_bipush (v := (-9 : Int32)) hx hb dX12_cue_100 (by decide) ?_
          refine lv_icmp_eq (tgt := 109) hx hb dX12_cue_102 (by decide) (fun c14 => ?_) (fun c14 => ?_)
          · have h := jx_t h c14
            exact bl_b109 x1 x2 x3 t_s _ _ _ hP hD hS (lv_sub hl [0, 1, 2, 3] rfl) h
          · have h := jx_f h c14
            refine lv_iconst (v := (1 : Int32)) hx hb dX12_cue_105 (by decide) ?_
            refine lv_goto (tgt := 110) hx hb dX12_cue_106 (by decide) ?_
            exact bl_b110 x1 x2 x3 (1 : Int32) t_s _ _ _ hP hD hS (lv_sub hl [0, 1, 2, 3] rfl) h
  have bl_l5 : ∀ (n : Nat) (x1 : Int32) (x2 : Int32) (t_s : Nat → Int32) (H : Heap) (locs : List Loc) (ls : Array Slot), va_P D vwCl [(a_t, .inr (12, [.long t_trace, .ref a_t_text, .int t_typed, .ref a_t_told, .ref a_t_draft, .ref a_t_s, .ref a_t_images, .ref a_t_kept, .ref a_t_notes, .int t_noted, .int t_at, .int t_sort, .int t_start, .int t_value, .ref a_t_players, .ref a_t_answers, .ref a_t_room, .ref a_t_inRest])), (a_t_told, .inl (cI, 36, .inl t_told)), (a_t_s, .inl (cI, 56, .inl t_s))] H → va_D A [(a_t, .inr (12, [.long t_trace, .ref a_t_text, .int t_typed, .ref a_t_told, .ref a_t_draft, .ref a_t_s, .ref a_t_images, .ref a_t_kept, .ref a_t_notes, .int t_noted, .int t_at, .int t_sort, .int t_start, .int t_value, .ref a_t_players, .ref a_t_answers, .ref a_t_room, .ref a_t_inRest])), (a_t_told, .inl (cI, 36, .inl t_told)), (a_t_s, .inl (cI, 56, .inl t_s))] → va_S A s.heap H locs → lv_has ls 5 [(0, .ref a_t), (1, .int x1), (2, .int x2)] → mi_X12_cue_l5 t_told n x1 x2 t_s = some (r, z_t_s) → W p l e (headSpec wsX12_cue rm_X12_cue).room s m args below meth c H locs 0 0 Q (F0 m 5 ls []) := by
    intro n
    induction n with
    | zero =>
      intro x1 x2 t_s H locs ls hP hD hS hl h
      rw [mi_X12_cue_l5] at h
      cases h
    | succ n_l5 ih_l5 =>
      have bl_b34 : ∀ (x2 : Int32) (k0 : Int32) (t_s : Nat → Int32) (H : Heap) (locs : List Loc) (ls : Array Slot), va_P D vwCl [(a_t, .inr (12, [.long t_trace, .ref a_t_text, .int t_typed, .ref a_t_told, .ref a_t_draft, .ref a_t_s, .ref a_t_images, .ref a_t_kept, .ref a_t_notes, .int t_noted, .int t_at, .int t_sort, .int t_start, .int t_value, .ref a_t_players, .ref a_t_answers, .ref a_t_room, .ref a_t_inRest])), (a_t_told, .inl (cI, 36, .inl t_told)), (a_t_s, .inl (cI, 56, .inl t_s))] H → va_D A [(a_t, .inr (12, [.long t_trace, .ref a_t_text, .int t_typed, .ref a_t_told, .ref a_t_draft, .ref a_t_s, .ref a_t_images, .ref a_t_kept, .ref a_t_notes, .int t_noted, .int t_at, .int t_sort, .int t_start, .int t_value, .ref a_t_players, .ref a_t_answers, .ref a_t_room, .ref a_t_inRest])), (a_t_told, .inl (cI, 36, .inl t_told)), (a_t_s, .inl (cI, 56, .inl t_s))] → va_S A s.heap H locs → lv_has ls 5 [(0, .ref a_t), (2, .int x2)] → mi_X12_cue_b34 (mi_X12_cue_l5 t_told n_l5) x2 k0 t_s = some (r, z_t_s) → W p l e (headSpec wsX12_cue rm_X12_cue).room s m args below meth c H locs 0 0 Q (F0 m 34 ls [.int k0]) := by
        intro x2 k0 t_s H locs ls hP hD hS hl h
        unfold mi_X12_cue_b34 at h
        refine lv_istore_n (lv' := [(1, .int k0), (0, .ref a_t), (2, .int x2)]) hx hb dX12_cue_34 rfl hl (by decide) rfl (fun ls hl => ?_)
        refine lv_iinc (v := (x2 + 1)) (lv' := [(2, .int (x2 + 1)), (1, .int k0), (0, .ref a_t)]) hx hb dX12_cue_35 hl (k := 2) rfl rfl (by decide) rfl (fun ls hl => ?_)
        refine lv_goto (tgt := 5) hx hb dX12_cue_38 (by decide) ?_
        exact ih_l5 k0 (x2 + 1) t_s _ _ _ hP hD hS (lv_sub hl [2, 1, 0] rfl) h
      intro x1 x2 t_s H locs ls hP hD hS hl h
      rw [mi_X12_cue_l5] at h
      refine lv_iload_n hx hb dX12_cue_5 rfl (lv_at hl 2 rfl) ?_
      refine lv_aload_n hx hb dX12_cue_6 rfl (lv_at hl 0 rfl) ?_
      refine va_get (D := D) (ci := 12) (v := .ref a_t_told) (C := RX12) (T := TX12) (N := 18) hx hb hts hi_X12 hown hK hP 0 rfl rfl 3 (by decide) (hts (.fieldLink RX12 13 "TriangleRestModel" "told" "[I") (List.mem_of_getElem? (i := 1) rfl)) (fun _ h9 => h9) rfl dX12_cue_7 ?_
      refine lv_iconst (v := (0 : Int32)) hx hb dX12_cue_10 (by decide) ?_
      refine va_iald hx hb hK hP 1 0 rfl rfl (jx_in_of (by decide +kernel)) dX12_cue_11 ?_
      refine lv_icmp_ge (tgt := 41) hx hb dX12_cue_12 (by decide) (fun c1 => ?_) (fun c1 => ?_)
      · have h := jx_t h c1
        refine lv_iload_n hx hb dX12_cue_41 rfl (lv_at hl 1 rfl) ?_
        refine lv_bipush (v := (-9 : Int32)) hx hb dX12_cue_42 (by decide) ?_
        refine lv_icmp_ne (tgt := 50) hx hb dX12_cue_44 (by decide) (fun c2 => ?_) (fun c2 => ?_)
        · have h := jx_f h c2
          refine lv_aload_n hx hb dX12_cue_50 rfl (lv_at hl 0 rfl) ?_
          obtain ⟨t_s_3, e4, h⟩ := jx_b1_of h
          refine jx_cW (o := none) (As := []) (rest := []) (b := a_t) (wr := [(a_t_told, .inl (cI, 36, .inl t_told))]) (wd' := [(a_t, .inr (12, [.long t_trace, .ref a_t_text, .int t_typed, .ref a_t_told, .ref a_t_draft, .ref a_t_s, .ref a_t_images, .ref a_t_kept, .ref a_t_notes, .int t_noted, .int t_at, .int t_sort, .int t_start, .int t_value, .ref a_t_players, .ref a_t_answers, .ref a_t_room, .ref a_t_inRest])), (a_t_told, .inl (cI, 36, .inl t_told)), (a_t_s, .inl (cI, 56, .inl t_s_3))]) ⟨hx, hb, hml, hown, hts⟩ (ct_X12_keeps l D cI cZ cO a_t a_t_text a_t_told a_t_draft a_t_s a_t_images a_t_kept a_t_notes a_t_players a_t_answers a_t_room a_t_inRest H.size t_trace t_typed t_noted t_at t_sort t_start t_value t_s t_s_3 e4) (cwV 0 hts gX12_cue_X12_keeps rfl rfl rfl (by decide +kernel) ⟨Nat.le_of_ble_eq_true rfl, Nat.le_of_ble_eq_true rfl⟩) hK hN hP hD hS hA [0, 2] [1] (by decide) rfl rfl (by decide) (by decide) rfl (va_recv hK hP (ci := 12) (q0 := 0) rfl rfl) rfl hl.1 rfl (Nat.le_of_ble_eq_true rfl) dX12_cue_51 ⟨Nat.zero_le _, Nat.zero_le _⟩ [1, 0, 2] (by decide) rfl (fun H locs hP hD hS => ?_)
          refine lv_aload_n hx hb dX12_cue_54 rfl (lv_at hl 0 rfl) ?_
          refine va_get (D := D) (ci := 12) (v := .ref a_t_s) (C := RX12) (T := TX12) (N := 18) hx hb hts hi_X12 hown hK hP 0 rfl rfl 5 (by decide) (hts (.fieldLink RX12 19 "TriangleRestModel" "s" "[I") (List.mem_of_getElem? (i := 2) rfl)) (fun _ h9 => h9) rfl dX12_cue_55 ?_
          refine lv_iconst (v := (0 : Int32)) hx hb dX12_cue_58 (by decide) ?_
          refine va_iald hx hb hK hP 2 0 rfl rfl (jx_in_of (by decide +kernel)) dX12_cue_59 ?_
          refine lv_istore_n (lv' := [(2, .int (t_s_3 (Int32.toNatClampNeg (0 : Int32)))), (0, .ref a_t), (1, .int x1)]) hx hb dX12_cue_60 rfl hl (by decide) rfl (fun ls hl => ?_)
          refine lv_aload_n hx hb dX12_cue_61 rfl (lv_at hl 1 rfl) ?_
          refine va_get (D := D) (ci := 12) (v := .ref a_t_told) (C := RX12) (T := TX12) (N := 18) hx hb hts hi_X12 hown hK hP 0 rfl rfl 3 (by decide) (hts (.fieldLink RX12 13 "TriangleRestModel" "told" "[I") (List.mem_of_getElem? (i := 1) rfl)) (fun _ h9 => h9) rfl dX12_cue_62 ?_
          refine lv_iconst (v := (0 : Int32)) hx hb dX12_cue_65 (by decide) ?_
          refine va_iald hx hb hK hP 1 0 rfl rfl (jx_in_of (by decide +kernel)) dX12_cue_66 ?_
          refine lv_iconst (v := (1 : Int32)) hx hb dX12_cue_67 (by decide) ?_
          refine lv_isub hx hb dX12_cue_68 ?_
          refine lv_istore_n (lv' := [(3, .int ((t_told (Int32.toNatClampNeg (0 : Int32))) - (1 : Int32))), (2, .int (t_s_3 (Int32.toNatClampNeg (0 : Int32)))), (0, .ref a_t), (1, .int x1)]) hx hb dX12_cue_69 rfl hl (by decide) rfl (fun ls hl => ?_)
          exact bl_l70 jx_F x1 (t_s_3 (Int32.toNatClampNeg (0 : Int32))) ((t_told (Int32.toNatClampNeg (0 : Int32))) - (1 : Int32)) t_s_3 _ _ _ hP hD hS (lv_sub hl [2, 3, 1, 0] rfl) h
        · have h := jx_t h c2
          refine lv_ldc (v := (-1000000 : Int32)) hx hb hown (hts (.constant RX12 127 (-1000000)) (List.mem_of_getElem? (i := 3) rfl)) dX12_cue_47 ?_
          cases h
          exact hret 49 ls _ _ hP hD hS rfl dX12_cue_49
      · have h := jx_f h c1
        refine lv_aload_n hx hb dX12_cue_15 rfl (lv_at hl 0 rfl) ?_
        refine lv_iload_n hx hb dX12_cue_16 rfl (lv_at hl 2 rfl) ?_
        obtain ⟨r5, e6, h⟩ := jx_b1_of h
        refine jx_cV (o := some (.int r5)) (As := [.int x2]) (rest := []) (b := a_t) ⟨hx, hb, hml, hown, hts⟩ (ct_X12_first l D cI cZ cO a_t a_t_text a_t_told a_t_draft a_t_s a_t_images a_t_kept a_t_notes a_t_players a_t_answers a_t_room a_t_inRest t_trace t_typed t_noted t_at t_sort t_start t_value t_told t_s x2 r5 e6) (cwV 1 hts gX12_cue_X12_first rfl rfl rfl (by decide +kernel) ⟨Nat.le_of_ble_eq_true rfl, Nat.le_of_ble_eq_true rfl⟩) hK hN hP [0, 1, 2] rfl (va_recv hK hP (ci := 12) (q0 := 0) rfl rfl) rfl hl.1 rfl (Nat.le_of_ble_eq_true rfl) dX12_cue_17 ⟨Nat.zero_le _, Nat.zero_le _⟩ ?_
        refine lv_aload_n hx hb dX12_cue_20 rfl (lv_at hl 0 rfl) ?_
        refine va_get (D := D) (ci := 12) (v := .ref a_t_s) (C := RX12) (T := TX12) (N := 18) hx hb hts hi_X12 hown hK hP 0 rfl rfl 5 (by decide) (hts (.fieldLink RX12 19 "TriangleRestModel" "s" "[I") (List.mem_of_getElem? (i := 2) rfl)) (fun _ h9 => h9) rfl dX12_cue_21 ?_
        refine lv_iconst (v := (0 : Int32)) hx hb dX12_cue_24 (by decide) ?_
        refine va_iald hx hb hK hP 2 0 rfl rfl (jx_in_of (by decide +kernel)) dX12_cue_25 ?_
        refine lv_icmp_ne (tgt := 33) hx hb dX12_cue_26 (by decide) (fun c7 => ?_) (fun c7 => ?_)
        · have h := jx_f h c7
          refine lv_iload_n hx hb dX12_cue_33 rfl (lv_at hl 1 rfl) ?_
          exact bl_b34 x2 x1 t_s _ _ _ hP hD hS (lv_sub hl [0, 2] rfl) h
        · have h := jx_t h c7
          refine lv_iload_n hx hb dX12_cue_29 rfl (lv_at hl 2 rfl) ?_
          refine lv_goto (tgt := 34) hx hb dX12_cue_30 (by decide) ?_
          exact bl_b34 x2 x2 t_s _ _ _ hP hD hS (lv_sub hl [0, 2] rfl) h
  have h := hm
  unfold mi_X12_cue at h
  refine lv_bipush (v := (-9 : Int32)) hx hb dX12_cue_0 (by decide) ?_
  refine lv_istore_n (lv' := [(1, .int (-9 : Int32)), (0, .ref a_t)]) hx hb dX12_cue_2 rfl hl (by decide) rfl (fun ls hl => ?_)
  refine lv_iconst (v := (0 : Int32)) hx hb dX12_cue_3 (by decide) ?_
  refine lv_istore_n (lv' := [(2, .int (0 : Int32)), (1, .int (-9 : Int32)), (0, .ref a_t)]) hx hb dX12_cue_4 rfl hl (by decide) rfl (fun ls hl => ?_)
  exact bl_l5 jx_F (-9 : Int32) (0 : Int32) t_s _ _ _ hP hD hS (lv_sub hl [2, 1, 0] rfl) h
def mi_X12_cuts (t_told : Nat → Int32) (t_s : Nat → Int32) (p1 : Int32) : Option (Int32 × (Nat → Int32)) := jx_b1 (mi_X12_isSection t_told p1) fun r1 => (if r1 = 0 then (some ((-1 : Int32), t_s)) else (jx_b1 (mi_X12_mayCut t_told t_s p1) fun r4 => (if r4 = 0 then (some ((-2 : Int32), t_s)) else (jx_b1 (mi_X12_keeps t_s) fun t_s_7 => (jx_b1 (mi_X12_length t_told (upd t_s_7 (Int32.toNatClampNeg (3 : Int32)) ((t_s_7 (Int32.toNatClampNeg (3 : Int32))) ||| ((1 : Int32) <<< (p1 &&& 31))))) fun r9 => (some (r9, (upd t_s_7 (Int32.toNatClampNeg (3 : Int32)) ((t_s_7 (Int32.toNatClampNeg (3 : Int32))) ||| ((1 : Int32) <<< (p1 &&& 31)))))))))))
abbrev rm_X12_cuts : Room := { frames := 4, cells := 0, slots := 0, locals := 87 }
set_option maxRecDepth 100000 in
set_option maxHeartbeats 4000000 in
theorem ct_X12_cuts (l : Launch) (D : va_G) (cI cZ cO : ClassId) (a_t a_t_text a_t_told a_t_draft a_t_s a_t_images a_t_kept a_t_notes a_t_players a_t_answers a_t_room a_t_inRest : Nat) (sz : Nat) (t_trace : Int64) (t_typed : Int32) (t_noted : Int32) (t_at : Int32) (t_sort : Int32) (t_start : Int32) (t_value : Int32) (t_told : Nat → Int32) (t_s : Nat → Int32) (p1 : Int32) (r : Int32) (z_t_s : Nat → Int32) (hm : mi_X12_cuts t_told t_s p1 = some (r, z_t_s)) : Met l yX12_cuts wsX12_cuts rm_X12_cuts (va_Pc [.ref a_t, .int p1] (jx_W D (jx_T cI cZ cO) sz [(a_t, .inr (12, [.long t_trace, .ref a_t_text, .int t_typed, .ref a_t_told, .ref a_t_draft, .ref a_t_s, .ref a_t_images, .ref a_t_kept, .ref a_t_notes, .int t_noted, .int t_at, .int t_sort, .int t_start, .int t_value, .ref a_t_players, .ref a_t_answers, .ref a_t_room, .ref a_t_inRest])), (a_t_told, .inl (cI, 36, .inl t_told)), (a_t_s, .inl (cI, 56, .inl t_s))])) (jx_Q (some (.int r)) D [(a_t, .inr (12, [.long t_trace, .ref a_t_text, .int t_typed, .ref a_t_told, .ref a_t_draft, .ref a_t_s, .ref a_t_images, .ref a_t_kept, .ref a_t_notes, .int t_noted, .int t_at, .int t_sort, .int t_start, .int t_value, .ref a_t_players, .ref a_t_answers, .ref a_t_room, .ref a_t_inRest])), (a_t_told, .inl (cI, 36, .inl t_told)), (a_t_s, .inl (cI, 56, .inl z_t_s))] (va_A [(a_t, .inr (12, [.long t_trace, .ref a_t_text, .int t_typed, .ref a_t_told, .ref a_t_draft, .ref a_t_s, .ref a_t_images, .ref a_t_kept, .ref a_t_notes, .int t_noted, .int t_at, .int t_sort, .int t_start, .int t_value, .ref a_t_players, .ref a_t_answers, .ref a_t_room, .ref a_t_inRest])), (a_t_told, .inl (cI, 36, .inl t_told)), (a_t_s, .inl (cI, 56, .inl t_s))] sz)) 0 0 (va_A [(a_t, .inr (12, [.long t_trace, .ref a_t_text, .int t_typed, .ref a_t_told, .ref a_t_draft, .ref a_t_s, .ref a_t_images, .ref a_t_kept, .ref a_t_notes, .int t_noted, .int t_at, .int t_sort, .int t_start, .int t_value, .ref a_t_players, .ref a_t_answers, .ref a_t_room, .ref a_t_inRest])), (a_t_told, .inl (cI, 36, .inl t_told)), (a_t_s, .inl (cI, 56, .inl t_s))] sz) := by
  refine jx_metW (ty := .int) (own := RX12) (cc := cX12_cuts) (maxL := 2) (by decide) rfl rfl (Nat.le_of_ble_eq_true rfl) ?_
  intro p e s m args below meth c Q ls A hx hb hml hown hts hK hN hA hP hD hS hl hret
  have hi_X12 : ∀ w ∈ u_ws RX12 TX12 18, w ∈ wsX12_cuts := by decide +kernel
  have hl : lv_has ls 2 [(0, .ref a_t), (1, .int p1)] := hl
  have h := hm
  unfold mi_X12_cuts at h
  refine lv_aload_n hx hb dX12_cuts_0 rfl (lv_at hl 0 rfl) ?_
  refine lv_iload_n hx hb dX12_cuts_1 rfl (lv_at hl 1 rfl) ?_
  obtain ⟨r1, e2, h⟩ := jx_b1_of h
  refine jx_cV (o := some (.int r1)) (As := [.int p1]) (rest := []) (b := a_t) ⟨hx, hb, hml, hown, hts⟩ (ct_X12_isSection l D cI cZ cO a_t a_t_text a_t_told a_t_draft a_t_s a_t_images a_t_kept a_t_notes a_t_players a_t_answers a_t_room a_t_inRest t_trace t_typed t_noted t_at t_sort t_start t_value t_told p1 r1 e2) (cwV 1 hts gX12_cuts_X12_isSection rfl rfl rfl (by decide +kernel) ⟨Nat.le_of_ble_eq_true rfl, Nat.le_of_ble_eq_true rfl⟩) hK hN hP [0, 1] rfl (va_recv hK hP (ci := 12) (q0 := 0) rfl rfl) rfl hl.1 rfl (Nat.le_of_ble_eq_true rfl) dX12_cuts_2 ⟨Nat.zero_le _, Nat.zero_le _⟩ ?_
  refine lv_if_ne (tgt := 10) hx hb dX12_cuts_5 (by decide) (fun c3 => ?_) (fun c3 => ?_)
  · have h := jx_f h c3
    refine lv_aload_n hx hb dX12_cuts_10 rfl (lv_at hl 0 rfl) ?_
    refine lv_iload_n hx hb dX12_cuts_11 rfl (lv_at hl 1 rfl) ?_
    obtain ⟨r4, e5, h⟩ := jx_b1_of h
    refine jx_cV (o := some (.int r4)) (As := [.int p1]) (rest := []) (b := a_t) ⟨hx, hb, hml, hown, hts⟩ (ct_X12_mayCut l D cI cZ cO a_t a_t_text a_t_told a_t_draft a_t_s a_t_images a_t_kept a_t_notes a_t_players a_t_answers a_t_room a_t_inRest t_trace t_typed t_noted t_at t_sort t_start t_value t_told t_s p1 r4 e5) (cwV 1 hts gX12_cuts_X12_mayCut rfl rfl rfl (by decide +kernel) ⟨Nat.le_of_ble_eq_true rfl, Nat.le_of_ble_eq_true rfl⟩) hK hN hP [0, 1, 2] rfl (va_recv hK hP (ci := 12) (q0 := 0) rfl rfl) rfl hl.1 rfl (Nat.le_of_ble_eq_true rfl) dX12_cuts_12 ⟨Nat.zero_le _, Nat.zero_le _⟩ ?_
    refine lv_if_ne (tgt := 21) hx hb dX12_cuts_15 (by decide) (fun c6 => ?_) (fun c6 => ?_)
    · have h := jx_f h c6
      refine lv_aload_n hx hb dX12_cuts_21 rfl (lv_at hl 0 rfl) ?_
      obtain ⟨t_s_7, e8, h⟩ := jx_b1_of h
      refine jx_cW (o := none) (As := []) (rest := []) (b := a_t) (wr := [(a_t_told, .inl (cI, 36, .inl t_told))]) (wd' := [(a_t, .inr (12, [.long t_trace, .ref a_t_text, .int t_typed, .ref a_t_told, .ref a_t_draft, .ref a_t_s, .ref a_t_images, .ref a_t_kept, .ref a_t_notes, .int t_noted, .int t_at, .int t_sort, .int t_start, .int t_value, .ref a_t_players, .ref a_t_answers, .ref a_t_room, .ref a_t_inRest])), (a_t_told, .inl (cI, 36, .inl t_told)), (a_t_s, .inl (cI, 56, .inl t_s_7))]) ⟨hx, hb, hml, hown, hts⟩ (ct_X12_keeps l D cI cZ cO a_t a_t_text a_t_told a_t_draft a_t_s a_t_images a_t_kept a_t_notes a_t_players a_t_answers a_t_room a_t_inRest s.heap.size t_trace t_typed t_noted t_at t_sort t_start t_value t_s t_s_7 e8) (cwV 0 hts gX12_cuts_X12_keeps rfl rfl rfl (by decide +kernel) ⟨Nat.le_of_ble_eq_true rfl, Nat.le_of_ble_eq_true rfl⟩) hK hN hP hD hS hA [0, 2] [1] (by decide) rfl rfl (by decide) (by decide) rfl (va_recv hK hP (ci := 12) (q0 := 0) rfl rfl) rfl hl.1 rfl (Nat.le_of_ble_eq_true rfl) dX12_cuts_22 ⟨Nat.zero_le _, Nat.zero_le _⟩ [1, 0, 2] (by decide) rfl (fun H locs hP hD hS => ?_)
      refine lv_aload_n hx hb dX12_cuts_25 rfl (lv_at hl 0 rfl) ?_
      refine va_get (D := D) (ci := 12) (v := .ref a_t_s) (C := RX12) (T := TX12) (N := 18) hx hb hts hi_X12 hown hK hP 0 rfl rfl 5 (by decide) (hts (.fieldLink RX12 19 "TriangleRestModel" "s" "[I") (List.mem_of_getElem? (i := 1) rfl)) (fun _ h9 => h9) rfl dX12_cuts_26 ?_
      refine lv_iconst (v := (3 : Int32)) hx hb dX12_cuts_29 (by decide) ?_
      refine lv_dup2_11 hx hb dX12_cuts_30 rfl rfl ?_
      refine va_iald hx hb hK hP 2 0 rfl rfl (jx_in_of (by decide +kernel)) dX12_cuts_31 ?_
      refine lv_iconst (v := (1 : Int32)) hx hb dX12_cuts_32 (by decide) ?_
      refine lv_iload_n hx hb dX12_cuts_33 rfl (lv_at hl 1 rfl) ?_
      refine lv_ishl hx hb dX12_cuts_34 ?_
      refine lv_ior hx hb dX12_cuts_35 ?_
      refine va_iast hx hb hK hP hD hS 2 0 rfl rfl (jx_in_of (by decide +kernel)) dX12_cuts_36 (fun H locs hP hD hS => ?_)
      have hP : va_P D vwCl [(a_t, .inr (12, [.long t_trace, .ref a_t_text, .int t_typed, .ref a_t_told, .ref a_t_draft, .ref a_t_s, .ref a_t_images, .ref a_t_kept, .ref a_t_notes, .int t_noted, .int t_at, .int t_sort, .int t_start, .int t_value, .ref a_t_players, .ref a_t_answers, .ref a_t_room, .ref a_t_inRest])), (a_t_told, .inl (cI, 36, .inl t_told)), (a_t_s, .inl (cI, 56, .inl (upd t_s_7 (Int32.toNatClampNeg (3 : Int32)) ((t_s_7 (Int32.toNatClampNeg (3 : Int32))) ||| ((1 : Int32) <<< (p1 &&& 31))))))] H := hP
      have hD : va_D A [(a_t, .inr (12, [.long t_trace, .ref a_t_text, .int t_typed, .ref a_t_told, .ref a_t_draft, .ref a_t_s, .ref a_t_images, .ref a_t_kept, .ref a_t_notes, .int t_noted, .int t_at, .int t_sort, .int t_start, .int t_value, .ref a_t_players, .ref a_t_answers, .ref a_t_room, .ref a_t_inRest])), (a_t_told, .inl (cI, 36, .inl t_told)), (a_t_s, .inl (cI, 56, .inl (upd t_s_7 (Int32.toNatClampNeg (3 : Int32)) ((t_s_7 (Int32.toNatClampNeg (3 : Int32))) ||| ((1 : Int32) <<< (p1 &&& 31))))))] := hD
      refine lv_aload_n hx hb dX12_cuts_37 rfl (lv_at hl 0 rfl) ?_
      obtain ⟨r9, e10, h⟩ := jx_b1_of h
      refine jx_cV (o := some (.int r9)) (As := []) (rest := []) (b := a_t) ⟨hx, hb, hml, hown, hts⟩ (ct_X12_length l D cI cZ cO a_t a_t_text a_t_told a_t_draft a_t_s a_t_images a_t_kept a_t_notes a_t_players a_t_answers a_t_room a_t_inRest t_trace t_typed t_noted t_at t_sort t_start t_value t_told (upd t_s_7 (Int32.toNatClampNeg (3 : Int32)) ((t_s_7 (Int32.toNatClampNeg (3 : Int32))) ||| ((1 : Int32) <<< (p1 &&& 31)))) r9 e10) (cwV 0 hts gX12_cuts_X12_length rfl rfl rfl (by decide +kernel) ⟨Nat.le_of_ble_eq_true rfl, Nat.le_of_ble_eq_true rfl⟩) hK hN hP [0, 1, 2] rfl (va_recv hK hP (ci := 12) (q0 := 0) rfl rfl) rfl hl.1 rfl (Nat.le_of_ble_eq_true rfl) dX12_cuts_38 ⟨Nat.zero_le _, Nat.zero_le _⟩ ?_
      cases h
      exact hret 41 ls _ _ hP hD hS rfl dX12_cuts_41
    · have h := jx_t h c6
      refine lv_bipush (v := (-2 : Int32)) hx hb dX12_cuts_18 (by decide) ?_
      cases h
      exact hret 20 ls _ _ hP hD hS rfl dX12_cuts_20
  · have h := jx_t h c3
    refine lv_iconst (v := (-1 : Int32)) hx hb dX12_cuts_8 (by decide) ?_
    cases h
    exact hret 9 ls _ _ hP hD hS rfl dX12_cuts_9
def mi_X12_waits (t_s : Nat → Int32) (p1 : Int32) : Option (Int32 × (Nat → Int32)) := jx_b1 (mi_X12_in p1 (1 : Int32) (99 : Int32)) fun r1 => (if r1 = 0 then (some ((-1 : Int32), t_s)) else (if ((t_s (Int32.toNatClampNeg (2 : Int32))) + p1) ≤ (999 : Int32) then (jx_b1 (mi_X12_keeps t_s) fun t_s_5 => (some (((upd t_s_5 (Int32.toNatClampNeg (2 : Int32)) ((t_s_5 (Int32.toNatClampNeg (2 : Int32))) + p1)) (Int32.toNatClampNeg (2 : Int32))), (upd t_s_5 (Int32.toNatClampNeg (2 : Int32)) ((t_s_5 (Int32.toNatClampNeg (2 : Int32))) + p1))))) else (some ((-2 : Int32), t_s))))
abbrev rm_X12_waits : Room := { frames := 1, cells := 0, slots := 0, locals := 22 }
set_option maxRecDepth 100000 in
set_option maxHeartbeats 4000000 in
theorem ct_X12_waits (l : Launch) (D : va_G) (cI cZ cO : ClassId) (a_t a_t_text a_t_told a_t_draft a_t_s a_t_images a_t_kept a_t_notes a_t_players a_t_answers a_t_room a_t_inRest : Nat) (sz : Nat) (t_trace : Int64) (t_typed : Int32) (t_noted : Int32) (t_at : Int32) (t_sort : Int32) (t_start : Int32) (t_value : Int32) (t_s : Nat → Int32) (p1 : Int32) (r : Int32) (z_t_s : Nat → Int32) (hm : mi_X12_waits t_s p1 = some (r, z_t_s)) : Met l yX12_waits wsX12_waits rm_X12_waits (va_Pc [.ref a_t, .int p1] (jx_W D (jx_T cI cZ cO) sz [(a_t, .inr (12, [.long t_trace, .ref a_t_text, .int t_typed, .ref a_t_told, .ref a_t_draft, .ref a_t_s, .ref a_t_images, .ref a_t_kept, .ref a_t_notes, .int t_noted, .int t_at, .int t_sort, .int t_start, .int t_value, .ref a_t_players, .ref a_t_answers, .ref a_t_room, .ref a_t_inRest])), (a_t_s, .inl (cI, 56, .inl t_s))])) (jx_Q (some (.int r)) D [(a_t, .inr (12, [.long t_trace, .ref a_t_text, .int t_typed, .ref a_t_told, .ref a_t_draft, .ref a_t_s, .ref a_t_images, .ref a_t_kept, .ref a_t_notes, .int t_noted, .int t_at, .int t_sort, .int t_start, .int t_value, .ref a_t_players, .ref a_t_answers, .ref a_t_room, .ref a_t_inRest])), (a_t_s, .inl (cI, 56, .inl z_t_s))] (va_A [(a_t, .inr (12, [.long t_trace, .ref a_t_text, .int t_typed, .ref a_t_told, .ref a_t_draft, .ref a_t_s, .ref a_t_images, .ref a_t_kept, .ref a_t_notes, .int t_noted, .int t_at, .int t_sort, .int t_start, .int t_value, .ref a_t_players, .ref a_t_answers, .ref a_t_room, .ref a_t_inRest])), (a_t_s, .inl (cI, 56, .inl t_s))] sz)) 0 0 (va_A [(a_t, .inr (12, [.long t_trace, .ref a_t_text, .int t_typed, .ref a_t_told, .ref a_t_draft, .ref a_t_s, .ref a_t_images, .ref a_t_kept, .ref a_t_notes, .int t_noted, .int t_at, .int t_sort, .int t_start, .int t_value, .ref a_t_players, .ref a_t_answers, .ref a_t_room, .ref a_t_inRest])), (a_t_s, .inl (cI, 56, .inl t_s))] sz) := by
  refine jx_metW (ty := .int) (own := RX12) (cc := cX12_waits) (maxL := 2) (by decide) rfl rfl (Nat.le_of_ble_eq_true rfl) ?_
  intro p e s m args below meth c Q ls A hx hb hml hown hts hK hN hA hP hD hS hl hret
  have hi_X12 : ∀ w ∈ u_ws RX12 TX12 18, w ∈ wsX12_waits := by decide +kernel
  have hl : lv_has ls 2 [(0, .ref a_t), (1, .int p1)] := hl
  have h := hm
  unfold mi_X12_waits at h
  refine lv_iload_n hx hb dX12_waits_0 rfl (lv_at hl 1 rfl) ?_
  refine lv_iconst (v := (1 : Int32)) hx hb dX12_waits_1 (by decide) ?_
  refine lv_bipush (v := (99 : Int32)) hx hb dX12_waits_2 (by decide) ?_
  obtain ⟨r1, e2, h⟩ := jx_b1_of h
  refine jx_cS (o := some (.int r1)) (As := [.int p1, .int (1 : Int32), .int (99 : Int32)]) (rest := []) ⟨hx, hb, hml, hown, hts⟩ (ct_X12_in l p1 (1 : Int32) (99 : Int32) r1 e2) (va_cwS 3 hts gX12_waits_X12_in rfl rfl rfl (by decide +kernel) ⟨Nat.le_of_ble_eq_true rfl, Nat.le_of_ble_eq_true rfl⟩) rfl hl.1 rfl (Nat.le_of_ble_eq_true rfl) dX12_waits_4 ⟨Nat.zero_le _, Nat.zero_le _⟩ ?_
  refine lv_if_ne (tgt := 12) hx hb dX12_waits_7 (by decide) (fun c3 => ?_) (fun c3 => ?_)
  · have h := jx_f h c3
    refine lv_aload_n hx hb dX12_waits_12 rfl (lv_at hl 0 rfl) ?_
    refine va_get (D := D) (ci := 12) (v := .ref a_t_s) (C := RX12) (T := TX12) (N := 18) hx hb hts hi_X12 hown hK hP 0 rfl rfl 5 (by decide) (hts (.fieldLink RX12 19 "TriangleRestModel" "s" "[I") (List.mem_of_getElem? (i := 1) rfl)) (fun _ h9 => h9) rfl dX12_waits_13 ?_
    refine lv_iconst (v := (2 : Int32)) hx hb dX12_waits_16 (by decide) ?_
    refine va_iald hx hb hK hP 1 0 rfl rfl (jx_in_of (by decide +kernel)) dX12_waits_17 ?_
    refine lv_iload_n hx hb dX12_waits_18 rfl (lv_at hl 1 rfl) ?_
    refine lv_iadd hx hb dX12_waits_19 ?_
    refine lv_sipush (v := (999 : Int32)) hx hb dX12_waits_20 (by decide) ?_
    refine lv_icmp_le (tgt := 29) hx hb dX12_waits_23 (by decide) (fun c4 => ?_) (fun c4 => ?_)
    · have h := jx_t h c4
      refine lv_aload_n hx hb dX12_waits_29 rfl (lv_at hl 0 rfl) ?_
      obtain ⟨t_s_5, e6, h⟩ := jx_b1_of h
      refine jx_cW (o := none) (As := []) (rest := []) (b := a_t) (wr := []) (wd' := [(a_t, .inr (12, [.long t_trace, .ref a_t_text, .int t_typed, .ref a_t_told, .ref a_t_draft, .ref a_t_s, .ref a_t_images, .ref a_t_kept, .ref a_t_notes, .int t_noted, .int t_at, .int t_sort, .int t_start, .int t_value, .ref a_t_players, .ref a_t_answers, .ref a_t_room, .ref a_t_inRest])), (a_t_s, .inl (cI, 56, .inl t_s_5))]) ⟨hx, hb, hml, hown, hts⟩ (ct_X12_keeps l D cI cZ cO a_t a_t_text a_t_told a_t_draft a_t_s a_t_images a_t_kept a_t_notes a_t_players a_t_answers a_t_room a_t_inRest s.heap.size t_trace t_typed t_noted t_at t_sort t_start t_value t_s t_s_5 e6) (cwV 0 hts gX12_waits_X12_keeps rfl rfl rfl (by decide +kernel) ⟨Nat.le_of_ble_eq_true rfl, Nat.le_of_ble_eq_true rfl⟩) hK hN hP hD hS hA [0, 1] [] (by decide) rfl rfl (by decide) (by decide) rfl (va_recv hK hP (ci := 12) (q0 := 0) rfl rfl) rfl hl.1 rfl (Nat.le_of_ble_eq_true rfl) dX12_waits_30 ⟨Nat.zero_le _, Nat.zero_le _⟩ [0, 1] (by decide) rfl (fun H locs hP hD hS => ?_)
      refine lv_aload_n hx hb dX12_waits_33 rfl (lv_at hl 0 rfl) ?_
      refine va_get (D := D) (ci := 12) (v := .ref a_t_s) (C := RX12) (T := TX12) (N := 18) hx hb hts hi_X12 hown hK hP 0 rfl rfl 5 (by decide) (hts (.fieldLink RX12 19 "TriangleRestModel" "s" "[I") (List.mem_of_getElem? (i := 1) rfl)) (fun _ h9 => h9) rfl dX12_waits_34 ?_
      refine lv_iconst (v := (2 : Int32)) hx hb dX12_waits_37 (by decide) ?_
      refine lv_dup2_11 hx hb dX12_waits_38 rfl rfl ?_
      refine va_iald hx hb hK hP 1 0 rfl rfl (jx_in_of (by decide +kernel)) dX12_waits_39 ?_
      refine lv_iload_n hx hb dX12_waits_40 rfl (lv_at hl 1 rfl) ?_
      refine lv_iadd hx hb dX12_waits_41 ?_
      refine va_iast hx hb hK hP hD hS 1 0 rfl rfl (jx_in_of (by decide +kernel)) dX12_waits_42 (fun H locs hP hD hS => ?_)
      have hP : va_P D vwCl [(a_t, .inr (12, [.long t_trace, .ref a_t_text, .int t_typed, .ref a_t_told, .ref a_t_draft, .ref a_t_s, .ref a_t_images, .ref a_t_kept, .ref a_t_notes, .int t_noted, .int t_at, .int t_sort, .int t_start, .int t_value, .ref a_t_players, .ref a_t_answers, .ref a_t_room, .ref a_t_inRest])), (a_t_s, .inl (cI, 56, .inl (upd t_s_5 (Int32.toNatClampNeg (2 : Int32)) ((t_s_5 (Int32.toNatClampNeg (2 : Int32))) + p1))))] H := hP
      have hD : va_D A [(a_t, .inr (12, [.long t_trace, .ref a_t_text, .int t_typed, .ref a_t_told, .ref a_t_draft, .ref a_t_s, .ref a_t_images, .ref a_t_kept, .ref a_t_notes, .int t_noted, .int t_at, .int t_sort, .int t_start, .int t_value, .ref a_t_players, .ref a_t_answers, .ref a_t_room, .ref a_t_inRest])), (a_t_s, .inl (cI, 56, .inl (upd t_s_5 (Int32.toNatClampNeg (2 : Int32)) ((t_s_5 (Int32.toNatClampNeg (2 : Int32))) + p1))))] := hD
      refine lv_aload_n hx hb dX12_waits_43 rfl (lv_at hl 0 rfl) ?_
      refine va_get (D := D) (ci := 12) (v := .ref a_t_s) (C := RX12) (T := TX12) (N := 18) hx hb hts hi_X12 hown hK hP 0 rfl rfl 5 (by decide) (hts (.fieldLink RX12 19 "TriangleRestModel" "s" "[I") (List.mem_of_getElem? (i := 1) rfl)) (fun _ h9 => h9) rfl dX12_waits_44 ?_
      refine lv_iconst (v := (2 : Int32)) hx hb dX12_waits_47 (by decide) ?_
      refine va_iald hx hb hK hP 1 0 rfl rfl (jx_in_of (by decide +kernel)) dX12_waits_48 ?_
      cases h
      exact hret 49 ls _ _ hP hD hS rfl dX12_waits_49
    · have h := jx_f h c4
      refine lv_bipush (v := (-2 : Int32)) hx hb dX12_waits_26 (by decide) ?_
      cases h
      exact hret 28 ls _ _ hP hD hS rfl dX12_waits_28
  · have h := jx_t h c3
    refine lv_iconst (v := (-1 : Int32)) hx hb dX12_waits_10 (by decide) ?_
    cases h
    exact hret 11 ls _ _ hP hD hS rfl dX12_waits_11
def mi_X12_undo_l24 : Nat → Int32 → (Nat → Int32) → Option (Int32 × (Nat → Int32))
  | 0, _, _ => none
  | n + 1, x1, t_s => if (5 : Int32) ≤ x1 then (some ((t_s (Int32.toNatClampNeg (5 : Int32))), t_s)) else (jx_g (jx_in (((6 : Int32) + ((5 : Int32) * (t_s (Int32.toNatClampNeg (5 : Int32))))) + x1) 56) (jx_g (jx_in x1 56) (mi_X12_undo_l24 n (x1 + 1) (upd t_s (Int32.toNatClampNeg x1) (t_s (Int32.toNatClampNeg (((6 : Int32) + ((5 : Int32) * (t_s (Int32.toNatClampNeg (5 : Int32))))) + x1)))))))
def mi_X12_undo (t_s : Nat → Int32) : Option (Int32 × (Nat → Int32)) := if (t_s (Int32.toNatClampNeg (5 : Int32))) = 0 then (some ((-2 : Int32), t_s)) else (mi_X12_undo_l24 jx_F (0 : Int32) (upd t_s (Int32.toNatClampNeg (5 : Int32)) ((t_s (Int32.toNatClampNeg (5 : Int32))) - (1 : Int32))))
abbrev rm_X12_undo : Room := { frames := 0, cells := 0, slots := 0, locals := 0 }
set_option maxRecDepth 100000 in
set_option maxHeartbeats 4000000 in
theorem ct_X12_undo (l : Launch) (D : va_G) (cI cZ cO : ClassId) (a_t a_t_text a_t_told a_t_draft a_t_s a_t_images a_t_kept a_t_notes a_t_players a_t_answers a_t_room a_t_inRest : Nat) (sz : Nat) (t_trace : Int64) (t_typed : Int32) (t_noted : Int32) (t_at : Int32) (t_sort : Int32) (t_start : Int32) (t_value : Int32) (t_s : Nat → Int32) (r : Int32) (z_t_s : Nat → Int32) (hm : mi_X12_undo t_s = some (r, z_t_s)) : Met l yX12_undo wsX12_undo rm_X12_undo (va_Pc [.ref a_t] (jx_W D (jx_T cI cZ cO) sz [(a_t, .inr (12, [.long t_trace, .ref a_t_text, .int t_typed, .ref a_t_told, .ref a_t_draft, .ref a_t_s, .ref a_t_images, .ref a_t_kept, .ref a_t_notes, .int t_noted, .int t_at, .int t_sort, .int t_start, .int t_value, .ref a_t_players, .ref a_t_answers, .ref a_t_room, .ref a_t_inRest])), (a_t_s, .inl (cI, 56, .inl t_s))])) (jx_Q (some (.int r)) D [(a_t, .inr (12, [.long t_trace, .ref a_t_text, .int t_typed, .ref a_t_told, .ref a_t_draft, .ref a_t_s, .ref a_t_images, .ref a_t_kept, .ref a_t_notes, .int t_noted, .int t_at, .int t_sort, .int t_start, .int t_value, .ref a_t_players, .ref a_t_answers, .ref a_t_room, .ref a_t_inRest])), (a_t_s, .inl (cI, 56, .inl z_t_s))] (va_A [(a_t, .inr (12, [.long t_trace, .ref a_t_text, .int t_typed, .ref a_t_told, .ref a_t_draft, .ref a_t_s, .ref a_t_images, .ref a_t_kept, .ref a_t_notes, .int t_noted, .int t_at, .int t_sort, .int t_start, .int t_value, .ref a_t_players, .ref a_t_answers, .ref a_t_room, .ref a_t_inRest])), (a_t_s, .inl (cI, 56, .inl t_s))] sz)) 0 0 (va_A [(a_t, .inr (12, [.long t_trace, .ref a_t_text, .int t_typed, .ref a_t_told, .ref a_t_draft, .ref a_t_s, .ref a_t_images, .ref a_t_kept, .ref a_t_notes, .int t_noted, .int t_at, .int t_sort, .int t_start, .int t_value, .ref a_t_players, .ref a_t_answers, .ref a_t_room, .ref a_t_inRest])), (a_t_s, .inl (cI, 56, .inl t_s))] sz) := by
  refine jx_metW (ty := .int) (own := RX12) (cc := cX12_undo) (maxL := 2) (by decide) rfl rfl (Nat.le_of_ble_eq_true rfl) ?_
  intro p e s m args below meth c Q ls A hx hb hml hown hts hK hN hA hP hD hS hl hret
  have hi_X12 : ∀ w ∈ u_ws RX12 TX12 18, w ∈ wsX12_undo := by decide +kernel
  have hl : lv_has ls 2 [(0, .ref a_t)] := hl
  have bl_l24 : ∀ (n : Nat) (x1 : Int32) (t_s : Nat → Int32) (H : Heap) (locs : List Loc) (ls : Array Slot), va_P D vwCl [(a_t, .inr (12, [.long t_trace, .ref a_t_text, .int t_typed, .ref a_t_told, .ref a_t_draft, .ref a_t_s, .ref a_t_images, .ref a_t_kept, .ref a_t_notes, .int t_noted, .int t_at, .int t_sort, .int t_start, .int t_value, .ref a_t_players, .ref a_t_answers, .ref a_t_room, .ref a_t_inRest])), (a_t_s, .inl (cI, 56, .inl t_s))] H → va_D A [(a_t, .inr (12, [.long t_trace, .ref a_t_text, .int t_typed, .ref a_t_told, .ref a_t_draft, .ref a_t_s, .ref a_t_images, .ref a_t_kept, .ref a_t_notes, .int t_noted, .int t_at, .int t_sort, .int t_start, .int t_value, .ref a_t_players, .ref a_t_answers, .ref a_t_room, .ref a_t_inRest])), (a_t_s, .inl (cI, 56, .inl t_s))] → va_S A s.heap H locs → lv_has ls 2 [(0, .ref a_t), (1, .int x1)] → mi_X12_undo_l24 n x1 t_s = some (r, z_t_s) → W p l e (headSpec wsX12_undo rm_X12_undo).room s m args below meth c H locs 0 0 Q (F0 m 24 ls []) := by
    intro n
    induction n with
    | zero =>
      intro x1 t_s H locs ls hP hD hS hl h
      rw [mi_X12_undo_l24] at h
      cases h
    | succ n_l24 ih_l24 =>
      intro x1 t_s H locs ls hP hD hS hl h
      rw [mi_X12_undo_l24] at h
      refine lv_iload_n hx hb dX12_undo_24 rfl (lv_at hl 1 rfl) ?_
      refine lv_iconst (v := (5 : Int32)) hx hb dX12_undo_25 (by decide) ?_
      refine lv_icmp_ge (tgt := 59) hx hb dX12_undo_26 (by decide) (fun c1 => ?_) (fun c1 => ?_)
      · have h := jx_t h c1
        refine lv_aload_n hx hb dX12_undo_59 rfl (lv_at hl 0 rfl) ?_
        refine va_get (D := D) (ci := 12) (v := .ref a_t_s) (C := RX12) (T := TX12) (N := 18) hx hb hts hi_X12 hown hK hP 0 rfl rfl 5 (by decide) (hts (.fieldLink RX12 19 "TriangleRestModel" "s" "[I") (List.mem_of_getElem? (i := 1) rfl)) (fun _ h9 => h9) rfl dX12_undo_60 ?_
        refine lv_iconst (v := (5 : Int32)) hx hb dX12_undo_63 (by decide) ?_
        refine va_iald hx hb hK hP 1 0 rfl rfl (jx_in_of (by decide +kernel)) dX12_undo_64 ?_
        cases h
        exact hret 65 ls _ _ hP hD hS rfl dX12_undo_65
      · have h := jx_f h c1
        refine lv_aload_n hx hb dX12_undo_29 rfl (lv_at hl 0 rfl) ?_
        refine va_get (D := D) (ci := 12) (v := .ref a_t_s) (C := RX12) (T := TX12) (N := 18) hx hb hts hi_X12 hown hK hP 0 rfl rfl 5 (by decide) (hts (.fieldLink RX12 19 "TriangleRestModel" "s" "[I") (List.mem_of_getElem? (i := 1) rfl)) (fun _ h9 => h9) rfl dX12_undo_30 ?_
        refine lv_iload_n hx hb dX12_undo_33 rfl (lv_at hl 1 rfl) ?_
        refine lv_aload_n hx hb dX12_undo_34 rfl (lv_at hl 0 rfl) ?_
        refine va_get (D := D) (ci := 12) (v := .ref a_t_s) (C := RX12) (T := TX12) (N := 18) hx hb hts hi_X12 hown hK hP 0 rfl rfl 5 (by decide) (hts (.fieldLink RX12 19 "TriangleRestModel" "s" "[I") (List.mem_of_getElem? (i := 1) rfl)) (fun _ h9 => h9) rfl dX12_undo_35 ?_
        refine lv_bipush (v := (6 : Int32)) hx hb dX12_undo_38 (by decide) ?_
        refine lv_iconst (v := (5 : Int32)) hx hb dX12_undo_40 (by decide) ?_
        refine lv_aload_n hx hb dX12_undo_41 rfl (lv_at hl 0 rfl) ?_
        refine va_get (D := D) (ci := 12) (v := .ref a_t_s) (C := RX12) (T := TX12) (N := 18) hx hb hts hi_X12 hown hK hP 0 rfl rfl 5 (by decide) (hts (.fieldLink RX12 19 "TriangleRestModel" "s" "[I") (List.mem_of_getElem? (i := 1) rfl)) (fun _ h9 => h9) rfl dX12_undo_42 ?_
        refine lv_iconst (v := (5 : Int32)) hx hb dX12_undo_45 (by decide) ?_
        refine va_iald hx hb hK hP 1 0 rfl rfl (jx_in_of (by decide +kernel)) dX12_undo_46 ?_
        refine lv_imul hx hb dX12_undo_47 ?_
        refine lv_iadd hx hb dX12_undo_48 ?_
        refine lv_iload_n hx hb dX12_undo_49 rfl (lv_at hl 1 rfl) ?_
        refine lv_iadd hx hb dX12_undo_50 ?_
        obtain ⟨g2, h⟩ := jx_g_of h
        refine va_iald hx hb hK hP 1 0 rfl rfl (jx_in_of g2) dX12_undo_51 ?_
        obtain ⟨g3, h⟩ := jx_g_of h
        refine va_iast hx hb hK hP hD hS 1 0 rfl rfl (jx_in_of g3) dX12_undo_52 (fun H locs hP hD hS => ?_)
        have hP : va_P D vwCl [(a_t, .inr (12, [.long t_trace, .ref a_t_text, .int t_typed, .ref a_t_told, .ref a_t_draft, .ref a_t_s, .ref a_t_images, .ref a_t_kept, .ref a_t_notes, .int t_noted, .int t_at, .int t_sort, .int t_start, .int t_value, .ref a_t_players, .ref a_t_answers, .ref a_t_room, .ref a_t_inRest])), (a_t_s, .inl (cI, 56, .inl (upd t_s (Int32.toNatClampNeg x1) (t_s (Int32.toNatClampNeg (((6 : Int32) + ((5 : Int32) * (t_s (Int32.toNatClampNeg (5 : Int32))))) + x1))))))] H := hP
        have hD : va_D A [(a_t, .inr (12, [.long t_trace, .ref a_t_text, .int t_typed, .ref a_t_told, .ref a_t_draft, .ref a_t_s, .ref a_t_images, .ref a_t_kept, .ref a_t_notes, .int t_noted, .int t_at, .int t_sort, .int t_start, .int t_value, .ref a_t_players, .ref a_t_answers, .ref a_t_room, .ref a_t_inRest])), (a_t_s, .inl (cI, 56, .inl (upd t_s (Int32.toNatClampNeg x1) (t_s (Int32.toNatClampNeg (((6 : Int32) + ((5 : Int32) * (t_s (Int32.toNatClampNeg (5 : Int32))))) + x1))))))] := hD
        refine lv_iinc (v := (x1 + 1)) (lv' := [(1, .int (x1 + 1)), (0, .ref a_t)]) hx hb dX12_undo_53 hl (k := 1) rfl rfl (by decide) rfl (fun ls hl => ?_)
        refine lv_goto (tgt := 24) hx hb dX12_undo_56 (by decide) ?_
        exact ih_l24 (x1 + 1) (upd t_s (Int32.toNatClampNeg x1) (t_s (Int32.toNatClampNeg (((6 : Int32) + ((5 : Int32) * (t_s (Int32.toNatClampNeg (5 : Int32))))) + x1)))) _ _ _ hP hD hS (lv_sub hl [1, 0] rfl) h
  have h := hm
  unfold mi_X12_undo at h
  refine lv_aload_n hx hb dX12_undo_0 rfl (lv_at hl 0 rfl) ?_
  refine va_get (D := D) (ci := 12) (v := .ref a_t_s) (C := RX12) (T := TX12) (N := 18) hx hb hts hi_X12 hown hK hP 0 rfl rfl 5 (by decide) (hts (.fieldLink RX12 19 "TriangleRestModel" "s" "[I") (List.mem_of_getElem? (i := 1) rfl)) (fun _ h9 => h9) rfl dX12_undo_1 ?_
  refine lv_iconst (v := (5 : Int32)) hx hb dX12_undo_4 (by decide) ?_
  refine va_iald hx hb hK hP 1 0 rfl rfl (jx_in_of (by decide +kernel)) dX12_undo_5 ?_
  refine lv_if_ne (tgt := 12) hx hb dX12_undo_6 (by decide) (fun c4 => ?_) (fun c4 => ?_)
  · have h := jx_f h c4
    refine lv_aload_n hx hb dX12_undo_12 rfl (lv_at hl 0 rfl) ?_
    refine va_get (D := D) (ci := 12) (v := .ref a_t_s) (C := RX12) (T := TX12) (N := 18) hx hb hts hi_X12 hown hK hP 0 rfl rfl 5 (by decide) (hts (.fieldLink RX12 19 "TriangleRestModel" "s" "[I") (List.mem_of_getElem? (i := 1) rfl)) (fun _ h9 => h9) rfl dX12_undo_13 ?_
    refine lv_iconst (v := (5 : Int32)) hx hb dX12_undo_16 (by decide) ?_
    refine lv_dup2_11 hx hb dX12_undo_17 rfl rfl ?_
    refine va_iald hx hb hK hP 1 0 rfl rfl (jx_in_of (by decide +kernel)) dX12_undo_18 ?_
    refine lv_iconst (v := (1 : Int32)) hx hb dX12_undo_19 (by decide) ?_
    refine lv_isub hx hb dX12_undo_20 ?_
    refine va_iast hx hb hK hP hD hS 1 0 rfl rfl (jx_in_of (by decide +kernel)) dX12_undo_21 (fun H locs hP hD hS => ?_)
    have hP : va_P D vwCl [(a_t, .inr (12, [.long t_trace, .ref a_t_text, .int t_typed, .ref a_t_told, .ref a_t_draft, .ref a_t_s, .ref a_t_images, .ref a_t_kept, .ref a_t_notes, .int t_noted, .int t_at, .int t_sort, .int t_start, .int t_value, .ref a_t_players, .ref a_t_answers, .ref a_t_room, .ref a_t_inRest])), (a_t_s, .inl (cI, 56, .inl (upd t_s (Int32.toNatClampNeg (5 : Int32)) ((t_s (Int32.toNatClampNeg (5 : Int32))) - (1 : Int32)))))] H := hP
    have hD : va_D A [(a_t, .inr (12, [.long t_trace, .ref a_t_text, .int t_typed, .ref a_t_told, .ref a_t_draft, .ref a_t_s, .ref a_t_images, .ref a_t_kept, .ref a_t_notes, .int t_noted, .int t_at, .int t_sort, .int t_start, .int t_value, .ref a_t_players, .ref a_t_answers, .ref a_t_room, .ref a_t_inRest])), (a_t_s, .inl (cI, 56, .inl (upd t_s (Int32.toNatClampNeg (5 : Int32)) ((t_s (Int32.toNatClampNeg (5 : Int32))) - (1 : Int32)))))] := hD
    refine lv_iconst (v := (0 : Int32)) hx hb dX12_undo_22 (by decide) ?_
    refine lv_istore_n (lv' := [(1, .int (0 : Int32)), (0, .ref a_t)]) hx hb dX12_undo_23 rfl hl (by decide) rfl (fun ls hl => ?_)
    exact bl_l24 jx_F (0 : Int32) (upd t_s (Int32.toNatClampNeg (5 : Int32)) ((t_s (Int32.toNatClampNeg (5 : Int32))) - (1 : Int32))) _ _ _ hP hD hS (lv_sub hl [1, 0] rfl) h
  · have h := jx_t h c4
    refine lv_bipush (v := (-2 : Int32)) hx hb dX12_undo_9 (by decide) ?_
    cases h
    exact hret 11 ls _ _ hP hD hS rfl dX12_undo_11
def mi_X12_now_b14 (t_told : Nat → Int32) (t_s : Nat → Int32) (p1 : Int32) (k0 : Int32) : Option (Int32) := if p1 = (0 : Int32) then (jx_g (jx_in p1 56) (some ((t_s (Int32.toNatClampNeg p1))))) else (if p1 = (1 : Int32) then (jx_g (jx_in p1 56) (some ((t_s (Int32.toNatClampNeg p1))))) else (if p1 = (2 : Int32) then (jx_g (jx_in p1 56) (some ((t_s (Int32.toNatClampNeg p1))))) else (if p1 = (3 : Int32) then (jx_g (jx_in p1 56) (some ((t_s (Int32.toNatClampNeg p1))))) else (if p1 = (4 : Int32) then (jx_g (jx_in p1 56) (some ((t_s (Int32.toNatClampNeg p1))))) else (if p1 = (5 : Int32) then (jx_b1 (mi_X12_length t_told t_s) fun r12 => (some (r12))) else (if p1 = (6 : Int32) then (if k0 = 0 then (jx_b1 (mi_X12_noteBar t_told (t_s (Int32.toNatClampNeg (3 : Int32)))) fun r16 => (some (r16))) else (some ((-9 : Int32)))) else (if p1 = (7 : Int32) then (if k0 = 0 then (jx_b1 (mi_X12_noteBar t_told (t_s (Int32.toNatClampNeg (3 : Int32)))) fun r20 => (some ((r20 - (t_s (Int32.toNatClampNeg (0 : Int32))))))) else (some ((-1000000 : Int32)))) else (if p1 = (8 : Int32) then (if k0 = 0 then (jx_b1 (mi_X12_allThatMay t_told t_s) fun r24 => (jx_b1 (mi_X12_noteBar t_told ((t_s (Int32.toNatClampNeg (3 : Int32))) ||| r24)) fun r26 => (some (r26)))) else (some ((-9 : Int32)))) else (some ((-1000000 : Int32)))))))))))
def mi_X12_now (t_told : Nat → Int32) (t_s : Nat → Int32) (p1 : Int32) : Option (Int32) := if (t_told (Int32.toNatClampNeg (0 : Int32))) = 0 then (mi_X12_now_b14 t_told t_s p1 (1 : Int32)) else (mi_X12_now_b14 t_told t_s p1 (0 : Int32))
abbrev rm_X12_now : Room := { frames := 5, cells := 0, slots := 0, locals := 109 }
set_option maxRecDepth 100000 in
set_option maxHeartbeats 4000000 in
theorem ct_X12_now (l : Launch) (D : va_G) (cI cZ cO : ClassId) (a_t a_t_text a_t_told a_t_draft a_t_s a_t_images a_t_kept a_t_notes a_t_players a_t_answers a_t_room a_t_inRest : Nat) (t_trace : Int64) (t_typed : Int32) (t_noted : Int32) (t_at : Int32) (t_sort : Int32) (t_start : Int32) (t_value : Int32) (t_told : Nat → Int32) (t_s : Nat → Int32) (p1 : Int32) (r : Int32) (hm : mi_X12_now t_told t_s p1 = some r) : Met l yX12_now wsX12_now rm_X12_now (va_Pc [.ref a_t, .int p1] (jx_R D (jx_T cI cZ cO) [(a_t, .inr (12, [.long t_trace, .ref a_t_text, .int t_typed, .ref a_t_told, .ref a_t_draft, .ref a_t_s, .ref a_t_images, .ref a_t_kept, .ref a_t_notes, .int t_noted, .int t_at, .int t_sort, .int t_start, .int t_value, .ref a_t_players, .ref a_t_answers, .ref a_t_room, .ref a_t_inRest])), (a_t_told, .inl (cI, 36, .inl t_told)), (a_t_s, .inl (cI, 56, .inl t_s))])) (jx_S (some (.int r))) 0 0 (fun _ => False) := by
  refine jx_metR (ty := .int) (own := RX12) (cc := cX12_now) (maxL := 3) (by decide) rfl rfl (Nat.le_of_ble_eq_true rfl) ?_
  intro p e s m args below meth c Q ls hx hb hml hown hts hK hN hP hl hret
  have hi_X12 : ∀ w ∈ u_ws RX12 TX12 18, w ∈ wsX12_now := by decide +kernel
  have hl : lv_has ls 3 [(0, .ref a_t), (1, .int p1)] := hl
  have bl_b14 : ∀ (k0 : Int32) (ls : Array Slot), lv_has ls 3 [(0, .ref a_t), (1, .int p1)] → mi_X12_now_b14 t_told t_s p1 k0 = some r → W p l e (headSpec wsX12_now rm_X12_now).room s m args below meth c s.heap [] 0 0 Q (F0 m 14 ls [.int k0]) := by
    intro k0 ls hl h
    unfold mi_X12_now_b14 at h
    refine lv_istore_n (lv' := [(2, .int k0), (0, .ref a_t), (1, .int p1)]) hx hb dX12_now_14 rfl hl (by decide) rfl (fun ls hl => ?_)
    refine lv_iload_n hx hb dX12_now_15 rfl (lv_at hl 2 rfl) ?_
    by_cases s1 : p1 = (0 : Int32)
    · have h := jx_t h s1
      refine lv_tableIn (off := 52) (tgt := 68) hx hb dX12_now_16 (by rw [s1]; decide) (by rw [s1]; decide) (by rw [s1]; rfl) (by decide) ?_
      refine lv_aload_n hx hb dX12_now_68 rfl (lv_at hl 1 rfl) ?_
      refine va_get (D := D) (ci := 12) (v := .ref a_t_s) (C := RX12) (T := TX12) (N := 18) hx hb hts hi_X12 hown hK hP 0 rfl rfl 5 (by decide) (hts (.fieldLink RX12 19 "TriangleRestModel" "s" "[I") (List.mem_of_getElem? (i := 2) rfl)) (fun _ h9 => h9) rfl dX12_now_69 ?_
      refine lv_iload_n hx hb dX12_now_72 rfl (lv_at hl 2 rfl) ?_
      obtain ⟨g2, h⟩ := jx_g_of h
      refine va_iald hx hb hK hP 2 0 rfl rfl (jx_in_of g2) dX12_now_73 ?_
      cases h
      exact hret 74 ls rfl dX12_now_74
    have h := jx_f h s1
    by_cases s3 : p1 = (1 : Int32)
    · have h := jx_t h s3
      refine lv_tableIn (off := 52) (tgt := 68) hx hb dX12_now_16 (by rw [s3]; decide) (by rw [s3]; decide) (by rw [s3]; rfl) (by decide) ?_
      refine lv_aload_n hx hb dX12_now_68 rfl (lv_at hl 1 rfl) ?_
      refine va_get (D := D) (ci := 12) (v := .ref a_t_s) (C := RX12) (T := TX12) (N := 18) hx hb hts hi_X12 hown hK hP 0 rfl rfl 5 (by decide) (hts (.fieldLink RX12 19 "TriangleRestModel" "s" "[I") (List.mem_of_getElem? (i := 2) rfl)) (fun _ h9 => h9) rfl dX12_now_69 ?_
      refine lv_iload_n hx hb dX12_now_72 rfl (lv_at hl 2 rfl) ?_
      obtain ⟨g4, h⟩ := jx_g_of h
      refine va_iald hx hb hK hP 2 0 rfl rfl (jx_in_of g4) dX12_now_73 ?_
      cases h
      exact hret 74 ls rfl dX12_now_74
    have h := jx_f h s3
    by_cases s5 : p1 = (2 : Int32)
    · have h := jx_t h s5
      refine lv_tableIn (off := 52) (tgt := 68) hx hb dX12_now_16 (by rw [s5]; decide) (by rw [s5]; decide) (by rw [s5]; rfl) (by decide) ?_
      refine lv_aload_n hx hb dX12_now_68 rfl (lv_at hl 1 rfl) ?_
      refine va_get (D := D) (ci := 12) (v := .ref a_t_s) (C := RX12) (T := TX12) (N := 18) hx hb hts hi_X12 hown hK hP 0 rfl rfl 5 (by decide) (hts (.fieldLink RX12 19 "TriangleRestModel" "s" "[I") (List.mem_of_getElem? (i := 2) rfl)) (fun _ h9 => h9) rfl dX12_now_69 ?_
      refine lv_iload_n hx hb dX12_now_72 rfl (lv_at hl 2 rfl) ?_
      obtain ⟨g6, h⟩ := jx_g_of h
      refine va_iald hx hb hK hP 2 0 rfl rfl (jx_in_of g6) dX12_now_73 ?_
      cases h
      exact hret 74 ls rfl dX12_now_74
    have h := jx_f h s5
    by_cases s7 : p1 = (3 : Int32)
    · have h := jx_t h s7
      refine lv_tableIn (off := 52) (tgt := 68) hx hb dX12_now_16 (by rw [s7]; decide) (by rw [s7]; decide) (by rw [s7]; rfl) (by decide) ?_
      refine lv_aload_n hx hb dX12_now_68 rfl (lv_at hl 1 rfl) ?_
      refine va_get (D := D) (ci := 12) (v := .ref a_t_s) (C := RX12) (T := TX12) (N := 18) hx hb hts hi_X12 hown hK hP 0 rfl rfl 5 (by decide) (hts (.fieldLink RX12 19 "TriangleRestModel" "s" "[I") (List.mem_of_getElem? (i := 2) rfl)) (fun _ h9 => h9) rfl dX12_now_69 ?_
      refine lv_iload_n hx hb dX12_now_72 rfl (lv_at hl 2 rfl) ?_
      obtain ⟨g8, h⟩ := jx_g_of h
      refine va_iald hx hb hK hP 2 0 rfl rfl (jx_in_of g8) dX12_now_73 ?_
      cases h
      exact hret 74 ls rfl dX12_now_74
    have h := jx_f h s7
    by_cases s9 : p1 = (4 : Int32)
    · have h := jx_t h s9
      refine lv_tableIn (off := 52) (tgt := 68) hx hb dX12_now_16 (by rw [s9]; decide) (by rw [s9]; decide) (by rw [s9]; rfl) (by decide) ?_
      refine lv_aload_n hx hb dX12_now_68 rfl (lv_at hl 1 rfl) ?_
      refine va_get (D := D) (ci := 12) (v := .ref a_t_s) (C := RX12) (T := TX12) (N := 18) hx hb hts hi_X12 hown hK hP 0 rfl rfl 5 (by decide) (hts (.fieldLink RX12 19 "TriangleRestModel" "s" "[I") (List.mem_of_getElem? (i := 2) rfl)) (fun _ h9 => h9) rfl dX12_now_69 ?_
      refine lv_iload_n hx hb dX12_now_72 rfl (lv_at hl 2 rfl) ?_
      obtain ⟨g10, h⟩ := jx_g_of h
      refine va_iald hx hb hK hP 2 0 rfl rfl (jx_in_of g10) dX12_now_73 ?_
      cases h
      exact hret 74 ls rfl dX12_now_74
    have h := jx_f h s9
    by_cases s11 : p1 = (5 : Int32)
    · have h := jx_t h s11
      refine lv_tableIn (off := 59) (tgt := 75) hx hb dX12_now_16 (by rw [s11]; decide) (by rw [s11]; decide) (by rw [s11]; rfl) (by decide) ?_
      refine lv_aload_n hx hb dX12_now_75 rfl (lv_at hl 1 rfl) ?_
      obtain ⟨r12, e13, h⟩ := jx_b1_of h
      refine jx_cV (o := some (.int r12)) (As := []) (rest := []) (b := a_t) ⟨hx, hb, hml, hown, hts⟩ (ct_X12_length l D cI cZ cO a_t a_t_text a_t_told a_t_draft a_t_s a_t_images a_t_kept a_t_notes a_t_players a_t_answers a_t_room a_t_inRest t_trace t_typed t_noted t_at t_sort t_start t_value t_told t_s r12 e13) (cwV 0 hts gX12_now_X12_length rfl rfl rfl (by decide +kernel) ⟨Nat.le_of_ble_eq_true rfl, Nat.le_of_ble_eq_true rfl⟩) hK hN hP [0, 1, 2] rfl (va_recv hK hP (ci := 12) (q0 := 0) rfl rfl) rfl hl.1 rfl (Nat.le_of_ble_eq_true rfl) dX12_now_76 ⟨Nat.zero_le _, Nat.zero_le _⟩ ?_
      cases h
      exact hret 79 ls rfl dX12_now_79
    have h := jx_f h s11
    by_cases s14 : p1 = (6 : Int32)
    · have h := jx_t h s14
      refine lv_tableIn (off := 64) (tgt := 80) hx hb dX12_now_16 (by rw [s14]; decide) (by rw [s14]; decide) (by rw [s14]; rfl) (by decide) ?_
      refine lv_iload_n hx hb dX12_now_80 rfl (lv_at hl 0 rfl) ?_
      refine lv_if_eq (tgt := 89) hx hb dX12_now_81 (by decide) (fun c15 => ?_) (fun c15 => ?_)
      · have h := jx_t h c15
        refine lv_aload_n hx hb dX12_now_89 rfl (lv_at hl 1 rfl) ?_
        refine lv_aload_n hx hb dX12_now_90 rfl (lv_at hl 1 rfl) ?_
        refine va_get (D := D) (ci := 12) (v := .ref a_t_s) (C := RX12) (T := TX12) (N := 18) hx hb hts hi_X12 hown hK hP 0 rfl rfl 5 (by decide) (hts (.fieldLink RX12 19 "TriangleRestModel" "s" "[I") (List.mem_of_getElem? (i := 2) rfl)) (fun _ h9 => h9) rfl dX12_now_91 ?_
        refine lv_iconst (v := (3 : Int32)) hx hb dX12_now_94 (by decide) ?_
        refine va_iald hx hb hK hP 2 0 rfl rfl (jx_in_of (by decide +kernel)) dX12_now_95 ?_
        obtain ⟨r16, e17, h⟩ := jx_b1_of h
        refine jx_cV (o := some (.int r16)) (As := [.int (t_s (Int32.toNatClampNeg (3 : Int32)))]) (rest := []) (b := a_t) ⟨hx, hb, hml, hown, hts⟩ (ct_X12_noteBar l D cI cZ cO a_t a_t_text a_t_told a_t_draft a_t_s a_t_images a_t_kept a_t_notes a_t_players a_t_answers a_t_room a_t_inRest t_trace t_typed t_noted t_at t_sort t_start t_value t_told (t_s (Int32.toNatClampNeg (3 : Int32))) r16 e17) (cwV 1 hts gX12_now_X12_noteBar rfl rfl rfl (by decide +kernel) ⟨Nat.le_of_ble_eq_true rfl, Nat.le_of_ble_eq_true rfl⟩) hK hN hP [0, 1] rfl (va_recv hK hP (ci := 12) (q0 := 0) rfl rfl) rfl hl.1 rfl (Nat.le_of_ble_eq_true rfl) dX12_now_96 ⟨Nat.zero_le _, Nat.zero_le _⟩ ?_
        cases h
        exact hret 99 ls rfl dX12_now_99
      · have h := jx_f h c15
        refine lv_bipush (v := (-9 : Int32)) hx hb dX12_now_84 (by decide) ?_
        refine lv_goto (tgt := 99) hx hb dX12_now_86 (by decide) ?_
        cases h
        exact hret 99 ls rfl dX12_now_99
    have h := jx_f h s14
    by_cases s18 : p1 = (7 : Int32)
    · have h := jx_t h s18
      refine lv_tableIn (off := 84) (tgt := 100) hx hb dX12_now_16 (by rw [s18]; decide) (by rw [s18]; decide) (by rw [s18]; rfl) (by decide) ?_
      refine lv_iload_n hx hb dX12_now_100 rfl (lv_at hl 0 rfl) ?_
      refine lv_if_eq (tgt := 109) hx hb dX12_now_101 (by decide) (fun c19 => ?_) (fun c19 => ?_)
      · have h := jx_t h c19
        refine lv_aload_n hx hb dX12_now_109 rfl (lv_at hl 1 rfl) ?_
        refine lv_aload_n hx hb dX12_now_110 rfl (lv_at hl 1 rfl) ?_
        refine va_get (D := D) (ci := 12) (v := .ref a_t_s) (C := RX12) (T := TX12) (N := 18) hx hb hts hi_X12 hown hK hP 0 rfl rfl 5 (by decide) (hts (.fieldLink RX12 19 "TriangleRestModel" "s" "[I") (List.mem_of_getElem? (i := 2) rfl)) (fun _ h9 => h9) rfl dX12_now_111 ?_
        refine lv_iconst (v := (3 : Int32)) hx hb dX12_now_114 (by decide) ?_
        refine va_iald hx hb hK hP 2 0 rfl rfl (jx_in_of (by decide +kernel)) dX12_now_115 ?_
        obtain ⟨r20, e21, h⟩ := jx_b1_of h
        refine jx_cV (o := some (.int r20)) (As := [.int (t_s (Int32.toNatClampNeg (3 : Int32)))]) (rest := []) (b := a_t) ⟨hx, hb, hml, hown, hts⟩ (ct_X12_noteBar l D cI cZ cO a_t a_t_text a_t_told a_t_draft a_t_s a_t_images a_t_kept a_t_notes a_t_players a_t_answers a_t_room a_t_inRest t_trace t_typed t_noted t_at t_sort t_start t_value t_told (t_s (Int32.toNatClampNeg (3 : Int32))) r20 e21) (cwV 1 hts gX12_now_X12_noteBar rfl rfl rfl (by decide +kernel) ⟨Nat.le_of_ble_eq_true rfl, Nat.le_of_ble_eq_true rfl⟩) hK hN hP [0, 1] rfl (va_recv hK hP (ci := 12) (q0 := 0) rfl rfl) rfl hl.1 rfl (Nat.le_of_ble_eq_true rfl) dX12_now_116 ⟨Nat.zero_le _, Nat.zero_le _⟩ ?_
        refine lv_aload_n hx hb dX12_now_119 rfl (lv_at hl 1 rfl) ?_
        refine va_get (D := D) (ci := 12) (v := .ref a_t_s) (C := RX12) (T := TX12) (N := 18) hx hb hts hi_X12 hown hK hP 0 rfl rfl 5 (by decide) (hts (.fieldLink RX12 19 "TriangleRestModel" "s" "[I") (List.mem_of_getElem? (i := 2) rfl)) (fun _ h9 => h9) rfl dX12_now_120 ?_
        refine lv_iconst (v := (0 : Int32)) hx hb dX12_now_123 (by decide) ?_
        refine va_iald hx hb hK hP 2 0 rfl rfl (jx_in_of (by decide +kernel)) dX12_now_124 ?_
        refine lv_isub hx hb dX12_now_125 ?_
        cases h
        exact hret 126 ls rfl dX12_now_126
      · have h := jx_f h c19
        refine lv_ldc (v := (-1000000 : Int32)) hx hb hown (hts (.constant RX12 127 (-1000000)) (List.mem_of_getElem? (i := 3) rfl)) dX12_now_104 ?_
        refine lv_goto (tgt := 126) hx hb dX12_now_106 (by decide) ?_
        cases h
        exact hret 126 ls rfl dX12_now_126
    have h := jx_f h s18
    by_cases s22 : p1 = (8 : Int32)
    · have h := jx_t h s22
      refine lv_tableIn (off := 111) (tgt := 127) hx hb dX12_now_16 (by rw [s22]; decide) (by rw [s22]; decide) (by rw [s22]; rfl) (by decide) ?_
      refine lv_iload_n hx hb dX12_now_127 rfl (lv_at hl 0 rfl) ?_
      refine lv_if_eq (tgt := 136) hx hb dX12_now_128 (by decide) (fun c23 => ?_) (fun c23 => ?_)
      · have h := jx_t h c23
        refine lv_aload_n hx hb dX12_now_136 rfl (lv_at hl 1 rfl) ?_
        refine lv_aload_n hx hb dX12_now_137 rfl (lv_at hl 1 rfl) ?_
        refine va_get (D := D) (ci := 12) (v := .ref a_t_s) (C := RX12) (T := TX12) (N := 18) hx hb hts hi_X12 hown hK hP 0 rfl rfl 5 (by decide) (hts (.fieldLink RX12 19 "TriangleRestModel" "s" "[I") (List.mem_of_getElem? (i := 2) rfl)) (fun _ h9 => h9) rfl dX12_now_138 ?_
        refine lv_iconst (v := (3 : Int32)) hx hb dX12_now_141 (by decide) ?_
        refine va_iald hx hb hK hP 2 0 rfl rfl (jx_in_of (by decide +kernel)) dX12_now_142 ?_
        refine lv_aload_n hx hb dX12_now_143 rfl (lv_at hl 1 rfl) ?_
        obtain ⟨r24, e25, h⟩ := jx_b1_of h
        refine jx_cV (o := some (.int r24)) (As := []) (rest := [.int (t_s (Int32.toNatClampNeg (3 : Int32))), .ref a_t]) (b := a_t) ⟨hx, hb, hml, hown, hts⟩ (ct_X12_allThatMay l D cI cZ cO a_t a_t_text a_t_told a_t_draft a_t_s a_t_images a_t_kept a_t_notes a_t_players a_t_answers a_t_room a_t_inRest t_trace t_typed t_noted t_at t_sort t_start t_value t_told t_s r24 e25) (cwV 0 hts gX12_now_X12_allThatMay rfl rfl rfl (by decide +kernel) ⟨Nat.le_of_ble_eq_true rfl, Nat.le_of_ble_eq_true rfl⟩) hK hN hP [0, 1, 2] rfl (va_recv hK hP (ci := 12) (q0 := 0) rfl rfl) rfl hl.1 rfl (Nat.le_of_ble_eq_true rfl) dX12_now_144 ⟨Nat.zero_le _, Nat.zero_le _⟩ ?_
        refine lv_ior hx hb dX12_now_147 ?_
        obtain ⟨r26, e27, h⟩ := jx_b1_of h
        refine jx_cV (o := some (.int r26)) (As := [.int ((t_s (Int32.toNatClampNeg (3 : Int32))) ||| r24)]) (rest := []) (b := a_t) ⟨hx, hb, hml, hown, hts⟩ (ct_X12_noteBar l D cI cZ cO a_t a_t_text a_t_told a_t_draft a_t_s a_t_images a_t_kept a_t_notes a_t_players a_t_answers a_t_room a_t_inRest t_trace t_typed t_noted t_at t_sort t_start t_value t_told ((t_s (Int32.toNatClampNeg (3 : Int32))) ||| r24) r26 e27) (cwV 1 hts gX12_now_X12_noteBar rfl rfl rfl (by decide +kernel) ⟨Nat.le_of_ble_eq_true rfl, Nat.le_of_ble_eq_true rfl⟩) hK hN hP [0, 1] rfl (va_recv hK hP (ci := 12) (q0 := 0) rfl rfl) rfl hl.1 rfl (Nat.le_of_ble_eq_true rfl) dX12_now_148 ⟨Nat.zero_le _, Nat.zero_le _⟩ ?_
        cases h
        exact hret 151 ls rfl dX12_now_151
      · have h := jx_f h c23
        refine lv_bipush (v := (-9 : Int32)) hx hb dX12_now_131 (by decide) ?_
        refine lv_goto (tgt := 151) hx hb dX12_now_133 (by decide) ?_
        cases h
        exact hret 151 ls rfl dX12_now_151
    have h := jx_f h s22
    refine lv_tableOut (tgt := 152) hx hb dX12_now_16 (by have e_s1 := jx_ne s1 (k := 0) (by decide); have e_s3 := jx_ne s3 (k := 1) (by decide); have e_s5 := jx_ne s5 (k := 2) (by decide); have e_s7 := jx_ne s7 (k := 3) (by decide); have e_s9 := jx_ne s9 (k := 4) (by decide); have e_s11 := jx_ne s11 (k := 5) (by decide); have e_s14 := jx_ne s14 (k := 6) (by decide); have e_s18 := jx_ne s18 (k := 7) (by decide); have e_s22 := jx_ne s22 (k := 8) (by decide); omega) (by decide) ?_
    refine lv_ldc (v := (-1000000 : Int32)) hx hb hown (hts (.constant RX12 127 (-1000000)) (List.mem_of_getElem? (i := 3) rfl)) dX12_now_152 ?_
    cases h
    exact hret 154 ls rfl dX12_now_154
  have h := hm
  unfold mi_X12_now at h
  refine lv_aload_n hx hb dX12_now_0 rfl (lv_at hl 0 rfl) ?_
  refine va_get (D := D) (ci := 12) (v := .ref a_t_told) (C := RX12) (T := TX12) (N := 18) hx hb hts hi_X12 hown hK hP 0 rfl rfl 3 (by decide) (hts (.fieldLink RX12 13 "TriangleRestModel" "told" "[I") (List.mem_of_getElem? (i := 1) rfl)) (fun _ h9 => h9) rfl dX12_now_1 ?_
  refine lv_iconst (v := (0 : Int32)) hx hb dX12_now_4 (by decide) ?_
  refine va_iald hx hb hK hP 1 0 rfl rfl (jx_in_of (by decide +kernel)) dX12_now_5 ?_
  refine lv_if_ne (tgt := 13) hx hb dX12_now_6 (by decide) (fun c28 => ?_) (fun c28 => ?_)
  · have h := jx_f h c28
    refine lv_iconst (v := (0 : Int32)) hx hb dX12_now_13 (by decide) ?_
    exact bl_b14 (0 : Int32) _ (lv_sub hl [0, 1] rfl) h
  · have h := jx_t h c28
    refine lv_iconst (v := (1 : Int32)) hx hb dX12_now_9 (by decide) ?_
    refine lv_goto (tgt := 14) hx hb dX12_now_10 (by decide) ?_
    exact bl_b14 (1 : Int32) _ (lv_sub hl [0, 1] rfl) h
