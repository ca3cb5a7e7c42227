/-! written by program (wip/whole/gen.py) out of the printed names: each method as a pure function, and its contract -/
def mi_X12_isSection (t_told : Nat → Int32) (p1 : Int32) : Option (Int32) := jx_b1 (mi_X12_in p1 (0 : Int32) ((t_told (Int32.toNatClampNeg (0 : Int32))) - (1 : Int32))) fun r1 => (jx_g (jx_tf r1) (some (r1)))
abbrev rm_X12_isSection : Room := { frames := 1, cells := 0, slots := 0, locals := 22 }
set_option maxRecDepth 100000 in
set_option maxHeartbeats 4000000 in
theorem ct_X12_isSection (l : Launch) (D : va_G) (cI cZ cO : ClassId) (a_t a_t_text a_t_told a_t_draft a_t_s a_t_images a_t_kept a_t_notes a_t_players a_t_answers a_t_room a_t_inRest : Nat) (t_trace : Int64) (t_typed : Int32) (t_noted : Int32) (t_at : Int32) (t_sort : Int32) (t_start : Int32) (t_value : Int32) (t_told : Nat → Int32) (p1 : Int32) (r : Int32) (hm : mi_X12_isSection t_told p1 = some r) : Met l yX12_isSection wsX12_isSection rm_X12_isSection (va_Pc [.ref a_t, .int p1] (jx_R D (jx_T cI cZ cO) [(a_t, .inr (12, [.long t_trace, .ref a_t_text, .int t_typed, .ref a_t_told, .ref a_t_draft, .ref a_t_s, .ref a_t_images, .ref a_t_kept, .ref a_t_notes, .int t_noted, .int t_at, .int t_sort, .int t_start, .int t_value, .ref a_t_players, .ref a_t_answers, .ref a_t_room, .ref a_t_inRest])), (a_t_told, .inl (cI, 36, .inl t_told))])) (jx_S (some (.int r))) 0 0 (fun _ => False) := by
  refine jx_metR (ty := .boolean) (own := RX12) (cc := cX12_isSection) (maxL := 2) (by decide) rfl rfl (Nat.le_of_ble_eq_true rfl) ?_
  intro p e s m args below meth c Q ls hx hb hml hown hts hK hN hP hl hret
  have hi_X12 : ∀ w ∈ u_ws RX12 TX12 18, w ∈ wsX12_isSection := by decide +kernel
  have hl : lv_has ls 2 [(0, .ref a_t), (1, .int p1)] := hl
  have h := hm
  unfold mi_X12_isSection at h
  refine lv_iload_n hx hb dX12_isSection_0 rfl (lv_at hl 1 rfl) ?_
  refine lv_iconst (v := (0 : Int32)) hx hb dX12_isSection_1 (by decide) ?_
  refine lv_aload_n hx hb dX12_isSection_2 rfl (lv_at hl 0 rfl) ?_
  refine va_get (D := D) (ci := 12) (v := .ref a_t_told) (C := RX12) (T := TX12) (N := 18) hx hb hts hi_X12 hown hK hP 0 rfl rfl 3 (by decide) (hts (.fieldLink RX12 13 "TriangleRestModel" "told" "[I") (List.mem_of_getElem? (i := 1) rfl)) (fun _ h9 => h9) rfl dX12_isSection_3 ?_
  refine lv_iconst (v := (0 : Int32)) hx hb dX12_isSection_6 (by decide) ?_
  refine va_iald hx hb hK hP 1 0 rfl rfl (jx_in_of (by decide +kernel)) dX12_isSection_7 ?_
  refine lv_iconst (v := (1 : Int32)) hx hb dX12_isSection_8 (by decide) ?_
  refine lv_isub hx hb dX12_isSection_9 ?_
  obtain ⟨r1, e2, h⟩ := jx_b1_of h
  refine jx_cS (o := some (.int r1)) (As := [.int p1, .int (0 : Int32), .int ((t_told (Int32.toNatClampNeg (0 : Int32))) - (1 : Int32))]) (rest := []) ⟨hx, hb, hml, hown, hts⟩ (ct_X12_in l p1 (0 : Int32) ((t_told (Int32.toNatClampNeg (0 : Int32))) - (1 : Int32)) r1 e2) (va_cwS 3 hts gX12_isSection_X12_in rfl rfl rfl (by decide +kernel) ⟨Nat.le_of_ble_eq_true rfl, Nat.le_of_ble_eq_true rfl⟩) rfl hl.1 rfl (Nat.le_of_ble_eq_true rfl) dX12_isSection_10 ⟨Nat.zero_le _, Nat.zero_le _⟩ ?_
  obtain ⟨g3, h⟩ := jx_g_of h
  cases h
  exact hret 13 ls (jx_tf_of g3) dX12_isSection_13
def mi_X12_type (t_typed : Int32) (t_text : Nat → Int32) (p1 : Int32) : Option (Int32 × Int32 × (Nat → Int32)) := jx_b1 (mi_X12_in p1 (0 : Int32) (255 : Int32)) fun r1 => (if r1 = 0 then (some ((-1 : Int32), t_typed, t_text)) else (if t_typed = (120 : Int32) then (some ((-3 : Int32), t_typed, t_text)) else (jx_g (jx_in t_typed 120) (some ((t_typed + (1 : Int32)), (t_typed + (1 : Int32)), (upd t_text (Int32.toNatClampNeg t_typed) p1))))))
abbrev rm_X12_type : Room := { frames := 1, cells := 0, slots := 0, locals := 22 }
set_option maxRecDepth 100000 in
set_option maxHeartbeats 4000000 in
theorem ct_X12_type (l : Launch) (D : va_G) (cI cZ cO : ClassId) (a_t a_t_text a_t_told a_t_draft a_t_s a_t_images a_t_kept a_t_notes a_t_players a_t_answers a_t_room a_t_inRest : Nat) (sz : Nat) (t_trace : Int64) (t_typed : Int32) (t_noted : Int32) (t_at : Int32) (t_sort : Int32) (t_start : Int32) (t_value : Int32) (t_text : Nat → Int32) (p1 : Int32) (r : Int32) (z_t_typed : Int32) (z_t_text : Nat → Int32) (hm : mi_X12_type t_typed t_text p1 = some (r, z_t_typed, z_t_text)) : Met l yX12_type wsX12_type rm_X12_type (va_Pc [.ref a_t, .int p1] (jx_W D (jx_T cI cZ cO) sz [(a_t, .inr (12, [.long t_trace, .ref a_t_text, .int t_typed, .ref a_t_told, .ref a_t_draft, .ref a_t_s, .ref a_t_images, .ref a_t_kept, .ref a_t_notes, .int t_noted, .int t_at, .int t_sort, .int t_start, .int t_value, .ref a_t_players, .ref a_t_answers, .ref a_t_room, .ref a_t_inRest])), (a_t_text, .inl (cI, 120, .inl t_text))])) (jx_Q (some (.int r)) D [(a_t, .inr (12, [.long t_trace, .ref a_t_text, .int z_t_typed, .ref a_t_told, .ref a_t_draft, .ref a_t_s, .ref a_t_images, .ref a_t_kept, .ref a_t_notes, .int t_noted, .int t_at, .int t_sort, .int t_start, .int t_value, .ref a_t_players, .ref a_t_answers, .ref a_t_room, .ref a_t_inRest])), (a_t_text, .inl (cI, 120, .inl z_t_text))] (va_A [(a_t, .inr (12, [.long t_trace, .ref a_t_text, .int t_typed, .ref a_t_told, .ref a_t_draft, .ref a_t_s, .ref a_t_images, .ref a_t_kept, .ref a_t_notes, .int t_noted, .int t_at, .int t_sort, .int t_start, .int t_value, .ref a_t_players, .ref a_t_answers, .ref a_t_room, .ref a_t_inRest])), (a_t_text, .inl (cI, 120, .inl t_text))] sz)) 0 0 (va_A [(a_t, .inr (12, [.long t_trace, .ref a_t_text, .int t_typed, .ref a_t_told, .ref a_t_draft, .ref a_t_s, .ref a_t_images, .ref a_t_kept, .ref a_t_notes, .int t_noted, .int t_at, .int t_sort, .int t_start, .int t_value, .ref a_t_players, .ref a_t_answers, .ref a_t_room, .ref a_t_inRest])), (a_t_text, .inl (cI, 120, .inl t_text))] sz) := by
  refine jx_metW (ty := .int) (own := RX12) (cc := cX12_type) (maxL := 2) (by decide) rfl rfl (Nat.le_of_ble_eq_true rfl) ?_
  intro p e s m args below meth c Q ls A hx hb hml hown hts hK hN hA hP hD hS hl hret
  have hi_X12 : ∀ w ∈ u_ws RX12 TX12 18, w ∈ wsX12_type := by decide +kernel
  have hl : lv_has ls 2 [(0, .ref a_t), (1, .int p1)] := hl
  have h := hm
  unfold mi_X12_type at h
  refine lv_iload_n hx hb dX12_type_0 rfl (lv_at hl 1 rfl) ?_
  refine lv_iconst (v := (0 : Int32)) hx hb dX12_type_1 (by decide) ?_
  refine lv_sipush (v := (255 : Int32)) hx hb dX12_type_2 (by decide) ?_
  obtain ⟨r1, e2, h⟩ := jx_b1_of h
  refine jx_cS (o := some (.int r1)) (As := [.int p1, .int (0 : Int32), .int (255 : Int32)]) (rest := []) ⟨hx, hb, hml, hown, hts⟩ (ct_X12_in l p1 (0 : Int32) (255 : Int32) r1 e2) (va_cwS 3 hts gX12_type_X12_in rfl rfl rfl (by decide +kernel) ⟨Nat.le_of_ble_eq_true rfl, Nat.le_of_ble_eq_true rfl⟩) rfl hl.1 rfl (Nat.le_of_ble_eq_true rfl) dX12_type_5 ⟨Nat.zero_le _, Nat.zero_le _⟩ ?_
  refine lv_if_ne (tgt := 13) hx hb dX12_type_8 (by decide) (fun c3 => ?_) (fun c3 => ?_)
  · have h := jx_f h c3
    refine lv_aload_n hx hb dX12_type_13 rfl (lv_at hl 0 rfl) ?_
    refine va_get (D := D) (ci := 12) (v := .int t_typed) (C := RX12) (T := TX12) (N := 18) hx hb hts hi_X12 hown hK hP 0 rfl rfl 2 (by decide) (hts (.fieldLink RX12 55 "TriangleRestModel" "typed" "I") (List.mem_of_getElem? (i := 1) rfl)) (fun _ h9 => h9) rfl dX12_type_14 ?_
    refine lv_bipush (v := (120 : Int32)) hx hb dX12_type_17 (by decide) ?_
    refine lv_icmp_ne (tgt := 25) hx hb dX12_type_19 (by decide) (fun c4 => ?_) (fun c4 => ?_)
    · have h := jx_f h c4
      refine lv_aload_n hx hb dX12_type_25 rfl (lv_at hl 0 rfl) ?_
      refine va_get (D := D) (ci := 12) (v := .ref a_t_text) (C := RX12) (T := TX12) (N := 18) hx hb hts hi_X12 hown hK hP 0 rfl rfl 1 (by decide) (hts (.fieldLink RX12 7 "TriangleRestModel" "text" "[I") (List.mem_of_getElem? (i := 2) rfl)) (fun _ h9 => h9) rfl dX12_type_26 ?_
      refine lv_aload_n hx hb dX12_type_29 rfl (lv_at hl 0 rfl) ?_
      refine va_get (D := D) (ci := 12) (v := .int t_typed) (C := RX12) (T := TX12) (N := 18) hx hb hts hi_X12 hown hK hP 0 rfl rfl 2 (by decide) (hts (.fieldLink RX12 55 "TriangleRestModel" "typed" "I") (List.mem_of_getElem? (i := 1) rfl)) (fun _ h9 => h9) rfl dX12_type_30 ?_
      refine lv_iload_n hx hb dX12_type_33 rfl (lv_at hl 1 rfl) ?_
      obtain ⟨g5, h⟩ := jx_g_of h
      refine va_iast hx hb hK hP hD hS 1 0 rfl rfl (jx_in_of g5) dX12_type_34 (fun H locs hP hD hS => ?_)
      have hP : va_P D vwCl [(a_t, .inr (12, [.long t_trace, .ref a_t_text, .int t_typed, .ref a_t_told, .ref a_t_draft, .ref a_t_s, .ref a_t_images, .ref a_t_kept, .ref a_t_notes, .int t_noted, .int t_at, .int t_sort, .int t_start, .int t_value, .ref a_t_players, .ref a_t_answers, .ref a_t_room, .ref a_t_inRest])), (a_t_text, .inl (cI, 120, .inl (upd t_text (Int32.toNatClampNeg t_typed) p1)))] H := hP
      have hD : va_D A [(a_t, .inr (12, [.long t_trace, .ref a_t_text, .int t_typed, .ref a_t_told, .ref a_t_draft, .ref a_t_s, .ref a_t_images, .ref a_t_kept, .ref a_t_notes, .int t_noted, .int t_at, .int t_sort, .int t_start, .int t_value, .ref a_t_players, .ref a_t_answers, .ref a_t_room, .ref a_t_inRest])), (a_t_text, .inl (cI, 120, .inl (upd t_text (Int32.toNatClampNeg t_typed) p1)))] := hD
      refine lv_aload_n hx hb dX12_type_35 rfl (lv_at hl 0 rfl) ?_
      refine lv_dup hx hb dX12_type_36 rfl ?_
      refine va_get (D := D) (ci := 12) (v := .int t_typed) (C := RX12) (T := TX12) (N := 18) hx hb hts hi_X12 hown hK hP 0 rfl rfl 2 (by decide) (hts (.fieldLink RX12 55 "TriangleRestModel" "typed" "I") (List.mem_of_getElem? (i := 1) rfl)) (fun _ h9 => h9) rfl dX12_type_37 ?_
      refine lv_iconst (v := (1 : Int32)) hx hb dX12_type_40 (by decide) ?_
      refine lv_iadd hx hb dX12_type_41 ?_
      refine va_put (D := D) (ci := 12) (v := .int (t_typed + (1 : Int32))) (ty := .int) (C := RX12) (T := TX12) (N := 18) hx hb hts hi_X12 tyX12 tyX12_ok nmX12 hown hK hP hD hS 0 rfl rfl 2 (by decide) (hts (.fieldLink RX12 55 "TriangleRestModel" "typed" "I") (List.mem_of_getElem? (i := 1) rfl)) (fun _ h9 => h9) rfl (by decide +kernel) rfl rfl (Nat.le_of_ble_eq_true rfl) dX12_type_42 (fun H locs hP hD hS => ?_)
      have hP : va_P D vwCl [(a_t, .inr (12, [.long t_trace, .ref a_t_text, .int (t_typed + (1 : Int32)), .ref a_t_told, .ref a_t_draft, .ref a_t_s, .ref a_t_images, .ref a_t_kept, .ref a_t_notes, .int t_noted, .int t_at, .int t_sort, .int t_start, .int t_value, .ref a_t_players, .ref a_t_answers, .ref a_t_room, .ref a_t_inRest])), (a_t_text, .inl (cI, 120, .inl (upd t_text (Int32.toNatClampNeg t_typed) p1)))] H := hP
      have hD : va_D A [(a_t, .inr (12, [.long t_trace, .ref a_t_text, .int (t_typed + (1 : Int32)), .ref a_t_told, .ref a_t_draft, .ref a_t_s, .ref a_t_images, .ref a_t_kept, .ref a_t_notes, .int t_noted, .int t_at, .int t_sort, .int t_start, .int t_value, .ref a_t_players, .ref a_t_answers, .ref a_t_room, .ref a_t_inRest])), (a_t_text, .inl (cI, 120, .inl (upd t_text (Int32.toNatClampNeg t_typed) p1)))] := hD
      refine lv_aload_n hx hb dX12_type_45 rfl (lv_at hl 0 rfl) ?_
      refine va_get (D := D) (ci := 12) (v := .int (t_typed + (1 : Int32))) (C := RX12) (T := TX12) (N := 18) hx hb hts hi_X12 hown hK hP 0 rfl rfl 2 (by decide) (hts (.fieldLink RX12 55 "TriangleRestModel" "typed" "I") (List.mem_of_getElem? (i := 1) rfl)) (fun _ h9 => h9) rfl dX12_type_46 ?_
      cases h
      exact hret 49 ls _ _ hP hD hS rfl dX12_type_49
    · have h := jx_t h c4
      refine lv_bipush (v := (-3 : Int32)) hx hb dX12_type_22 (by decide) ?_
      cases h
      exact hret 24 ls _ _ hP hD hS rfl dX12_type_24
  · have h := jx_t h c3
    refine lv_iconst (v := (-1 : Int32)) hx hb dX12_type_11 (by decide) ?_
    cases h
    exact hret 12 ls _ _ hP hD hS rfl dX12_type_12
def mi_X12_clear (t_typed : Int32) : Option (Int32 × Int32) := some (t_typed, (0 : Int32))
abbrev rm_X12_clear : Room := { frames := 0, cells := 0, slots := 0, locals := 0 }
set_option maxRecDepth 100000 in
set_option maxHeartbeats 4000000 in
theorem ct_X12_clear (l : Launch) (D : va_G) (cI cZ cO : ClassId) (a_t a_t_text a_t_told a_t_draft a_t_s a_t_images a_t_kept a_t_notes a_t_players a_t_answers a_t_room a_t_inRest : Nat) (sz : Nat) (t_trace : Int64) (t_typed : Int32) (t_noted : Int32) (t_at : Int32) (t_sort : Int32) (t_start : Int32) (t_value : Int32) (r : Int32) (z_t_typed : Int32) (hm : mi_X12_clear t_typed = some (r, z_t_typed)) : Met l yX12_clear wsX12_clear rm_X12_clear (va_Pc [.ref a_t] (jx_W D (jx_T cI cZ cO) sz [(a_t, .inr (12, [.long t_trace, .ref a_t_text, .int t_typed, .ref a_t_told, .ref a_t_draft, .ref a_t_s, .ref a_t_images, .ref a_t_kept, .ref a_t_notes, .int t_noted, .int t_at, .int t_sort, .int t_start, .int t_value, .ref a_t_players, .ref a_t_answers, .ref a_t_room, .ref a_t_inRest]))])) (jx_Q (some (.int r)) D [(a_t, .inr (12, [.long t_trace, .ref a_t_text, .int z_t_typed, .ref a_t_told, .ref a_t_draft, .ref a_t_s, .ref a_t_images, .ref a_t_kept, .ref a_t_notes, .int t_noted, .int t_at, .int t_sort, .int t_start, .int t_value, .ref a_t_players, .ref a_t_answers, .ref a_t_room, .ref a_t_inRest]))] (va_A [(a_t, .inr (12, [.long t_trace, .ref a_t_text, .int t_typed, .ref a_t_told, .ref a_t_draft, .ref a_t_s, .ref a_t_images, .ref a_t_kept, .ref a_t_notes, .int t_noted, .int t_at, .int t_sort, .int t_start, .int t_value, .ref a_t_players, .ref a_t_answers, .ref a_t_room, .ref a_t_inRest]))] sz)) 0 0 (va_A [(a_t, .inr (12, [.long t_trace, .ref a_t_text, .int t_typed, .ref a_t_told, .ref a_t_draft, .ref a_t_s, .ref a_t_images, .ref a_t_kept, .ref a_t_notes, .int t_noted, .int t_at, .int t_sort, .int t_start, .int t_value, .ref a_t_players, .ref a_t_answers, .ref a_t_room, .ref a_t_inRest]))] sz) := by
  refine jx_metW (ty := .int) (own := RX12) (cc := cX12_clear) (maxL := 2) (by decide) rfl rfl (Nat.le_of_ble_eq_true rfl) ?_
  intro p e s m args below meth c Q ls A hx hb hml hown hts hK hN hA hP hD hS hl hret
  have hi_X12 : ∀ w ∈ u_ws RX12 TX12 18, w ∈ wsX12_clear := by decide +kernel
  have hl : lv_has ls 2 [(0, .ref a_t)] := hl
  have h := hm
  unfold mi_X12_clear at h
  refine lv_aload_n hx hb dX12_clear_0 rfl (lv_at hl 0 rfl) ?_
  refine va_get (D := D) (ci := 12) (v := .int t_typed) (C := RX12) (T := TX12) (N := 18) hx hb hts hi_X12 hown hK hP 0 rfl rfl 2 (by decide) (hts (.fieldLink RX12 55 "TriangleRestModel" "typed" "I") (List.mem_of_getElem? (i := 1) rfl)) (fun _ h9 => h9) rfl dX12_clear_1 ?_
  refine lv_istore_n (lv' := [(1, .int t_typed), (0, .ref a_t)]) hx hb dX12_clear_4 rfl hl (by decide) rfl (fun ls hl => ?_)
  refine lv_aload_n hx hb dX12_clear_5 rfl (lv_at hl 1 rfl) ?_
  refine lv_iconst (v := (0 : Int32)) hx hb dX12_clear_6 (by decide) ?_
  refine va_put (D := D) (ci := 12) (v := .int (0 : Int32)) (ty := .int) (C := RX12) (T := TX12) (N := 18) hx hb hts hi_X12 tyX12 tyX12_ok nmX12 hown hK hP hD hS 0 rfl rfl 2 (by decide) (hts (.fieldLink RX12 55 "TriangleRestModel" "typed" "I") (List.mem_of_getElem? (i := 1) rfl)) (fun _ h9 => h9) rfl (by decide +kernel) rfl rfl (Nat.le_of_ble_eq_true rfl) dX12_clear_7 (fun H locs hP hD hS => ?_)
  have hP : va_P D vwCl [(a_t, .inr (12, [.long t_trace, .ref a_t_text, .int (0 : Int32), .ref a_t_told, .ref a_t_draft, .ref a_t_s, .ref a_t_images, .ref a_t_kept, .ref a_t_notes, .int t_noted, .int t_at, .int t_sort, .int t_start, .int t_value, .ref a_t_players, .ref a_t_answers, .ref a_t_room, .ref a_t_inRest]))] H := hP
  have hD : va_D A [(a_t, .inr (12, [.long t_trace, .ref a_t_text, .int (0 : Int32), .ref a_t_told, .ref a_t_draft, .ref a_t_s, .ref a_t_images, .ref a_t_kept, .ref a_t_notes, .int t_noted, .int t_at, .int t_sort, .int t_start, .int t_value, .ref a_t_players, .ref a_t_answers, .ref a_t_room, .ref a_t_inRest]))] := hD
  refine lv_iload_n hx hb dX12_clear_10 rfl (lv_at hl 0 rfl) ?_
  cases h
  exact hret 11 ls _ _ hP hD hS rfl dX12_clear_11
def mi_X12_byteAt (t_typed : Int32) (t_text : Nat → Int32) (p1 : Int32) : Option (Int32) := if t_typed ≤ p1 then (some ((-1 : Int32))) else (jx_g (jx_in p1 120) (some ((t_text (Int32.toNatClampNeg p1)))))
abbrev rm_X12_byteAt : Room := { frames := 0, cells := 0, slots := 0, locals := 0 }
set_option maxRecDepth 100000 in
set_option maxHeartbeats 4000000 in
theorem ct_X12_byteAt (l : Launch) (D : va_G) (cI cZ cO : ClassId) (a_t a_t_text a_t_told a_t_draft a_t_s a_t_images a_t_kept a_t_notes a_t_players a_t_answers a_t_room a_t_inRest : Nat) (t_trace : Int64) (t_typed : Int32) (t_noted : Int32) (t_at : Int32) (t_sort : Int32) (t_start : Int32) (t_value : Int32) (t_text : Nat → Int32) (p1 : Int32) (r : Int32) (hm : mi_X12_byteAt t_typed t_text p1 = some r) : Met l yX12_byteAt wsX12_byteAt rm_X12_byteAt (va_Pc [.ref a_t, .int p1] (jx_R D (jx_T cI cZ cO) [(a_t, .inr (12, [.long t_trace, .ref a_t_text, .int t_typed, .ref a_t_told, .ref a_t_draft, .ref a_t_s, .ref a_t_images, .ref a_t_kept, .ref a_t_notes, .int t_noted, .int t_at, .int t_sort, .int t_start, .int t_value, .ref a_t_players, .ref a_t_answers, .ref a_t_room, .ref a_t_inRest])), (a_t_text, .inl (cI, 120, .inl t_text))])) (jx_S (some (.int r))) 0 0 (fun _ => False) := by
  refine jx_metR (ty := .int) (own := RX12) (cc := cX12_byteAt) (maxL := 2) (by decide) rfl rfl (Nat.le_of_ble_eq_true rfl) ?_
  intro p e s m args below meth c Q ls hx hb hml hown hts hK hN hP hl hret
  have hi_X12 : ∀ w ∈ u_ws RX12 TX12 18, w ∈ wsX12_byteAt := by decide +kernel
  have hl : lv_has ls 2 [(0, .ref a_t), (1, .int p1)] := hl
  have h := hm
  unfold mi_X12_byteAt at h
  refine lv_iload_n hx hb dX12_byteAt_0 rfl (lv_at hl 1 rfl) ?_
  refine lv_aload_n hx hb dX12_byteAt_1 rfl (lv_at hl 0 rfl) ?_
  refine va_get (D := D) (ci := 12) (v := .int t_typed) (C := RX12) (T := TX12) (N := 18) hx hb hts hi_X12 hown hK hP 0 rfl rfl 2 (by decide) (hts (.fieldLink RX12 55 "TriangleRestModel" "typed" "I") (List.mem_of_getElem? (i := 1) rfl)) (fun _ h9 => h9) rfl dX12_byteAt_2 ?_
  refine lv_icmp_ge (tgt := 17) hx hb dX12_byteAt_5 (by decide) (fun c1 => ?_) (fun c1 => ?_)
  · have h := jx_t h c1
    refine lv_iconst (v := (-1 : Int32)) hx hb dX12_byteAt_17 (by decide) ?_
    cases h
    exact hret 18 ls rfl dX12_byteAt_18
  · have h := jx_f h c1
    refine lv_aload_n hx hb dX12_byteAt_8 rfl (lv_at hl 0 rfl) ?_
    refine va_get (D := D) (ci := 12) (v := .ref a_t_text) (C := RX12) (T := TX12) (N := 18) hx hb hts hi_X12 hown hK hP 0 rfl rfl 1 (by decide) (hts (.fieldLink RX12 7 "TriangleRestModel" "text" "[I") (List.mem_of_getElem? (i := 2) rfl)) (fun _ h9 => h9) rfl dX12_byteAt_9 ?_
    refine lv_iload_n hx hb dX12_byteAt_12 rfl (lv_at hl 1 rfl) ?_
    obtain ⟨g2, h⟩ := jx_g_of h
    refine va_iald hx hb hK hP 1 0 rfl rfl (jx_in_of g2) dX12_byteAt_13 ?_
    refine lv_goto (tgt := 18) hx hb dX12_byteAt_14 (by decide) ?_
    cases h
    exact hret 18 ls rfl dX12_byteAt_18
def mi_X12_token_b226 (k_l170 : Int32 → Int32 → Int32 → Int32 → Int32 → Option (Int32 × Int32 × Int32 × Int32)) (x1 : Int32) (k1 : Int32) (t_at : Int32) (t_sort : Int32) (t_start : Int32) (t_value : Int32) : Option (Int32 × Int32 × Int32 × Int32) := k_l170 x1 (t_at + (1 : Int32)) t_sort t_start k1
def mi_X12_token_b200 (k_l170 : Int32 → Int32 → Int32 → Int32 → Int32 → Option (Int32 × Int32 × Int32 × Int32)) (x1 : Int32) (t_at : Int32) (t_sort : Int32) (t_start : Int32) (t_value : Int32) : Option (Int32 × Int32 × Int32 × Int32) := mi_X12_token_b226 k_l170 x1 (1000 : Int32) t_at t_sort t_start t_value
def mi_X12_token_l170 (t_typed : Int32) (t_text : Nat → Int32) : Nat → Int32 → Int32 → Int32 → Int32 → Int32 → Option (Int32 × Int32 × Int32 × Int32)
  | 0, _, _, _, _, _ => none
  | n + 1, x1, t_at, t_sort, t_start, t_value => jx_b1 (mi_X12_byteAt t_typed t_text t_at) fun r22 => (jx_b1 (mi_X12_isDigit r22) fun r24 => (if r24 = 0 then (some (t_at, t_sort, t_start, t_value)) else (if x1 = (48 : Int32) then (mi_X12_token_b200 (mi_X12_token_l170 t_typed t_text n) x1 t_at t_sort t_start t_value) else (if t_value ≤ (99 : Int32) then (jx_g (jx_in t_at 120) (mi_X12_token_b226 (mi_X12_token_l170 t_typed t_text n) x1 ((((10 : Int32) * t_value) + (t_text (Int32.toNatClampNeg t_at))) - (48 : Int32)) t_at t_sort t_start t_value)) else (mi_X12_token_b200 (mi_X12_token_l170 t_typed t_text n) x1 t_at t_sort t_start t_value)))))
def mi_X12_token_b154 (t_typed : Int32) (t_text : Nat → Int32) (x1 : Int32) (t_at : Int32) (t_sort : Int32) (t_start : Int32) (t_value : Int32) : Option (Int32 × Int32 × Int32 × Int32) := if t_sort = (2 : Int32) then (mi_X12_token_l170 t_typed t_text jx_F x1 t_at t_sort t_start (x1 - (48 : Int32))) else (some (t_at, t_sort, t_start, t_value))
def mi_X12_token_l114 (t_typed : Int32) (t_text : Nat → Int32) : Nat → Int32 → Int32 → Int32 → Int32 → Int32 → Option (Int32 × Int32 × Int32 × Int32)
  | 0, _, _, _, _, _ => none
  | n + 1, x1, t_at, t_sort, t_start, t_value => if t_sort = (1 : Int32) then (jx_b1 (mi_X12_byteAt t_typed t_text t_at) fun r16 => (jx_b1 (mi_X12_isLetter r16) fun r18 => (if r18 = 0 then (mi_X12_token_b154 t_typed t_text x1 t_at t_sort t_start t_value) else (mi_X12_token_l114 t_typed t_text n x1 (t_at + (1 : Int32)) t_sort t_start (0 : Int32))))) else (mi_X12_token_b154 t_typed t_text x1 t_at t_sort t_start t_value)
def mi_X12_token_b110 (t_typed : Int32) (t_text : Nat → Int32) (x1 : Int32) (k1 : Int32) (k2 : Int32) (t_at : Int32) (t_sort : Int32) (t_start : Int32) (t_value : Int32) : Option (Int32 × Int32 × Int32 × Int32) := mi_X12_token_l114 t_typed t_text jx_F x1 (k1 + k2) t_sort t_start t_value
def mi_X12_token_b85 (t_typed : Int32) (t_text : Nat → Int32) (x1 : Int32) (k1 : Int32) (t_at : Int32) (t_sort : Int32) (t_start : Int32) (t_value : Int32) : Option (Int32 × Int32 × Int32 × Int32) := if k1 = 0 then (mi_X12_token_b110 t_typed t_text x1 t_at (0 : Int32) t_at k1 t_start x1) else (mi_X12_token_b110 t_typed t_text x1 t_at (1 : Int32) t_at k1 t_start x1)
def mi_X12_token_l0 (t_typed : Int32) (t_text : Nat → Int32) : Nat → Int32 → Int32 → Int32 → Int32 → Option (Int32 × Int32 × Int32 × Int32)
  | 0, _, _, _, _ => none
  | n + 1, t_at, t_sort, t_start, t_value => jx_b1 (mi_X12_byteAt t_typed t_text t_at) fun r1 => (if r1 = (32 : Int32) then (mi_X12_token_l0 t_typed t_text n (t_at + (1 : Int32)) t_sort t_start t_value) else (jx_b1 (mi_X12_byteAt t_typed t_text t_at) fun r4 => (if 0 ≤ r4 then (jx_b1 (mi_X12_isLetter r4) fun r7 => (if r7 = 0 then (jx_b1 (mi_X12_isDigit r4) fun r10 => (if r10 = 0 then (if r4 = (59 : Int32) then (mi_X12_token_b85 t_typed t_text r4 (3 : Int32) t_at t_sort t_at t_value) else (mi_X12_token_b85 t_typed t_text r4 (4 : Int32) t_at t_sort t_at t_value)) else (mi_X12_token_b85 t_typed t_text r4 (2 : Int32) t_at t_sort t_at t_value))) else (mi_X12_token_b85 t_typed t_text r4 (1 : Int32) t_at t_sort t_at t_value))) else (mi_X12_token_b85 t_typed t_text r4 (0 : Int32) t_at t_sort t_at t_value))))
def mi_X12_token (t_typed : Int32) (t_at : Int32) (t_sort : Int32) (t_start : Int32) (t_value : Int32) (t_text : Nat → Int32) : Option (Int32 × Int32 × Int32 × Int32) := mi_X12_token_l0 t_typed t_text jx_F t_at t_sort t_start t_value
abbrev rm_X12_token : Room := { frames := 2, cells := 0, slots := 0, locals := 42 }
set_option maxRecDepth 100000 in
set_option maxHeartbeats 4000000 in
theorem ct_X12_token (l : Launch) (D : va_G) (cI cZ cO : ClassId) (a_t a_t_text a_t_told a_t_draft a_t_s a_t_images a_t_kept a_t_notes a_t_players a_t_answers a_t_room a_t_inRest : Nat) (sz : Nat) (t_trace : Int64) (t_typed : Int32) (t_noted : Int32) (t_at : Int32) (t_sort : Int32) (t_start : Int32) (t_value : Int32) (t_text : Nat → Int32) (z_t_at : Int32) (z_t_sort : Int32) (z_t_start : Int32) (z_t_value : Int32) (hm : mi_X12_token t_typed t_at t_sort t_start t_value t_text = some (z_t_at, z_t_sort, z_t_start, z_t_value)) : Met l yX12_token wsX12_token rm_X12_token (va_Pc [.ref a_t] (jx_W D (jx_T cI cZ cO) sz [(a_t, .inr (12, [.long t_trace, .ref a_t_text, .int t_typed, .ref a_t_told, .ref a_t_draft, .ref a_t_s, .ref a_t_images, .ref a_t_kept, .ref a_t_notes, .int t_noted, .int t_at, .int t_sort, .int t_start, .int t_value, .ref a_t_players, .ref a_t_answers, .ref a_t_room, .ref a_t_inRest])), (a_t_text, .inl (cI, 120, .inl t_text))])) (jx_Q none D [(a_t, .inr (12, [.long t_trace, .ref a_t_text, .int t_typed, .ref a_t_told, .ref a_t_draft, .ref a_t_s, .ref a_t_images, .ref a_t_kept, .ref a_t_notes, .int t_noted, .int z_t_at, .int z_t_sort, .int z_t_start, .int z_t_value, .ref a_t_players, .ref a_t_answers, .ref a_t_room, .ref a_t_inRest])), (a_t_text, .inl (cI, 120, .inl t_text))] (va_A [(a_t, .inr (12, [.long t_trace, .ref a_t_text, .int t_typed, .ref a_t_told, .ref a_t_draft, .ref a_t_s, .ref a_t_images, .ref a_t_kept, .ref a_t_notes, .int t_noted, .int t_at, .int t_sort, .int t_start, .int t_value, .ref a_t_players, .ref a_t_answers, .ref a_t_room, .ref a_t_inRest])), (a_t_text, .inl (cI, 120, .inl t_text))] sz)) 0 0 (va_A [(a_t, .inr (12, [.long t_trace, .ref a_t_text, .int t_typed, .ref a_t_told, .ref a_t_draft, .ref a_t_s, .ref a_t_images, .ref a_t_kept, .ref a_t_notes, .int t_noted, .int t_at, .int t_sort, .int t_start, .int t_value, .ref a_t_players, .ref a_t_answers, .ref a_t_room, .ref a_t_inRest])), (a_t_text, .inl (cI, 120, .inl t_text))] sz) := by
  refine jx_metV (own := RX12) (cc := cX12_token) (maxL := 2) (by decide) rfl rfl (Nat.le_of_ble_eq_true rfl) ?_
  intro p e s m args below meth c Q ls A hx hb hml hown hts hK hN hA hP hD hS hl hret
  have hi_X12 : ∀ w ∈ u_ws RX12 TX12 18, w ∈ wsX12_token := by decide +kernel
  have hl : lv_has ls 2 [(0, .ref a_t)] := hl
  have bl_l170 : ∀ (n : Nat) (x1 : Int32) (t_at : Int32) (t_sort : Int32) (t_start : Int32) (t_value : Int32) (H : Heap) (locs : List Loc) (ls : Array Slot), va_P D vwCl [(a_t, .inr (12, [.long t_trace, .ref a_t_text, .int t_typed, .ref a_t_told, .ref a_t_draft, .ref a_t_s, .ref a_t_images, .ref a_t_kept, .ref a_t_notes, .int t_noted, .int t_at, .int t_sort, .int t_start, .int t_value, .ref a_t_players, .ref a_t_answers, .ref a_t_room, .ref a_t_inRest])), (a_t_text, .inl (cI, 120, .inl t_text))] H → va_D A [(a_t, .inr (12, [.long t_trace, .ref a_t_text, .int t_typed, .ref a_t_told, .ref a_t_draft, .ref a_t_s, .ref a_t_images, .ref a_t_kept, .ref a_t_notes, .int t_noted, .int t_at, .int t_sort, .int t_start, .int t_value, .ref a_t_players, .ref a_t_answers, .ref a_t_room, .ref a_t_inRest])), (a_t_text, .inl (cI, 120, .inl t_text))] → va_S A s.heap H locs → lv_has ls 2 [(0, .ref a_t), (1, .int x1)] → mi_X12_token_l170 t_typed t_text n x1 t_at t_sort t_start t_value = some (z_t_at, z_t_sort, z_t_start, z_t_value) → W p l e (headSpec wsX12_token rm_X12_token).room s m args below meth c H locs 0 0 Q (F0 m 170 ls []) := by
    intro n
    induction n with
    | zero =>
      intro x1 t_at t_sort t_start t_value H locs ls hP hD hS hl h
      rw [mi_X12_token_l170] at h
      cases h
    | succ n_l170 ih_l170 =>
      have bl_b226 : ∀ (x1 : Int32) (k1 : Int32) (t_at : Int32) (t_sort : Int32) (t_start : Int32) (t_value : Int32) (H : Heap) (locs : List Loc) (ls : Array Slot), va_P D vwCl [(a_t, .inr (12, [.long t_trace, .ref a_t_text, .int t_typed, .ref a_t_told, .ref a_t_draft, .ref a_t_s, .ref a_t_images, .ref a_t_kept, .ref a_t_notes, .int t_noted, .int t_at, .int t_sort, .int t_start, .int t_value, .ref a_t_players, .ref a_t_answers, .ref a_t_room, .ref a_t_inRest])), (a_t_text, .inl (cI, 120, .inl t_text))] H → va_D A [(a_t, .inr (12, [.long t_trace, .ref a_t_text, .int t_typed, .ref a_t_told, .ref a_t_draft, .ref a_t_s, .ref a_t_images, .ref a_t_kept, .ref a_t_notes, .int t_noted, .int t_at, .int t_sort, .int t_start, .int t_value, .ref a_t_players, .ref a_t_answers, .ref a_t_room, .ref a_t_inRest])), (a_t_text, .inl (cI, 120, .inl t_text))] → va_S A s.heap H locs → lv_has ls 2 [(0, .ref a_t), (1, .int x1)] → mi_X12_token_b226 (mi_X12_token_l170 t_typed t_text n_l170) x1 k1 t_at t_sort t_start t_value = some (z_t_at, z_t_sort, z_t_start, z_t_value) → W p l e (headSpec wsX12_token rm_X12_token).room s m args below meth c H locs 0 0 Q (F0 m 226 ls [.int k1, .ref a_t]) := by
        intro x1 k1 t_at t_sort t_start t_value H locs ls hP hD hS hl h
        unfold mi_X12_token_b226 at h
        refine va_put (D := D) (ci := 12) (v := .int k1) (ty := .int) (C := RX12) (T := TX12) (N := 18) hx hb hts hi_X12 tyX12 tyX12_ok nmX12 hown hK hP hD hS 0 rfl rfl 13 (by decide) (hts (.fieldLink RX12 79 "TriangleRestModel" "value" "I") (List.mem_of_getElem? (i := 4) rfl)) (fun _ h9 => h9) rfl (by decide +kernel) rfl rfl (Nat.le_of_ble_eq_true rfl) dX12_token_226 (fun H locs hP hD hS => ?_)
        have hP : va_P D vwCl [(a_t, .inr (12, [.long t_trace, .ref a_t_text, .int t_typed, .ref a_t_told, .ref a_t_draft, .ref a_t_s, .ref a_t_images, .ref a_t_kept, .ref a_t_notes, .int t_noted, .int t_at, .int t_sort, .int t_start, .int k1, .ref a_t_players, .ref a_t_answers, .ref a_t_room, .ref a_t_inRest])), (a_t_text, .inl (cI, 120, .inl t_text))] H := hP
        have hD : va_D A [(a_t, .inr (12, [.long t_trace, .ref a_t_text, .int t_typed, .ref a_t_told, .ref a_t_draft, .ref a_t_s, .ref a_t_images, .ref a_t_kept, .ref a_t_notes, .int t_noted, .int t_at, .int t_sort, .int t_start, .int k1, .ref a_t_players, .ref a_t_answers, .ref a_t_room, .ref a_t_inRest])), (a_t_text, .inl (cI, 120, .inl t_text))] := hD
        refine lv_aload_n hx hb dX12_token_229 rfl (lv_at hl 0 rfl) ?_
        refine lv_dup hx hb dX12_token_230 rfl ?_
        refine va_get (D := D) (ci := 12) (v := .int t_at) (C := RX12) (T := TX12) (N := 18) hx hb hts hi_X12 hown hK hP 0 rfl rfl 10 (by decide) (hts (.fieldLink RX12 59 "TriangleRestModel" "at" "I") (List.mem_of_getElem? (i := 1) rfl)) (fun _ h9 => h9) rfl dX12_token_231 ?_
        refine lv_iconst (v := (1 : Int32)) hx hb dX12_token_234 (by decide) ?_
        refine lv_iadd hx hb dX12_token_235 ?_
        refine va_put (D := D) (ci := 12) (v := .int (t_at + (1 : Int32))) (ty := .int) (C := RX12) (T := TX12) (N := 18) hx hb hts hi_X12 tyX12 tyX12_ok nmX12 hown hK hP hD hS 0 rfl rfl 10 (by decide) (hts (.fieldLink RX12 59 "TriangleRestModel" "at" "I") (List.mem_of_getElem? (i := 1) rfl)) (fun _ h9 => h9) rfl (by decide +kernel) rfl rfl (Nat.le_of_ble_eq_true rfl) dX12_token_236 (fun H locs hP hD hS => ?_)
        have hP : va_P D vwCl [(a_t, .inr (12, [.long t_trace, .ref a_t_text, .int t_typed, .ref a_t_told, .ref a_t_draft, .ref a_t_s, .ref a_t_images, .ref a_t_kept, .ref a_t_notes, .int t_noted, .int (t_at + (1 : Int32)), .int t_sort, .int t_start, .int k1, .ref a_t_players, .ref a_t_answers, .ref a_t_room, .ref a_t_inRest])), (a_t_text, .inl (cI, 120, .inl t_text))] H := hP
        have hD : va_D A [(a_t, .inr (12, [.long t_trace, .ref a_t_text, .int t_typed, .ref a_t_told, .ref a_t_draft, .ref a_t_s, .ref a_t_images, .ref a_t_kept, .ref a_t_notes, .int t_noted, .int (t_at + (1 : Int32)), .int t_sort, .int t_start, .int k1, .ref a_t_players, .ref a_t_answers, .ref a_t_room, .ref a_t_inRest])), (a_t_text, .inl (cI, 120, .inl t_text))] := hD
        refine lv_goto (tgt := 170) hx hb dX12_token_239 (by decide) ?_
        exact ih_l170 x1 (t_at + (1 : Int32)) t_sort t_start k1 _ _ _ hP hD hS (lv_sub hl [0, 1] rfl) h
      have bl_b200 : ∀ (x1 : Int32) (t_at : Int32) (t_sort : Int32) (t_start : Int32) (t_value : Int32) (H : Heap) (locs : List Loc) (ls : Array Slot), va_P D vwCl [(a_t, .inr (12, [.long t_trace, .ref a_t_text, .int t_typed, .ref a_t_told, .ref a_t_draft, .ref a_t_s, .ref a_t_images, .ref a_t_kept, .ref a_t_notes, .int t_noted, .int t_at, .int t_sort, .int t_start, .int t_value, .ref a_t_players, .ref a_t_answers, .ref a_t_room, .ref a_t_inRest])), (a_t_text, .inl (cI, 120, .inl t_text))] H → va_D A [(a_t, .inr (12, [.long t_trace, .ref a_t_text, .int t_typed, .ref a_t_told, .ref a_t_draft, .ref a_t_s, .ref a_t_images, .ref a_t_kept, .ref a_t_notes, .int t_noted, .int t_at, .int t_sort, .int t_start, .int t_value, .ref a_t_players, .ref a_t_answers, .ref a_t_room, .ref a_t_inRest])), (a_t_text, .inl (cI, 120, .inl t_text))] → va_S A s.heap H locs → lv_has ls 2 [(0, .ref a_t), (1, .int x1)] → mi_X12_token_b200 (mi_X12_token_l170 t_typed t_text n_l170) x1 t_at t_sort t_start t_value = some (z_t_at, z_t_sort, z_t_start, z_t_value) → W p l e (headSpec wsX12_token rm_X12_token).room s m args below meth c H locs 0 0 Q (F0 m 200 ls [.ref a_t]) := by
        intro x1 t_at t_sort t_start t_value H locs ls hP hD hS hl h
        unfold mi_X12_token_b200 at h
        refine lv_sipush (v := (1000 : Int32)) hx hb dX12_token_200 (by decide) ?_
        refine lv_goto (tgt := 226) hx hb dX12_token_203 (by decide) ?_
        exact bl_b226 x1 (1000 : Int32) t_at t_sort t_start t_value _ _ _ hP hD hS (lv_sub hl [0, 1] rfl) h
      intro x1 t_at t_sort t_start t_value H locs ls hP hD hS hl h
      rw [mi_X12_token_l170] at h
      refine lv_aload_n hx hb dX12_token_170 rfl (lv_at hl 0 rfl) ?_
      refine lv_aload_n hx hb dX12_token_171 rfl (lv_at hl 0 rfl) ?_
      refine va_get (D := D) (ci := 12) (v := .int t_at) (C := RX12) (T := TX12) (N := 18) hx hb hts hi_X12 hown hK hP 0 rfl rfl 10 (by decide) (hts (.fieldLink RX12 59 "TriangleRestModel" "at" "I") (List.mem_of_getElem? (i := 1) rfl)) (fun _ h9 => h9) rfl dX12_token_172 ?_
      obtain ⟨r22, e23, h⟩ := jx_b1_of h
      refine jx_cV (o := some (.int r22)) (As := [.int t_at]) (rest := []) (b := a_t) ⟨hx, hb, hml, hown, hts⟩ (ct_X12_byteAt l D cI cZ cO a_t a_t_text a_t_told a_t_draft a_t_s a_t_images a_t_kept a_t_notes a_t_players a_t_answers a_t_room a_t_inRest t_trace t_typed t_noted t_at t_sort t_start t_value t_text t_at r22 e23) (cwV 1 hts gX12_token_X12_byteAt rfl rfl rfl (by decide +kernel) ⟨Nat.le_of_ble_eq_true rfl, Nat.le_of_ble_eq_true rfl⟩) hK hN hP [0, 1] rfl (va_recv hK hP (ci := 12) (q0 := 0) rfl rfl) rfl hl.1 rfl (Nat.le_of_ble_eq_true rfl) dX12_token_175 ⟨Nat.zero_le _, Nat.zero_le _⟩ ?_
      obtain ⟨r24, e25, h⟩ := jx_b1_of h
      refine jx_cS (o := some (.int r24)) (As := [.int r22]) (rest := []) ⟨hx, hb, hml, hown, hts⟩ (ct_X12_isDigit l r22 r24 e25) (va_cwS 1 hts gX12_token_X12_isDigit rfl rfl rfl (by decide +kernel) ⟨Nat.le_of_ble_eq_true rfl, Nat.le_of_ble_eq_true rfl⟩) rfl hl.1 rfl (Nat.le_of_ble_eq_true rfl) dX12_token_178 ⟨Nat.zero_le _, Nat.zero_le _⟩ ?_
      refine lv_if_eq (tgt := 242) hx hb dX12_token_181 (by decide) (fun c26 => ?_) (fun c26 => ?_)
      · have h := jx_t h c26
        cases h
        exact hret 242 ls _ _ hP hD hS dX12_token_242
      · have h := jx_f h c26
        refine lv_aload_n hx hb dX12_token_184 rfl (lv_at hl 0 rfl) ?_
        refine lv_iload_n hx hb dX12_token_185 rfl (lv_at hl 1 rfl) ?_
        refine lv_bipush (v := (48 : Int32)) hx hb dX12_token_186 (by decide) ?_
        refine lv_icmp_eq (tgt := 200) hx hb dX12_token_188 (by decide) (fun c27 => ?_) (fun c27 => ?_)
        · have h := jx_t h c27
          exact bl_b200 x1 t_at t_sort t_start t_value _ _ _ hP hD hS (lv_sub hl [0, 1] rfl) h
        · have h := jx_f h c27
          refine lv_aload_n hx hb dX12_token_191 rfl (lv_at hl 0 rfl) ?_
          refine va_get (D := D) (ci := 12) (v := .int t_value) (C := RX12) (T := TX12) (N := 18) hx hb hts hi_X12 hown hK hP 0 rfl rfl 13 (by decide) (hts (.fieldLink RX12 79 "TriangleRestModel" "value" "I") (List.mem_of_getElem? (i := 4) rfl)) (fun _ h9 => h9) rfl dX12_token_192 ?_
          refine lv_bipush (v := (99 : Int32)) hx hb dX12_token_195 (by decide) ?_
          refine lv_icmp_le (tgt := 206) hx hb dX12_token_197 (by decide) (fun c28 => ?_) (fun c28 => ?_)
          · have h := jx_t h c28
            refine lv_bipush (v := (10 : Int32)) hx hb dX12_token_206 (by decide) ?_
            refine lv_aload_n hx hb dX12_token_208 rfl (lv_at hl 0 rfl) ?_
            refine va_get (D := D) (ci := 12) (v := .int t_value) (C := RX12) (T := TX12) (N := 18) hx hb hts hi_X12 hown hK hP 0 rfl rfl 13 (by decide) (hts (.fieldLink RX12 79 "TriangleRestModel" "value" "I") (List.mem_of_getElem? (i := 4) rfl)) (fun _ h9 => h9) rfl dX12_token_209 ?_
            refine lv_imul hx hb dX12_token_212 ?_
            refine lv_aload_n hx hb dX12_token_213 rfl (lv_at hl 0 rfl) ?_
            refine va_get (D := D) (ci := 12) (v := .ref a_t_text) (C := RX12) (T := TX12) (N := 18) hx hb hts hi_X12 hown hK hP 0 rfl rfl 1 (by decide) (hts (.fieldLink RX12 7 "TriangleRestModel" "text" "[I") (List.mem_of_getElem? (i := 5) rfl)) (fun _ h9 => h9) rfl dX12_token_214 ?_
            refine lv_aload_n hx hb dX12_token_217 rfl (lv_at hl 0 rfl) ?_
            refine va_get (D := D) (ci := 12) (v := .int t_at) (C := RX12) (T := TX12) (N := 18) hx hb hts hi_X12 hown hK hP 0 rfl rfl 10 (by decide) (hts (.fieldLink RX12 59 "TriangleRestModel" "at" "I") (List.mem_of_getElem? (i := 1) rfl)) (fun _ h9 => h9) rfl dX12_token_218 ?_
            obtain ⟨g29, h⟩ := jx_g_of h
            refine va_iald hx hb hK hP 1 0 rfl rfl (jx_in_of g29) dX12_token_221 ?_
            refine lv_iadd hx hb dX12_token_222 ?_
            refine lv_bipush (v := (48 : Int32)) hx hb dX12_token_223 (by decide) ?_
            refine lv_isub hx hb dX12_token_225 ?_
            exact bl_b226 x1 ((((10 : Int32) * t_value) + (t_text (Int32.toNatClampNeg t_at))) - (48 : Int32)) t_at t_sort t_start t_value _ _ _ hP hD hS (lv_sub hl [0, 1] rfl) h
          · have h := jx_f h c28
            exact bl_b200 x1 t_at t_sort t_start t_value _ _ _ hP hD hS (lv_sub hl [0, 1] rfl) h
  have bl_b154 : ∀ (x1 : Int32) (t_at : Int32) (t_sort : Int32) (t_start : Int32) (t_value : Int32) (H : Heap) (locs : List Loc) (ls : Array Slot), va_P D vwCl [(a_t, .inr (12, [.long t_trace, .ref a_t_text, .int t_typed, .ref a_t_told, .ref a_t_draft, .ref a_t_s, .ref a_t_images, .ref a_t_kept, .ref a_t_notes, .int t_noted, .int t_at, .int t_sort, .int t_start, .int t_value, .ref a_t_players, .ref a_t_answers, .ref a_t_room, .ref a_t_inRest])), (a_t_text, .inl (cI, 120, .inl t_text))] H → va_D A [(a_t, .inr (12, [.long t_trace, .ref a_t_text, .int t_typed, .ref a_t_told, .ref a_t_draft, .ref a_t_s, .ref a_t_images, .ref a_t_kept, .ref a_t_notes, .int t_noted, .int t_at, .int t_sort, .int t_start, .int t_value, .ref a_t_players, .ref a_t_answers, .ref a_t_room, .ref a_t_inRest])), (a_t_text, .inl (cI, 120, .inl t_text))] → va_S A s.heap H locs → lv_has ls 2 [(0, .ref a_t), (1, .int x1)] → mi_X12_token_b154 t_typed t_text x1 t_at t_sort t_start t_value = some (z_t_at, z_t_sort, z_t_start, z_t_value) → W p l e (headSpec wsX12_token rm_X12_token).room s m args below meth c H locs 0 0 Q (F0 m 154 ls []) := by
    intro x1 t_at t_sort t_start t_value H locs ls hP hD hS hl h
    unfold mi_X12_token_b154 at h
    refine lv_aload_n hx hb dX12_token_154 rfl (lv_at hl 0 rfl) ?_
    refine va_get (D := D) (ci := 12) (v := .int t_sort) (C := RX12) (T := TX12) (N := 18) hx hb hts hi_X12 hown hK hP 0 rfl rfl 11 (by decide) (hts (.fieldLink RX12 76 "TriangleRestModel" "sort" "I") (List.mem_of_getElem? (i := 3) rfl)) (fun _ h9 => h9) rfl dX12_token_155 ?_
    refine lv_iconst (v := (2 : Int32)) hx hb dX12_token_158 (by decide) ?_
    refine lv_icmp_ne (tgt := 242) hx hb dX12_token_159 (by decide) (fun c21 => ?_) (fun c21 => ?_)
    · have h := jx_f h c21
      cases h
      exact hret 242 ls _ _ hP hD hS dX12_token_242
    · have h := jx_t h c21
      refine lv_aload_n hx hb dX12_token_162 rfl (lv_at hl 0 rfl) ?_
      refine lv_iload_n hx hb dX12_token_163 rfl (lv_at hl 1 rfl) ?_
      refine lv_bipush (v := (48 : Int32)) hx hb dX12_token_164 (by decide) ?_
      refine lv_isub hx hb dX12_token_166 ?_
      refine va_put (D := D) (ci := 12) (v := .int (x1 - (48 : Int32))) (ty := .int) (C := RX12) (T := TX12) (N := 18) hx hb hts hi_X12 tyX12 tyX12_ok nmX12 hown hK hP hD hS 0 rfl rfl 13 (by decide) (hts (.fieldLink RX12 79 "TriangleRestModel" "value" "I") (List.mem_of_getElem? (i := 4) rfl)) (fun _ h9 => h9) rfl (by decide +kernel) rfl rfl (Nat.le_of_ble_eq_true rfl) dX12_token_167 (fun H locs hP hD hS => ?_)
      have hP : va_P D vwCl [(a_t, .inr (12, [.long t_trace, .ref a_t_text, .int t_typed, .ref a_t_told, .ref a_t_draft, .ref a_t_s, .ref a_t_images, .ref a_t_kept, .ref a_t_notes, .int t_noted, .int t_at, .int t_sort, .int t_start, .int (x1 - (48 : Int32)), .ref a_t_players, .ref a_t_answers, .ref a_t_room, .ref a_t_inRest])), (a_t_text, .inl (cI, 120, .inl t_text))] H := hP
      have hD : va_D A [(a_t, .inr (12, [.long t_trace, .ref a_t_text, .int t_typed, .ref a_t_told, .ref a_t_draft, .ref a_t_s, .ref a_t_images, .ref a_t_kept, .ref a_t_notes, .int t_noted, .int t_at, .int t_sort, .int t_start, .int (x1 - (48 : Int32)), .ref a_t_players, .ref a_t_answers, .ref a_t_room, .ref a_t_inRest])), (a_t_text, .inl (cI, 120, .inl t_text))] := hD
      exact bl_l170 jx_F x1 t_at t_sort t_start (x1 - (48 : Int32)) _ _ _ hP hD hS (lv_sub hl [0, 1] rfl) h
  have bl_l114 : ∀ (n : Nat) (x1 : Int32) (t_at : Int32) (t_sort : Int32) (t_start : Int32) (t_value : Int32) (H : Heap) (locs : List Loc) (ls : Array Slot), va_P D vwCl [(a_t, .inr (12, [.long t_trace, .ref a_t_text, .int t_typed, .ref a_t_told, .ref a_t_draft, .ref a_t_s, .ref a_t_images, .ref a_t_kept, .ref a_t_notes, .int t_noted, .int t_at, .int t_sort, .int t_start, .int t_value, .ref a_t_players, .ref a_t_answers, .ref a_t_room, .ref a_t_inRest])), (a_t_text, .inl (cI, 120, .inl t_text))] H → va_D A [(a_t, .inr (12, [.long t_trace, .ref a_t_text, .int t_typed, .ref a_t_told, .ref a_t_draft, .ref a_t_s, .ref a_t_images, .ref a_t_kept, .ref a_t_notes, .int t_noted, .int t_at, .int t_sort, .int t_start, .int t_value, .ref a_t_players, .ref a_t_answers, .ref a_t_room, .ref a_t_inRest])), (a_t_text, .inl (cI, 120, .inl t_text))] → va_S A s.heap H locs → lv_has ls 2 [(0, .ref a_t), (1, .int x1)] → mi_X12_token_l114 t_typed t_text n x1 t_at t_sort t_start t_value = some (z_t_at, z_t_sort, z_t_start, z_t_value) → W p l e (headSpec wsX12_token rm_X12_token).room s m args below meth c H locs 0 0 Q (F0 m 114 ls []) := by
    intro n
    induction n with
    | zero =>
      intro x1 t_at t_sort t_start t_value H locs ls hP hD hS hl h
      rw [mi_X12_token_l114] at h
      cases h
    | succ n_l114 ih_l114 =>
      intro x1 t_at t_sort t_start t_value H locs ls hP hD hS hl h
      rw [mi_X12_token_l114] at h
      refine lv_aload_n hx hb dX12_token_114 rfl (lv_at hl 0 rfl) ?_
      refine va_get (D := D) (ci := 12) (v := .int t_sort) (C := RX12) (T := TX12) (N := 18) hx hb hts hi_X12 hown hK hP 0 rfl rfl 11 (by decide) (hts (.fieldLink RX12 76 "TriangleRestModel" "sort" "I") (List.mem_of_getElem? (i := 3) rfl)) (fun _ h9 => h9) rfl dX12_token_115 ?_
      refine lv_iconst (v := (1 : Int32)) hx hb dX12_token_118 (by decide) ?_
      refine lv_icmp_ne (tgt := 154) hx hb dX12_token_119 (by decide) (fun c15 => ?_) (fun c15 => ?_)
      · have h := jx_f h c15
        exact bl_b154 x1 t_at t_sort t_start t_value _ _ _ hP hD hS (lv_sub hl [0, 1] rfl) h
      · have h := jx_t h c15
        refine lv_aload_n hx hb dX12_token_122 rfl (lv_at hl 0 rfl) ?_
        refine lv_aload_n hx hb dX12_token_123 rfl (lv_at hl 0 rfl) ?_
        refine va_get (D := D) (ci := 12) (v := .int t_at) (C := RX12) (T := TX12) (N := 18) hx hb hts hi_X12 hown hK hP 0 rfl rfl 10 (by decide) (hts (.fieldLink RX12 59 "TriangleRestModel" "at" "I") (List.mem_of_getElem? (i := 1) rfl)) (fun _ h9 => h9) rfl dX12_token_124 ?_
        obtain ⟨r16, e17, h⟩ := jx_b1_of h
        refine jx_cV (o := some (.int r16)) (As := [.int t_at]) (rest := []) (b := a_t) ⟨hx, hb, hml, hown, hts⟩ (ct_X12_byteAt l D cI cZ cO a_t a_t_text a_t_told a_t_draft a_t_s a_t_images a_t_kept a_t_notes a_t_players a_t_answers a_t_room a_t_inRest t_trace t_typed t_noted t_at t_sort t_start t_value t_text t_at r16 e17) (cwV 1 hts gX12_token_X12_byteAt rfl rfl rfl (by decide +kernel) ⟨Nat.le_of_ble_eq_true rfl, Nat.le_of_ble_eq_true rfl⟩) hK hN hP [0, 1] rfl (va_recv hK hP (ci := 12) (q0 := 0) rfl rfl) rfl hl.1 rfl (Nat.le_of_ble_eq_true rfl) dX12_token_127 ⟨Nat.zero_le _, Nat.zero_le _⟩ ?_
        obtain ⟨r18, e19, h⟩ := jx_b1_of h
        refine jx_cS (o := some (.int r18)) (As := [.int r16]) (rest := []) ⟨hx, hb, hml, hown, hts⟩ (ct_X12_isLetter l r16 r18 e19) (va_cwS 1 hts gX12_token_X12_isLetter rfl rfl rfl (by decide +kernel) ⟨Nat.le_of_ble_eq_true rfl, Nat.le_of_ble_eq_true rfl⟩) rfl hl.1 rfl (Nat.le_of_ble_eq_true rfl) dX12_token_130 ⟨Nat.zero_le _, Nat.zero_le _⟩ ?_
        refine lv_if_eq (tgt := 154) hx hb dX12_token_133 (by decide) (fun c20 => ?_) (fun c20 => ?_)
        · have h := jx_t h c20
          exact bl_b154 x1 t_at t_sort t_start t_value _ _ _ hP hD hS (lv_sub hl [0, 1] rfl) h
        · have h := jx_f h c20
          refine lv_aload_n hx hb dX12_token_136 rfl (lv_at hl 0 rfl) ?_
          refine lv_iconst (v := (0 : Int32)) hx hb dX12_token_137 (by decide) ?_
          refine va_put (D := D) (ci := 12) (v := .int (0 : Int32)) (ty := .int) (C := RX12) (T := TX12) (N := 18) hx hb hts hi_X12 tyX12 tyX12_ok nmX12 hown hK hP hD hS 0 rfl rfl 13 (by decide) (hts (.fieldLink RX12 79 "TriangleRestModel" "value" "I") (List.mem_of_getElem? (i := 4) rfl)) (fun _ h9 => h9) rfl (by decide +kernel) rfl rfl (Nat.le_of_ble_eq_true rfl) dX12_token_138 (fun H locs hP hD hS => ?_)
          have hP : va_P D vwCl [(a_t, .inr (12, [.long t_trace, .ref a_t_text, .int t_typed, .ref a_t_told, .ref a_t_draft, .ref a_t_s, .ref a_t_images, .ref a_t_kept, .ref a_t_notes, .int t_noted, .int t_at, .int t_sort, .int t_start, .int (0 : Int32), .ref a_t_players, .ref a_t_answers, .ref a_t_room, .ref a_t_inRest])), (a_t_text, .inl (cI, 120, .inl t_text))] H := hP
          have hD : va_D A [(a_t, .inr (12, [.long t_trace, .ref a_t_text, .int t_typed, .ref a_t_told, .ref a_t_draft, .ref a_t_s, .ref a_t_images, .ref a_t_kept, .ref a_t_notes, .int t_noted, .int t_at, .int t_sort, .int t_start, .int (0 : Int32), .ref a_t_players, .ref a_t_answers, .ref a_t_room, .ref a_t_inRest])), (a_t_text, .inl (cI, 120, .inl t_text))] := hD
          refine lv_aload_n hx hb dX12_token_141 rfl (lv_at hl 0 rfl) ?_
          refine lv_dup hx hb dX12_token_142 rfl ?_
          refine va_get (D := D) (ci := 12) (v := .int t_at) (C := RX12) (T := TX12) (N := 18) hx hb hts hi_X12 hown hK hP 0 rfl rfl 10 (by decide) (hts (.fieldLink RX12 59 "TriangleRestModel" "at" "I") (List.mem_of_getElem? (i := 1) rfl)) (fun _ h9 => h9) rfl dX12_token_143 ?_
          refine lv_iconst (v := (1 : Int32)) hx hb dX12_token_146 (by decide) ?_
          refine lv_iadd hx hb dX12_token_147 ?_
          refine va_put (D := D) (ci := 12) (v := .int (t_at + (1 : Int32))) (ty := .int) (C := RX12) (T := TX12) (N := 18) hx hb hts hi_X12 tyX12 tyX12_ok nmX12 hown hK hP hD hS 0 rfl rfl 10 (by decide) (hts (.fieldLink RX12 59 "TriangleRestModel" "at" "I") (List.mem_of_getElem? (i := 1) rfl)) (fun _ h9 => h9) rfl (by decide +kernel) rfl rfl (Nat.le_of_ble_eq_true rfl) dX12_token_148 (fun H locs hP hD hS => ?_)
          have hP : va_P D vwCl [(a_t, .inr (12, [.long t_trace, .ref a_t_text, .int t_typed, .ref a_t_told, .ref a_t_draft, .ref a_t_s, .ref a_t_images, .ref a_t_kept, .ref a_t_notes, .int t_noted, .int (t_at + (1 : Int32)), .int t_sort, .int t_start, .int (0 : Int32), .ref a_t_players, .ref a_t_answers, .ref a_t_room, .ref a_t_inRest])), (a_t_text, .inl (cI, 120, .inl t_text))] H := hP
          have hD : va_D A [(a_t, .inr (12, [.long t_trace, .ref a_t_text, .int t_typed, .ref a_t_told, .ref a_t_draft, .ref a_t_s, .ref a_t_images, .ref a_t_kept, .ref a_t_notes, .int t_noted, .int (t_at + (1 : Int32)), .int t_sort, .int t_start, .int (0 : Int32), .ref a_t_players, .ref a_t_answers, .ref a_t_room, .ref a_t_inRest])), (a_t_text, .inl (cI, 120, .inl t_text))] := hD
          refine lv_goto (tgt := 114) hx hb dX12_token_151 (by decide) ?_
          exact ih_l114 x1 (t_at + (1 : Int32)) t_sort t_start (0 : Int32) _ _ _ hP hD hS (lv_sub hl [0, 1] rfl) h
  have bl_b110 : ∀ (x1 : Int32) (k1 : Int32) (k2 : Int32) (t_at : Int32) (t_sort : Int32) (t_start : Int32) (t_value : Int32) (H : Heap) (locs : List Loc) (ls : Array Slot), va_P D vwCl [(a_t, .inr (12, [.long t_trace, .ref a_t_text, .int t_typed, .ref a_t_told, .ref a_t_draft, .ref a_t_s, .ref a_t_images, .ref a_t_kept, .ref a_t_notes, .int t_noted, .int t_at, .int t_sort, .int t_start, .int t_value, .ref a_t_players, .ref a_t_answers, .ref a_t_room, .ref a_t_inRest])), (a_t_text, .inl (cI, 120, .inl t_text))] H → va_D A [(a_t, .inr (12, [.long t_trace, .ref a_t_text, .int t_typed, .ref a_t_told, .ref a_t_draft, .ref a_t_s, .ref a_t_images, .ref a_t_kept, .ref a_t_notes, .int t_noted, .int t_at, .int t_sort, .int t_start, .int t_value, .ref a_t_players, .ref a_t_answers, .ref a_t_room, .ref a_t_inRest])), (a_t_text, .inl (cI, 120, .inl t_text))] → va_S A s.heap H locs → lv_has ls 2 [(0, .ref a_t), (1, .int x1)] → mi_X12_token_b110 t_typed t_text x1 k1 k2 t_at t_sort t_start t_value = some (z_t_at, z_t_sort, z_t_start, z_t_value) → W p l e (headSpec wsX12_token rm_X12_token).room s m args below meth c H locs 0 0 Q (F0 m 110 ls [.int k2, .int k1, .ref a_t]) := by
    intro x1 k1 k2 t_at t_sort t_start t_value H locs ls hP hD hS hl h
    unfold mi_X12_token_b110 at h
    refine lv_iadd hx hb dX12_token_110 ?_
    refine va_put (D := D) (ci := 12) (v := .int (k1 + k2)) (ty := .int) (C := RX12) (T := TX12) (N := 18) hx hb hts hi_X12 tyX12 tyX12_ok nmX12 hown hK hP hD hS 0 rfl rfl 10 (by decide) (hts (.fieldLink RX12 59 "TriangleRestModel" "at" "I") (List.mem_of_getElem? (i := 1) rfl)) (fun _ h9 => h9) rfl (by decide +kernel) rfl rfl (Nat.le_of_ble_eq_true rfl) dX12_token_111 (fun H locs hP hD hS => ?_)
    have hP : va_P D vwCl [(a_t, .inr (12, [.long t_trace, .ref a_t_text, .int t_typed, .ref a_t_told, .ref a_t_draft, .ref a_t_s, .ref a_t_images, .ref a_t_kept, .ref a_t_notes, .int t_noted, .int (k1 + k2), .int t_sort, .int t_start, .int t_value, .ref a_t_players, .ref a_t_answers, .ref a_t_room, .ref a_t_inRest])), (a_t_text, .inl (cI, 120, .inl t_text))] H := hP
    have hD : va_D A [(a_t, .inr (12, [.long t_trace, .ref a_t_text, .int t_typed, .ref a_t_told, .ref a_t_draft, .ref a_t_s, .ref a_t_images, .ref a_t_kept, .ref a_t_notes, .int t_noted, .int (k1 + k2), .int t_sort, .int t_start, .int t_value, .ref a_t_players, .ref a_t_answers, .ref a_t_room, .ref a_t_inRest])), (a_t_text, .inl (cI, 120, .inl t_text))] := hD
    exact bl_l114 jx_F x1 (k1 + k2) t_sort t_start t_value _ _ _ hP hD hS (lv_sub hl [0, 1] rfl) h
  have bl_b85 : ∀ (x1 : Int32) (k1 : Int32) (t_at : Int32) (t_sort : Int32) (t_start : Int32) (t_value : Int32) (H : Heap) (locs : List Loc) (ls : Array Slot), va_P D vwCl [(a_t, .inr (12, [.long t_trace, .ref a_t_text, .int t_typed, .ref a_t_told, .ref a_t_draft, .ref a_t_s, .ref a_t_images, .ref a_t_kept, .ref a_t_notes, .int t_noted, .int t_at, .int t_sort, .int t_start, .int t_value, .ref a_t_players, .ref a_t_answers, .ref a_t_room, .ref a_t_inRest])), (a_t_text, .inl (cI, 120, .inl t_text))] H → va_D A [(a_t, .inr (12, [.long t_trace, .ref a_t_text, .int t_typed, .ref a_t_told, .ref a_t_draft, .ref a_t_s, .ref a_t_images, .ref a_t_kept, .ref a_t_notes, .int t_noted, .int t_at, .int t_sort, .int t_start, .int t_value, .ref a_t_players, .ref a_t_answers, .ref a_t_room, .ref a_t_inRest])), (a_t_text, .inl (cI, 120, .inl t_text))] → va_S A s.heap H locs → lv_has ls 2 [(0, .ref a_t), (1, .int x1)] → mi_X12_token_b85 t_typed t_text x1 k1 t_at t_sort t_start t_value = some (z_t_at, z_t_sort, z_t_start, z_t_value) → W p l e (headSpec wsX12_token rm_X12_token).room s m args below meth c H locs 0 0 Q (F0 m 85 ls [.int k1, .ref a_t]) := by
    intro x1 k1 t_at t_sort t_start t_value H locs ls hP hD hS hl h
    unfold mi_X12_token_b85 at h
    refine va_put (D := D) (ci := 12) (v := .int k1) (ty := .int) (C := RX12) (T := TX12) (N := 18) hx hb hts hi_X12 tyX12 tyX12_ok nmX12 hown hK hP hD hS 0 rfl rfl 11 (by decide) (hts (.fieldLink RX12 76 "TriangleRestModel" "sort" "I") (List.mem_of_getElem? (i := 3) rfl)) (fun _ h9 => h9) rfl (by decide +kernel) rfl rfl (Nat.le_of_ble_eq_true rfl) dX12_token_85 (fun H locs hP hD hS => ?_)
    have hP : va_P D vwCl [(a_t, .inr (12, [.long t_trace, .ref a_t_text, .int t_typed, .ref a_t_told, .ref a_t_draft, .ref a_t_s, .ref a_t_images, .ref a_t_kept, .ref a_t_notes, .int t_noted, .int t_at, .int k1, .int t_start, .int t_value, .ref a_t_players, .ref a_t_answers, .ref a_t_room, .ref a_t_inRest])), (a_t_text, .inl (cI, 120, .inl t_text))] H := hP
    have hD : va_D A [(a_t, .inr (12, [.long t_trace, .ref a_t_text, .int t_typed, .ref a_t_told, .ref a_t_draft, .ref a_t_s, .ref a_t_images, .ref a_t_kept, .ref a_t_notes, .int t_noted, .int t_at, .int k1, .int t_start, .int t_value, .ref a_t_players, .ref a_t_answers, .ref a_t_room, .ref a_t_inRest])), (a_t_text, .inl (cI, 120, .inl t_text))] := hD
    refine lv_aload_n hx hb dX12_token_88 rfl (lv_at hl 0 rfl) ?_
    refine lv_iload_n hx hb dX12_token_89 rfl (lv_at hl 1 rfl) ?_
    refine va_put (D := D) (ci := 12) (v := .int x1) (ty := .int) (C := RX12) (T := TX12) (N := 18) hx hb hts hi_X12 tyX12 tyX12_ok nmX12 hown hK hP hD hS 0 rfl rfl 13 (by decide) (hts (.fieldLink RX12 79 "TriangleRestModel" "value" "I") (List.mem_of_getElem? (i := 4) rfl)) (fun _ h9 => h9) rfl (by decide +kernel) rfl rfl (Nat.le_of_ble_eq_true rfl) dX12_token_90 (fun H locs hP hD hS => ?_)
    have hP : va_P D vwCl [(a_t, .inr (12, [.long t_trace, .ref a_t_text, .int t_typed, .ref a_t_told, .ref a_t_draft, .ref a_t_s, .ref a_t_images, .ref a_t_kept, .ref a_t_notes, .int t_noted, .int t_at, .int k1, .int t_start, .int x1, .ref a_t_players, .ref a_t_answers, .ref a_t_room, .ref a_t_inRest])), (a_t_text, .inl (cI, 120, .inl t_text))] H := hP
    have hD : va_D A [(a_t, .inr (12, [.long t_trace, .ref a_t_text, .int t_typed, .ref a_t_told, .ref a_t_draft, .ref a_t_s, .ref a_t_images, .ref a_t_kept, .ref a_t_notes, .int t_noted, .int t_at, .int k1, .int t_start, .int x1, .ref a_t_players, .ref a_t_answers, .ref a_t_room, .ref a_t_inRest])), (a_t_text, .inl (cI, 120, .inl t_text))] := hD
    refine lv_aload_n hx hb dX12_token_93 rfl (lv_at hl 0 rfl) ?_
    refine lv_dup hx hb dX12_token_94 rfl ?_
    refine va_get (D := D) (ci := 12) (v := .int t_at) (C := RX12) (T := TX12) (N := 18) hx hb hts hi_X12 hown hK hP 0 rfl rfl 10 (by decide) (hts (.fieldLink RX12 59 "TriangleRestModel" "at" "I") (List.mem_of_getElem? (i := 1) rfl)) (fun _ h9 => h9) rfl dX12_token_95 ?_
    refine lv_aload_n hx hb dX12_token_98 rfl (lv_at hl 0 rfl) ?_
    refine va_get (D := D) (ci := 12) (v := .int k1) (C := RX12) (T := TX12) (N := 18) hx hb hts hi_X12 hown hK hP 0 rfl rfl 11 (by decide) (hts (.fieldLink RX12 76 "TriangleRestModel" "sort" "I") (List.mem_of_getElem? (i := 3) rfl)) (fun _ h9 => h9) rfl dX12_token_99 ?_
    refine lv_if_ne (tgt := 109) hx hb dX12_token_102 (by decide) (fun c14 => ?_) (fun c14 => ?_)
    · have h := jx_f h c14
      refine lv_iconst (v := (1 : Int32)) hx hb dX12_token_109 (by decide) ?_
      exact bl_b110 x1 t_at (1 : Int32) t_at k1 t_start x1 _ _ _ hP hD hS (lv_sub hl [0, 1] rfl) h
    · have h := jx_t h c14
      refine lv_iconst (v := (0 : Int32)) hx hb dX12_token_105 (by decide) ?_
      refine lv_goto (tgt := 110) hx hb dX12_token_106 (by decide) ?_
      exact bl_b110 x1 t_at (0 : Int32) t_at k1 t_start x1 _ _ _ hP hD hS (lv_sub hl [0, 1] rfl) h
  have bl_l0 : ∀ (n : Nat) (t_at : Int32) (t_sort : Int32) (t_start : Int32) (t_value : Int32) (H : Heap) (locs : List Loc) (ls : Array Slot), va_P D vwCl [(a_t, .inr (12, [.long t_trace, .ref a_t_text, .int t_typed, .ref a_t_told, .ref a_t_draft, .ref a_t_s, .ref a_t_images, .ref a_t_kept, .ref a_t_notes, .int t_noted, .int t_at, .int t_sort, .int t_start, .int t_value, .ref a_t_players, .ref a_t_answers, .ref a_t_room, .ref a_t_inRest])), (a_t_text, .inl (cI, 120, .inl t_text))] H → va_D A [(a_t, .inr (12, [.long t_trace, .ref a_t_text, .int t_typed, .ref a_t_told, .ref a_t_draft, .ref a_t_s, .ref a_t_images, .ref a_t_kept, .ref a_t_notes, .int t_noted, .int t_at, .int t_sort, .int t_start, .int t_value, .ref a_t_players, .ref a_t_answers, .ref a_t_room, .ref a_t_inRest])), (a_t_text, .inl (cI, 120, .inl t_text))] → va_S A s.heap H locs → lv_has ls 2 [(0, .ref a_t)] → mi_X12_token_l0 t_typed t_text n t_at t_sort t_start t_value = some (z_t_at, z_t_sort, z_t_start, z_t_value) → W p l e (headSpec wsX12_token rm_X12_token).room s m args below meth c H locs 0 0 Q (F0 m 0 ls []) := by
    intro n
    induction n with
    | zero =>
      intro t_at t_sort t_start t_value H locs ls hP hD hS hl h
      rw [mi_X12_token_l0] at h
      cases h
    | succ n_l0 ih_l0 =>
      intro t_at t_sort t_start t_value H locs ls hP hD hS hl h
      rw [mi_X12_token_l0] at h
      refine lv_aload_n hx hb dX12_token_0 rfl (lv_at hl 0 rfl) ?_
      refine lv_aload_n hx hb dX12_token_1 rfl (lv_at hl 0 rfl) ?_
      refine va_get (D := D) (ci := 12) (v := .int t_at) (C := RX12) (T := TX12) (N := 18) hx hb hts hi_X12 hown hK hP 0 rfl rfl 10 (by decide) (hts (.fieldLink RX12 59 "TriangleRestModel" "at" "I") (List.mem_of_getElem? (i := 1) rfl)) (fun _ h9 => h9) rfl dX12_token_2 ?_
      obtain ⟨r1, e2, h⟩ := jx_b1_of h
      refine jx_cV (o := some (.int r1)) (As := [.int t_at]) (rest := []) (b := a_t) ⟨hx, hb, hml, hown, hts⟩ (ct_X12_byteAt l D cI cZ cO a_t a_t_text a_t_told a_t_draft a_t_s a_t_images a_t_kept a_t_notes a_t_players a_t_answers a_t_room a_t_inRest t_trace t_typed t_noted t_at t_sort t_start t_value t_text t_at r1 e2) (cwV 1 hts gX12_token_X12_byteAt rfl rfl rfl (by decide +kernel) ⟨Nat.le_of_ble_eq_true rfl, Nat.le_of_ble_eq_true rfl⟩) hK hN hP [0, 1] rfl (va_recv hK hP (ci := 12) (q0 := 0) rfl rfl) rfl hl.1 rfl (Nat.le_of_ble_eq_true rfl) dX12_token_5 ⟨Nat.zero_le _, Nat.zero_le _⟩ ?_
      refine lv_bipush (v := (32 : Int32)) hx hb dX12_token_8 (by decide) ?_
      refine lv_icmp_ne (tgt := 26) hx hb dX12_token_10 (by decide) (fun c3 => ?_) (fun c3 => ?_)
      · have h := jx_f h c3
        refine lv_aload_n hx hb dX12_token_26 rfl (lv_at hl 0 rfl) ?_
        refine lv_aload_n hx hb dX12_token_27 rfl (lv_at hl 0 rfl) ?_
        refine va_get (D := D) (ci := 12) (v := .int t_at) (C := RX12) (T := TX12) (N := 18) hx hb hts hi_X12 hown hK hP 0 rfl rfl 10 (by decide) (hts (.fieldLink RX12 59 "TriangleRestModel" "at" "I") (List.mem_of_getElem? (i := 1) rfl)) (fun _ h9 => h9) rfl dX12_token_28 ?_
        refine va_put (D := D) (ci := 12) (v := .int t_at) (ty := .int) (C := RX12) (T := TX12) (N := 18) hx hb hts hi_X12 tyX12 tyX12_ok nmX12 hown hK hP hD hS 0 rfl rfl 12 (by decide) (hts (.fieldLink RX12 66 "TriangleRestModel" "start" "I") (List.mem_of_getElem? (i := 2) rfl)) (fun _ h9 => h9) rfl (by decide +kernel) rfl rfl (Nat.le_of_ble_eq_true rfl) dX12_token_31 (fun H locs hP hD hS => ?_)
        have hP : va_P D vwCl [(a_t, .inr (12, [.long t_trace, .ref a_t_text, .int t_typed, .ref a_t_told, .ref a_t_draft, .ref a_t_s, .ref a_t_images, .ref a_t_kept, .ref a_t_notes, .int t_noted, .int t_at, .int t_sort, .int t_at, .int t_value, .ref a_t_players, .ref a_t_answers, .ref a_t_room, .ref a_t_inRest])), (a_t_text, .inl (cI, 120, .inl t_text))] H := hP
        have hD : va_D A [(a_t, .inr (12, [.long t_trace, .ref a_t_text, .int t_typed, .ref a_t_told, .ref a_t_draft, .ref a_t_s, .ref a_t_images, .ref a_t_kept, .ref a_t_notes, .int t_noted, .int t_at, .int t_sort, .int t_at, .int t_value, .ref a_t_players, .ref a_t_answers, .ref a_t_room, .ref a_t_inRest])), (a_t_text, .inl (cI, 120, .inl t_text))] := hD
        refine lv_aload_n hx hb dX12_token_34 rfl (lv_at hl 0 rfl) ?_
        refine lv_aload_n hx hb dX12_token_35 rfl (lv_at hl 0 rfl) ?_
        refine va_get (D := D) (ci := 12) (v := .int t_at) (C := RX12) (T := TX12) (N := 18) hx hb hts hi_X12 hown hK hP 0 rfl rfl 10 (by decide) (hts (.fieldLink RX12 59 "TriangleRestModel" "at" "I") (List.mem_of_getElem? (i := 1) rfl)) (fun _ h9 => h9) rfl dX12_token_36 ?_
        obtain ⟨r4, e5, h⟩ := jx_b1_of h
        refine jx_cV (o := some (.int r4)) (As := [.int t_at]) (rest := []) (b := a_t) ⟨hx, hb, hml, hown, hts⟩ (ct_X12_byteAt l D cI cZ cO a_t a_t_text a_t_told a_t_draft a_t_s a_t_images a_t_kept a_t_notes a_t_players a_t_answers a_t_room a_t_inRest t_trace t_typed t_noted t_at t_sort t_at t_value t_text t_at r4 e5) (cwV 1 hts gX12_token_X12_byteAt rfl rfl rfl (by decide +kernel) ⟨Nat.le_of_ble_eq_true rfl, Nat.le_of_ble_eq_true rfl⟩) hK hN hP [0, 1] rfl (va_recv hK hP (ci := 12) (q0 := 0) rfl rfl) rfl hl.1 rfl (Nat.le_of_ble_eq_true rfl) dX12_token_39 ⟨Nat.zero_le _, Nat.zero_le _⟩ ?_
        refine lv_istore_n (lv' := [(1, .int r4), (0, .ref a_t)]) hx hb dX12_token_42 rfl hl (by decide) rfl (fun ls hl => ?_)
        refine lv_aload_n hx hb dX12_token_43 rfl (lv_at hl 1 rfl) ?_
        refine lv_iload_n hx hb dX12_token_44 rfl (lv_at hl 0 rfl) ?_
        refine lv_if_ge (tgt := 52) hx hb dX12_token_45 (by decide) (fun c6 => ?_) (fun c6 => ?_)
        · have h := jx_t h c6
          refine lv_iload_n hx hb dX12_token_52 rfl (lv_at hl 0 rfl) ?_
          obtain ⟨r7, e8, h⟩ := jx_b1_of h
          refine jx_cS (o := some (.int r7)) (As := [.int r4]) (rest := [.ref a_t]) ⟨hx, hb, hml, hown, hts⟩ (ct_X12_isLetter l r4 r7 e8) (va_cwS 1 hts gX12_token_X12_isLetter rfl rfl rfl (by decide +kernel) ⟨Nat.le_of_ble_eq_true rfl, Nat.le_of_ble_eq_true rfl⟩) rfl hl.1 rfl (Nat.le_of_ble_eq_true rfl) dX12_token_53 ⟨Nat.zero_le _, Nat.zero_le _⟩ ?_
          refine lv_if_eq (tgt := 63) hx hb dX12_token_56 (by decide) (fun c9 => ?_) (fun c9 => ?_)
          · have h := jx_t h c9
            refine lv_iload_n hx hb dX12_token_63 rfl (lv_at hl 0 rfl) ?_
            obtain ⟨r10, e11, h⟩ := jx_b1_of h
            refine jx_cS (o := some (.int r10)) (As := [.int r4]) (rest := [.ref a_t]) ⟨hx, hb, hml, hown, hts⟩ (ct_X12_isDigit l r4 r10 e11) (va_cwS 1 hts gX12_token_X12_isDigit rfl rfl rfl (by decide +kernel) ⟨Nat.le_of_ble_eq_true rfl, Nat.le_of_ble_eq_true rfl⟩) rfl hl.1 rfl (Nat.le_of_ble_eq_true rfl) dX12_token_64 ⟨Nat.zero_le _, Nat.zero_le _⟩ ?_
            refine lv_if_eq (tgt := 74) hx hb dX12_token_67 (by decide) (fun c12 => ?_) (fun c12 => ?_)
            · have h := jx_t h c12
              refine lv_iload_n hx hb dX12_token_74 rfl (lv_at hl 0 rfl) ?_
              refine lv_bipush (v := (59 : Int32)) hx hb dX12_token_75 (by decide) ?_
              refine lv_icmp_ne (tgt := 84) hx hb dX12_token_77 (by decide) (fun c13 => ?_) (fun c13 => ?_)
              · have h := jx_f h c13
                refine lv_iconst (v := (4 : Int32)) hx hb dX12_token_84 (by decide) ?_
                exact bl_b85 r4 (4 : Int32) t_at t_sort t_at t_value _ _ _ hP hD hS (lv_sub hl [1, 0] rfl) h
              · have h := jx_t h c13
                refine lv_iconst (v := (3 : Int32)) hx hb dX12_token_80 (by decide) ?_
                refine lv_goto (tgt := 85) hx hb dX12_token_81 (by decide) ?_
                exact bl_b85 r4 (3 : Int32) t_at t_sort t_at t_value _ _ _ hP hD hS (lv_sub hl [1, 0] rfl) h
            · have h := jx_f h c12
              refine lv_iconst (v := (2 : Int32)) hx hb dX12_token_70 (by decide) ?_
              refine lv_goto (tgt := 85) hx hb dX12_token_71 (by decide) ?_
              exact bl_b85 r4 (2 : Int32) t_at t_sort t_at t_value _ _ _ hP hD hS (lv_sub hl [1, 0] rfl) h
          · have h := jx_f h c9
            refine lv_iconst (v := (1 : Int32)) hx hb dX12_token_59 (by decide) ?_
            refine lv_goto (tgt := 85) hx hb dX12_token_60 (by decide) ?_
            exact bl_b85 r4 (1 : Int32) t_at t_sort t_at t_value _ _ _ hP hD hS (lv_sub hl [1, 0] rfl) h
        · have h := jx_f h c6
          refine lv_iconst (v := (0 : Int32)) hx hb dX12_token_48 (by decide) ?_
          refine lv_goto (tgt := 85) hx hb dX12_token_49 (by decide) ?_
          exact bl_b85 r4 (0 : Int32) t_at t_sort t_at t_value _ _ _ hP hD hS (lv_sub hl [1, 0] rfl) h
      · have h := jx_t h c3
        refine lv_aload_n hx hb dX12_token_13 rfl (lv_at hl 0 rfl) ?_
        refine lv_dup hx hb dX12_token_14 rfl ?_
        refine va_get (D := D) (ci := 12) (v := .int t_at) (C := RX12) (T := TX12) (N := 18) hx hb hts hi_X12 hown hK hP 0 rfl rfl 10 (by decide) (hts (.fieldLink RX12 59 "TriangleRestModel" "at" "I") (List.mem_of_getElem? (i := 1) rfl)) (fun _ h9 => h9) rfl dX12_token_15 ?_
        refine lv_iconst (v := (1 : Int32)) hx hb dX12_token_18 (by decide) ?_
        refine lv_iadd hx hb dX12_token_19 ?_
        refine va_put (D := D) (ci := 12) (v := .int (t_at + (1 : Int32))) (ty := .int) (C := RX12) (T := TX12) (N := 18) hx hb hts hi_X12 tyX12 tyX12_ok nmX12 hown hK hP hD hS 0 rfl rfl 10 (by decide) (hts (.fieldLink RX12 59 "TriangleRestModel" "at" "I") (List.mem_of_getElem? (i := 1) rfl)) (fun _ h9 => h9) rfl (by decide +kernel) rfl rfl (Nat.le_of_ble_eq_true rfl) dX12_token_20 (fun H locs hP hD hS => ?_)
        have hP : va_P D vwCl [(a_t, .inr (12, [.long t_trace, .ref a_t_text, .int t_typed, .ref a_t_told, .ref a_t_draft, .ref a_t_s, .ref a_t_images, .ref a_t_kept, .ref a_t_notes, .int t_noted, .int (t_at + (1 : Int32)), .int t_sort, .int t_start, .int t_value, .ref a_t_players, .ref a_t_answers, .ref a_t_room, .ref a_t_inRest])), (a_t_text, .inl (cI, 120, .inl t_text))] H := hP
        have hD : va_D A [(a_t, .inr (12, [.long t_trace, .ref a_t_text, .int t_typed, .ref a_t_told, .ref a_t_draft, .ref a_t_s, .ref a_t_images, .ref a_t_kept, .ref a_t_notes, .int t_noted, .int (t_at + (1 : Int32)), .int t_sort, .int t_start, .int t_value, .ref a_t_players, .ref a_t_answers, .ref a_t_room, .ref a_t_inRest])), (a_t_text, .inl (cI, 120, .inl t_text))] := hD
        refine lv_goto (tgt := 0) hx hb dX12_token_23 (by decide) ?_
        exact ih_l0 (t_at + (1 : Int32)) t_sort t_start t_value _ _ _ hP hD hS (lv_sub hl [0] rfl) h
  have h := hm
  unfold mi_X12_token at h
  exact bl_l0 jx_F t_at t_sort t_start t_value _ _ _ hP hD hS (lv_sub hl [0] rfl) h
def mi_X12_number (t_typed : Int32) (t_at : Int32) (t_sort : Int32) (t_start : Int32) (t_value : Int32) (t_text : Nat → Int32) (t_draft : Nat → Int32) (p1 : Int32) (p2 : Int32) (p3 : Int32) : Option (Int32 × Int32 × Int32 × Int32 × Int32 × (Nat → Int32)) := jx_b4 (mi_X12_token t_typed t_at t_sort t_start t_value t_text) fun t_at_1 t_sort_2 t_start_3 t_value_4 => (jx_g (jx_in p1 36) (if t_sort_2 = (2 : Int32) then (jx_b1 (mi_X12_in t_value_4 p2 p3) fun r8 => (if r8 = 0 then (some ((0 : Int32), t_at_1, t_sort_2, t_start_3, t_value_4, (upd t_draft (Int32.toNatClampNeg p1) t_value_4))) else (some ((1 : Int32), t_at_1, t_sort_2, t_start_3, t_value_4, (upd t_draft (Int32.toNatClampNeg p1) t_value_4))))) else (some ((0 : Int32), t_at_1, t_sort_2, t_start_3, t_value_4, (upd t_draft (Int32.toNatClampNeg p1) t_value_4)))))
abbrev rm_X12_number : Room := { frames := 3, cells := 0, slots := 0, locals := 63 }
set_option maxRecDepth 100000 in
set_option maxHeartbeats 4000000 in
theorem ct_X12_number (l : Launch) (D : va_G) (cI cZ cO : ClassId) (a_t a_t_text a_t_told a_t_draft a_t_s a_t_images a_t_kept a_t_notes a_t_players a_t_answers a_t_room a_t_inRest : Nat) (sz : Nat) (t_trace : Int64) (t_typed : Int32) (t_noted : Int32) (t_at : Int32) (t_sort : Int32) (t_start : Int32) (t_value : Int32) (t_text : Nat → Int32) (t_draft : Nat → Int32) (p1 : Int32) (p2 : Int32) (p3 : Int32) (r : Int32) (z_t_at : Int32) (z_t_sort : Int32) (z_t_start : Int32) (z_t_value : Int32) (z_t_draft : Nat → Int32) (hm : mi_X12_number t_typed t_at t_sort t_start t_value t_text t_draft p1 p2 p3 = some (r, z_t_at, z_t_sort, z_t_start, z_t_value, z_t_draft)) : Met l yX12_number wsX12_number rm_X12_number (va_Pc [.ref a_t, .int p1, .int p2, .int p3] (jx_W D (jx_T cI cZ cO) sz [(a_t, .inr (12, [.long t_trace, .ref a_t_text, .int t_typed, .ref a_t_told, .ref a_t_draft, .ref a_t_s, .ref a_t_images, .ref a_t_kept, .ref a_t_notes, .int t_noted, .int t_at, .int t_sort, .int t_start, .int t_value, .ref a_t_players, .ref a_t_answers, .ref a_t_room, .ref a_t_inRest])), (a_t_text, .inl (cI, 120, .inl t_text)), (a_t_draft, .inl (cI, 36, .inl t_draft))])) (jx_Q (some (.int r)) D [(a_t, .inr (12, [.long t_trace, .ref a_t_text, .int t_typed, .ref a_t_told, .ref a_t_draft, .ref a_t_s, .ref a_t_images, .ref a_t_kept, .ref a_t_notes, .int t_noted, .int z_t_at, .int z_t_sort, .int z_t_start, .int z_t_value, .ref a_t_players, .ref a_t_answers, .ref a_t_room, .ref a_t_inRest])), (a_t_text, .inl (cI, 120, .inl t_text)), (a_t_draft, .inl (cI, 36, .inl z_t_draft))] (va_A [(a_t, .inr (12, [.long t_trace, .ref a_t_text, .int t_typed, .ref a_t_told, .ref a_t_draft, .ref a_t_s, .ref a_t_images, .ref a_t_kept, .ref a_t_notes, .int t_noted, .int t_at, .int t_sort, .int t_start, .int t_value, .ref a_t_players, .ref a_t_answers, .ref a_t_room, .ref a_t_inRest])), (a_t_text, .inl (cI, 120, .inl t_text)), (a_t_draft, .inl (cI, 36, .inl t_draft))] sz)) 0 0 (va_A [(a_t, .inr (12, [.long t_trace, .ref a_t_text, .int t_typed, .ref a_t_told, .ref a_t_draft, .ref a_t_s, .ref a_t_images, .ref a_t_kept, .ref a_t_notes, .int t_noted, .int t_at, .int t_sort, .int t_start, .int t_value, .ref a_t_players, .ref a_t_answers, .ref a_t_room, .ref a_t_inRest])), (a_t_text, .inl (cI, 120, .inl t_text)), (a_t_draft, .inl (cI, 36, .inl t_draft))] sz) := by
  refine jx_metW (ty := .boolean) (own := RX12) (cc := cX12_number) (maxL := 4) (by decide) rfl rfl (Nat.le_of_ble_eq_true rfl) ?_
  intro p e s m args below meth c Q ls A hx hb hml hown hts hK hN hA hP hD hS hl hret
  have hi_X12 : ∀ w ∈ u_ws RX12 TX12 18, w ∈ wsX12_number := by decide +kernel
  have hl : lv_has ls 4 [(0, .ref a_t), (1, .int p1), (2, .int p2), (3, .int p3)] := hl
  have h := hm
  unfold mi_X12_number at h
  refine lv_aload_n hx hb dX12_number_0 rfl (lv_at hl 0 rfl) ?_
  obtain ⟨t_at_1, t_sort_2, t_start_3, t_value_4, e5, h⟩ := jx_b4_of h
  refine jx_cW (o := none) (As := []) (rest := []) (b := a_t) (wr := [(a_t_draft, .inl (cI, 36, .inl t_draft))]) (wd' := [(a_t, .inr (12, [.long t_trace, .ref a_t_text, .int t_typed, .ref a_t_told, .ref a_t_draft, .ref a_t_s, .ref a_t_images, .ref a_t_kept, .ref a_t_notes, .int t_noted, .int t_at_1, .int t_sort_2, .int t_start_3, .int t_value_4, .ref a_t_players, .ref a_t_answers, .ref a_t_room, .ref a_t_inRest])), (a_t_text, .inl (cI, 120, .inl t_text)), (a_t_draft, .inl (cI, 36, .inl t_draft))]) ⟨hx, hb, hml, hown, hts⟩ (ct_X12_token l D cI cZ cO a_t a_t_text a_t_told a_t_draft a_t_s a_t_images a_t_kept a_t_notes a_t_players a_t_answers a_t_room a_t_inRest s.heap.size t_trace t_typed t_noted t_at t_sort t_start t_value t_text t_at_1 t_sort_2 t_start_3 t_value_4 e5) (cwV 0 hts gX12_number_X12_token rfl rfl rfl (by decide +kernel) ⟨Nat.le_of_ble_eq_true rfl, Nat.le_of_ble_eq_true rfl⟩) hK hN hP hD hS hA [0, 1] [2] (by decide) rfl rfl (by decide) (by decide) rfl (va_recv hK hP (ci := 12) (q0 := 0) rfl rfl) rfl hl.1 rfl (Nat.le_of_ble_eq_true rfl) dX12_number_1 ⟨Nat.zero_le _, Nat.zero_le _⟩ [1, 2, 0] (by decide) rfl (fun H locs hP hD hS => ?_)
  refine lv_aload_n hx hb dX12_number_4 rfl (lv_at hl 0 rfl) ?_
  refine va_get (D := D) (ci := 12) (v := .ref a_t_draft) (C := RX12) (T := TX12) (N := 18) hx hb hts hi_X12 hown hK hP 0 rfl rfl 4 (by decide) (hts (.fieldLink RX12 16 "TriangleRestModel" "draft" "[I") (List.mem_of_getElem? (i := 1) rfl)) (fun _ h9 => h9) rfl dX12_number_5 ?_
  refine lv_iload_n hx hb dX12_number_8 rfl (lv_at hl 1 rfl) ?_
  refine lv_aload_n hx hb dX12_number_9 rfl (lv_at hl 0 rfl) ?_
  refine va_get (D := D) (ci := 12) (v := .int t_value_4) (C := RX12) (T := TX12) (N := 18) hx hb hts hi_X12 hown hK hP 0 rfl rfl 13 (by decide) (hts (.fieldLink RX12 79 "TriangleRestModel" "value" "I") (List.mem_of_getElem? (i := 2) rfl)) (fun _ h9 => h9) rfl dX12_number_10 ?_
  obtain ⟨g6, h⟩ := jx_g_of h
  refine va_iast hx hb hK hP hD hS 2 0 rfl rfl (jx_in_of g6) dX12_number_13 (fun H locs hP hD hS => ?_)
  have hP : va_P D vwCl [(a_t, .inr (12, [.long t_trace, .ref a_t_text, .int t_typed, .ref a_t_told, .ref a_t_draft, .ref a_t_s, .ref a_t_images, .ref a_t_kept, .ref a_t_notes, .int t_noted, .int t_at_1, .int t_sort_2, .int t_start_3, .int t_value_4, .ref a_t_players, .ref a_t_answers, .ref a_t_room, .ref a_t_inRest])), (a_t_text, .inl (cI, 120, .inl t_text)), (a_t_draft, .inl (cI, 36, .inl (upd t_draft (Int32.toNatClampNeg p1) t_value_4)))] H := hP
  have hD : va_D A [(a_t, .inr (12, [.long t_trace, .ref a_t_text, .int t_typed, .ref a_t_told, .ref a_t_draft, .ref a_t_s, .ref a_t_images, .ref a_t_kept, .ref a_t_notes, .int t_noted, .int t_at_1, .int t_sort_2, .int t_start_3, .int t_value_4, .ref a_t_players, .ref a_t_answers, .ref a_t_room, .ref a_t_inRest])), (a_t_text, .inl (cI, 120, .inl t_text)), (a_t_draft, .inl (cI, 36, .inl (upd t_draft (Int32.toNatClampNeg p1) t_value_4)))] := hD
  refine lv_aload_n hx hb dX12_number_14 rfl (lv_at hl 0 rfl) ?_
  refine va_get (D := D) (ci := 12) (v := .int t_sort_2) (C := RX12) (T := TX12) (N := 18) hx hb hts hi_X12 hown hK hP 0 rfl rfl 11 (by decide) (hts (.fieldLink RX12 76 "TriangleRestModel" "sort" "I") (List.mem_of_getElem? (i := 3) rfl)) (fun _ h9 => h9) rfl dX12_number_15 ?_
  refine lv_iconst (v := (2 : Int32)) hx hb dX12_number_18 (by decide) ?_
  refine lv_icmp_ne (tgt := 38) hx hb dX12_number_19 (by decide) (fun c7 => ?_) (fun c7 => ?_)
  · have h := jx_f h c7
    refine lv_iconst (v := (0 : Int32)) hx hb dX12_number_38 (by decide) ?_
    have hq_0 := Option.some.inj h
    obtain ⟨hz_1, hq_1⟩ := Prod.mk.inj hq_0
    obtain ⟨hz_2, hq_2⟩ := Prod.mk.inj hq_1
    obtain ⟨hz_3, hq_3⟩ := Prod.mk.inj hq_2
    obtain ⟨hz_4, hq_4⟩ := Prod.mk.inj hq_3
    obtain ⟨hz_5, hq_5⟩ := Prod.mk.inj hq_4
    subst hz_1
    subst hz_2
    subst hz_3
    subst hz_4
    subst hz_5
    subst hq_5
    exact hret 39 ls _ _ hP hD hS rfl dX12_number_39
  · have h := jx_t h c7
    refine lv_aload_n hx hb dX12_number_22 rfl (lv_at hl 0 rfl) ?_
    refine va_get (D := D) (ci := 12) (v := .int t_value_4) (C := RX12) (T := TX12) (N := 18) hx hb hts hi_X12 hown hK hP 0 rfl rfl 13 (by decide) (hts (.fieldLink RX12 79 "TriangleRestModel" "value" "I") (List.mem_of_getElem? (i := 2) rfl)) (fun _ h9 => h9) rfl dX12_number_23 ?_
    refine lv_iload_n hx hb dX12_number_26 rfl (lv_at hl 2 rfl) ?_
    refine lv_iload_n hx hb dX12_number_27 rfl (lv_at hl 3 rfl) ?_
    obtain ⟨r8, e9, h⟩ := jx_b1_of h
    refine jx_cS (o := some (.int r8)) (As := [.int t_value_4, .int p2, .int p3]) (rest := []) ⟨hx, hb, hml, hown, hts⟩ (ct_X12_in l t_value_4 p2 p3 r8 e9) (va_cwS 3 hts gX12_number_X12_in rfl rfl rfl (by decide +kernel) ⟨Nat.le_of_ble_eq_true rfl, Nat.le_of_ble_eq_true rfl⟩) rfl hl.1 rfl (Nat.le_of_ble_eq_true rfl) dX12_number_28 ⟨Nat.zero_le _, Nat.zero_le _⟩ ?_
    refine lv_if_eq (tgt := 38) hx hb dX12_number_31 (by decide) (fun c10 => ?_) (fun c10 => ?_)
    · have h := jx_t h c10
      refine lv_iconst (v := (0 : Int32)) hx hb dX12_number_38 (by decide) ?_
      have hq_0 := Option.some.inj h
      obtain ⟨hz_1, hq_1⟩ := Prod.mk.inj hq_0
      obtain ⟨hz_2, hq_2⟩ := Prod.mk.inj hq_1
      obtain ⟨hz_3, hq_3⟩ := Prod.mk.inj hq_2
      obtain ⟨hz_4, hq_4⟩ := Prod.mk.inj hq_3
      obtain ⟨hz_5, hq_5⟩ := Prod.mk.inj hq_4
      subst hz_1
      subst hz_2
      subst hz_3
      subst hz_4
      subst hz_5
      subst hq_5
      exact hret 39 ls _ _ hP hD hS rfl dX12_number_39
    · have h := jx_f h c10
      refine lv_iconst (v := (1 : Int32)) hx hb dX12_number_34 (by decide) ?_
      refine lv_goto (tgt := 39) hx hb dX12_number_35 (by decide) ?_
      have hq_0 := Option.some.inj h
      obtain ⟨hz_1, hq_1⟩ := Prod.mk.inj hq_0
      obtain ⟨hz_2, hq_2⟩ := Prod.mk.inj hq_1
      obtain ⟨hz_3, hq_3⟩ := Prod.mk.inj hq_2
      obtain ⟨hz_4, hq_4⟩ := Prod.mk.inj hq_3
      obtain ⟨hz_5, hq_5⟩ := Prod.mk.inj hq_4
      subst hz_1
      subst hz_2
      subst hz_3
      subst hz_4
      subst hz_5
      subst hq_5
      exact hret 39 ls _ _ hP hD hS rfl dX12_number_39
def mi_X12_readsItem_b38 (t_typed : Int32) (t_text : Nat → Int32) (x1 : Int32) (k0 : Int32) (t_at : Int32) (t_sort : Int32) (t_start : Int32) (t_value : Int32) (t_draft : Nat → Int32) : Option (Int32 × Int32 × Int32 × Int32 × Int32 × (Nat → Int32)) := if x1 = (110 : Int32) then (if (t_draft (Int32.toNatClampNeg (3 : Int32))) = (1 : Int32) then (some ((0 : Int32), t_at, t_sort, t_start, t_value, t_draft)) else (jx_b6 (mi_X12_number t_typed t_at t_sort t_start t_value t_text t_draft (4 : Int32) (0 : Int32) (k0 - (1 : Int32))) fun r4 t_at_5 t_sort_6 t_start_7 t_value_8 t_draft_9 => (if r4 = 0 then (some ((0 : Int32), t_at_5, t_sort_6, t_start_7, t_value_8, t_draft_9)) else (jx_g (jx_in ((6 : Int32) + (t_draft_9 (Int32.toNatClampNeg (4 : Int32)))) 36) (jx_b6 (mi_X12_number t_typed t_at_5 t_sort_6 t_start_7 t_value_8 t_text t_draft_9 (5 : Int32) (0 : Int32) ((t_draft_9 (Int32.toNatClampNeg ((6 : Int32) + (t_draft_9 (Int32.toNatClampNeg (4 : Int32)))))) - (1 : Int32))) fun r13 t_at_14 t_sort_15 t_start_16 t_value_17 t_draft_18 => (if r13 = 0 then (some ((0 : Int32), t_at_14, t_sort_15, t_start_16, t_value_17, t_draft_18)) else (some ((1 : Int32), t_at_14, t_sort_15, t_start_16, t_value_17, (upd t_draft_18 (Int32.toNatClampNeg (3 : Int32)) (1 : Int32)))))))))) else (if x1 = (115 : Int32) then (if k0 = (8 : Int32) then (some ((0 : Int32), t_at, t_sort, t_start, t_value, t_draft)) else (jx_b6 (mi_X12_number t_typed t_at t_sort t_start t_value t_text t_draft ((6 : Int32) + k0) (1 : Int32) (30 : Int32)) fun r23 t_at_24 t_sort_25 t_start_26 t_value_27 t_draft_28 => (if r23 = 0 then (some ((0 : Int32), t_at_24, t_sort_25, t_start_26, t_value_27, t_draft_28)) else (jx_b6 (mi_X12_number t_typed t_at_24 t_sort_25 t_start_26 t_value_27 t_text t_draft_28 ((14 : Int32) + k0) (1 : Int32) (4 : Int32)) fun r31 t_at_32 t_sort_33 t_start_34 t_value_35 t_draft_36 => (if r31 = 0 then (some ((0 : Int32), t_at_32, t_sort_33, t_start_34, t_value_35, t_draft_36)) else (jx_b6 (mi_X12_number t_typed t_at_32 t_sort_33 t_start_34 t_value_35 t_text t_draft_36 ((22 : Int32) + k0) (0 : Int32) (3 : Int32)) fun r39 t_at_40 t_sort_41 t_start_42 t_value_43 t_draft_44 => (if r39 = 0 then (some ((0 : Int32), t_at_40, t_sort_41, t_start_42, t_value_43, t_draft_44)) else (some ((1 : Int32), t_at_40, t_sort_41, t_start_42, t_value_43, (upd t_draft_44 (Int32.toNatClampNeg (0 : Int32)) ((t_draft_44 (Int32.toNatClampNeg (0 : Int32))) + (1 : Int32)))))))))))) else (if x1 = (116 : Int32) then (if k0 = (6 : Int32) then (some ((0 : Int32), t_at, t_sort, t_start, t_value, t_draft)) else (jx_b6 (mi_X12_number t_typed t_at t_sort t_start t_value t_text t_draft ((30 : Int32) + k0) (1 : Int32) (60 : Int32)) fun r49 t_at_50 t_sort_51 t_start_52 t_value_53 t_draft_54 => (if r49 = 0 then (some ((0 : Int32), t_at_50, t_sort_51, t_start_52, t_value_53, t_draft_54)) else (some ((1 : Int32), t_at_50, t_sort_51, t_start_52, t_value_53, (upd t_draft_54 (Int32.toNatClampNeg (1 : Int32)) ((t_draft_54 (Int32.toNatClampNeg (1 : Int32))) + (1 : Int32)))))))) else (some ((0 : Int32), t_at, t_sort, t_start, t_value, t_draft))))
def mi_X12_readsItem_b16 (t_typed : Int32) (t_text : Nat → Int32) (k0 : Int32) (t_at : Int32) (t_sort : Int32) (t_start : Int32) (t_value : Int32) (t_draft : Nat → Int32) : Option (Int32 × Int32 × Int32 × Int32 × Int32 × (Nat → Int32)) := if k0 = (116 : Int32) then (mi_X12_readsItem_b38 t_typed t_text k0 (t_draft (Int32.toNatClampNeg (1 : Int32))) t_at t_sort t_start t_value t_draft) else (mi_X12_readsItem_b38 t_typed t_text k0 (t_draft (Int32.toNatClampNeg (0 : Int32))) t_at t_sort t_start t_value t_draft)
def mi_X12_readsItem (t_typed : Int32) (t_at : Int32) (t_sort : Int32) (t_start : Int32) (t_value : Int32) (t_text : Nat → Int32) (t_draft : Nat → Int32) : Option (Int32 × Int32 × Int32 × Int32 × Int32 × (Nat → Int32)) := if t_sort = (1 : Int32) then (mi_X12_readsItem_b16 t_typed t_text t_value t_at t_sort t_start t_value t_draft) else (mi_X12_readsItem_b16 t_typed t_text (0 : Int32) t_at t_sort t_start t_value t_draft)
abbrev rm_X12_readsItem : Room := { frames := 4, cells := 0, slots := 0, locals := 86 }
set_option maxRecDepth 100000 in
set_option maxHeartbeats 4000000 in
theorem ct_X12_readsItem (l : Launch) (D : va_G) (cI cZ cO : ClassId) (a_t a_t_text a_t_told a_t_draft a_t_s a_t_images a_t_kept a_t_notes a_t_players a_t_answers a_t_room a_t_inRest : Nat) (sz : Nat) (t_trace : Int64) (t_typed : Int32) (t_noted : Int32) (t_at : Int32) (t_sort : Int32) (t_start : Int32) (t_value : Int32) (t_text : Nat → Int32) (t_draft : Nat → Int32) (r : Int32) (z_t_at : Int32) (z_t_sort : Int32) (z_t_start : Int32) (z_t_value : Int32) (z_t_draft : Nat → Int32) (hm : mi_X12_readsItem t_typed t_at t_sort t_start t_value t_text t_draft = some (r, z_t_at, z_t_sort, z_t_start, z_t_value, z_t_draft)) : Met l yX12_readsItem wsX12_readsItem rm_X12_readsItem (va_Pc [.ref a_t] (jx_W D (jx_T cI cZ cO) sz [(a_t, .inr (12, [.long t_trace, .ref a_t_text, .int t_typed, .ref a_t_told, .ref a_t_draft, .ref a_t_s, .ref a_t_images, .ref a_t_kept, .ref a_t_notes, .int t_noted, .int t_at, .int t_sort, .int t_start, .int t_value, .ref a_t_players, .ref a_t_answers, .ref a_t_room, .ref a_t_inRest])), (a_t_text, .inl (cI, 120, .inl t_text)), (a_t_draft, .inl (cI, 36, .inl t_draft))])) (jx_Q (some (.int r)) D [(a_t, .inr (12, [.long t_trace, .ref a_t_text, .int t_typed, .ref a_t_told, .ref a_t_draft, .ref a_t_s, .ref a_t_images, .ref a_t_kept, .ref a_t_notes, .int t_noted, .int z_t_at, .int z_t_sort, .int z_t_start, .int z_t_value, .ref a_t_players, .ref a_t_answers, .ref a_t_room, .ref a_t_inRest])), (a_t_text, .inl (cI, 120, .inl t_text)), (a_t_draft, .inl (cI, 36, .inl z_t_draft))] (va_A [(a_t, .inr (12, [.long t_trace, .ref a_t_text, .int t_typed, .ref a_t_told, .ref a_t_draft, .ref a_t_s, .ref a_t_images, .ref a_t_kept, .ref a_t_notes, .int t_noted, .int t_at, .int t_sort, .int t_start, .int t_value, .ref a_t_players, .ref a_t_answers, .ref a_t_room, .ref a_t_inRest])), (a_t_text, .inl (cI, 120, .inl t_text)), (a_t_draft, .inl (cI, 36, .inl t_draft))] sz)) 0 0 (va_A [(a_t, .inr (12, [.long t_trace, .ref a_t_text, .int t_typed, .ref a_t_told, .ref a_t_draft, .ref a_t_s, .ref a_t_images, .ref a_t_kept, .ref a_t_notes, .int t_noted, .int t_at, .int t_sort, .int t_start, .int t_value, .ref a_t_players, .ref a_t_answers, .ref a_t_room, .ref a_t_inRest])), (a_t_text, .inl (cI, 120, .inl t_text)), (a_t_draft, .inl (cI, 36, .inl t_draft))] sz) := by
  refine jx_metW (ty := .boolean) (own := RX12) (cc := cX12_readsItem) (maxL := 3) (by decide) rfl rfl (Nat.le_of_ble_eq_true rfl) ?_
  intro p e s m args below meth c Q ls A hx hb hml hown hts hK hN hA hP hD hS hl hret
  have hi_X12 : ∀ w ∈ u_ws RX12 TX12 18, w ∈ wsX12_readsItem := by decide +kernel
  have hl : lv_has ls 3 [(0, .ref a_t)] := hl
  have bl_b38 : ∀ (x1 : Int32) (k0 : Int32) (t_at : Int32) (t_sort : Int32) (t_start : Int32) (t_value : Int32) (t_draft : Nat → Int32) (H : Heap) (locs : List Loc) (ls : Array Slot), va_P D vwCl [(a_t, .inr (12, [.long t_trace, .ref a_t_text, .int t_typed, .ref a_t_told, .ref a_t_draft, .ref a_t_s, .ref a_t_images, .ref a_t_kept, .ref a_t_notes, .int t_noted, .int t_at, .int t_sort, .int t_start, .int t_value, .ref a_t_players, .ref a_t_answers, .ref a_t_room, .ref a_t_inRest])), (a_t_text, .inl (cI, 120, .inl t_text)), (a_t_draft, .inl (cI, 36, .inl t_draft))] H → va_D A [(a_t, .inr (12, [.long t_trace, .ref a_t_text, .int t_typed, .ref a_t_told, .ref a_t_draft, .ref a_t_s, .ref a_t_images, .ref a_t_kept, .ref a_t_notes, .int t_noted, .int t_at, .int t_sort, .int t_start, .int t_value, .ref a_t_players, .ref a_t_answers, .ref a_t_room, .ref a_t_inRest])), (a_t_text, .inl (cI, 120, .inl t_text)), (a_t_draft, .inl (cI, 36, .inl t_draft))] → va_S A s.heap H locs → lv_has ls 3 [(0, .ref a_t), (1, .int x1)] → mi_X12_readsItem_b38 t_typed t_text x1 k0 t_at t_sort t_start t_value t_draft = some (r, z_t_at, z_t_sort, z_t_start, z_t_value, z_t_draft) → W p l e (headSpec wsX12_readsItem rm_X12_readsItem).room s m args below meth c H locs 0 0 Q (F0 m 38 ls [.int k0]) := by
    intro x1 k0 t_at t_sort t_start t_value t_draft H locs ls hP hD hS hl h
    unfold mi_X12_readsItem_b38 at h
    refine lv_istore_n (lv' := [(2, .int k0), (0, .ref a_t), (1, .int x1)]) hx hb dX12_readsItem_38 rfl hl (by decide) rfl (fun ls hl => ?_)
    refine lv_iload_n hx hb dX12_readsItem_39 rfl (lv_at hl 2 rfl) ?_
    by_cases s2 : x1 = (110 : Int32)
    · have h := jx_t h s2
      refine lv_lookup (off := 96) (tgt := 136) hx hb dX12_readsItem_40 (by decide) (by rw [s2]; rfl) (by decide) ?_
      refine lv_aload_n hx hb dX12_readsItem_136 rfl (lv_at hl 1 rfl) ?_
      refine va_get (D := D) (ci := 12) (v := .ref a_t_draft) (C := RX12) (T := TX12) (N := 18) hx hb hts hi_X12 hown hK hP 0 rfl rfl 4 (by decide) (hts (.fieldLink RX12 16 "TriangleRestModel" "draft" "[I") (List.mem_of_getElem? (i := 3) rfl)) (fun _ h9 => h9) rfl dX12_readsItem_137 ?_
      refine lv_iconst (v := (3 : Int32)) hx hb dX12_readsItem_140 (by decide) ?_
      refine va_iald hx hb hK hP 2 0 rfl rfl (jx_in_of (by decide +kernel)) dX12_readsItem_141 ?_
      refine lv_iconst (v := (1 : Int32)) hx hb dX12_readsItem_142 (by decide) ?_
      refine lv_icmp_eq (tgt := 183) hx hb dX12_readsItem_143 (by decide) (fun c3 => ?_) (fun c3 => ?_)
      · have h := jx_t h c3
        refine lv_iconst (v := (0 : Int32)) hx hb dX12_readsItem_183 (by decide) ?_
        have hq_0 := Option.some.inj h
        obtain ⟨hz_1, hq_1⟩ := Prod.mk.inj hq_0
        obtain ⟨hz_2, hq_2⟩ := Prod.mk.inj hq_1
        obtain ⟨hz_3, hq_3⟩ := Prod.mk.inj hq_2
        obtain ⟨hz_4, hq_4⟩ := Prod.mk.inj hq_3
        obtain ⟨hz_5, hq_5⟩ := Prod.mk.inj hq_4
        subst hz_1
        subst hz_2
        subst hz_3
        subst hz_4
        subst hz_5
        subst hq_5
        exact hret 184 ls _ _ hP hD hS rfl dX12_readsItem_184
      · have h := jx_f h c3
        refine lv_aload_n hx hb dX12_readsItem_146 rfl (lv_at hl 1 rfl) ?_
        refine lv_iconst (v := (4 : Int32)) hx hb dX12_readsItem_147 (by decide) ?_
        refine lv_iconst (v := (0 : Int32)) hx hb dX12_readsItem_148 (by decide) ?_
        refine lv_iload_n hx hb dX12_readsItem_149 rfl (lv_at hl 0 rfl) ?_
        refine lv_iconst (v := (1 : Int32)) hx hb dX12_readsItem_150 (by decide) ?_
        refine lv_isub hx hb dX12_readsItem_151 ?_
        obtain ⟨r4, t_at_5, t_sort_6, t_start_7, t_value_8, t_draft_9, e10, h⟩ := jx_b6_of h
        refine jx_cW (o := some (.int r4)) (As := [.int (4 : Int32), .int (0 : Int32), .int (k0 - (1 : Int32))]) (rest := []) (b := a_t) (wr := []) (wd' := [(a_t, .inr (12, [.long t_trace, .ref a_t_text, .int t_typed, .ref a_t_told, .ref a_t_draft, .ref a_t_s, .ref a_t_images, .ref a_t_kept, .ref a_t_notes, .int t_noted, .int t_at_5, .int t_sort_6, .int t_start_7, .int t_value_8, .ref a_t_players, .ref a_t_answers, .ref a_t_room, .ref a_t_inRest])), (a_t_text, .inl (cI, 120, .inl t_text)), (a_t_draft, .inl (cI, 36, .inl t_draft_9))]) ⟨hx, hb, hml, hown, hts⟩ (ct_X12_number l D cI cZ cO a_t a_t_text a_t_told a_t_draft a_t_s a_t_images a_t_kept a_t_notes a_t_players a_t_answers a_t_room a_t_inRest H.size t_trace t_typed t_noted t_at t_sort t_start t_value t_text t_draft (4 : Int32) (0 : Int32) (k0 - (1 : Int32)) r4 t_at_5 t_sort_6 t_start_7 t_value_8 t_draft_9 e10) (cwV 3 hts gX12_readsItem_X12_number rfl rfl rfl (by decide +kernel) ⟨Nat.le_of_ble_eq_true rfl, Nat.le_of_ble_eq_true rfl⟩) hK hN hP hD hS hA [0, 1, 2] [] (by decide) rfl rfl (by decide) (by decide) rfl (va_recv hK hP (ci := 12) (q0 := 0) rfl rfl) rfl hl.1 rfl (Nat.le_of_ble_eq_true rfl) dX12_readsItem_152 ⟨Nat.zero_le _, Nat.zero_le _⟩ [0, 1, 2] (by decide) rfl (fun H locs hP hD hS => ?_)
        refine lv_if_eq (tgt := 183) hx hb dX12_readsItem_155 (by decide) (fun c11 => ?_) (fun c11 => ?_)
        · have h := jx_t h c11
          refine lv_iconst (v := (0 : Int32)) hx hb dX12_readsItem_183 (by decide) ?_
          have hq_0 := Option.some.inj h
          obtain ⟨hz_1, hq_1⟩ := Prod.mk.inj hq_0
          obtain ⟨hz_2, hq_2⟩ := Prod.mk.inj hq_1
          obtain ⟨hz_3, hq_3⟩ := Prod.mk.inj hq_2
          obtain ⟨hz_4, hq_4⟩ := Prod.mk.inj hq_3
          obtain ⟨hz_5, hq_5⟩ := Prod.mk.inj hq_4
          subst hz_1
          subst hz_2
          subst hz_3
          subst hz_4
          subst hz_5
          subst hq_5
          exact hret 184 ls _ _ hP hD hS rfl dX12_readsItem_184
        · have h := jx_f h c11
          refine lv_aload_n hx hb dX12_readsItem_158 rfl (lv_at hl 1 rfl) ?_
          refine lv_iconst (v := (5 : Int32)) hx hb dX12_readsItem_159 (by decide) ?_
          refine lv_iconst (v := (0 : Int32)) hx hb dX12_readsItem_160 (by decide) ?_
          refine lv_aload_n hx hb dX12_readsItem_161 rfl (lv_at hl 1 rfl) ?_
          refine va_get (D := D) (ci := 12) (v := .ref a_t_draft) (C := RX12) (T := TX12) (N := 18) hx hb hts hi_X12 hown hK hP 0 rfl rfl 4 (by decide) (hts (.fieldLink RX12 16 "TriangleRestModel" "draft" "[I") (List.mem_of_getElem? (i := 3) rfl)) (fun _ h9 => h9) rfl dX12_readsItem_162 ?_
          refine lv_bipush (v := (6 : Int32)) hx hb dX12_readsItem_165 (by decide) ?_
          refine lv_aload_n hx hb dX12_readsItem_167 rfl (lv_at hl 1 rfl) ?_
          refine va_get (D := D) (ci := 12) (v := .ref a_t_draft) (C := RX12) (T := TX12) (N := 18) hx hb hts hi_X12 hown hK hP 0 rfl rfl 4 (by decide) (hts (.fieldLink RX12 16 "TriangleRestModel" "draft" "[I") (List.mem_of_getElem? (i := 3) rfl)) (fun _ h9 => h9) rfl dX12_readsItem_168 ?_
          refine lv_iconst (v := (4 : Int32)) hx hb dX12_readsItem_171 (by decide) ?_
          refine va_iald hx hb hK hP 2 0 rfl rfl (jx_in_of (by decide +kernel)) dX12_readsItem_172 ?_
          refine lv_iadd hx hb dX12_readsItem_173 ?_
          obtain ⟨g12, h⟩ := jx_g_of h
          refine va_iald hx hb hK hP 2 0 rfl rfl (jx_in_of g12) dX12_readsItem_174 ?_
          refine lv_iconst (v := (1 : Int32)) hx hb dX12_readsItem_175 (by decide) ?_
          refine lv_isub hx hb dX12_readsItem_176 ?_
          obtain ⟨r13, t_at_14, t_sort_15, t_start_16, t_value_17, t_draft_18, e19, h⟩ := jx_b6_of h
          refine jx_cW (o := some (.int r13)) (As := [.int (5 : Int32), .int (0 : Int32), .int ((t_draft_9 (Int32.toNatClampNeg ((6 : Int32) + (t_draft_9 (Int32.toNatClampNeg (4 : Int32)))))) - (1 : Int32))]) (rest := []) (b := a_t) (wr := []) (wd' := [(a_t, .inr (12, [.long t_trace, .ref a_t_text, .int t_typed, .ref a_t_told, .ref a_t_draft, .ref a_t_s, .ref a_t_images, .ref a_t_kept, .ref a_t_notes, .int t_noted, .int t_at_14, .int t_sort_15, .int t_start_16, .int t_value_17, .ref a_t_players, .ref a_t_answers, .ref a_t_room, .ref a_t_inRest])), (a_t_text, .inl (cI, 120, .inl t_text)), (a_t_draft, .inl (cI, 36, .inl t_draft_18))]) ⟨hx, hb, hml, hown, hts⟩ (ct_X12_number l D cI cZ cO a_t a_t_text a_t_told a_t_draft a_t_s a_t_images a_t_kept a_t_notes a_t_players a_t_answers a_t_room a_t_inRest H.size t_trace t_typed t_noted t_at_5 t_sort_6 t_start_7 t_value_8 t_text t_draft_9 (5 : Int32) (0 : Int32) ((t_draft_9 (Int32.toNatClampNeg ((6 : Int32) + (t_draft_9 (Int32.toNatClampNeg (4 : Int32)))))) - (1 : Int32)) r13 t_at_14 t_sort_15 t_start_16 t_value_17 t_draft_18 e19) (cwV 3 hts gX12_readsItem_X12_number rfl rfl rfl (by decide +kernel) ⟨Nat.le_of_ble_eq_true rfl, Nat.le_of_ble_eq_true rfl⟩) hK hN hP hD hS hA [0, 1, 2] [] (by decide) rfl rfl (by decide) (by decide) rfl (va_recv hK hP (ci := 12) (q0 := 0) rfl rfl) rfl hl.1 rfl (Nat.le_of_ble_eq_true rfl) dX12_readsItem_177 ⟨Nat.zero_le _, Nat.zero_le _⟩ [0, 1, 2] (by decide) rfl (fun H locs hP hD hS => ?_)
          refine lv_if_ne (tgt := 185) hx hb dX12_readsItem_180 (by decide) (fun c20 => ?_) (fun c20 => ?_)
          · have h := jx_f h c20
            refine lv_aload_n hx hb dX12_readsItem_185 rfl (lv_at hl 1 rfl) ?_
            refine va_get (D := D) (ci := 12) (v := .ref a_t_draft) (C := RX12) (T := TX12) (N := 18) hx hb hts hi_X12 hown hK hP 0 rfl rfl 4 (by decide) (hts (.fieldLink RX12 16 "TriangleRestModel" "draft" "[I") (List.mem_of_getElem? (i := 3) rfl)) (fun _ h9 => h9) rfl dX12_readsItem_186 ?_
            refine lv_iconst (v := (3 : Int32)) hx hb dX12_readsItem_189 (by decide) ?_
            refine lv_iconst (v := (1 : Int32)) hx hb dX12_readsItem_190 (by decide) ?_
            refine va_iast hx hb hK hP hD hS 2 0 rfl rfl (jx_in_of (by decide +kernel)) dX12_readsItem_191 (fun H locs hP hD hS => ?_)
            have hP : va_P D vwCl [(a_t, .inr (12, [.long t_trace, .ref a_t_text, .int t_typed, .ref a_t_told, .ref a_t_draft, .ref a_t_s, .ref a_t_images, .ref a_t_kept, .ref a_t_notes, .int t_noted, .int t_at_14, .int t_sort_15, .int t_start_16, .int t_value_17, .ref a_t_players, .ref a_t_answers, .ref a_t_room, .ref a_t_inRest])), (a_t_text, .inl (cI, 120, .inl t_text)), (a_t_draft, .inl (cI, 36, .inl (upd t_draft_18 (Int32.toNatClampNeg (3 : Int32)) (1 : Int32))))] H := hP
            have hD : va_D A [(a_t, .inr (12, [.long t_trace, .ref a_t_text, .int t_typed, .ref a_t_told, .ref a_t_draft, .ref a_t_s, .ref a_t_images, .ref a_t_kept, .ref a_t_notes, .int t_noted, .int t_at_14, .int t_sort_15, .int t_start_16, .int t_value_17, .ref a_t_players, .ref a_t_answers, .ref a_t_room, .ref a_t_inRest])), (a_t_text, .inl (cI, 120, .inl t_text)), (a_t_draft, .inl (cI, 36, .inl (upd t_draft_18 (Int32.toNatClampNeg (3 : Int32)) (1 : Int32))))] := hD
            refine lv_iconst (v := (1 : Int32)) hx hb dX12_readsItem_192 (by decide) ?_
            have hq_0 := Option.some.inj h
            obtain ⟨hz_1, hq_1⟩ := Prod.mk.inj hq_0
            obtain ⟨hz_2, hq_2⟩ := Prod.mk.inj hq_1
            obtain ⟨hz_3, hq_3⟩ := Prod.mk.inj hq_2
            obtain ⟨hz_4, hq_4⟩ := Prod.mk.inj hq_3
            obtain ⟨hz_5, hq_5⟩ := Prod.mk.inj hq_4
            subst hz_1
            subst hz_2
            subst hz_3
            subst hz_4
            subst hz_5
            subst hq_5
            exact hret 193 ls _ _ hP hD hS rfl dX12_readsItem_193
          · have h := jx_t h c20
            refine lv_iconst (v := (0 : Int32)) hx hb dX12_readsItem_183 (by decide) ?_
            have hq_0 := Option.some.inj h
            obtain ⟨hz_1, hq_1⟩ := Prod.mk.inj hq_0
            obtain ⟨hz_2, hq_2⟩ := Prod.mk.inj hq_1
            obtain ⟨hz_3, hq_3⟩ := Prod.mk.inj hq_2
            obtain ⟨hz_4, hq_4⟩ := Prod.mk.inj hq_3
            obtain ⟨hz_5, hq_5⟩ := Prod.mk.inj hq_4
            subst hz_1
            subst hz_2
            subst hz_3
            subst hz_4
            subst hz_5
            subst hq_5
            exact hret 184 ls _ _ hP hD hS rfl dX12_readsItem_184
    have h := jx_f h s2
    by_cases s21 : x1 = (115 : Int32)
    · have h := jx_t h s21
      refine lv_lookup (off := 36) (tgt := 76) hx hb dX12_readsItem_40 (by decide) (by rw [s21]; rfl) (by decide) ?_
      refine lv_iload_n hx hb dX12_readsItem_76 rfl (lv_at hl 0 rfl) ?_
      refine lv_bipush (v := (8 : Int32)) hx hb dX12_readsItem_77 (by decide) ?_
      refine lv_icmp_eq (tgt := 122) hx hb dX12_readsItem_79 (by decide) (fun c22 => ?_) (fun c22 => ?_)
      · have h := jx_t h c22
        refine lv_iconst (v := (0 : Int32)) hx hb dX12_readsItem_122 (by decide) ?_
        have hq_0 := Option.some.inj h
        obtain ⟨hz_1, hq_1⟩ := Prod.mk.inj hq_0
        obtain ⟨hz_2, hq_2⟩ := Prod.mk.inj hq_1
        obtain ⟨hz_3, hq_3⟩ := Prod.mk.inj hq_2
        obtain ⟨hz_4, hq_4⟩ := Prod.mk.inj hq_3
        obtain ⟨hz_5, hq_5⟩ := Prod.mk.inj hq_4
        subst hz_1
        subst hz_2
        subst hz_3
        subst hz_4
        subst hz_5
        subst hq_5
        exact hret 123 ls _ _ hP hD hS rfl dX12_readsItem_123
      · have h := jx_f h c22
        refine lv_aload_n hx hb dX12_readsItem_82 rfl (lv_at hl 1 rfl) ?_
        refine lv_bipush (v := (6 : Int32)) hx hb dX12_readsItem_83 (by decide) ?_
        refine lv_iload_n hx hb dX12_readsItem_85 rfl (lv_at hl 0 rfl) ?_
        refine lv_iadd hx hb dX12_readsItem_86 ?_
        refine lv_iconst (v := (1 : Int32)) hx hb dX12_readsItem_87 (by decide) ?_
        refine lv_bipush (v := (30 : Int32)) hx hb dX12_readsItem_88 (by decide) ?_
        obtain ⟨r23, t_at_24, t_sort_25, t_start_26, t_value_27, t_draft_28, e29, h⟩ := jx_b6_of h
        refine jx_cW (o := some (.int r23)) (As := [.int ((6 : Int32) + k0), .int (1 : Int32), .int (30 : Int32)]) (rest := []) (b := a_t) (wr := []) (wd' := [(a_t, .inr (12, [.long t_trace, .ref a_t_text, .int t_typed, .ref a_t_told, .ref a_t_draft, .ref a_t_s, .ref a_t_images, .ref a_t_kept, .ref a_t_notes, .int t_noted, .int t_at_24, .int t_sort_25, .int t_start_26, .int t_value_27, .ref a_t_players, .ref a_t_answers, .ref a_t_room, .ref a_t_inRest])), (a_t_text, .inl (cI, 120, .inl t_text)), (a_t_draft, .inl (cI, 36, .inl t_draft_28))]) ⟨hx, hb, hml, hown, hts⟩ (ct_X12_number l D cI cZ cO a_t a_t_text a_t_told a_t_draft a_t_s a_t_images a_t_kept a_t_notes a_t_players a_t_answers a_t_room a_t_inRest H.size t_trace t_typed t_noted t_at t_sort t_start t_value t_text t_draft ((6 : Int32) + k0) (1 : Int32) (30 : Int32) r23 t_at_24 t_sort_25 t_start_26 t_value_27 t_draft_28 e29) (cwV 3 hts gX12_readsItem_X12_number rfl rfl rfl (by decide +kernel) ⟨Nat.le_of_ble_eq_true rfl, Nat.le_of_ble_eq_true rfl⟩) hK hN hP hD hS hA [0, 1, 2] [] (by decide) rfl rfl (by decide) (by decide) rfl (va_recv hK hP (ci := 12) (q0 := 0) rfl rfl) rfl hl.1 rfl (Nat.le_of_ble_eq_true rfl) dX12_readsItem_90 ⟨Nat.zero_le _, Nat.zero_le _⟩ [0, 1, 2] (by decide) rfl (fun H locs hP hD hS => ?_)
        refine lv_if_eq (tgt := 122) hx hb dX12_readsItem_93 (by decide) (fun c30 => ?_) (fun c30 => ?_)
        · have h := jx_t h c30
          refine lv_iconst (v := (0 : Int32)) hx hb dX12_readsItem_122 (by decide) ?_
          have hq_0 := Option.some.inj h
          obtain ⟨hz_1, hq_1⟩ := Prod.mk.inj hq_0
          obtain ⟨hz_2, hq_2⟩ := Prod.mk.inj hq_1
          obtain ⟨hz_3, hq_3⟩ := Prod.mk.inj hq_2
          obtain ⟨hz_4, hq_4⟩ := Prod.mk.inj hq_3
          obtain ⟨hz_5, hq_5⟩ := Prod.mk.inj hq_4
          subst hz_1
          subst hz_2
          subst hz_3
          subst hz_4
          subst hz_5
          subst hq_5
          exact hret 123 ls _ _ hP hD hS rfl dX12_readsItem_123
        · have h := jx_f h c30
          refine lv_aload_n hx hb dX12_readsItem_96 rfl (lv_at hl 1 rfl) ?_
          refine lv_bipush (v := (14 : Int32)) hx hb dX12_readsItem_97 (by decide) ?_
          refine lv_iload_n hx hb dX12_readsItem_99 rfl (lv_at hl 0 rfl) ?_
          refine lv_iadd hx hb dX12_readsItem_100 ?_
          refine lv_iconst (v := (1 : Int32)) hx hb dX12_readsItem_101 (by decide) ?_
          refine lv_iconst (v := (4 : Int32)) hx hb dX12_readsItem_102 (by decide) ?_
          obtain ⟨r31, t_at_32, t_sort_33, t_start_34, t_value_35, t_draft_36, e37, h⟩ := jx_b6_of h
          refine jx_cW (o := some (.int r31)) (As := [.int ((14 : Int32) + k0), .int (1 : Int32), .int (4 : Int32)]) (rest := []) (b := a_t) (wr := []) (wd' := [(a_t, .inr (12, [.long t_trace, .ref a_t_text, .int t_typed, .ref a_t_told, .ref a_t_draft, .ref a_t_s, .ref a_t_images, .ref a_t_kept, .ref a_t_notes, .int t_noted, .int t_at_32, .int t_sort_33, .int t_start_34, .int t_value_35, .ref a_t_players, .ref a_t_answers, .ref a_t_room, .ref a_t_inRest])), (a_t_text, .inl (cI, 120, .inl t_text)), (a_t_draft, .inl (cI, 36, .inl t_draft_36))]) ⟨hx, hb, hml, hown, hts⟩ (ct_X12_number l D cI cZ cO a_t a_t_text a_t_told a_t_draft a_t_s a_t_images a_t_kept a_t_notes a_t_players a_t_answers a_t_room a_t_inRest H.size t_trace t_typed t_noted t_at_24 t_sort_25 t_start_26 t_value_27 t_text t_draft_28 ((14 : Int32) + k0) (1 : Int32) (4 : Int32) r31 t_at_32 t_sort_33 t_start_34 t_value_35 t_draft_36 e37) (cwV 3 hts gX12_readsItem_X12_number rfl rfl rfl (by decide +kernel) ⟨Nat.le_of_ble_eq_true rfl, Nat.le_of_ble_eq_true rfl⟩) hK hN hP hD hS hA [0, 1, 2] [] (by decide) rfl rfl (by decide) (by decide) rfl (va_recv hK hP (ci := 12) (q0 := 0) rfl rfl) rfl hl.1 rfl (Nat.le_of_ble_eq_true rfl) dX12_readsItem_103 ⟨Nat.zero_le _, Nat.zero_le _⟩ [0, 1, 2] (by decide) rfl (fun H locs hP hD hS => ?_)
          refine lv_if_eq (tgt := 122) hx hb dX12_readsItem_106 (by decide) (fun c38 => ?_) (fun c38 => ?_)
          · have h := jx_t h c38
            refine lv_iconst (v := (0 : Int32)) hx hb dX12_readsItem_122 (by decide) ?_
            have hq_0 := Option.some.inj h
            obtain ⟨hz_1, hq_1⟩ := Prod.mk.inj hq_0
            obtain ⟨hz_2, hq_2⟩ := Prod.mk.inj hq_1
            obtain ⟨hz_3, hq_3⟩ := Prod.mk.inj hq_2
            obtain ⟨hz_4, hq_4⟩ := Prod.mk.inj hq_3
            obtain ⟨hz_5, hq_5⟩ := Prod.mk.inj hq_4
            subst hz_1
            subst hz_2
            subst hz_3
            subst hz_4
            subst hz_5
            subst hq_5
            exact hret 123 ls _ _ hP hD hS rfl dX12_readsItem_123
          · have h := jx_f h c38
            refine lv_aload_n hx hb dX12_readsItem_109 rfl (lv_at hl 1 rfl) ?_
            refine lv_bipush (v := (22 : Int32)) hx hb dX12_readsItem_110 (by decide) ?_
            refine lv_iload_n hx hb dX12_readsItem_112 rfl (lv_at hl 0 rfl) ?_
            refine lv_iadd hx hb dX12_readsItem_113 ?_
            refine lv_iconst (v := (0 : Int32)) hx hb dX12_readsItem_114 (by decide) ?_
            refine lv_iconst (v := (3 : Int32)) hx hb dX12_readsItem_115 (by decide) ?_
            obtain ⟨r39, t_at_40, t_sort_41, t_start_42, t_value_43, t_draft_44, e45, h⟩ := jx_b6_of h
            refine jx_cW (o := some (.int r39)) (As := [.int ((22 : Int32) + k0), .int (0 : Int32), .int (3 : Int32)]) (rest := []) (b := a_t) (wr := []) (wd' := [(a_t, .inr (12, [.long t_trace, .ref a_t_text, .int t_typed, .ref a_t_told, .ref a_t_draft, .ref a_t_s, .ref a_t_images, .ref a_t_kept, .ref a_t_notes, .int t_noted, .int t_at_40, .int t_sort_41, .int t_start_42, .int t_value_43, .ref a_t_players, .ref a_t_answers, .ref a_t_room, .ref a_t_inRest])), (a_t_text, .inl (cI, 120, .inl t_text)), (a_t_draft, .inl (cI, 36, .inl t_draft_44))]) ⟨hx, hb, hml, hown, hts⟩ (ct_X12_number l D cI cZ cO a_t a_t_text a_t_told a_t_draft a_t_s a_t_images a_t_kept a_t_notes a_t_players a_t_answers a_t_room a_t_inRest H.size t_trace t_typed t_noted t_at_32 t_sort_33 t_start_34 t_value_35 t_text t_draft_36 ((22 : Int32) + k0) (0 : Int32) (3 : Int32) r39 t_at_40 t_sort_41 t_start_42 t_value_43 t_draft_44 e45) (cwV 3 hts gX12_readsItem_X12_number rfl rfl rfl (by decide +kernel) ⟨Nat.le_of_ble_eq_true rfl, Nat.le_of_ble_eq_true rfl⟩) hK hN hP hD hS hA [0, 1, 2] [] (by decide) rfl rfl (by decide) (by decide) rfl (va_recv hK hP (ci := 12) (q0 := 0) rfl rfl) rfl hl.1 rfl (Nat.le_of_ble_eq_true rfl) dX12_readsItem_116 ⟨Nat.zero_le _, Nat.zero_le _⟩ [0, 1, 2] (by decide) rfl (fun H locs hP hD hS => ?_)
            refine lv_if_ne (tgt := 124) hx hb dX12_readsItem_119 (by decide) (fun c46 => ?_) (fun c46 => ?_)
            · have h := jx_f h c46
              refine lv_aload_n hx hb dX12_readsItem_124 rfl (lv_at hl 1 rfl) ?_
              refine va_get (D := D) (ci := 12) (v := .ref a_t_draft) (C := RX12) (T := TX12) (N := 18) hx hb hts hi_X12 hown hK hP 0 rfl rfl 4 (by decide) (hts (.fieldLink RX12 16 "TriangleRestModel" "draft" "[I") (List.mem_of_getElem? (i := 3) rfl)) (fun _ h9 => h9) rfl dX12_readsItem_125 ?_
              refine lv_iconst (v := (0 : Int32)) hx hb dX12_readsItem_128 (by decide) ?_
              refine lv_dup2_11 hx hb dX12_readsItem_129 rfl rfl ?_
              refine va_iald hx hb hK hP 2 0 rfl rfl (jx_in_of (by decide +kernel)) dX12_readsItem_130 ?_
              refine lv_iconst (v := (1 : Int32)) hx hb dX12_readsItem_131 (by decide) ?_
              refine lv_iadd hx hb dX12_readsItem_132 ?_
              refine va_iast hx hb hK hP hD hS 2 0 rfl rfl (jx_in_of (by decide +kernel)) dX12_readsItem_133 (fun H locs hP hD hS => ?_)
              have hP : va_P D vwCl [(a_t, .inr (12, [.long t_trace, .ref a_t_text, .int t_typed, .ref a_t_told, .ref a_t_draft, .ref a_t_s, .ref a_t_images, .ref a_t_kept, .ref a_t_notes, .int t_noted, .int t_at_40, .int t_sort_41, .int t_start_42, .int t_value_43, .ref a_t_players, .ref a_t_answers, .ref a_t_room, .ref a_t_inRest])), (a_t_text, .inl (cI, 120, .inl t_text)), (a_t_draft, .inl (cI, 36, .inl (upd t_draft_44 (Int32.toNatClampNeg (0 : Int32)) ((t_draft_44 (Int32.toNatClampNeg (0 : Int32))) + (1 : Int32)))))] H := hP
              have hD : va_D A [(a_t, .inr (12, [.long t_trace, .ref a_t_text, .int t_typed, .ref a_t_told, .ref a_t_draft, .ref a_t_s, .ref a_t_images, .ref a_t_kept, .ref a_t_notes, .int t_noted, .int t_at_40, .int t_sort_41, .int t_start_42, .int t_value_43, .ref a_t_players, .ref a_t_answers, .ref a_t_room, .ref a_t_inRest])), (a_t_text, .inl (cI, 120, .inl t_text)), (a_t_draft, .inl (cI, 36, .inl (upd t_draft_44 (Int32.toNatClampNeg (0 : Int32)) ((t_draft_44 (Int32.toNatClampNeg (0 : Int32))) + (1 : Int32)))))] := hD
              refine lv_iconst (v := (1 : Int32)) hx hb dX12_readsItem_134 (by decide) ?_
              have hq_0 := Option.some.inj h
              obtain ⟨hz_1, hq_1⟩ := Prod.mk.inj hq_0
              obtain ⟨hz_2, hq_2⟩ := Prod.mk.inj hq_1
              obtain ⟨hz_3, hq_3⟩ := Prod.mk.inj hq_2
              obtain ⟨hz_4, hq_4⟩ := Prod.mk.inj hq_3
              obtain ⟨hz_5, hq_5⟩ := Prod.mk.inj hq_4
              subst hz_1
              subst hz_2
              subst hz_3
              subst hz_4
              subst hz_5
              subst hq_5
              exact hret 135 ls _ _ hP hD hS rfl dX12_readsItem_135
            · have h := jx_t h c46
              refine lv_iconst (v := (0 : Int32)) hx hb dX12_readsItem_122 (by decide) ?_
              have hq_0 := Option.some.inj h
              obtain ⟨hz_1, hq_1⟩ := Prod.mk.inj hq_0
              obtain ⟨hz_2, hq_2⟩ := Prod.mk.inj hq_1
              obtain ⟨hz_3, hq_3⟩ := Prod.mk.inj hq_2
              obtain ⟨hz_4, hq_4⟩ := Prod.mk.inj hq_3
              obtain ⟨hz_5, hq_5⟩ := Prod.mk.inj hq_4
              subst hz_1
              subst hz_2
              subst hz_3
              subst hz_4
              subst hz_5
              subst hq_5
              exact hret 123 ls _ _ hP hD hS rfl dX12_readsItem_123
    have h := jx_f h s21
    by_cases s47 : x1 = (116 : Int32)
    · have h := jx_t h s47
      refine lv_lookup (off := 154) (tgt := 194) hx hb dX12_readsItem_40 (by decide) (by rw [s47]; rfl) (by decide) ?_
      refine lv_iload_n hx hb dX12_readsItem_194 rfl (lv_at hl 0 rfl) ?_
      refine lv_bipush (v := (6 : Int32)) hx hb dX12_readsItem_195 (by decide) ?_
      refine lv_icmp_eq (tgt := 214) hx hb dX12_readsItem_197 (by decide) (fun c48 => ?_) (fun c48 => ?_)
      · have h := jx_t h c48
        refine lv_iconst (v := (0 : Int32)) hx hb dX12_readsItem_214 (by decide) ?_
        have hq_0 := Option.some.inj h
        obtain ⟨hz_1, hq_1⟩ := Prod.mk.inj hq_0
        obtain ⟨hz_2, hq_2⟩ := Prod.mk.inj hq_1
        obtain ⟨hz_3, hq_3⟩ := Prod.mk.inj hq_2
        obtain ⟨hz_4, hq_4⟩ := Prod.mk.inj hq_3
        obtain ⟨hz_5, hq_5⟩ := Prod.mk.inj hq_4
        subst hz_1
        subst hz_2
        subst hz_3
        subst hz_4
        subst hz_5
        subst hq_5
        exact hret 215 ls _ _ hP hD hS rfl dX12_readsItem_215
      · have h := jx_f h c48
        refine lv_aload_n hx hb dX12_readsItem_200 rfl (lv_at hl 1 rfl) ?_
        refine lv_bipush (v := (30 : Int32)) hx hb dX12_readsItem_201 (by decide) ?_
        refine lv_iload_n hx hb dX12_readsItem_203 rfl (lv_at hl 0 rfl) ?_
        refine lv_iadd hx hb dX12_readsItem_204 ?_
        refine lv_iconst (v := (1 : Int32)) hx hb dX12_readsItem_205 (by decide) ?_
        refine lv_bipush (v := (60 : Int32)) hx hb dX12_readsItem_206 (by decide) ?_
        obtain ⟨r49, t_at_50, t_sort_51, t_start_52, t_value_53, t_draft_54, e55, h⟩ := jx_b6_of h
        refine jx_cW (o := some (.int r49)) (As := [.int ((30 : Int32) + k0), .int (1 : Int32), .int (60 : Int32)]) (rest := []) (b := a_t) (wr := []) (wd' := [(a_t, .inr (12, [.long t_trace, .ref a_t_text, .int t_typed, .ref a_t_told, .ref a_t_draft, .ref a_t_s, .ref a_t_images, .ref a_t_kept, .ref a_t_notes, .int t_noted, .int t_at_50, .int t_sort_51, .int t_start_52, .int t_value_53, .ref a_t_players, .ref a_t_answers, .ref a_t_room, .ref a_t_inRest])), (a_t_text, .inl (cI, 120, .inl t_text)), (a_t_draft, .inl (cI, 36, .inl t_draft_54))]) ⟨hx, hb, hml, hown, hts⟩ (ct_X12_number l D cI cZ cO a_t a_t_text a_t_told a_t_draft a_t_s a_t_images a_t_kept a_t_notes a_t_players a_t_answers a_t_room a_t_inRest H.size t_trace t_typed t_noted t_at t_sort t_start t_value t_text t_draft ((30 : Int32) + k0) (1 : Int32) (60 : Int32) r49 t_at_50 t_sort_51 t_start_52 t_value_53 t_draft_54 e55) (cwV 3 hts gX12_readsItem_X12_number rfl rfl rfl (by decide +kernel) ⟨Nat.le_of_ble_eq_true rfl, Nat.le_of_ble_eq_true rfl⟩) hK hN hP hD hS hA [0, 1, 2] [] (by decide) rfl rfl (by decide) (by decide) rfl (va_recv hK hP (ci := 12) (q0 := 0) rfl rfl) rfl hl.1 rfl (Nat.le_of_ble_eq_true rfl) dX12_readsItem_208 ⟨Nat.zero_le _, Nat.zero_le _⟩ [0, 1, 2] (by decide) rfl (fun H locs hP hD hS => ?_)
        refine lv_if_ne (tgt := 216) hx hb dX12_readsItem_211 (by decide) (fun c56 => ?_) (fun c56 => ?_)
        · have h := jx_f h c56
          refine lv_aload_n hx hb dX12_readsItem_216 rfl (lv_at hl 1 rfl) ?_
          refine va_get (D := D) (ci := 12) (v := .ref a_t_draft) (C := RX12) (T := TX12) (N := 18) hx hb hts hi_X12 hown hK hP 0 rfl rfl 4 (by decide) (hts (.fieldLink RX12 16 "TriangleRestModel" "draft" "[I") (List.mem_of_getElem? (i := 3) rfl)) (fun _ h9 => h9) rfl dX12_readsItem_217 ?_
          refine lv_iconst (v := (1 : Int32)) hx hb dX12_readsItem_220 (by decide) ?_
          refine lv_dup2_11 hx hb dX12_readsItem_221 rfl rfl ?_
          refine va_iald hx hb hK hP 2 0 rfl rfl (jx_in_of (by decide +kernel)) dX12_readsItem_222 ?_
          refine lv_iconst (v := (1 : Int32)) hx hb dX12_readsItem_223 (by decide) ?_
          refine lv_iadd hx hb dX12_readsItem_224 ?_
          refine va_iast hx hb hK hP hD hS 2 0 rfl rfl (jx_in_of (by decide +kernel)) dX12_readsItem_225 (fun H locs hP hD hS => ?_)
          have hP : va_P D vwCl [(a_t, .inr (12, [.long t_trace, .ref a_t_text, .int t_typed, .ref a_t_told, .ref a_t_draft, .ref a_t_s, .ref a_t_images, .ref a_t_kept, .ref a_t_notes, .int t_noted, .int t_at_50, .int t_sort_51, .int t_start_52, .int t_value_53, .ref a_t_players, .ref a_t_answers, .ref a_t_room, .ref a_t_inRest])), (a_t_text, .inl (cI, 120, .inl t_text)), (a_t_draft, .inl (cI, 36, .inl (upd t_draft_54 (Int32.toNatClampNeg (1 : Int32)) ((t_draft_54 (Int32.toNatClampNeg (1 : Int32))) + (1 : Int32)))))] H := hP
          have hD : va_D A [(a_t, .inr (12, [.long t_trace, .ref a_t_text, .int t_typed, .ref a_t_told, .ref a_t_draft, .ref a_t_s, .ref a_t_images, .ref a_t_kept, .ref a_t_notes, .int t_noted, .int t_at_50, .int t_sort_51, .int t_start_52, .int t_value_53, .ref a_t_players, .ref a_t_answers, .ref a_t_room, .ref a_t_inRest])), (a_t_text, .inl (cI, 120, .inl t_text)), (a_t_draft, .inl (cI, 36, .inl (upd t_draft_54 (Int32.toNatClampNeg (1 : Int32)) ((t_draft_54 (Int32.toNatClampNeg (1 : Int32))) + (1 : Int32)))))] := hD
          refine lv_iconst (v := (1 : Int32)) hx hb dX12_readsItem_226 (by decide) ?_
          have hq_0 := Option.some.inj h
          obtain ⟨hz_1, hq_1⟩ := Prod.mk.inj hq_0
          obtain ⟨hz_2, hq_2⟩ := Prod.mk.inj hq_1
          obtain ⟨hz_3, hq_3⟩ := Prod.mk.inj hq_2
          obtain ⟨hz_4, hq_4⟩ := Prod.mk.inj hq_3
          obtain ⟨hz_5, hq_5⟩ := Prod.mk.inj hq_4
          subst hz_1
          subst hz_2
          subst hz_3
          subst hz_4
          subst hz_5
          subst hq_5
          exact hret 227 ls _ _ hP hD hS rfl dX12_readsItem_227
        · have h := jx_t h c56
          refine lv_iconst (v := (0 : Int32)) hx hb dX12_readsItem_214 (by decide) ?_
          have hq_0 := Option.some.inj h
          obtain ⟨hz_1, hq_1⟩ := Prod.mk.inj hq_0
          obtain ⟨hz_2, hq_2⟩ := Prod.mk.inj hq_1
          obtain ⟨hz_3, hq_3⟩ := Prod.mk.inj hq_2
          obtain ⟨hz_4, hq_4⟩ := Prod.mk.inj hq_3
          obtain ⟨hz_5, hq_5⟩ := Prod.mk.inj hq_4
          subst hz_1
          subst hz_2
          subst hz_3
          subst hz_4
          subst hz_5
          subst hq_5
          exact hret 215 ls _ _ hP hD hS rfl dX12_readsItem_215
    have h := jx_f h s47
    refine lv_lookup (off := 188) (tgt := 228) hx hb dX12_readsItem_40 (by decide) (by have e_s2 := jx_ne s2 (k := 110) (by decide); have e_s21 := jx_ne s21 (k := 115) (by decide); have e_s47 := jx_ne s47 (k := 116) (by decide); simp [Op.lookupswitch.offset, Ne.symm e_s2, e_s2, Ne.symm e_s21, e_s21, Ne.symm e_s47, e_s47]) (by decide) ?_
    refine lv_iconst (v := (0 : Int32)) hx hb dX12_readsItem_228 (by decide) ?_
    have hq_0 := Option.some.inj h
    obtain ⟨hz_1, hq_1⟩ := Prod.mk.inj hq_0
    obtain ⟨hz_2, hq_2⟩ := Prod.mk.inj hq_1
    obtain ⟨hz_3, hq_3⟩ := Prod.mk.inj hq_2
    obtain ⟨hz_4, hq_4⟩ := Prod.mk.inj hq_3
    obtain ⟨hz_5, hq_5⟩ := Prod.mk.inj hq_4
    subst hz_1
    subst hz_2
    subst hz_3
    subst hz_4
    subst hz_5
    subst hq_5
    exact hret 229 ls _ _ hP hD hS rfl dX12_readsItem_229
  have bl_b16 : ∀ (k0 : Int32) (t_at : Int32) (t_sort : Int32) (t_start : Int32) (t_value : Int32) (t_draft : Nat → Int32) (H : Heap) (locs : List Loc) (ls : Array Slot), va_P D vwCl [(a_t, .inr (12, [.long t_trace, .ref a_t_text, .int t_typed, .ref a_t_told, .ref a_t_draft, .ref a_t_s, .ref a_t_images, .ref a_t_kept, .ref a_t_notes, .int t_noted, .int t_at, .int t_sort, .int t_start, .int t_value, .ref a_t_players, .ref a_t_answers, .ref a_t_room, .ref a_t_inRest])), (a_t_text, .inl (cI, 120, .inl t_text)), (a_t_draft, .inl (cI, 36, .inl t_draft))] H → va_D A [(a_t, .inr (12, [.long t_trace, .ref a_t_text, .int t_typed, .ref a_t_told, .ref a_t_draft, .ref a_t_s, .ref a_t_images, .ref a_t_kept, .ref a_t_notes, .int t_noted, .int t_at, .int t_sort, .int t_start, .int t_value, .ref a_t_players, .ref a_t_answers, .ref a_t_room, .ref a_t_inRest])), (a_t_text, .inl (cI, 120, .inl t_text)), (a_t_draft, .inl (cI, 36, .inl t_draft))] → va_S A s.heap H locs → lv_has ls 3 [(0, .ref a_t)] → mi_X12_readsItem_b16 t_typed t_text k0 t_at t_sort t_start t_value t_draft = some (r, z_t_at, z_t_sort, z_t_start, z_t_value, z_t_draft) → W p l e (headSpec wsX12_readsItem rm_X12_readsItem).room s m args below meth c H locs 0 0 Q (F0 m 16 ls [.int k0]) := by
    intro k0 t_at t_sort t_start t_value t_draft H locs ls hP hD hS hl h
    unfold mi_X12_readsItem_b16 at h
    refine lv_istore_n (lv' := [(1, .int k0), (0, .ref a_t)]) hx hb dX12_readsItem_16 rfl hl (by decide) rfl (fun ls hl => ?_)
    refine lv_iload_n hx hb dX12_readsItem_17 rfl (lv_at hl 0 rfl) ?_
    refine lv_bipush (v := (116 : Int32)) hx hb dX12_readsItem_18 (by decide) ?_
    refine lv_icmp_ne (tgt := 32) hx hb dX12_readsItem_20 (by decide) (fun c1 => ?_) (fun c1 => ?_)
    · have h := jx_f h c1
      refine lv_aload_n hx hb dX12_readsItem_32 rfl (lv_at hl 1 rfl) ?_
      refine va_get (D := D) (ci := 12) (v := .ref a_t_draft) (C := RX12) (T := TX12) (N := 18) hx hb hts hi_X12 hown hK hP 0 rfl rfl 4 (by decide) (hts (.fieldLink RX12 16 "TriangleRestModel" "draft" "[I") (List.mem_of_getElem? (i := 3) rfl)) (fun _ h9 => h9) rfl dX12_readsItem_33 ?_
      refine lv_iconst (v := (0 : Int32)) hx hb dX12_readsItem_36 (by decide) ?_
      refine va_iald hx hb hK hP 2 0 rfl rfl (jx_in_of (by decide +kernel)) dX12_readsItem_37 ?_
      exact bl_b38 k0 (t_draft (Int32.toNatClampNeg (0 : Int32))) t_at t_sort t_start t_value t_draft _ _ _ hP hD hS (lv_sub hl [1, 0] rfl) h
    · have h := jx_t h c1
      refine lv_aload_n hx hb dX12_readsItem_23 rfl (lv_at hl 1 rfl) ?_
      refine va_get (D := D) (ci := 12) (v := .ref a_t_draft) (C := RX12) (T := TX12) (N := 18) hx hb hts hi_X12 hown hK hP 0 rfl rfl 4 (by decide) (hts (.fieldLink RX12 16 "TriangleRestModel" "draft" "[I") (List.mem_of_getElem? (i := 3) rfl)) (fun _ h9 => h9) rfl dX12_readsItem_24 ?_
      refine lv_iconst (v := (1 : Int32)) hx hb dX12_readsItem_27 (by decide) ?_
      refine va_iald hx hb hK hP 2 0 rfl rfl (jx_in_of (by decide +kernel)) dX12_readsItem_28 ?_
      refine lv_goto (tgt := 38) hx hb dX12_readsItem_29 (by decide) ?_
      exact bl_b38 k0 (t_draft (Int32.toNatClampNeg (1 : Int32))) t_at t_sort t_start t_value t_draft _ _ _ hP hD hS (lv_sub hl [1, 0] rfl) h
  have h := hm
  unfold mi_X12_readsItem at h
  refine lv_aload_n hx hb dX12_readsItem_0 rfl (lv_at hl 0 rfl) ?_
  refine va_get (D := D) (ci := 12) (v := .int t_sort) (C := RX12) (T := TX12) (N := 18) hx hb hts hi_X12 hown hK hP 0 rfl rfl 11 (by decide) (hts (.fieldLink RX12 76 "TriangleRestModel" "sort" "I") (List.mem_of_getElem? (i := 1) rfl)) (fun _ h9 => h9) rfl dX12_readsItem_1 ?_
  refine lv_iconst (v := (1 : Int32)) hx hb dX12_readsItem_4 (by decide) ?_
  refine lv_icmp_ne (tgt := 15) hx hb dX12_readsItem_5 (by decide) (fun c57 => ?_) (fun c57 => ?_)
  · have h := jx_f h c57
    refine lv_iconst (v := (0 : Int32)) hx hb dX12_readsItem_15 (by decide) ?_
    exact bl_b16 (0 : Int32) t_at t_sort t_start t_value t_draft _ _ _ hP hD hS (lv_sub hl [0] rfl) h
  · have h := jx_t h c57
    refine lv_aload_n hx hb dX12_readsItem_8 rfl (lv_at hl 0 rfl) ?_
    refine va_get (D := D) (ci := 12) (v := .int t_value) (C := RX12) (T := TX12) (N := 18) hx hb hts hi_X12 hown hK hP 0 rfl rfl 13 (by decide) (hts (.fieldLink RX12 79 "TriangleRestModel" "value" "I") (List.mem_of_getElem? (i := 2) rfl)) (fun _ h9 => h9) rfl dX12_readsItem_9 ?_
    refine lv_goto (tgt := 16) hx hb dX12_readsItem_12 (by decide) ?_
    exact bl_b16 t_value t_at t_sort t_start t_value t_draft _ _ _ hP hD hS (lv_sub hl [0] rfl) h
def mi_X12_reads_l30 (t_typed : Int32) (t_text : Nat → Int32) : Nat → Int32 → Int32 → Int32 → Int32 → (Nat → Int32) → Option (Int32 × Int32 × Int32 × Int32 × Int32 × (Nat → Int32))
  | 0, _, _, _, _, _ => none
  | n + 1, t_at, t_sort, t_start, t_value, t_draft => if t_sort = 0 then (some ((1 : Int32), t_at, t_sort, t_start, t_value, t_draft)) else (jx_b6 (mi_X12_readsItem t_typed t_at t_sort t_start t_value t_text t_draft) fun r9 t_at_10 t_sort_11 t_start_12 t_value_13 t_draft_14 => (if r9 = 0 then (some ((0 : Int32), t_at_10, t_sort_11, t_start_12, t_value_13, t_draft_14)) else (jx_b4 (mi_X12_token t_typed t_at_10 t_sort_11 t_start_12 t_value_13 t_text) fun t_at_17 t_sort_18 t_start_19 t_value_20 => (if t_sort_18 = (3 : Int32) then (jx_b4 (mi_X12_token t_typed t_at_17 t_sort_18 t_start_19 t_value_20 t_text) fun t_at_23 t_sort_24 t_start_25 t_value_26 => (mi_X12_reads_l30 t_typed t_text n t_at_23 t_sort_24 t_start_25 t_value_26 (upd t_draft_14 (Int32.toNatClampNeg (2 : Int32)) ((t_draft_14 (Int32.toNatClampNeg (2 : Int32))) + (1 : Int32))))) else (some ((0 : Int32), t_at_17, t_sort_18, t_start_19, t_value_20, t_draft_14))))))
def mi_X12_reads_l2 (t_typed : Int32) (t_text : Nat → Int32) : Nat → Int32 → Int32 → Int32 → Int32 → Int32 → (Nat → Int32) → Option (Int32 × Int32 × Int32 × Int32 × Int32 × (Nat → Int32))
  | 0, _, _, _, _, _, _ => none
  | n + 1, x1, t_at, t_sort, t_start, t_value, t_draft => if (36 : Int32) ≤ x1 then (jx_b4 (mi_X12_token t_typed (0 : Int32) t_sort t_start t_value t_text) fun t_at_2 t_sort_3 t_start_4 t_value_5 => (mi_X12_reads_l30 t_typed t_text jx_F t_at_2 t_sort_3 t_start_4 t_value_5 t_draft)) else (jx_g (jx_in x1 36) (mi_X12_reads_l2 t_typed t_text n (x1 + 1) t_at t_sort t_start t_value (upd t_draft (Int32.toNatClampNeg x1) (0 : Int32))))
def mi_X12_reads (t_typed : Int32) (t_at : Int32) (t_sort : Int32) (t_start : Int32) (t_value : Int32) (t_text : Nat → Int32) (t_draft : Nat → Int32) : Option (Int32 × Int32 × Int32 × Int32 × Int32 × (Nat → Int32)) := mi_X12_reads_l2 t_typed t_text jx_F (0 : Int32) t_at t_sort t_start t_value t_draft
abbrev rm_X12_reads : Room := { frames := 5, cells := 0, slots := 0, locals := 108 }
set_option maxRecDepth 100000 in
set_option maxHeartbeats 4000000 in
theorem ct_X12_reads (l : Launch) (D : va_G) (cI cZ cO : ClassId) (a_t a_t_text a_t_told a_t_draft a_t_s a_t_images a_t_kept a_t_notes a_t_players a_t_answers a_t_room a_t_inRest : Nat) (sz : Nat) (t_trace : Int64) (t_typed : Int32) (t_noted : Int32) (t_at : Int32) (t_sort : Int32) (t_start : Int32) (t_value : Int32) (t_text : Nat → Int32) (t_draft : Nat → Int32) (r : Int32) (z_t_at : Int32) (z_t_sort : Int32) (z_t_start : Int32) (z_t_value : Int32) (z_t_draft : Nat → Int32) (hm : mi_X12_reads t_typed t_at t_sort t_start t_value t_text t_draft = some (r, z_t_at, z_t_sort, z_t_start, z_t_value, z_t_draft)) : Met l yX12_reads wsX12_reads rm_X12_reads (va_Pc [.ref a_t] (jx_W D (jx_T cI cZ cO) sz [(a_t, .inr (12, [.long t_trace, .ref a_t_text, .int t_typed, .ref a_t_told, .ref a_t_draft, .ref a_t_s, .ref a_t_images, .ref a_t_kept, .ref a_t_notes, .int t_noted, .int t_at, .int t_sort, .int t_start, .int t_value, .ref a_t_players, .ref a_t_answers, .ref a_t_room, .ref a_t_inRest])), (a_t_text, .inl (cI, 120, .inl t_text)), (a_t_draft, .inl (cI, 36, .inl t_draft))])) (jx_Q (some (.int r)) D [(a_t, .inr (12, [.long t_trace, .ref a_t_text, .int t_typed, .ref a_t_told, .ref a_t_draft, .ref a_t_s, .ref a_t_images, .ref a_t_kept, .ref a_t_notes, .int t_noted, .int z_t_at, .int z_t_sort, .int z_t_start, .int z_t_value, .ref a_t_players, .ref a_t_answers, .ref a_t_room, .ref a_t_inRest])), (a_t_text, .inl (cI, 120, .inl t_text)), (a_t_draft, .inl (cI, 36, .inl z_t_draft))] (va_A [(a_t, .inr (12, [.long t_trace, .ref a_t_text, .int t_typed, .ref a_t_told, .ref a_t_draft, .ref a_t_s, .ref a_t_images, .ref a_t_kept, .ref a_t_notes, .int t_noted, .int t_at, .int t_sort, .int t_start, .int t_value, .ref a_t_players, .ref a_t_answers, .ref a_t_room, .ref a_t_inRest])), (a_t_text, .inl (cI, 120, .inl t_text)), (a_t_draft, .inl (cI, 36, .inl t_draft))] sz)) 0 0 (va_A [(a_t, .inr (12, [.long t_trace, .ref a_t_text, .int t_typed, .ref a_t_told, .ref a_t_draft, .ref a_t_s, .ref a_t_images, .ref a_t_kept, .ref a_t_notes, .int t_noted, .int t_at, .int t_sort, .int t_start, .int t_value, .ref a_t_players, .ref a_t_answers, .ref a_t_room, .ref a_t_inRest])), (a_t_text, .inl (cI, 120, .inl t_text)), (a_t_draft, .inl (cI, 36, .inl t_draft))] sz) := by
  refine jx_metW (ty := .boolean) (own := RX12) (cc := cX12_reads) (maxL := 2) (by decide) rfl rfl (Nat.le_of_ble_eq_true rfl) ?_
  intro p e s m args below meth c Q ls A hx hb hml hown hts hK hN hA hP hD hS hl hret
  have hi_X12 : ∀ w ∈ u_ws RX12 TX12 18, w ∈ wsX12_reads := by decide +kernel
  have hl : lv_has ls 2 [(0, .ref a_t)] := hl
  have bl_l30 : ∀ (n : Nat) (t_at : Int32) (t_sort : Int32) (t_start : Int32) (t_value : Int32) (t_draft : Nat → Int32) (H : Heap) (locs : List Loc) (ls : Array Slot), va_P D vwCl [(a_t, .inr (12, [.long t_trace, .ref a_t_text, .int t_typed, .ref a_t_told, .ref a_t_draft, .ref a_t_s, .ref a_t_images, .ref a_t_kept, .ref a_t_notes, .int t_noted, .int t_at, .int t_sort, .int t_start, .int t_value, .ref a_t_players, .ref a_t_answers, .ref a_t_room, .ref a_t_inRest])), (a_t_text, .inl (cI, 120, .inl t_text)), (a_t_draft, .inl (cI, 36, .inl t_draft))] H → va_D A [(a_t, .inr (12, [.long t_trace, .ref a_t_text, .int t_typed, .ref a_t_told, .ref a_t_draft, .ref a_t_s, .ref a_t_images, .ref a_t_kept, .ref a_t_notes, .int t_noted, .int t_at, .int t_sort, .int t_start, .int t_value, .ref a_t_players, .ref a_t_answers, .ref a_t_room, .ref a_t_inRest])), (a_t_text, .inl (cI, 120, .inl t_text)), (a_t_draft, .inl (cI, 36, .inl t_draft))] → va_S A s.heap H locs → lv_has ls 2 [(0, .ref a_t)] → mi_X12_reads_l30 t_typed t_text n t_at t_sort t_start t_value t_draft = some (r, z_t_at, z_t_sort, z_t_start, z_t_value, z_t_draft) → W p l e (headSpec wsX12_reads rm_X12_reads).room s m args below meth c H locs 0 0 Q (F0 m 30 ls []) := by
    intro n
    induction n with
    | zero =>
      intro t_at t_sort t_start t_value t_draft H locs ls hP hD hS hl h
      rw [mi_X12_reads_l30] at h
      cases h
    | succ n_l30 ih_l30 =>
      intro t_at t_sort t_start t_value t_draft H locs ls hP hD hS hl h
      rw [mi_X12_reads_l30] at h
      refine lv_aload_n hx hb dX12_reads_30 rfl (lv_at hl 0 rfl) ?_
      refine va_get (D := D) (ci := 12) (v := .int t_sort) (C := RX12) (T := TX12) (N := 18) hx hb hts hi_X12 hown hK hP 0 rfl rfl 11 (by decide) (hts (.fieldLink RX12 76 "TriangleRestModel" "sort" "I") (List.mem_of_getElem? (i := 3) rfl)) (fun _ h9 => h9) rfl dX12_reads_31 ?_
      refine lv_if_eq (tgt := 77) hx hb dX12_reads_34 (by decide) (fun c8 => ?_) (fun c8 => ?_)
      · have h := jx_t h c8
        refine lv_iconst (v := (1 : Int32)) hx hb dX12_reads_77 (by decide) ?_
        have hq_0 := Option.some.inj h
        obtain ⟨hz_1, hq_1⟩ := Prod.mk.inj hq_0
        obtain ⟨hz_2, hq_2⟩ := Prod.mk.inj hq_1
        obtain ⟨hz_3, hq_3⟩ := Prod.mk.inj hq_2
        obtain ⟨hz_4, hq_4⟩ := Prod.mk.inj hq_3
        obtain ⟨hz_5, hq_5⟩ := Prod.mk.inj hq_4
        subst hz_1
        subst hz_2
        subst hz_3
        subst hz_4
        subst hz_5
        subst hq_5
        exact hret 78 ls _ _ hP hD hS rfl dX12_reads_78
      · have h := jx_f h c8
        refine lv_aload_n hx hb dX12_reads_37 rfl (lv_at hl 0 rfl) ?_
        obtain ⟨r9, t_at_10, t_sort_11, t_start_12, t_value_13, t_draft_14, e15, h⟩ := jx_b6_of h
        refine jx_cW (o := some (.int r9)) (As := []) (rest := []) (b := a_t) (wr := []) (wd' := [(a_t, .inr (12, [.long t_trace, .ref a_t_text, .int t_typed, .ref a_t_told, .ref a_t_draft, .ref a_t_s, .ref a_t_images, .ref a_t_kept, .ref a_t_notes, .int t_noted, .int t_at_10, .int t_sort_11, .int t_start_12, .int t_value_13, .ref a_t_players, .ref a_t_answers, .ref a_t_room, .ref a_t_inRest])), (a_t_text, .inl (cI, 120, .inl t_text)), (a_t_draft, .inl (cI, 36, .inl t_draft_14))]) ⟨hx, hb, hml, hown, hts⟩ (ct_X12_readsItem l D cI cZ cO a_t a_t_text a_t_told a_t_draft a_t_s a_t_images a_t_kept a_t_notes a_t_players a_t_answers a_t_room a_t_inRest H.size t_trace t_typed t_noted t_at t_sort t_start t_value t_text t_draft r9 t_at_10 t_sort_11 t_start_12 t_value_13 t_draft_14 e15) (cwV 0 hts gX12_reads_X12_readsItem rfl rfl rfl (by decide +kernel) ⟨Nat.le_of_ble_eq_true rfl, Nat.le_of_ble_eq_true rfl⟩) hK hN hP hD hS hA [0, 1, 2] [] (by decide) rfl rfl (by decide) (by decide) rfl (va_recv hK hP (ci := 12) (q0 := 0) rfl rfl) rfl hl.1 rfl (Nat.le_of_ble_eq_true rfl) dX12_reads_38 ⟨Nat.zero_le _, Nat.zero_le _⟩ [0, 1, 2] (by decide) rfl (fun H locs hP hD hS => ?_)
        refine lv_if_ne (tgt := 46) hx hb dX12_reads_41 (by decide) (fun c16 => ?_) (fun c16 => ?_)
        · have h := jx_f h c16
          refine lv_aload_n hx hb dX12_reads_46 rfl (lv_at hl 0 rfl) ?_
          obtain ⟨t_at_17, t_sort_18, t_start_19, t_value_20, e21, h⟩ := jx_b4_of h
          refine jx_cW (o := none) (As := []) (rest := []) (b := a_t) (wr := [(a_t_draft, .inl (cI, 36, .inl t_draft_14))]) (wd' := [(a_t, .inr (12, [.long t_trace, .ref a_t_text, .int t_typed, .ref a_t_told, .ref a_t_draft, .ref a_t_s, .ref a_t_images, .ref a_t_kept, .ref a_t_notes, .int t_noted, .int t_at_17, .int t_sort_18, .int t_start_19, .int t_value_20, .ref a_t_players, .ref a_t_answers, .ref a_t_room, .ref a_t_inRest])), (a_t_text, .inl (cI, 120, .inl t_text)), (a_t_draft, .inl (cI, 36, .inl t_draft_14))]) ⟨hx, hb, hml, hown, hts⟩ (ct_X12_token l D cI cZ cO a_t a_t_text a_t_told a_t_draft a_t_s a_t_images a_t_kept a_t_notes a_t_players a_t_answers a_t_room a_t_inRest H.size t_trace t_typed t_noted t_at_10 t_sort_11 t_start_12 t_value_13 t_text t_at_17 t_sort_18 t_start_19 t_value_20 e21) (cwV 0 hts gX12_reads_X12_token rfl rfl rfl (by decide +kernel) ⟨Nat.le_of_ble_eq_true rfl, Nat.le_of_ble_eq_true rfl⟩) hK hN hP hD hS hA [0, 1] [2] (by decide) rfl rfl (by decide) (by decide) rfl (va_recv hK hP (ci := 12) (q0 := 0) rfl rfl) rfl hl.1 rfl (Nat.le_of_ble_eq_true rfl) dX12_reads_47 ⟨Nat.zero_le _, Nat.zero_le _⟩ [1, 2, 0] (by decide) rfl (fun H locs hP hD hS => ?_)
          refine lv_aload_n hx hb dX12_reads_50 rfl (lv_at hl 0 rfl) ?_
          refine va_get (D := D) (ci := 12) (v := .int t_sort_18) (C := RX12) (T := TX12) (N := 18) hx hb hts hi_X12 hown hK hP 0 rfl rfl 11 (by decide) (hts (.fieldLink RX12 76 "TriangleRestModel" "sort" "I") (List.mem_of_getElem? (i := 3) rfl)) (fun _ h9 => h9) rfl dX12_reads_51 ?_
          refine lv_iconst (v := (3 : Int32)) hx hb dX12_reads_54 (by decide) ?_
          refine lv_icmp_eq (tgt := 60) hx hb dX12_reads_55 (by decide) (fun c22 => ?_) (fun c22 => ?_)
          · have h := jx_t h c22
            refine lv_aload_n hx hb dX12_reads_60 rfl (lv_at hl 0 rfl) ?_
            refine va_get (D := D) (ci := 12) (v := .ref a_t_draft) (C := RX12) (T := TX12) (N := 18) hx hb hts hi_X12 hown hK hP 0 rfl rfl 4 (by decide) (hts (.fieldLink RX12 16 "TriangleRestModel" "draft" "[I") (List.mem_of_getElem? (i := 1) rfl)) (fun _ h9 => h9) rfl dX12_reads_61 ?_
            refine lv_iconst (v := (2 : Int32)) hx hb dX12_reads_64 (by decide) ?_
            refine lv_dup2_11 hx hb dX12_reads_65 rfl rfl ?_
            refine va_iald hx hb hK hP 2 0 rfl rfl (jx_in_of (by decide +kernel)) dX12_reads_66 ?_
            refine lv_iconst (v := (1 : Int32)) hx hb dX12_reads_67 (by decide) ?_
            refine lv_iadd hx hb dX12_reads_68 ?_
            refine va_iast hx hb hK hP hD hS 2 0 rfl rfl (jx_in_of (by decide +kernel)) dX12_reads_69 (fun H locs hP hD hS => ?_)
            have hP : va_P D vwCl [(a_t, .inr (12, [.long t_trace, .ref a_t_text, .int t_typed, .ref a_t_told, .ref a_t_draft, .ref a_t_s, .ref a_t_images, .ref a_t_kept, .ref a_t_notes, .int t_noted, .int t_at_17, .int t_sort_18, .int t_start_19, .int t_value_20, .ref a_t_players, .ref a_t_answers, .ref a_t_room, .ref a_t_inRest])), (a_t_text, .inl (cI, 120, .inl t_text)), (a_t_draft, .inl (cI, 36, .inl (upd t_draft_14 (Int32.toNatClampNeg (2 : Int32)) ((t_draft_14 (Int32.toNatClampNeg (2 : Int32))) + (1 : Int32)))))] H := hP
            have hD : va_D A [(a_t, .inr (12, [.long t_trace, .ref a_t_text, .int t_typed, .ref a_t_told, .ref a_t_draft, .ref a_t_s, .ref a_t_images, .ref a_t_kept, .ref a_t_notes, .int t_noted, .int t_at_17, .int t_sort_18, .int t_start_19, .int t_value_20, .ref a_t_players, .ref a_t_answers, .ref a_t_room, .ref a_t_inRest])), (a_t_text, .inl (cI, 120, .inl t_text)), (a_t_draft, .inl (cI, 36, .inl (upd t_draft_14 (Int32.toNatClampNeg (2 : Int32)) ((t_draft_14 (Int32.toNatClampNeg (2 : Int32))) + (1 : Int32)))))] := hD
            refine lv_aload_n hx hb dX12_reads_70 rfl (lv_at hl 0 rfl) ?_
            obtain ⟨t_at_23, t_sort_24, t_start_25, t_value_26, e27, h⟩ := jx_b4_of h
            refine jx_cW (o := none) (As := []) (rest := []) (b := a_t) (wr := [(a_t_draft, .inl (cI, 36, .inl (upd t_draft_14 (Int32.toNatClampNeg (2 : Int32)) ((t_draft_14 (Int32.toNatClampNeg (2 : Int32))) + (1 : Int32)))))]) (wd' := [(a_t, .inr (12, [.long t_trace, .ref a_t_text, .int t_typed, .ref a_t_told, .ref a_t_draft, .ref a_t_s, .ref a_t_images, .ref a_t_kept, .ref a_t_notes, .int t_noted, .int t_at_23, .int t_sort_24, .int t_start_25, .int t_value_26, .ref a_t_players, .ref a_t_answers, .ref a_t_room, .ref a_t_inRest])), (a_t_text, .inl (cI, 120, .inl t_text)), (a_t_draft, .inl (cI, 36, .inl (upd t_draft_14 (Int32.toNatClampNeg (2 : Int32)) ((t_draft_14 (Int32.toNatClampNeg (2 : Int32))) + (1 : Int32)))))]) ⟨hx, hb, hml, hown, hts⟩ (ct_X12_token l D cI cZ cO a_t a_t_text a_t_told a_t_draft a_t_s a_t_images a_t_kept a_t_notes a_t_players a_t_answers a_t_room a_t_inRest H.size t_trace t_typed t_noted t_at_17 t_sort_18 t_start_19 t_value_20 t_text t_at_23 t_sort_24 t_start_25 t_value_26 e27) (cwV 0 hts gX12_reads_X12_token rfl rfl rfl (by decide +kernel) ⟨Nat.le_of_ble_eq_true rfl, Nat.le_of_ble_eq_true rfl⟩) hK hN hP hD hS hA [0, 1] [2] (by decide) rfl rfl (by decide) (by decide) rfl (va_recv hK hP (ci := 12) (q0 := 0) rfl rfl) rfl hl.1 rfl (Nat.le_of_ble_eq_true rfl) dX12_reads_71 ⟨Nat.zero_le _, Nat.zero_le _⟩ [1, 2, 0] (by decide) rfl (fun H locs hP hD hS => ?_)
            refine lv_goto (tgt := 30) hx hb dX12_reads_74 (by decide) ?_
            exact ih_l30 t_at_23 t_sort_24 t_start_25 t_value_26 (upd t_draft_14 (Int32.toNatClampNeg (2 : Int32)) ((t_draft_14 (Int32.toNatClampNeg (2 : Int32))) + (1 : Int32))) _ _ _ hP hD hS (lv_sub hl [0] rfl) h
          · have h := jx_f h c22
            refine lv_iconst (v := (0 : Int32)) hx hb dX12_reads_58 (by decide) ?_
            have hq_0 := Option.some.inj h
            obtain ⟨hz_1, hq_1⟩ := Prod.mk.inj hq_0
            obtain ⟨hz_2, hq_2⟩ := Prod.mk.inj hq_1
            obtain ⟨hz_3, hq_3⟩ := Prod.mk.inj hq_2
            obtain ⟨hz_4, hq_4⟩ := Prod.mk.inj hq_3
            obtain ⟨hz_5, hq_5⟩ := Prod.mk.inj hq_4
            subst hz_1
            subst hz_2
            subst hz_3
            subst hz_4
            subst hz_5
            subst hq_5
            exact hret 59 ls _ _ hP hD hS rfl dX12_reads_59
        · have h := jx_t h c16
          refine lv_iconst (v := (0 : Int32)) hx hb dX12_reads_44 (by decide) ?_
          have hq_0 := Option.some.inj h
          obtain ⟨hz_1, hq_1⟩ := Prod.mk.inj hq_0
          obtain ⟨hz_2, hq_2⟩ := Prod.mk.inj hq_1
          obtain ⟨hz_3, hq_3⟩ := Prod.mk.inj hq_2
          obtain ⟨hz_4, hq_4⟩ := Prod.mk.inj hq_3
          obtain ⟨hz_5, hq_5⟩ := Prod.mk.inj hq_4
          subst hz_1
          subst hz_2
          subst hz_3
          subst hz_4
          subst hz_5
          subst hq_5
          exact hret 45 ls _ _ hP hD hS rfl dX12_reads_45
  have bl_l2 : ∀ (n : Nat) (x1 : Int32) (t_at : Int32) (t_sort : Int32) (t_start : Int32) (t_value : Int32) (t_draft : Nat → Int32) (H : Heap) (locs : List Loc) (ls : Array Slot), va_P D vwCl [(a_t, .inr (12, [.long t_trace, .ref a_t_text, .int t_typed, .ref a_t_told, .ref a_t_draft, .ref a_t_s, .ref a_t_images, .ref a_t_kept, .ref a_t_notes, .int t_noted, .int t_at, .int t_sort, .int t_start, .int t_value, .ref a_t_players, .ref a_t_answers, .ref a_t_room, .ref a_t_inRest])), (a_t_text, .inl (cI, 120, .inl t_text)), (a_t_draft, .inl (cI, 36, .inl t_draft))] H → va_D A [(a_t, .inr (12, [.long t_trace, .ref a_t_text, .int t_typed, .ref a_t_told, .ref a_t_draft, .ref a_t_s, .ref a_t_images, .ref a_t_kept, .ref a_t_notes, .int t_noted, .int t_at, .int t_sort, .int t_start, .int t_value, .ref a_t_players, .ref a_t_answers, .ref a_t_room, .ref a_t_inRest])), (a_t_text, .inl (cI, 120, .inl t_text)), (a_t_draft, .inl (cI, 36, .inl t_draft))] → va_S A s.heap H locs → lv_has ls 2 [(0, .ref a_t), (1, .int x1)] → mi_X12_reads_l2 t_typed t_text n x1 t_at t_sort t_start t_value t_draft = some (r, z_t_at, z_t_sort, z_t_start, z_t_value, z_t_draft) → W p l e (headSpec wsX12_reads rm_X12_reads).room s m args below meth c H locs 0 0 Q (F0 m 2 ls []) := by
    intro n
    induction n with
    | zero =>
      intro x1 t_at t_sort t_start t_value t_draft H locs ls hP hD hS hl h
      rw [mi_X12_reads_l2] at h
      cases h
    | succ n_l2 ih_l2 =>
      intro x1 t_at t_sort t_start t_value t_draft H locs ls hP hD hS hl h
      rw [mi_X12_reads_l2] at h
      refine lv_iload_n hx hb dX12_reads_2 rfl (lv_at hl 1 rfl) ?_
      refine lv_bipush (v := (36 : Int32)) hx hb dX12_reads_3 (by decide) ?_
      refine lv_icmp_ge (tgt := 21) hx hb dX12_reads_5 (by decide) (fun c1 => ?_) (fun c1 => ?_)
      · have h := jx_t h c1
        refine lv_aload_n hx hb dX12_reads_21 rfl (lv_at hl 0 rfl) ?_
        refine lv_iconst (v := (0 : Int32)) hx hb dX12_reads_22 (by decide) ?_
        refine va_put (D := D) (ci := 12) (v := .int (0 : Int32)) (ty := .int) (C := RX12) (T := TX12) (N := 18) hx hb hts hi_X12 tyX12 tyX12_ok nmX12 hown hK hP hD hS 0 rfl rfl 10 (by decide) (hts (.fieldLink RX12 59 "TriangleRestModel" "at" "I") (List.mem_of_getElem? (i := 2) rfl)) (fun _ h9 => h9) rfl (by decide +kernel) rfl rfl (Nat.le_of_ble_eq_true rfl) dX12_reads_23 (fun H locs hP hD hS => ?_)
        have hP : va_P D vwCl [(a_t, .inr (12, [.long t_trace, .ref a_t_text, .int t_typed, .ref a_t_told, .ref a_t_draft, .ref a_t_s, .ref a_t_images, .ref a_t_kept, .ref a_t_notes, .int t_noted, .int (0 : Int32), .int t_sort, .int t_start, .int t_value, .ref a_t_players, .ref a_t_answers, .ref a_t_room, .ref a_t_inRest])), (a_t_text, .inl (cI, 120, .inl t_text)), (a_t_draft, .inl (cI, 36, .inl t_draft))] H := hP
        have hD : va_D A [(a_t, .inr (12, [.long t_trace, .ref a_t_text, .int t_typed, .ref a_t_told, .ref a_t_draft, .ref a_t_s, .ref a_t_images, .ref a_t_kept, .ref a_t_notes, .int t_noted, .int (0 : Int32), .int t_sort, .int t_start, .int t_value, .ref a_t_players, .ref a_t_answers, .ref a_t_room, .ref a_t_inRest])), (a_t_text, .inl (cI, 120, .inl t_text)), (a_t_draft, .inl (cI, 36, .inl t_draft))] := hD
        refine lv_aload_n hx hb dX12_reads_26 rfl (lv_at hl 0 rfl) ?_
        obtain ⟨t_at_2, t_sort_3, t_start_4, t_value_5, e6, h⟩ := jx_b4_of h
        refine jx_cW (o := none) (As := []) (rest := []) (b := a_t) (wr := [(a_t_draft, .inl (cI, 36, .inl t_draft))]) (wd' := [(a_t, .inr (12, [.long t_trace, .ref a_t_text, .int t_typed, .ref a_t_told, .ref a_t_draft, .ref a_t_s, .ref a_t_images, .ref a_t_kept, .ref a_t_notes, .int t_noted, .int t_at_2, .int t_sort_3, .int t_start_4, .int t_value_5, .ref a_t_players, .ref a_t_answers, .ref a_t_room, .ref a_t_inRest])), (a_t_text, .inl (cI, 120, .inl t_text)), (a_t_draft, .inl (cI, 36, .inl t_draft))]) ⟨hx, hb, hml, hown, hts⟩ (ct_X12_token l D cI cZ cO a_t a_t_text a_t_told a_t_draft a_t_s a_t_images a_t_kept a_t_notes a_t_players a_t_answers a_t_room a_t_inRest H.size t_trace t_typed t_noted (0 : Int32) t_sort t_start t_value t_text t_at_2 t_sort_3 t_start_4 t_value_5 e6) (cwV 0 hts gX12_reads_X12_token rfl rfl rfl (by decide +kernel) ⟨Nat.le_of_ble_eq_true rfl, Nat.le_of_ble_eq_true rfl⟩) hK hN hP hD hS hA [0, 1] [2] (by decide) rfl rfl (by decide) (by decide) rfl (va_recv hK hP (ci := 12) (q0 := 0) rfl rfl) rfl hl.1 rfl (Nat.le_of_ble_eq_true rfl) dX12_reads_27 ⟨Nat.zero_le _, Nat.zero_le _⟩ [1, 2, 0] (by decide) rfl (fun H locs hP hD hS => ?_)
        exact bl_l30 jx_F t_at_2 t_sort_3 t_start_4 t_value_5 t_draft _ _ _ hP hD hS (lv_sub hl [0] rfl) h
      · have h := jx_f h c1
        refine lv_aload_n hx hb dX12_reads_8 rfl (lv_at hl 0 rfl) ?_
        refine va_get (D := D) (ci := 12) (v := .ref a_t_draft) (C := RX12) (T := TX12) (N := 18) hx hb hts hi_X12 hown hK hP 0 rfl rfl 4 (by decide) (hts (.fieldLink RX12 16 "TriangleRestModel" "draft" "[I") (List.mem_of_getElem? (i := 1) rfl)) (fun _ h9 => h9) rfl dX12_reads_9 ?_
        refine lv_iload_n hx hb dX12_reads_12 rfl (lv_at hl 1 rfl) ?_
        refine lv_iconst (v := (0 : Int32)) hx hb dX12_reads_13 (by decide) ?_
        obtain ⟨g7, h⟩ := jx_g_of h
        refine va_iast hx hb hK hP hD hS 2 0 rfl rfl (jx_in_of g7) dX12_reads_14 (fun H locs hP hD hS => ?_)
        have hP : va_P D vwCl [(a_t, .inr (12, [.long t_trace, .ref a_t_text, .int t_typed, .ref a_t_told, .ref a_t_draft, .ref a_t_s, .ref a_t_images, .ref a_t_kept, .ref a_t_notes, .int t_noted, .int t_at, .int t_sort, .int t_start, .int t_value, .ref a_t_players, .ref a_t_answers, .ref a_t_room, .ref a_t_inRest])), (a_t_text, .inl (cI, 120, .inl t_text)), (a_t_draft, .inl (cI, 36, .inl (upd t_draft (Int32.toNatClampNeg x1) (0 : Int32))))] H := hP
        have hD : va_D A [(a_t, .inr (12, [.long t_trace, .ref a_t_text, .int t_typed, .ref a_t_told, .ref a_t_draft, .ref a_t_s, .ref a_t_images, .ref a_t_kept, .ref a_t_notes, .int t_noted, .int t_at, .int t_sort, .int t_start, .int t_value, .ref a_t_players, .ref a_t_answers, .ref a_t_room, .ref a_t_inRest])), (a_t_text, .inl (cI, 120, .inl t_text)), (a_t_draft, .inl (cI, 36, .inl (upd t_draft (Int32.toNatClampNeg x1) (0 : Int32))))] := hD
        refine lv_iinc (v := (x1 + 1)) (lv' := [(1, .int (x1 + 1)), (0, .ref a_t)]) hx hb dX12_reads_15 hl (k := 1) rfl rfl (by decide) rfl (fun ls hl => ?_)
        refine lv_goto (tgt := 2) hx hb dX12_reads_18 (by decide) ?_
        exact ih_l2 (x1 + 1) t_at t_sort t_start t_value (upd t_draft (Int32.toNatClampNeg x1) (0 : Int32)) _ _ _ hP hD hS (lv_sub hl [1, 0] rfl) h
  have h := hm
  unfold mi_X12_reads at h
  refine lv_iconst (v := (0 : Int32)) hx hb dX12_reads_0 (by decide) ?_
  refine lv_istore_n (lv' := [(1, .int (0 : Int32)), (0, .ref a_t)]) hx hb dX12_reads_1 rfl hl (by decide) rfl (fun ls hl => ?_)
  exact bl_l2 jx_F (0 : Int32) t_at t_sort t_start t_value t_draft _ _ _ hP hD hS (lv_sub hl [1, 0] rfl) h
def mi_X12_begins_l61 : Nat → Int32 → Int32 → (Nat → Int32) → (Nat → Int32) → (Nat → Int32) → Option (Int32 × (Nat → Int32) × (Nat → Int32) × (Nat → Int32))
  | 0, _, _, _, _, _ => none
  | n + 1, x1, t_noted, t_told, t_s, t_kept => if (56 : Int32) ≤ x1 then (some ((0 : Int32), t_told, t_s, (upd (upd t_kept (Int32.toNatClampNeg (0 : Int32)) (vp_nar .boolean (0 : Int32))) (Int32.toNatClampNeg (1 : Int32)) (vp_nar .boolean (0 : Int32))))) else (jx_g (jx_in x1 56) (mi_X12_begins_l61 n (x1 + 1) t_noted t_told (upd t_s (Int32.toNatClampNeg x1) (0 : Int32)) t_kept))
def mi_X12_begins_b58 (k1 : Int32) (k2 : Int32) (t_noted : Int32) (t_told : Nat → Int32) (t_s : Nat → Int32) (t_kept : Nat → Int32) : Option (Int32 × (Nat → Int32) × (Nat → Int32) × (Nat → Int32)) := jx_g (jx_in k1 36) (mi_X12_begins_l61 jx_F (0 : Int32) t_noted (upd t_told (Int32.toNatClampNeg k1) k2) t_s t_kept)
def mi_X12_begins_l2 (t_draft : Nat → Int32) : Nat → Int32 → Int32 → (Nat → Int32) → (Nat → Int32) → (Nat → Int32) → Option (Int32 × (Nat → Int32) × (Nat → Int32) × (Nat → Int32))
  | 0, _, _, _, _, _ => none
  | n + 1, x1, t_noted, t_told, t_s, t_kept => if (36 : Int32) ≤ x1 then (if (t_told (Int32.toNatClampNeg (3 : Int32))) = (1 : Int32) then (mi_X12_begins_b58 (4 : Int32) (t_told (Int32.toNatClampNeg (4 : Int32))) t_noted t_told t_s t_kept) else (mi_X12_begins_b58 (4 : Int32) ((t_told (Int32.toNatClampNeg (0 : Int32))) - (1 : Int32)) t_noted t_told t_s t_kept)) else (jx_g (jx_in x1 36) (jx_g (jx_in x1 36) (mi_X12_begins_l2 t_draft n (x1 + 1) t_noted (upd t_told (Int32.toNatClampNeg x1) (t_draft (Int32.toNatClampNeg x1))) t_s t_kept)))
def mi_X12_begins (t_noted : Int32) (t_told : Nat → Int32) (t_draft : Nat → Int32) (t_s : Nat → Int32) (t_kept : Nat → Int32) : Option (Int32 × (Nat → Int32) × (Nat → Int32) × (Nat → Int32)) := mi_X12_begins_l2 t_draft jx_F (0 : Int32) t_noted t_told t_s t_kept
abbrev rm_X12_begins : Room := { frames := 0, cells := 0, slots := 0, locals := 0 }
set_option maxRecDepth 100000 in
set_option maxHeartbeats 4000000 in
theorem ct_X12_begins (l : Launch) (D : va_G) (cI cZ cO : ClassId) (a_t a_t_text a_t_told a_t_draft a_t_s a_t_images a_t_kept a_t_notes a_t_players a_t_answers a_t_room a_t_inRest : Nat) (sz : Nat) (t_trace : Int64) (t_typed : Int32) (t_noted : Int32) (t_at : Int32) (t_sort : Int32) (t_start : Int32) (t_value : Int32) (t_told : Nat → Int32) (t_draft : Nat → Int32) (t_s : Nat → Int32) (t_kept : Nat → Int32) (z_t_noted : Int32) (z_t_told : Nat → Int32) (z_t_s : Nat → Int32) (z_t_kept : Nat → Int32) (hm : mi_X12_begins t_noted t_told t_draft t_s t_kept = some (z_t_noted, z_t_told, z_t_s, z_t_kept)) : Met l yX12_begins wsX12_begins rm_X12_begins (va_Pc [.ref a_t] (jx_W D (jx_T cI cZ cO) sz [(a_t, .inr (12, [.long t_trace, .ref a_t_text, .int t_typed, .ref a_t_told, .ref a_t_draft, .ref a_t_s, .ref a_t_images, .ref a_t_kept, .ref a_t_notes, .int t_noted, .int t_at, .int t_sort, .int t_start, .int t_value, .ref a_t_players, .ref a_t_answers, .ref a_t_room, .ref a_t_inRest])), (a_t_told, .inl (cI, 36, .inl t_told)), (a_t_draft, .inl (cI, 36, .inl t_draft)), (a_t_s, .inl (cI, 56, .inl t_s)), (a_t_kept, .inl (cZ, 2, .inl t_kept))])) (jx_Q none D [(a_t, .inr (12, [.long t_trace, .ref a_t_text, .int t_typed, .ref a_t_told, .ref a_t_draft, .ref a_t_s, .ref a_t_images, .ref a_t_kept, .ref a_t_notes, .int z_t_noted, .int t_at, .int t_sort, .int t_start, .int t_value, .ref a_t_players, .ref a_t_answers, .ref a_t_room, .ref a_t_inRest])), (a_t_told, .inl (cI, 36, .inl z_t_told)), (a_t_draft, .inl (cI, 36, .inl t_draft)), (a_t_s, .inl (cI, 56, .inl z_t_s)), (a_t_kept, .inl (cZ, 2, .inl z_t_kept))] (va_A [(a_t, .inr (12, [.long t_trace, .ref a_t_text, .int t_typed, .ref a_t_told, .ref a_t_draft, .ref a_t_s, .ref a_t_images, .ref a_t_kept, .ref a_t_notes, .int t_noted, .int t_at, .int t_sort, .int t_start, .int t_value, .ref a_t_players, .ref a_t_answers, .ref a_t_room, .ref a_t_inRest])), (a_t_told, .inl (cI, 36, .inl t_told)), (a_t_draft, .inl (cI, 36, .inl t_draft)), (a_t_s, .inl (cI, 56, .inl t_s)), (a_t_kept, .inl (cZ, 2, .inl t_kept))] sz)) 0 0 (va_A [(a_t, .inr (12, [.long t_trace, .ref a_t_text, .int t_typed, .ref a_t_told, .ref a_t_draft, .ref a_t_s, .ref a_t_images, .ref a_t_kept, .ref a_t_notes, .int t_noted, .int t_at, .int t_sort, .int t_start, .int t_value, .ref a_t_players, .ref a_t_answers, .ref a_t_room, .ref a_t_inRest])), (a_t_told, .inl (cI, 36, .inl t_told)), (a_t_draft, .inl (cI, 36, .inl t_draft)), (a_t_s, .inl (cI, 56, .inl t_s)), (a_t_kept, .inl (cZ, 2, .inl t_kept))] sz) := by
  refine jx_metV (own := RX12) (cc := cX12_begins) (maxL := 2) (by decide) rfl rfl (Nat.le_of_ble_eq_true rfl) ?_
  intro p e s m args below meth c Q ls A hx hb hml hown hts hK hN hA hP hD hS hl hret
  have hi_X12 : ∀ w ∈ u_ws RX12 TX12 18, w ∈ wsX12_begins := by decide +kernel
  have hl : lv_has ls 2 [(0, .ref a_t)] := hl
  have bl_l61 : ∀ (n : Nat) (x1 : Int32) (t_noted : Int32) (t_told : Nat → Int32) (t_s : Nat → Int32) (t_kept : Nat → Int32) (H : Heap) (locs : List Loc) (ls : Array Slot), va_P D vwCl [(a_t, .inr (12, [.long t_trace, .ref a_t_text, .int t_typed, .ref a_t_told, .ref a_t_draft, .ref a_t_s, .ref a_t_images, .ref a_t_kept, .ref a_t_notes, .int t_noted, .int t_at, .int t_sort, .int t_start, .int t_value, .ref a_t_players, .ref a_t_answers, .ref a_t_room, .ref a_t_inRest])), (a_t_told, .inl (cI, 36, .inl t_told)), (a_t_draft, .inl (cI, 36, .inl t_draft)), (a_t_s, .inl (cI, 56, .inl t_s)), (a_t_kept, .inl (cZ, 2, .inl t_kept))] H → va_D A [(a_t, .inr (12, [.long t_trace, .ref a_t_text, .int t_typed, .ref a_t_told, .ref a_t_draft, .ref a_t_s, .ref a_t_images, .ref a_t_kept, .ref a_t_notes, .int t_noted, .int t_at, .int t_sort, .int t_start, .int t_value, .ref a_t_players, .ref a_t_answers, .ref a_t_room, .ref a_t_inRest])), (a_t_told, .inl (cI, 36, .inl t_told)), (a_t_draft, .inl (cI, 36, .inl t_draft)), (a_t_s, .inl (cI, 56, .inl t_s)), (a_t_kept, .inl (cZ, 2, .inl t_kept))] → va_S A s.heap H locs → lv_has ls 2 [(0, .ref a_t), (1, .int x1)] → mi_X12_begins_l61 n x1 t_noted t_told t_s t_kept = some (z_t_noted, z_t_told, z_t_s, z_t_kept) → W p l e (headSpec wsX12_begins rm_X12_begins).room s m args below meth c H locs 0 0 Q (F0 m 61 ls []) := by
    intro n
    induction n with
    | zero =>
      intro x1 t_noted t_told t_s t_kept H locs ls hP hD hS hl h
      rw [mi_X12_begins_l61] at h
      cases h
    | succ n_l61 ih_l61 =>
      intro x1 t_noted t_told t_s t_kept H locs ls hP hD hS hl h
      rw [mi_X12_begins_l61] at h
      refine lv_iload_n hx hb dX12_begins_61 rfl (lv_at hl 1 rfl) ?_
      refine lv_bipush (v := (56 : Int32)) hx hb dX12_begins_62 (by decide) ?_
      refine lv_icmp_ge (tgt := 80) hx hb dX12_begins_64 (by decide) (fun c6 => ?_) (fun c6 => ?_)
      · have h := jx_t h c6
        refine lv_aload_n hx hb dX12_begins_80 rfl (lv_at hl 0 rfl) ?_
        refine lv_iconst (v := (0 : Int32)) hx hb dX12_begins_81 (by decide) ?_
        refine va_put (D := D) (ci := 12) (v := .int (0 : Int32)) (ty := .int) (C := RX12) (T := TX12) (N := 18) hx hb hts hi_X12 tyX12 tyX12_ok nmX12 hown hK hP hD hS 0 rfl rfl 9 (by decide) (hts (.fieldLink RX12 91 "TriangleRestModel" "noted" "I") (List.mem_of_getElem? (i := 4) rfl)) (fun _ h9 => h9) rfl (by decide +kernel) rfl rfl (Nat.le_of_ble_eq_true rfl) dX12_begins_82 (fun H locs hP hD hS => ?_)
        have hP : va_P D vwCl [(a_t, .inr (12, [.long t_trace, .ref a_t_text, .int t_typed, .ref a_t_told, .ref a_t_draft, .ref a_t_s, .ref a_t_images, .ref a_t_kept, .ref a_t_notes, .int (0 : Int32), .int t_at, .int t_sort, .int t_start, .int t_value, .ref a_t_players, .ref a_t_answers, .ref a_t_room, .ref a_t_inRest])), (a_t_told, .inl (cI, 36, .inl t_told)), (a_t_draft, .inl (cI, 36, .inl t_draft)), (a_t_s, .inl (cI, 56, .inl t_s)), (a_t_kept, .inl (cZ, 2, .inl t_kept))] H := hP
        have hD : va_D A [(a_t, .inr (12, [.long t_trace, .ref a_t_text, .int t_typed, .ref a_t_told, .ref a_t_draft, .ref a_t_s, .ref a_t_images, .ref a_t_kept, .ref a_t_notes, .int (0 : Int32), .int t_at, .int t_sort, .int t_start, .int t_value, .ref a_t_players, .ref a_t_answers, .ref a_t_room, .ref a_t_inRest])), (a_t_told, .inl (cI, 36, .inl t_told)), (a_t_draft, .inl (cI, 36, .inl t_draft)), (a_t_s, .inl (cI, 56, .inl t_s)), (a_t_kept, .inl (cZ, 2, .inl t_kept))] := hD
        refine lv_aload_n hx hb dX12_begins_85 rfl (lv_at hl 0 rfl) ?_
        refine va_get (D := D) (ci := 12) (v := .ref a_t_kept) (C := RX12) (T := TX12) (N := 18) hx hb hts hi_X12 hown hK hP 0 rfl rfl 7 (by decide) (hts (.fieldLink RX12 25 "TriangleRestModel" "kept" "[Z") (List.mem_of_getElem? (i := 5) rfl)) (fun _ h9 => h9) rfl dX12_begins_86 ?_
        refine lv_iconst (v := (0 : Int32)) hx hb dX12_begins_89 (by decide) ?_
        refine lv_iconst (v := (0 : Int32)) hx hb dX12_begins_90 (by decide) ?_
        refine va_zast hx hb hK hP hD hS 4 1 rfl rfl (jx_in_of (by decide +kernel)) dX12_begins_91 (fun H locs hP hD hS => ?_)
        have hP : va_P D vwCl [(a_t, .inr (12, [.long t_trace, .ref a_t_text, .int t_typed, .ref a_t_told, .ref a_t_draft, .ref a_t_s, .ref a_t_images, .ref a_t_kept, .ref a_t_notes, .int (0 : Int32), .int t_at, .int t_sort, .int t_start, .int t_value, .ref a_t_players, .ref a_t_answers, .ref a_t_room, .ref a_t_inRest])), (a_t_told, .inl (cI, 36, .inl t_told)), (a_t_draft, .inl (cI, 36, .inl t_draft)), (a_t_s, .inl (cI, 56, .inl t_s)), (a_t_kept, .inl (cZ, 2, .inl (upd t_kept (Int32.toNatClampNeg (0 : Int32)) (vp_nar .boolean (0 : Int32)))))] H := hP
        have hD : va_D A [(a_t, .inr (12, [.long t_trace, .ref a_t_text, .int t_typed, .ref a_t_told, .ref a_t_draft, .ref a_t_s, .ref a_t_images, .ref a_t_kept, .ref a_t_notes, .int (0 : Int32), .int t_at, .int t_sort, .int t_start, .int t_value, .ref a_t_players, .ref a_t_answers, .ref a_t_room, .ref a_t_inRest])), (a_t_told, .inl (cI, 36, .inl t_told)), (a_t_draft, .inl (cI, 36, .inl t_draft)), (a_t_s, .inl (cI, 56, .inl t_s)), (a_t_kept, .inl (cZ, 2, .inl (upd t_kept (Int32.toNatClampNeg (0 : Int32)) (vp_nar .boolean (0 : Int32)))))] := hD
        refine lv_aload_n hx hb dX12_begins_92 rfl (lv_at hl 0 rfl) ?_
        refine va_get (D := D) (ci := 12) (v := .ref a_t_kept) (C := RX12) (T := TX12) (N := 18) hx hb hts hi_X12 hown hK hP 0 rfl rfl 7 (by decide) (hts (.fieldLink RX12 25 "TriangleRestModel" "kept" "[Z") (List.mem_of_getElem? (i := 5) rfl)) (fun _ h9 => h9) rfl dX12_begins_93 ?_
        refine lv_iconst (v := (1 : Int32)) hx hb dX12_begins_96 (by decide) ?_
        refine lv_iconst (v := (0 : Int32)) hx hb dX12_begins_97 (by decide) ?_
        refine va_zast hx hb hK hP hD hS 4 1 rfl rfl (jx_in_of (by decide +kernel)) dX12_begins_98 (fun H locs hP hD hS => ?_)
        have hP : va_P D vwCl [(a_t, .inr (12, [.long t_trace, .ref a_t_text, .int t_typed, .ref a_t_told, .ref a_t_draft, .ref a_t_s, .ref a_t_images, .ref a_t_kept, .ref a_t_notes, .int (0 : Int32), .int t_at, .int t_sort, .int t_start, .int t_value, .ref a_t_players, .ref a_t_answers, .ref a_t_room, .ref a_t_inRest])), (a_t_told, .inl (cI, 36, .inl t_told)), (a_t_draft, .inl (cI, 36, .inl t_draft)), (a_t_s, .inl (cI, 56, .inl t_s)), (a_t_kept, .inl (cZ, 2, .inl (upd (upd t_kept (Int32.toNatClampNeg (0 : Int32)) (vp_nar .boolean (0 : Int32))) (Int32.toNatClampNeg (1 : Int32)) (vp_nar .boolean (0 : Int32)))))] H := hP
        have hD : va_D A [(a_t, .inr (12, [.long t_trace, .ref a_t_text, .int t_typed, .ref a_t_told, .ref a_t_draft, .ref a_t_s, .ref a_t_images, .ref a_t_kept, .ref a_t_notes, .int (0 : Int32), .int t_at, .int t_sort, .int t_start, .int t_value, .ref a_t_players, .ref a_t_answers, .ref a_t_room, .ref a_t_inRest])), (a_t_told, .inl (cI, 36, .inl t_told)), (a_t_draft, .inl (cI, 36, .inl t_draft)), (a_t_s, .inl (cI, 56, .inl t_s)), (a_t_kept, .inl (cZ, 2, .inl (upd (upd t_kept (Int32.toNatClampNeg (0 : Int32)) (vp_nar .boolean (0 : Int32))) (Int32.toNatClampNeg (1 : Int32)) (vp_nar .boolean (0 : Int32)))))] := hD
        cases h
        exact hret 99 ls _ _ hP hD hS dX12_begins_99
      · have h := jx_f h c6
        refine lv_aload_n hx hb dX12_begins_67 rfl (lv_at hl 0 rfl) ?_
        refine va_get (D := D) (ci := 12) (v := .ref a_t_s) (C := RX12) (T := TX12) (N := 18) hx hb hts hi_X12 hown hK hP 0 rfl rfl 5 (by decide) (hts (.fieldLink RX12 19 "TriangleRestModel" "s" "[I") (List.mem_of_getElem? (i := 3) rfl)) (fun _ h9 => h9) rfl dX12_begins_68 ?_
        refine lv_iload_n hx hb dX12_begins_71 rfl (lv_at hl 1 rfl) ?_
        refine lv_iconst (v := (0 : Int32)) hx hb dX12_begins_72 (by decide) ?_
        obtain ⟨g7, h⟩ := jx_g_of h
        refine va_iast hx hb hK hP hD hS 3 0 rfl rfl (jx_in_of g7) dX12_begins_73 (fun H locs hP hD hS => ?_)
        have hP : va_P D vwCl [(a_t, .inr (12, [.long t_trace, .ref a_t_text, .int t_typed, .ref a_t_told, .ref a_t_draft, .ref a_t_s, .ref a_t_images, .ref a_t_kept, .ref a_t_notes, .int t_noted, .int t_at, .int t_sort, .int t_start, .int t_value, .ref a_t_players, .ref a_t_answers, .ref a_t_room, .ref a_t_inRest])), (a_t_told, .inl (cI, 36, .inl t_told)), (a_t_draft, .inl (cI, 36, .inl t_draft)), (a_t_s, .inl (cI, 56, .inl (upd t_s (Int32.toNatClampNeg x1) (0 : Int32)))), (a_t_kept, .inl (cZ, 2, .inl t_kept))] H := hP
        have hD : va_D A [(a_t, .inr (12, [.long t_trace, .ref a_t_text, .int t_typed, .ref a_t_told, .ref a_t_draft, .ref a_t_s, .ref a_t_images, .ref a_t_kept, .ref a_t_notes, .int t_noted, .int t_at, .int t_sort, .int t_start, .int t_value, .ref a_t_players, .ref a_t_answers, .ref a_t_room, .ref a_t_inRest])), (a_t_told, .inl (cI, 36, .inl t_told)), (a_t_draft, .inl (cI, 36, .inl t_draft)), (a_t_s, .inl (cI, 56, .inl (upd t_s (Int32.toNatClampNeg x1) (0 : Int32)))), (a_t_kept, .inl (cZ, 2, .inl t_kept))] := hD
        refine lv_iinc (v := (x1 + 1)) (lv' := [(1, .int (x1 + 1)), (0, .ref a_t)]) hx hb dX12_begins_74 hl (k := 1) rfl rfl (by decide) rfl (fun ls hl => ?_)
        refine lv_goto (tgt := 61) hx hb dX12_begins_77 (by decide) ?_
        exact ih_l61 (x1 + 1) t_noted t_told (upd t_s (Int32.toNatClampNeg x1) (0 : Int32)) t_kept _ _ _ hP hD hS (lv_sub hl [1, 0] rfl) h
  have bl_b58 : ∀ (k1 : Int32) (k2 : Int32) (t_noted : Int32) (t_told : Nat → Int32) (t_s : Nat → Int32) (t_kept : Nat → Int32) (H : Heap) (locs : List Loc) (ls : Array Slot), va_P D vwCl [(a_t, .inr (12, [.long t_trace, .ref a_t_text, .int t_typed, .ref a_t_told, .ref a_t_draft, .ref a_t_s, .ref a_t_images, .ref a_t_kept, .ref a_t_notes, .int t_noted, .int t_at, .int t_sort, .int t_start, .int t_value, .ref a_t_players, .ref a_t_answers, .ref a_t_room, .ref a_t_inRest])), (a_t_told, .inl (cI, 36, .inl t_told)), (a_t_draft, .inl (cI, 36, .inl t_draft)), (a_t_s, .inl (cI, 56, .inl t_s)), (a_t_kept, .inl (cZ, 2, .inl t_kept))] H → va_D A [(a_t, .inr (12, [.long t_trace, .ref a_t_text, .int t_typed, .ref a_t_told, .ref a_t_draft, .ref a_t_s, .ref a_t_images, .ref a_t_kept, .ref a_t_notes, .int t_noted, .int t_at, .int t_sort, .int t_start, .int t_value, .ref a_t_players, .ref a_t_answers, .ref a_t_room, .ref a_t_inRest])), (a_t_told, .inl (cI, 36, .inl t_told)), (a_t_draft, .inl (cI, 36, .inl t_draft)), (a_t_s, .inl (cI, 56, .inl t_s)), (a_t_kept, .inl (cZ, 2, .inl t_kept))] → va_S A s.heap H locs → lv_has ls 2 [(0, .ref a_t)] → mi_X12_begins_b58 k1 k2 t_noted t_told t_s t_kept = some (z_t_noted, z_t_told, z_t_s, z_t_kept) → W p l e (headSpec wsX12_begins rm_X12_begins).room s m args below meth c H locs 0 0 Q (F0 m 58 ls [.int k2, .int k1, .ref a_t_told]) := by
    intro k1 k2 t_noted t_told t_s t_kept H locs ls hP hD hS hl h
    unfold mi_X12_begins_b58 at h
    obtain ⟨g5, h⟩ := jx_g_of h
    refine va_iast hx hb hK hP hD hS 1 0 rfl rfl (jx_in_of g5) dX12_begins_58 (fun H locs hP hD hS => ?_)
    have hP : va_P D vwCl [(a_t, .inr (12, [.long t_trace, .ref a_t_text, .int t_typed, .ref a_t_told, .ref a_t_draft, .ref a_t_s, .ref a_t_images, .ref a_t_kept, .ref a_t_notes, .int t_noted, .int t_at, .int t_sort, .int t_start, .int t_value, .ref a_t_players, .ref a_t_answers, .ref a_t_room, .ref a_t_inRest])), (a_t_told, .inl (cI, 36, .inl (upd t_told (Int32.toNatClampNeg k1) k2))), (a_t_draft, .inl (cI, 36, .inl t_draft)), (a_t_s, .inl (cI, 56, .inl t_s)), (a_t_kept, .inl (cZ, 2, .inl t_kept))] H := hP
    have hD : va_D A [(a_t, .inr (12, [.long t_trace, .ref a_t_text, .int t_typed, .ref a_t_told, .ref a_t_draft, .ref a_t_s, .ref a_t_images, .ref a_t_kept, .ref a_t_notes, .int t_noted, .int t_at, .int t_sort, .int t_start, .int t_value, .ref a_t_players, .ref a_t_answers, .ref a_t_room, .ref a_t_inRest])), (a_t_told, .inl (cI, 36, .inl (upd t_told (Int32.toNatClampNeg k1) k2))), (a_t_draft, .inl (cI, 36, .inl t_draft)), (a_t_s, .inl (cI, 56, .inl t_s)), (a_t_kept, .inl (cZ, 2, .inl t_kept))] := hD
    refine lv_iconst (v := (0 : Int32)) hx hb dX12_begins_59 (by decide) ?_
    refine lv_istore_n (lv' := [(1, .int (0 : Int32)), (0, .ref a_t)]) hx hb dX12_begins_60 rfl hl (by decide) rfl (fun ls hl => ?_)
    exact bl_l61 jx_F (0 : Int32) t_noted (upd t_told (Int32.toNatClampNeg k1) k2) t_s t_kept _ _ _ hP hD hS (lv_sub hl [1, 0] rfl) h
  have bl_l2 : ∀ (n : Nat) (x1 : Int32) (t_noted : Int32) (t_told : Nat → Int32) (t_s : Nat → Int32) (t_kept : Nat → Int32) (H : Heap) (locs : List Loc) (ls : Array Slot), va_P D vwCl [(a_t, .inr (12, [.long t_trace, .ref a_t_text, .int t_typed, .ref a_t_told, .ref a_t_draft, .ref a_t_s, .ref a_t_images, .ref a_t_kept, .ref a_t_notes, .int t_noted, .int t_at, .int t_sort, .int t_start, .int t_value, .ref a_t_players, .ref a_t_answers, .ref a_t_room, .ref a_t_inRest])), (a_t_told, .inl (cI, 36, .inl t_told)), (a_t_draft, .inl (cI, 36, .inl t_draft)), (a_t_s, .inl (cI, 56, .inl t_s)), (a_t_kept, .inl (cZ, 2, .inl t_kept))] H → va_D A [(a_t, .inr (12, [.long t_trace, .ref a_t_text, .int t_typed, .ref a_t_told, .ref a_t_draft, .ref a_t_s, .ref a_t_images, .ref a_t_kept, .ref a_t_notes, .int t_noted, .int t_at, .int t_sort, .int t_start, .int t_value, .ref a_t_players, .ref a_t_answers, .ref a_t_room, .ref a_t_inRest])), (a_t_told, .inl (cI, 36, .inl t_told)), (a_t_draft, .inl (cI, 36, .inl t_draft)), (a_t_s, .inl (cI, 56, .inl t_s)), (a_t_kept, .inl (cZ, 2, .inl t_kept))] → va_S A s.heap H locs → lv_has ls 2 [(0, .ref a_t), (1, .int x1)] → mi_X12_begins_l2 t_draft n x1 t_noted t_told t_s t_kept = some (z_t_noted, z_t_told, z_t_s, z_t_kept) → W p l e (headSpec wsX12_begins rm_X12_begins).room s m args below meth c H locs 0 0 Q (F0 m 2 ls []) := by
    intro n
    induction n with
    | zero =>
      intro x1 t_noted t_told t_s t_kept H locs ls hP hD hS hl h
      rw [mi_X12_begins_l2] at h
      cases h
    | succ n_l2 ih_l2 =>
      intro x1 t_noted t_told t_s t_kept H locs ls hP hD hS hl h
      rw [mi_X12_begins_l2] at h
      refine lv_iload_n hx hb dX12_begins_2 rfl (lv_at hl 1 rfl) ?_
      refine lv_bipush (v := (36 : Int32)) hx hb dX12_begins_3 (by decide) ?_
      refine lv_icmp_ge (tgt := 26) hx hb dX12_begins_5 (by decide) (fun c1 => ?_) (fun c1 => ?_)
      · have h := jx_t h c1
        refine lv_aload_n hx hb dX12_begins_26 rfl (lv_at hl 0 rfl) ?_
        refine va_get (D := D) (ci := 12) (v := .ref a_t_told) (C := RX12) (T := TX12) (N := 18) hx hb hts hi_X12 hown hK hP 0 rfl rfl 3 (by decide) (hts (.fieldLink RX12 13 "TriangleRestModel" "told" "[I") (List.mem_of_getElem? (i := 1) rfl)) (fun _ h9 => h9) rfl dX12_begins_27 ?_
        refine lv_iconst (v := (4 : Int32)) hx hb dX12_begins_30 (by decide) ?_
        refine lv_aload_n hx hb dX12_begins_31 rfl (lv_at hl 0 rfl) ?_
        refine va_get (D := D) (ci := 12) (v := .ref a_t_told) (C := RX12) (T := TX12) (N := 18) hx hb hts hi_X12 hown hK hP 0 rfl rfl 3 (by decide) (hts (.fieldLink RX12 13 "TriangleRestModel" "told" "[I") (List.mem_of_getElem? (i := 1) rfl)) (fun _ h9 => h9) rfl dX12_begins_32 ?_
        refine lv_iconst (v := (3 : Int32)) hx hb dX12_begins_35 (by decide) ?_
        refine va_iald hx hb hK hP 1 0 rfl rfl (jx_in_of (by decide +kernel)) dX12_begins_36 ?_
        refine lv_iconst (v := (1 : Int32)) hx hb dX12_begins_37 (by decide) ?_
        refine lv_icmp_ne (tgt := 50) hx hb dX12_begins_38 (by decide) (fun c2 => ?_) (fun c2 => ?_)
        · have h := jx_f h c2
          refine lv_aload_n hx hb dX12_begins_50 rfl (lv_at hl 0 rfl) ?_
          refine va_get (D := D) (ci := 12) (v := .ref a_t_told) (C := RX12) (T := TX12) (N := 18) hx hb hts hi_X12 hown hK hP 0 rfl rfl 3 (by decide) (hts (.fieldLink RX12 13 "TriangleRestModel" "told" "[I") (List.mem_of_getElem? (i := 1) rfl)) (fun _ h9 => h9) rfl dX12_begins_51 ?_
          refine lv_iconst (v := (0 : Int32)) hx hb dX12_begins_54 (by decide) ?_
          refine va_iald hx hb hK hP 1 0 rfl rfl (jx_in_of (by decide +kernel)) dX12_begins_55 ?_
          refine lv_iconst (v := (1 : Int32)) hx hb dX12_begins_56 (by decide) ?_
          refine lv_isub hx hb dX12_begins_57 ?_
          exact bl_b58 (4 : Int32) ((t_told (Int32.toNatClampNeg (0 : Int32))) - (1 : Int32)) t_noted t_told t_s t_kept _ _ _ hP hD hS (lv_sub hl [0] rfl) h
        · have h := jx_t h c2
          refine lv_aload_n hx hb dX12_begins_41 rfl (lv_at hl 0 rfl) ?_
          refine va_get (D := D) (ci := 12) (v := .ref a_t_told) (C := RX12) (T := TX12) (N := 18) hx hb hts hi_X12 hown hK hP 0 rfl rfl 3 (by decide) (hts (.fieldLink RX12 13 "TriangleRestModel" "told" "[I") (List.mem_of_getElem? (i := 1) rfl)) (fun _ h9 => h9) rfl dX12_begins_42 ?_
          refine lv_iconst (v := (4 : Int32)) hx hb dX12_begins_45 (by decide) ?_
          refine va_iald hx hb hK hP 1 0 rfl rfl (jx_in_of (by decide +kernel)) dX12_begins_46 ?_
          refine lv_goto (tgt := 58) hx hb dX12_begins_47 (by decide) ?_
          exact bl_b58 (4 : Int32) (t_told (Int32.toNatClampNeg (4 : Int32))) t_noted t_told t_s t_kept _ _ _ hP hD hS (lv_sub hl [0] rfl) h
      · have h := jx_f h c1
        refine lv_aload_n hx hb dX12_begins_8 rfl (lv_at hl 0 rfl) ?_
        refine va_get (D := D) (ci := 12) (v := .ref a_t_told) (C := RX12) (T := TX12) (N := 18) hx hb hts hi_X12 hown hK hP 0 rfl rfl 3 (by decide) (hts (.fieldLink RX12 13 "TriangleRestModel" "told" "[I") (List.mem_of_getElem? (i := 1) rfl)) (fun _ h9 => h9) rfl dX12_begins_9 ?_
        refine lv_iload_n hx hb dX12_begins_12 rfl (lv_at hl 1 rfl) ?_
        refine lv_aload_n hx hb dX12_begins_13 rfl (lv_at hl 0 rfl) ?_
        refine va_get (D := D) (ci := 12) (v := .ref a_t_draft) (C := RX12) (T := TX12) (N := 18) hx hb hts hi_X12 hown hK hP 0 rfl rfl 4 (by decide) (hts (.fieldLink RX12 16 "TriangleRestModel" "draft" "[I") (List.mem_of_getElem? (i := 2) rfl)) (fun _ h9 => h9) rfl dX12_begins_14 ?_
        refine lv_iload_n hx hb dX12_begins_17 rfl (lv_at hl 1 rfl) ?_
        obtain ⟨g3, h⟩ := jx_g_of h
        refine va_iald hx hb hK hP 2 0 rfl rfl (jx_in_of g3) dX12_begins_18 ?_
        obtain ⟨g4, h⟩ := jx_g_of h
        refine va_iast hx hb hK hP hD hS 1 0 rfl rfl (jx_in_of g4) dX12_begins_19 (fun H locs hP hD hS => ?_)
        have hP : va_P D vwCl [(a_t, .inr (12, [.long t_trace, .ref a_t_text, .int t_typed, .ref a_t_told, .ref a_t_draft, .ref a_t_s, .ref a_t_images, .ref a_t_kept, .ref a_t_notes, .int t_noted, .int t_at, .int t_sort, .int t_start, .int t_value, .ref a_t_players, .ref a_t_answers, .ref a_t_room, .ref a_t_inRest])), (a_t_told, .inl (cI, 36, .inl (upd t_told (Int32.toNatClampNeg x1) (t_draft (Int32.toNatClampNeg x1))))), (a_t_draft, .inl (cI, 36, .inl t_draft)), (a_t_s, .inl (cI, 56, .inl t_s)), (a_t_kept, .inl (cZ, 2, .inl t_kept))] H := hP
        have hD : va_D A [(a_t, .inr (12, [.long t_trace, .ref a_t_text, .int t_typed, .ref a_t_told, .ref a_t_draft, .ref a_t_s, .ref a_t_images, .ref a_t_kept, .ref a_t_notes, .int t_noted, .int t_at, .int t_sort, .int t_start, .int t_value, .ref a_t_players, .ref a_t_answers, .ref a_t_room, .ref a_t_inRest])), (a_t_told, .inl (cI, 36, .inl (upd t_told (Int32.toNatClampNeg x1) (t_draft (Int32.toNatClampNeg x1))))), (a_t_draft, .inl (cI, 36, .inl t_draft)), (a_t_s, .inl (cI, 56, .inl t_s)), (a_t_kept, .inl (cZ, 2, .inl t_kept))] := hD
        refine lv_iinc (v := (x1 + 1)) (lv' := [(1, .int (x1 + 1)), (0, .ref a_t)]) hx hb dX12_begins_20 hl (k := 1) rfl rfl (by decide) rfl (fun ls hl => ?_)
        refine lv_goto (tgt := 2) hx hb dX12_begins_23 (by decide) ?_
        exact ih_l2 (x1 + 1) t_noted (upd t_told (Int32.toNatClampNeg x1) (t_draft (Int32.toNatClampNeg x1))) t_s t_kept _ _ _ hP hD hS (lv_sub hl [1, 0] rfl) h
  have h := hm
  unfold mi_X12_begins at h
  refine lv_iconst (v := (0 : Int32)) hx hb dX12_begins_0 (by decide) ?_
  refine lv_istore_n (lv' := [(1, .int (0 : Int32)), (0, .ref a_t)]) hx hb dX12_begins_1 rfl hl (by decide) rfl (fun ls hl => ?_)
  exact bl_l2 jx_F (0 : Int32) t_noted t_told t_s t_kept _ _ _ hP hD hS (lv_sub hl [1, 0] rfl) h
def mi_X12_piece (t_typed : Int32) (t_noted : Int32) (t_at : Int32) (t_sort : Int32) (t_start : Int32) (t_value : Int32) (t_text : Nat → Int32) (t_told : Nat → Int32) (t_draft : Nat → Int32) (t_s : Nat → Int32) (t_kept : Nat → Int32) : Option (Int32 × Int32 × Int32 × Int32 × Int32 × Int32 × Int32 × (Nat → Int32) × (Nat → Int32) × (Nat → Int32) × (Nat → Int32)) := jx_b6 (mi_X12_reads t_typed t_at t_sort t_start t_value t_text t_draft) fun r1 t_at_2 t_sort_3 t_start_4 t_value_5 t_draft_6 => (if r1 = 0 then (some (((-10 : Int32) - t_start_4), t_typed, t_noted, t_at_2, t_sort_3, t_start_4, t_value_5, t_told, t_draft_6, t_s, t_kept)) else (jx_b4 (mi_X12_begins t_noted t_told t_draft_6 t_s t_kept) fun t_noted_9 t_told_10 t_s_11 t_kept_12 => (some ((t_told_10 (Int32.toNatClampNeg (2 : Int32))), (0 : Int32), t_noted_9, t_at_2, t_sort_3, t_start_4, t_value_5, t_told_10, t_draft_6, t_s_11, t_kept_12))))
abbrev rm_X12_piece : Room := { frames := 6, cells := 0, slots := 0, locals := 129 }
set_option maxRecDepth 100000 in
set_option maxHeartbeats 4000000 in
theorem ct_X12_piece (l : Launch) (D : va_G) (cI cZ cO : ClassId) (a_t a_t_text a_t_told a_t_draft a_t_s a_t_images a_t_kept a_t_notes a_t_players a_t_answers a_t_room a_t_inRest : Nat) (sz : Nat) (t_trace : Int64) (t_typed : Int32) (t_noted : Int32) (t_at : Int32) (t_sort : Int32) (t_start : Int32) (t_value : Int32) (t_text : Nat → Int32) (t_told : Nat → Int32) (t_draft : Nat → Int32) (t_s : Nat → Int32) (t_kept : Nat → Int32) (r : Int32) (z_t_typed : Int32) (z_t_noted : Int32) (z_t_at : Int32) (z_t_sort : Int32) (z_t_start : Int32) (z_t_value : Int32) (z_t_told : Nat → Int32) (z_t_draft : Nat → Int32) (z_t_s : Nat → Int32) (z_t_kept : Nat → Int32) (hm : mi_X12_piece t_typed t_noted t_at t_sort t_start t_value t_text t_told t_draft t_s t_kept = some (r, z_t_typed, z_t_noted, z_t_at, z_t_sort, z_t_start, z_t_value, z_t_told, z_t_draft, z_t_s, z_t_kept)) : Met l yX12_piece wsX12_piece rm_X12_piece (va_Pc [.ref a_t] (jx_W D (jx_T cI cZ cO) sz [(a_t, .inr (12, [.long t_trace, .ref a_t_text, .int t_typed, .ref a_t_told, .ref a_t_draft, .ref a_t_s, .ref a_t_images, .ref a_t_kept, .ref a_t_notes, .int t_noted, .int t_at, .int t_sort, .int t_start, .int t_value, .ref a_t_players, .ref a_t_answers, .ref a_t_room, .ref a_t_inRest])), (a_t_text, .inl (cI, 120, .inl t_text)), (a_t_told, .inl (cI, 36, .inl t_told)), (a_t_draft, .inl (cI, 36, .inl t_draft)), (a_t_s, .inl (cI, 56, .inl t_s)), (a_t_kept, .inl (cZ, 2, .inl t_kept))])) (jx_Q (some (.int r)) D [(a_t, .inr (12, [.long t_trace, .ref a_t_text, .int z_t_typed, .ref a_t_told, .ref a_t_draft, .ref a_t_s, .ref a_t_images, .ref a_t_kept, .ref a_t_notes, .int z_t_noted, .int z_t_at, .int z_t_sort, .int z_t_start, .int z_t_value, .ref a_t_players, .ref a_t_answers, .ref a_t_room, .ref a_t_inRest])), (a_t_text, .inl (cI, 120, .inl t_text)), (a_t_told, .inl (cI, 36, .inl z_t_told)), (a_t_draft, .inl (cI, 36, .inl z_t_draft)), (a_t_s, .inl (cI, 56, .inl z_t_s)), (a_t_kept, .inl (cZ, 2, .inl z_t_kept))] (va_A [(a_t, .inr (12, [.long t_trace, .ref a_t_text, .int t_typed, .ref a_t_told, .ref a_t_draft, .ref a_t_s, .ref a_t_images, .ref a_t_kept, .ref a_t_notes, .int t_noted, .int t_at, .int t_sort, .int t_start, .int t_value, .ref a_t_players, .ref a_t_answers, .ref a_t_room, .ref a_t_inRest])), (a_t_text, .inl (cI, 120, .inl t_text)), (a_t_told, .inl (cI, 36, .inl t_told)), (a_t_draft, .inl (cI, 36, .inl t_draft)), (a_t_s, .inl (cI, 56, .inl t_s)), (a_t_kept, .inl (cZ, 2, .inl t_kept))] sz)) 0 0 (va_A [(a_t, .inr (12, [.long t_trace, .ref a_t_text, .int t_typed, .ref a_t_told, .ref a_t_draft, .ref a_t_s, .ref a_t_images, .ref a_t_kept, .ref a_t_notes, .int t_noted, .int t_at, .int t_sort, .int t_start, .int t_value, .ref a_t_players, .ref a_t_answers, .ref a_t_room, .ref a_t_inRest])), (a_t_text, .inl (cI, 120, .inl t_text)), (a_t_told, .inl (cI, 36, .inl t_told)), (a_t_draft, .inl (cI, 36, .inl t_draft)), (a_t_s, .inl (cI, 56, .inl t_s)), (a_t_kept, .inl (cZ, 2, .inl t_kept))] sz) := by
  refine jx_metW (ty := .int) (own := RX12) (cc := cX12_piece) (maxL := 1) (by decide) rfl rfl (Nat.le_of_ble_eq_true rfl) ?_
  intro p e s m args below meth c Q ls A hx hb hml hown hts hK hN hA hP hD hS hl hret
  have hi_X12 : ∀ w ∈ u_ws RX12 TX12 18, w ∈ wsX12_piece := by decide +kernel
  have hl : lv_has ls 1 [(0, .ref a_t)] := hl
  have h := hm
  unfold mi_X12_piece at h
  refine lv_aload_n hx hb dX12_piece_0 rfl (lv_at hl 0 rfl) ?_
  obtain ⟨r1, t_at_2, t_sort_3, t_start_4, t_value_5, t_draft_6, e7, h⟩ := jx_b6_of h
  refine jx_cW (o := some (.int r1)) (As := []) (rest := []) (b := a_t) (wr := [(a_t_told, .inl (cI, 36, .inl t_told)), (a_t_s, .inl (cI, 56, .inl t_s)), (a_t_kept, .inl (cZ, 2, .inl t_kept))]) (wd' := [(a_t, .inr (12, [.long t_trace, .ref a_t_text, .int t_typed, .ref a_t_told, .ref a_t_draft, .ref a_t_s, .ref a_t_images, .ref a_t_kept, .ref a_t_notes, .int t_noted, .int t_at_2, .int t_sort_3, .int t_start_4, .int t_value_5, .ref a_t_players, .ref a_t_answers, .ref a_t_room, .ref a_t_inRest])), (a_t_text, .inl (cI, 120, .inl t_text)), (a_t_told, .inl (cI, 36, .inl t_told)), (a_t_draft, .inl (cI, 36, .inl t_draft_6)), (a_t_s, .inl (cI, 56, .inl t_s)), (a_t_kept, .inl (cZ, 2, .inl t_kept))]) ⟨hx, hb, hml, hown, hts⟩ (ct_X12_reads l D cI cZ cO a_t a_t_text a_t_told a_t_draft a_t_s a_t_images a_t_kept a_t_notes a_t_players a_t_answers a_t_room a_t_inRest s.heap.size t_trace t_typed t_noted t_at t_sort t_start t_value t_text t_draft r1 t_at_2 t_sort_3 t_start_4 t_value_5 t_draft_6 e7) (cwV 0 hts gX12_piece_X12_reads rfl rfl rfl (by decide +kernel) ⟨Nat.le_of_ble_eq_true rfl, Nat.le_of_ble_eq_true rfl⟩) hK hN hP hD hS hA [0, 1, 3] [2, 4, 5] (by decide) rfl rfl (by decide) (by decide) rfl (va_recv hK hP (ci := 12) (q0 := 0) rfl rfl) rfl hl.1 rfl (Nat.le_of_ble_eq_true rfl) dX12_piece_1 ⟨Nat.zero_le _, Nat.zero_le _⟩ [3, 4, 0, 5, 1, 2] (by decide) rfl (fun H locs hP hD hS => ?_)
  refine lv_if_ne (tgt := 15) hx hb dX12_piece_4 (by decide) (fun c8 => ?_) (fun c8 => ?_)
  · have h := jx_f h c8
    refine lv_aload_n hx hb dX12_piece_15 rfl (lv_at hl 0 rfl) ?_
    obtain ⟨t_noted_9, t_told_10, t_s_11, t_kept_12, e13, h⟩ := jx_b4_of h
    refine jx_cW (o := none) (As := []) (rest := []) (b := a_t) (wr := [(a_t_text, .inl (cI, 120, .inl t_text))]) (wd' := [(a_t, .inr (12, [.long t_trace, .ref a_t_text, .int t_typed, .ref a_t_told, .ref a_t_draft, .ref a_t_s, .ref a_t_images, .ref a_t_kept, .ref a_t_notes, .int t_noted_9, .int t_at_2, .int t_sort_3, .int t_start_4, .int t_value_5, .ref a_t_players, .ref a_t_answers, .ref a_t_room, .ref a_t_inRest])), (a_t_text, .inl (cI, 120, .inl t_text)), (a_t_told, .inl (cI, 36, .inl t_told_10)), (a_t_draft, .inl (cI, 36, .inl t_draft_6)), (a_t_s, .inl (cI, 56, .inl t_s_11)), (a_t_kept, .inl (cZ, 2, .inl t_kept_12))]) ⟨hx, hb, hml, hown, hts⟩ (ct_X12_begins l D cI cZ cO a_t a_t_text a_t_told a_t_draft a_t_s a_t_images a_t_kept a_t_notes a_t_players a_t_answers a_t_room a_t_inRest H.size t_trace t_typed t_noted t_at_2 t_sort_3 t_start_4 t_value_5 t_told t_draft_6 t_s t_kept t_noted_9 t_told_10 t_s_11 t_kept_12 e13) (cwV 0 hts gX12_piece_X12_begins rfl rfl rfl (by decide +kernel) ⟨Nat.le_of_ble_eq_true rfl, Nat.le_of_ble_eq_true rfl⟩) hK hN hP hD hS hA [0, 2, 3, 4, 5] [1] (by decide) rfl rfl (by decide) (by decide) rfl (va_recv hK hP (ci := 12) (q0 := 0) rfl rfl) rfl hl.1 rfl (Nat.le_of_ble_eq_true rfl) dX12_piece_16 ⟨Nat.zero_le _, Nat.zero_le _⟩ [1, 0, 2, 3, 4, 5] (by decide) rfl (fun H locs hP hD hS => ?_)
    refine lv_aload_n hx hb dX12_piece_19 rfl (lv_at hl 0 rfl) ?_
    refine lv_iconst (v := (0 : Int32)) hx hb dX12_piece_20 (by decide) ?_
    refine va_put (D := D) (ci := 12) (v := .int (0 : Int32)) (ty := .int) (C := RX12) (T := TX12) (N := 18) hx hb hts hi_X12 tyX12 tyX12_ok nmX12 hown hK hP hD hS 0 rfl rfl 2 (by decide) (hts (.fieldLink RX12 55 "TriangleRestModel" "typed" "I") (List.mem_of_getElem? (i := 2) rfl)) (fun _ h9 => h9) rfl (by decide +kernel) rfl rfl (Nat.le_of_ble_eq_true rfl) dX12_piece_21 (fun H locs hP hD hS => ?_)
    have hP : va_P D vwCl [(a_t, .inr (12, [.long t_trace, .ref a_t_text, .int (0 : Int32), .ref a_t_told, .ref a_t_draft, .ref a_t_s, .ref a_t_images, .ref a_t_kept, .ref a_t_notes, .int t_noted_9, .int t_at_2, .int t_sort_3, .int t_start_4, .int t_value_5, .ref a_t_players, .ref a_t_answers, .ref a_t_room, .ref a_t_inRest])), (a_t_text, .inl (cI, 120, .inl t_text)), (a_t_told, .inl (cI, 36, .inl t_told_10)), (a_t_draft, .inl (cI, 36, .inl t_draft_6)), (a_t_s, .inl (cI, 56, .inl t_s_11)), (a_t_kept, .inl (cZ, 2, .inl t_kept_12))] H := hP
    have hD : va_D A [(a_t, .inr (12, [.long t_trace, .ref a_t_text, .int (0 : Int32), .ref a_t_told, .ref a_t_draft, .ref a_t_s, .ref a_t_images, .ref a_t_kept, .ref a_t_notes, .int t_noted_9, .int t_at_2, .int t_sort_3, .int t_start_4, .int t_value_5, .ref a_t_players, .ref a_t_answers, .ref a_t_room, .ref a_t_inRest])), (a_t_text, .inl (cI, 120, .inl t_text)), (a_t_told, .inl (cI, 36, .inl t_told_10)), (a_t_draft, .inl (cI, 36, .inl t_draft_6)), (a_t_s, .inl (cI, 56, .inl t_s_11)), (a_t_kept, .inl (cZ, 2, .inl t_kept_12))] := hD
    refine lv_aload_n hx hb dX12_piece_24 rfl (lv_at hl 0 rfl) ?_
    refine va_get (D := D) (ci := 12) (v := .ref a_t_told) (C := RX12) (T := TX12) (N := 18) hx hb hts hi_X12 hown hK hP 0 rfl rfl 3 (by decide) (hts (.fieldLink RX12 13 "TriangleRestModel" "told" "[I") (List.mem_of_getElem? (i := 3) rfl)) (fun _ h9 => h9) rfl dX12_piece_25 ?_
    refine lv_iconst (v := (2 : Int32)) hx hb dX12_piece_28 (by decide) ?_
    refine va_iald hx hb hK hP 2 0 rfl rfl (jx_in_of (by decide +kernel)) dX12_piece_29 ?_
    have hq_0 := Option.some.inj h
    obtain ⟨hz_1, hq_1⟩ := Prod.mk.inj hq_0
    obtain ⟨hz_2, hq_2⟩ := Prod.mk.inj hq_1
    obtain ⟨hz_3, hq_3⟩ := Prod.mk.inj hq_2
    obtain ⟨hz_4, hq_4⟩ := Prod.mk.inj hq_3
    obtain ⟨hz_5, hq_5⟩ := Prod.mk.inj hq_4
    obtain ⟨hz_6, hq_6⟩ := Prod.mk.inj hq_5
    obtain ⟨hz_7, hq_7⟩ := Prod.mk.inj hq_6
    obtain ⟨hz_8, hq_8⟩ := Prod.mk.inj hq_7
    obtain ⟨hz_9, hq_9⟩ := Prod.mk.inj hq_8
    obtain ⟨hz_10, hq_10⟩ := Prod.mk.inj hq_9
    subst hz_1
    subst hz_2
    subst hz_3
    subst hz_4
    subst hz_5
    subst hz_6
    subst hz_7
    subst hz_8
    subst hz_9
    subst hz_10
    subst hq_10
    exact hret 30 ls _ _ hP hD hS rfl dX12_piece_30
  · have h := jx_t h c8
    refine lv_bipush (v := (-10 : Int32)) hx hb dX12_piece_7 (by decide) ?_
    refine lv_aload_n hx hb dX12_piece_9 rfl (lv_at hl 0 rfl) ?_
    refine va_get (D := D) (ci := 12) (v := .int t_start_4) (C := RX12) (T := TX12) (N := 18) hx hb hts hi_X12 hown hK hP 0 rfl rfl 12 (by decide) (hts (.fieldLink RX12 66 "TriangleRestModel" "start" "I") (List.mem_of_getElem? (i := 1) rfl)) (fun _ h9 => h9) rfl dX12_piece_10 ?_
    refine lv_isub hx hb dX12_piece_13 ?_
    have hq_0 := Option.some.inj h
    obtain ⟨hz_1, hq_1⟩ := Prod.mk.inj hq_0
    obtain ⟨hz_2, hq_2⟩ := Prod.mk.inj hq_1
    obtain ⟨hz_3, hq_3⟩ := Prod.mk.inj hq_2
    obtain ⟨hz_4, hq_4⟩ := Prod.mk.inj hq_3
    obtain ⟨hz_5, hq_5⟩ := Prod.mk.inj hq_4
    obtain ⟨hz_6, hq_6⟩ := Prod.mk.inj hq_5
    obtain ⟨hz_7, hq_7⟩ := Prod.mk.inj hq_6
    obtain ⟨hz_8, hq_8⟩ := Prod.mk.inj hq_7
    obtain ⟨hz_9, hq_9⟩ := Prod.mk.inj hq_8
    obtain ⟨hz_10, hq_10⟩ := Prod.mk.inj hq_9
    subst hz_1
    subst hz_2
    subst hz_3
    subst hz_4
    subst hz_5
    subst hz_6
    subst hz_7
    subst hz_8
    subst hz_9
    subst hz_10
    subst hq_10
    exact hret 14 ls _ _ hP hD hS rfl dX12_piece_14
