/-! written by program (wip/whole/gen.py) out of the printed names: each method as a pure function, and its contract -/
def mi_X8_takes (t_size : Int32) (t_bytes : Nat → Int32) (p1 : Int32) : Option (Int32 × Int32 × (Nat → Int32)) := if t_size < (120 : Int32) then (jx_g (jx_in t_size 120) (some ((1 : Int32), (t_size + (1 : Int32)), (upd t_bytes (Int32.toNatClampNeg t_size) p1)))) else (some ((0 : Int32), t_size, t_bytes))
abbrev rm_X8_takes : Room := { frames := 0, cells := 0, slots := 0, locals := 0 }
set_option maxRecDepth 100000 in
set_option maxHeartbeats 4000000 in
theorem ct_X8_takes (l : Launch) (D : va_G) (cI cZ cO : ClassId) (a_t a_t_bytes : Nat) (sz : Nat) (t_size : Int32) (t_fault : Int32) (t_next : Int32) (t_tokenAt : Int32) (t_tokenIs : Int32) (t_tokenValue : Int32) (t_bytes : Nat → Int32) (p1 : Int32) (r : Int32) (z_t_size : Int32) (z_t_bytes : Nat → Int32) (hm : mi_X8_takes t_size t_bytes p1 = some (r, z_t_size, z_t_bytes)) : Met l yX8_takes wsX8_takes rm_X8_takes (va_Pc [.ref a_t, .int p1] (jx_W D (jx_T cI cZ cO) sz [(a_t, .inr (8, [.ref a_t_bytes, .int t_size, .int t_fault, .int t_next, .int t_tokenAt, .int t_tokenIs, .int t_tokenValue])), (a_t_bytes, .inl (cI, 120, .inl t_bytes))])) (jx_Q (some (.int r)) D [(a_t, .inr (8, [.ref a_t_bytes, .int z_t_size, .int t_fault, .int t_next, .int t_tokenAt, .int t_tokenIs, .int t_tokenValue])), (a_t_bytes, .inl (cI, 120, .inl z_t_bytes))] (va_A [(a_t, .inr (8, [.ref a_t_bytes, .int t_size, .int t_fault, .int t_next, .int t_tokenAt, .int t_tokenIs, .int t_tokenValue])), (a_t_bytes, .inl (cI, 120, .inl t_bytes))] sz)) 0 0 (va_A [(a_t, .inr (8, [.ref a_t_bytes, .int t_size, .int t_fault, .int t_next, .int t_tokenAt, .int t_tokenIs, .int t_tokenValue])), (a_t_bytes, .inl (cI, 120, .inl t_bytes))] sz) := by
  refine jx_metW (ty := .boolean) (own := RX8) (cc := cX8_takes) (maxL := 2) (by decide) rfl rfl (Nat.le_of_ble_eq_true rfl) ?_
  intro p e s m args below meth c Q ls A hx hb hml hown hts hK hN hA hP hD hS hl hret
  have hi_X8 : ∀ w ∈ u_ws RX8 TX8 7, w ∈ wsX8_takes := by decide +kernel
  have hl : lv_has ls 2 [(0, .ref a_t), (1, .int p1)] := hl
  have h := hm
  unfold mi_X8_takes at h
  refine lv_aload_n hx hb dX8_takes_0 rfl (lv_at hl 0 rfl) ?_
  refine va_get (D := D) (ci := 8) (v := .int t_size) (C := RX8) (T := TX8) (N := 7) hx hb hts hi_X8 hown hK hP 0 rfl rfl 1 (by decide) (hts (.fieldLink RX8 19 "TriangleRest$Text" "size" "I") (List.mem_of_getElem? (i := 1) rfl)) (fun _ h9 => h9) rfl dX8_takes_1 ?_
  refine lv_bipush (v := (120 : Int32)) hx hb dX8_takes_4 (by decide) ?_
  refine lv_icmp_lt (tgt := 11) hx hb dX8_takes_6 (by decide) (fun c1 => ?_) (fun c1 => ?_)
  · have h := jx_t h c1
    refine lv_aload_n hx hb dX8_takes_11 rfl (lv_at hl 0 rfl) ?_
    refine va_get (D := D) (ci := 8) (v := .ref a_t_bytes) (C := RX8) (T := TX8) (N := 7) hx hb hts hi_X8 hown hK hP 0 rfl rfl 0 (by decide) (hts (.fieldLink RX8 11 "TriangleRest$Text" "bytes" "[I") (List.mem_of_getElem? (i := 2) rfl)) (fun _ h9 => h9) rfl dX8_takes_12 ?_
    refine lv_aload_n hx hb dX8_takes_15 rfl (lv_at hl 0 rfl) ?_
    refine va_get (D := D) (ci := 8) (v := .int t_size) (C := RX8) (T := TX8) (N := 7) hx hb hts hi_X8 hown hK hP 0 rfl rfl 1 (by decide) (hts (.fieldLink RX8 19 "TriangleRest$Text" "size" "I") (List.mem_of_getElem? (i := 1) rfl)) (fun _ h9 => h9) rfl dX8_takes_16 ?_
    refine lv_iload_n hx hb dX8_takes_19 rfl (lv_at hl 1 rfl) ?_
    obtain ⟨g2, h⟩ := jx_g_of h
    refine va_iast hx hb hK hP hD hS 1 0 rfl rfl (jx_in_of g2) dX8_takes_20 (fun H locs hP hD hS => ?_)
    have hP : va_P D vwCl [(a_t, .inr (8, [.ref a_t_bytes, .int t_size, .int t_fault, .int t_next, .int t_tokenAt, .int t_tokenIs, .int t_tokenValue])), (a_t_bytes, .inl (cI, 120, .inl (upd t_bytes (Int32.toNatClampNeg t_size) p1)))] H := hP
    have hD : va_D A [(a_t, .inr (8, [.ref a_t_bytes, .int t_size, .int t_fault, .int t_next, .int t_tokenAt, .int t_tokenIs, .int t_tokenValue])), (a_t_bytes, .inl (cI, 120, .inl (upd t_bytes (Int32.toNatClampNeg t_size) p1)))] := hD
    refine lv_aload_n hx hb dX8_takes_21 rfl (lv_at hl 0 rfl) ?_
    refine lv_dup hx hb dX8_takes_22 rfl ?_
    refine va_get (D := D) (ci := 8) (v := .int t_size) (C := RX8) (T := TX8) (N := 7) hx hb hts hi_X8 hown hK hP 0 rfl rfl 1 (by decide) (hts (.fieldLink RX8 19 "TriangleRest$Text" "size" "I") (List.mem_of_getElem? (i := 1) rfl)) (fun _ h9 => h9) rfl dX8_takes_23 ?_
    refine lv_iconst (v := (1 : Int32)) hx hb dX8_takes_26 (by decide) ?_
    refine lv_iadd hx hb dX8_takes_27 ?_
    refine va_put (D := D) (ci := 8) (v := .int (t_size + (1 : Int32))) (ty := .int) (C := RX8) (T := TX8) (N := 7) hx hb hts hi_X8 tyX8 tyX8_ok nmX8 hown hK hP hD hS 0 rfl rfl 1 (by decide) (hts (.fieldLink RX8 19 "TriangleRest$Text" "size" "I") (List.mem_of_getElem? (i := 1) rfl)) (fun _ h9 => h9) rfl (by decide +kernel) rfl rfl (Nat.le_of_ble_eq_true rfl) dX8_takes_28 (fun H locs hP hD hS => ?_)
    have hP : va_P D vwCl [(a_t, .inr (8, [.ref a_t_bytes, .int (t_size + (1 : Int32)), .int t_fault, .int t_next, .int t_tokenAt, .int t_tokenIs, .int t_tokenValue])), (a_t_bytes, .inl (cI, 120, .inl (upd t_bytes (Int32.toNatClampNeg t_size) p1)))] H := hP
    have hD : va_D A [(a_t, .inr (8, [.ref a_t_bytes, .int (t_size + (1 : Int32)), .int t_fault, .int t_next, .int t_tokenAt, .int t_tokenIs, .int t_tokenValue])), (a_t_bytes, .inl (cI, 120, .inl (upd t_bytes (Int32.toNatClampNeg t_size) p1)))] := hD
    refine lv_iconst (v := (1 : Int32)) hx hb dX8_takes_31 (by decide) ?_
    cases h
    exact hret 32 ls _ _ hP hD hS rfl dX8_takes_32
  · have h := jx_f h c1
    refine lv_iconst (v := (0 : Int32)) hx hb dX8_takes_9 (by decide) ?_
    cases h
    exact hret 10 ls _ _ hP hD hS rfl dX8_takes_10
def mi_X8_byteAt (t_bytes : Nat → Int32) (p1 : Int32) : Option (Int32) := if p1 < 0 then (some ((0 : Int32))) else (if (120 : Int32) ≤ p1 then (some ((0 : Int32))) else (jx_g (jx_in p1 120) (some ((t_bytes (Int32.toNatClampNeg p1))))))
abbrev rm_X8_byteAt : Room := { frames := 0, cells := 0, slots := 0, locals := 0 }
set_option maxRecDepth 100000 in
set_option maxHeartbeats 4000000 in
theorem ct_X8_byteAt (l : Launch) (D : va_G) (cI cZ cO : ClassId) (a_t a_t_bytes : Nat) (t_size : Int32) (t_fault : Int32) (t_next : Int32) (t_tokenAt : Int32) (t_tokenIs : Int32) (t_tokenValue : Int32) (t_bytes : Nat → Int32) (p1 : Int32) (r : Int32) (hm : mi_X8_byteAt t_bytes p1 = some r) : Met l yX8_byteAt wsX8_byteAt rm_X8_byteAt (va_Pc [.ref a_t, .int p1] (jx_R D (jx_T cI cZ cO) [(a_t, .inr (8, [.ref a_t_bytes, .int t_size, .int t_fault, .int t_next, .int t_tokenAt, .int t_tokenIs, .int t_tokenValue])), (a_t_bytes, .inl (cI, 120, .inl t_bytes))])) (jx_S (some (.int r))) 0 0 (fun _ => False) := by
  refine jx_metR (ty := .int) (own := RX8) (cc := cX8_byteAt) (maxL := 2) (by decide) rfl rfl (Nat.le_of_ble_eq_true rfl) ?_
  intro p e s m args below meth c Q ls hx hb hml hown hts hK hN hP hl hret
  have hi_X8 : ∀ w ∈ u_ws RX8 TX8 7, w ∈ wsX8_byteAt := by decide +kernel
  have hl : lv_has ls 2 [(0, .ref a_t), (1, .int p1)] := hl
  have h := hm
  unfold mi_X8_byteAt at h
  refine lv_iload_n hx hb dX8_byteAt_0 rfl (lv_at hl 1 rfl) ?_
  refine lv_if_lt (tgt := 19) hx hb dX8_byteAt_1 (by decide) (fun c1 => ?_) (fun c1 => ?_)
  · have h := jx_t h c1
    refine lv_iconst (v := (0 : Int32)) hx hb dX8_byteAt_19 (by decide) ?_
    cases h
    exact hret 20 ls rfl dX8_byteAt_20
  · have h := jx_f h c1
    refine lv_iload_n hx hb dX8_byteAt_4 rfl (lv_at hl 1 rfl) ?_
    refine lv_bipush (v := (120 : Int32)) hx hb dX8_byteAt_5 (by decide) ?_
    refine lv_icmp_ge (tgt := 19) hx hb dX8_byteAt_7 (by decide) (fun c2 => ?_) (fun c2 => ?_)
    · have h := jx_t h c2
      refine lv_iconst (v := (0 : Int32)) hx hb dX8_byteAt_19 (by decide) ?_
      cases h
      exact hret 20 ls rfl dX8_byteAt_20
    · have h := jx_f h c2
      refine lv_aload_n hx hb dX8_byteAt_10 rfl (lv_at hl 0 rfl) ?_
      refine va_get (D := D) (ci := 8) (v := .ref a_t_bytes) (C := RX8) (T := TX8) (N := 7) hx hb hts hi_X8 hown hK hP 0 rfl rfl 0 (by decide) (hts (.fieldLink RX8 11 "TriangleRest$Text" "bytes" "[I") (List.mem_of_getElem? (i := 1) rfl)) (fun _ h9 => h9) rfl dX8_byteAt_11 ?_
      refine lv_iload_n hx hb dX8_byteAt_14 rfl (lv_at hl 1 rfl) ?_
      obtain ⟨g3, h⟩ := jx_g_of h
      refine va_iald hx hb hK hP 1 0 rfl rfl (jx_in_of g3) dX8_byteAt_15 ?_
      refine lv_goto (tgt := 20) hx hb dX8_byteAt_16 (by decide) ?_
      cases h
      exact hret 20 ls rfl dX8_byteAt_20
def mi_X8_failHere (t_tokenAt : Int32) : Option (Int32) := some (t_tokenAt)
abbrev rm_X8_failHere : Room := { frames := 0, cells := 0, slots := 0, locals := 0 }
set_option maxRecDepth 100000 in
set_option maxHeartbeats 4000000 in
theorem ct_X8_failHere (l : Launch) (D : va_G) (cI cZ cO : ClassId) (a_t a_t_bytes : Nat) (sz : Nat) (t_size : Int32) (t_fault : Int32) (t_next : Int32) (t_tokenAt : Int32) (t_tokenIs : Int32) (t_tokenValue : Int32) (z_t_fault : Int32) (hm : mi_X8_failHere t_tokenAt = some z_t_fault) : Met l yX8_failHere wsX8_failHere rm_X8_failHere (va_Pc [.ref a_t] (jx_W D (jx_T cI cZ cO) sz [(a_t, .inr (8, [.ref a_t_bytes, .int t_size, .int t_fault, .int t_next, .int t_tokenAt, .int t_tokenIs, .int t_tokenValue]))])) (jx_Q none D [(a_t, .inr (8, [.ref a_t_bytes, .int t_size, .int z_t_fault, .int t_next, .int t_tokenAt, .int t_tokenIs, .int t_tokenValue]))] (va_A [(a_t, .inr (8, [.ref a_t_bytes, .int t_size, .int t_fault, .int t_next, .int t_tokenAt, .int t_tokenIs, .int t_tokenValue]))] sz)) 0 0 (va_A [(a_t, .inr (8, [.ref a_t_bytes, .int t_size, .int t_fault, .int t_next, .int t_tokenAt, .int t_tokenIs, .int t_tokenValue]))] sz) := by
  refine jx_metV (own := RX8) (cc := cX8_failHere) (maxL := 1) (by decide) rfl rfl (Nat.le_of_ble_eq_true rfl) ?_
  intro p e s m args below meth c Q ls A hx hb hml hown hts hK hN hA hP hD hS hl hret
  have hi_X8 : ∀ w ∈ u_ws RX8 TX8 7, w ∈ wsX8_failHere := by decide +kernel
  have hl : lv_has ls 1 [(0, .ref a_t)] := hl
  have h := hm
  unfold mi_X8_failHere at h
  refine lv_aload_n hx hb dX8_failHere_0 rfl (lv_at hl 0 rfl) ?_
  refine lv_aload_n hx hb dX8_failHere_1 rfl (lv_at hl 0 rfl) ?_
  refine va_get (D := D) (ci := 8) (v := .int t_tokenAt) (C := RX8) (T := TX8) (N := 7) hx hb hts hi_X8 hown hK hP 0 rfl rfl 4 (by decide) (hts (.fieldLink RX8 83 "TriangleRest$Text" "tokenAt" "I") (List.mem_of_getElem? (i := 1) rfl)) (fun _ h9 => h9) rfl dX8_failHere_2 ?_
  refine va_put (D := D) (ci := 8) (v := .int t_tokenAt) (ty := .int) (C := RX8) (T := TX8) (N := 7) hx hb hts hi_X8 tyX8 tyX8_ok nmX8 hown hK hP hD hS 0 rfl rfl 2 (by decide) (hts (.fieldLink RX8 15 "TriangleRest$Text" "fault" "I") (List.mem_of_getElem? (i := 2) rfl)) (fun _ h9 => h9) rfl (by decide +kernel) rfl rfl (Nat.le_of_ble_eq_true rfl) dX8_failHere_5 (fun H locs hP hD hS => ?_)
  have hP : va_P D vwCl [(a_t, .inr (8, [.ref a_t_bytes, .int t_size, .int t_tokenAt, .int t_next, .int t_tokenAt, .int t_tokenIs, .int t_tokenValue]))] H := hP
  have hD : va_D A [(a_t, .inr (8, [.ref a_t_bytes, .int t_size, .int t_tokenAt, .int t_next, .int t_tokenAt, .int t_tokenIs, .int t_tokenValue]))] := hD
  cases h
  exact hret 8 ls _ _ hP hD hS dX8_failHere_8
def mi_X8_takeLetters_b46 (t_tokenAt : Int32) (t_bytes : Nat → Int32) (t_next : Int32) (t_tokenIs : Int32) (t_tokenValue : Int32) : Option (Int32 × Int32 × Int32) := if (t_next - t_tokenAt) = (1 : Int32) then (jx_b1 (mi_X8_byteAt t_bytes t_tokenAt) fun r8 => (some (t_next, t_tokenIs, r8))) else (some (t_next, t_tokenIs, (0 : Int32)))
def mi_X8_takeLetters_l10 (t_size : Int32) (t_tokenAt : Int32) (t_bytes : Nat → Int32) : Nat → Int32 → Int32 → Int32 → Int32 → Option (Int32 × Int32 × Int32)
  | 0, _, _, _, _ => none
  | n + 1, x1, t_next, t_tokenIs, t_tokenValue => if t_size ≤ x1 then (mi_X8_takeLetters_b46 t_tokenAt t_bytes t_next t_tokenIs t_tokenValue) else (jx_b1 (mi_X8_byteAt t_bytes x1) fun r2 => (jx_b1 (mi_X11_isWithin r2 (97 : Int32) (122 : Int32)) fun r4 => (if r4 = 0 then (mi_X8_takeLetters_b46 t_tokenAt t_bytes t_next t_tokenIs t_tokenValue) else (mi_X8_takeLetters_l10 t_size t_tokenAt t_bytes n (x1 + 1) (x1 + (1 : Int32)) t_tokenIs t_tokenValue))))
def mi_X8_takeLetters (t_size : Int32) (t_next : Int32) (t_tokenAt : Int32) (t_tokenValue : Int32) (t_bytes : Nat → Int32) : Option (Int32 × Int32 × Int32) := mi_X8_takeLetters_l10 t_size t_tokenAt t_bytes jx_F t_next t_next (1 : Int32) t_tokenValue
abbrev rm_X8_takeLetters : Room := { frames := 1, cells := 0, slots := 0, locals := 22 }
set_option maxRecDepth 100000 in
set_option maxHeartbeats 4000000 in
theorem ct_X8_takeLetters (l : Launch) (D : va_G) (cI cZ cO : ClassId) (a_t a_t_bytes : Nat) (sz : Nat) (t_size : Int32) (t_fault : Int32) (t_next : Int32) (t_tokenAt : Int32) (t_tokenIs : Int32) (t_tokenValue : Int32) (t_bytes : Nat → Int32) (z_t_next : Int32) (z_t_tokenIs : Int32) (z_t_tokenValue : Int32) (hm : mi_X8_takeLetters t_size t_next t_tokenAt t_tokenValue t_bytes = some (z_t_next, z_t_tokenIs, z_t_tokenValue)) : Met l yX8_takeLetters wsX8_takeLetters rm_X8_takeLetters (va_Pc [.ref a_t] (jx_W D (jx_T cI cZ cO) sz [(a_t, .inr (8, [.ref a_t_bytes, .int t_size, .int t_fault, .int t_next, .int t_tokenAt, .int t_tokenIs, .int t_tokenValue])), (a_t_bytes, .inl (cI, 120, .inl t_bytes))])) (jx_Q none D [(a_t, .inr (8, [.ref a_t_bytes, .int t_size, .int t_fault, .int z_t_next, .int t_tokenAt, .int z_t_tokenIs, .int z_t_tokenValue])), (a_t_bytes, .inl (cI, 120, .inl t_bytes))] (va_A [(a_t, .inr (8, [.ref a_t_bytes, .int t_size, .int t_fault, .int t_next, .int t_tokenAt, .int t_tokenIs, .int t_tokenValue])), (a_t_bytes, .inl (cI, 120, .inl t_bytes))] sz)) 0 0 (va_A [(a_t, .inr (8, [.ref a_t_bytes, .int t_size, .int t_fault, .int t_next, .int t_tokenAt, .int t_tokenIs, .int t_tokenValue])), (a_t_bytes, .inl (cI, 120, .inl t_bytes))] sz) := by
  refine jx_metV (own := RX8) (cc := cX8_takeLetters) (maxL := 2) (by decide) rfl rfl (Nat.le_of_ble_eq_true rfl) ?_
  intro p e s m args below meth c Q ls A hx hb hml hown hts hK hN hA hP hD hS hl hret
  have hi_X8 : ∀ w ∈ u_ws RX8 TX8 7, w ∈ wsX8_takeLetters := by decide +kernel
  have hl : lv_has ls 2 [(0, .ref a_t)] := hl
  have bl_b46 : ∀ (t_next : Int32) (t_tokenIs : Int32) (t_tokenValue : Int32) (H : Heap) (locs : List Loc) (ls : Array Slot), va_P D vwCl [(a_t, .inr (8, [.ref a_t_bytes, .int t_size, .int t_fault, .int t_next, .int t_tokenAt, .int t_tokenIs, .int t_tokenValue])), (a_t_bytes, .inl (cI, 120, .inl t_bytes))] H → va_D A [(a_t, .inr (8, [.ref a_t_bytes, .int t_size, .int t_fault, .int t_next, .int t_tokenAt, .int t_tokenIs, .int t_tokenValue])), (a_t_bytes, .inl (cI, 120, .inl t_bytes))] → va_S A s.heap H locs → lv_has ls 2 [(0, .ref a_t)] → mi_X8_takeLetters_b46 t_tokenAt t_bytes t_next t_tokenIs t_tokenValue = some (z_t_next, z_t_tokenIs, z_t_tokenValue) → W p l e (headSpec wsX8_takeLetters rm_X8_takeLetters).room s m args below meth c H locs 0 0 Q (F0 m 46 ls []) := by
    intro t_next t_tokenIs t_tokenValue H locs ls hP hD hS hl h
    unfold mi_X8_takeLetters_b46 at h
    refine lv_aload_n hx hb dX8_takeLetters_46 rfl (lv_at hl 0 rfl) ?_
    refine lv_aload_n hx hb dX8_takeLetters_47 rfl (lv_at hl 0 rfl) ?_
    refine va_get (D := D) (ci := 8) (v := .int t_next) (C := RX8) (T := TX8) (N := 7) hx hb hts hi_X8 hown hK hP 0 rfl rfl 3 (by decide) (hts (.fieldLink RX8 27 "TriangleRest$Text" "next" "I") (List.mem_of_getElem? (i := 2) rfl)) (fun _ h9 => h9) rfl dX8_takeLetters_48 ?_
    refine lv_aload_n hx hb dX8_takeLetters_51 rfl (lv_at hl 0 rfl) ?_
    refine va_get (D := D) (ci := 8) (v := .int t_tokenAt) (C := RX8) (T := TX8) (N := 7) hx hb hts hi_X8 hown hK hP 0 rfl rfl 4 (by decide) (hts (.fieldLink RX8 83 "TriangleRest$Text" "tokenAt" "I") (List.mem_of_getElem? (i := 4) rfl)) (fun _ h9 => h9) rfl dX8_takeLetters_52 ?_
    refine lv_isub hx hb dX8_takeLetters_55 ?_
    refine lv_iconst (v := (1 : Int32)) hx hb dX8_takeLetters_56 (by decide) ?_
    refine lv_icmp_ne (tgt := 71) hx hb dX8_takeLetters_57 (by decide) (fun c7 => ?_) (fun c7 => ?_)
    · have h := jx_f h c7
      refine lv_iconst (v := (0 : Int32)) hx hb dX8_takeLetters_71 (by decide) ?_
      refine va_put (D := D) (ci := 8) (v := .int (0 : Int32)) (ty := .int) (C := RX8) (T := TX8) (N := 7) hx hb hts hi_X8 tyX8 tyX8_ok nmX8 hown hK hP hD hS 0 rfl rfl 6 (by decide) (hts (.fieldLink RX8 40 "TriangleRest$Text" "tokenValue" "I") (List.mem_of_getElem? (i := 5) rfl)) (fun _ h9 => h9) rfl (by decide +kernel) rfl rfl (Nat.le_of_ble_eq_true rfl) dX8_takeLetters_72 (fun H locs hP hD hS => ?_)
      have hP : va_P D vwCl [(a_t, .inr (8, [.ref a_t_bytes, .int t_size, .int t_fault, .int t_next, .int t_tokenAt, .int t_tokenIs, .int (0 : Int32)])), (a_t_bytes, .inl (cI, 120, .inl t_bytes))] H := hP
      have hD : va_D A [(a_t, .inr (8, [.ref a_t_bytes, .int t_size, .int t_fault, .int t_next, .int t_tokenAt, .int t_tokenIs, .int (0 : Int32)])), (a_t_bytes, .inl (cI, 120, .inl t_bytes))] := hD
      cases h
      exact hret 75 ls _ _ hP hD hS dX8_takeLetters_75
    · have h := jx_t h c7
      refine lv_aload_n hx hb dX8_takeLetters_60 rfl (lv_at hl 0 rfl) ?_
      refine lv_aload_n hx hb dX8_takeLetters_61 rfl (lv_at hl 0 rfl) ?_
      refine va_get (D := D) (ci := 8) (v := .int t_tokenAt) (C := RX8) (T := TX8) (N := 7) hx hb hts hi_X8 hown hK hP 0 rfl rfl 4 (by decide) (hts (.fieldLink RX8 83 "TriangleRest$Text" "tokenAt" "I") (List.mem_of_getElem? (i := 4) rfl)) (fun _ h9 => h9) rfl dX8_takeLetters_62 ?_
      obtain ⟨r8, e9, h⟩ := jx_b1_of h
      refine jx_cV (o := some (.int r8)) (As := [.int t_tokenAt]) (rest := [.ref a_t]) (b := a_t) ⟨hx, hb, hml, hown, hts⟩ (ct_X8_byteAt l D cI cZ cO a_t a_t_bytes t_size t_fault t_next t_tokenAt t_tokenIs t_tokenValue t_bytes t_tokenAt r8 e9) (cwV 1 hts gX8_takeLetters_X8_byteAt rfl rfl rfl (by decide +kernel) ⟨Nat.le_of_ble_eq_true rfl, Nat.le_of_ble_eq_true rfl⟩) hK hN hP [0, 1] rfl (va_recv hK hP (ci := 8) (q0 := 0) rfl rfl) rfl hl.1 rfl (Nat.le_of_ble_eq_true rfl) dX8_takeLetters_65 ⟨Nat.zero_le _, Nat.zero_le _⟩ ?_
      refine lv_goto (tgt := 72) hx hb dX8_takeLetters_68 (by decide) ?_
      refine va_put (D := D) (ci := 8) (v := .int r8) (ty := .int) (C := RX8) (T := TX8) (N := 7) hx hb hts hi_X8 tyX8 tyX8_ok nmX8 hown hK hP hD hS 0 rfl rfl 6 (by decide) (hts (.fieldLink RX8 40 "TriangleRest$Text" "tokenValue" "I") (List.mem_of_getElem? (i := 5) rfl)) (fun _ h9 => h9) rfl (by decide +kernel) rfl rfl (Nat.le_of_ble_eq_true rfl) dX8_takeLetters_72 (fun H locs hP hD hS => ?_)
      have hP : va_P D vwCl [(a_t, .inr (8, [.ref a_t_bytes, .int t_size, .int t_fault, .int t_next, .int t_tokenAt, .int t_tokenIs, .int r8])), (a_t_bytes, .inl (cI, 120, .inl t_bytes))] H := hP
      have hD : va_D A [(a_t, .inr (8, [.ref a_t_bytes, .int t_size, .int t_fault, .int t_next, .int t_tokenAt, .int t_tokenIs, .int r8])), (a_t_bytes, .inl (cI, 120, .inl t_bytes))] := hD
      cases h
      exact hret 75 ls _ _ hP hD hS dX8_takeLetters_75
  have bl_l10 : ∀ (n : Nat) (x1 : Int32) (t_next : Int32) (t_tokenIs : Int32) (t_tokenValue : Int32) (H : Heap) (locs : List Loc) (ls : Array Slot), va_P D vwCl [(a_t, .inr (8, [.ref a_t_bytes, .int t_size, .int t_fault, .int t_next, .int t_tokenAt, .int t_tokenIs, .int t_tokenValue])), (a_t_bytes, .inl (cI, 120, .inl t_bytes))] H → va_D A [(a_t, .inr (8, [.ref a_t_bytes, .int t_size, .int t_fault, .int t_next, .int t_tokenAt, .int t_tokenIs, .int t_tokenValue])), (a_t_bytes, .inl (cI, 120, .inl t_bytes))] → va_S A s.heap H locs → lv_has ls 2 [(0, .ref a_t), (1, .int x1)] → mi_X8_takeLetters_l10 t_size t_tokenAt t_bytes n x1 t_next t_tokenIs t_tokenValue = some (z_t_next, z_t_tokenIs, z_t_tokenValue) → W p l e (headSpec wsX8_takeLetters rm_X8_takeLetters).room s m args below meth c H locs 0 0 Q (F0 m 10 ls []) := by
    intro n
    induction n with
    | zero =>
      intro x1 t_next t_tokenIs t_tokenValue H locs ls hP hD hS hl h
      rw [mi_X8_takeLetters_l10] at h
      cases h
    | succ n_l10 ih_l10 =>
      intro x1 t_next t_tokenIs t_tokenValue H locs ls hP hD hS hl h
      rw [mi_X8_takeLetters_l10] at h
      refine lv_iload_n hx hb dX8_takeLetters_10 rfl (lv_at hl 1 rfl) ?_
      refine lv_aload_n hx hb dX8_takeLetters_11 rfl (lv_at hl 0 rfl) ?_
      refine va_get (D := D) (ci := 8) (v := .int t_size) (C := RX8) (T := TX8) (N := 7) hx hb hts hi_X8 hown hK hP 0 rfl rfl 1 (by decide) (hts (.fieldLink RX8 19 "TriangleRest$Text" "size" "I") (List.mem_of_getElem? (i := 3) rfl)) (fun _ h9 => h9) rfl dX8_takeLetters_12 ?_
      refine lv_icmp_ge (tgt := 46) hx hb dX8_takeLetters_15 (by decide) (fun c1 => ?_) (fun c1 => ?_)
      · have h := jx_t h c1
        exact bl_b46 t_next t_tokenIs t_tokenValue _ _ _ hP hD hS (lv_sub hl [0] rfl) h
      · have h := jx_f h c1
        refine lv_aload_n hx hb dX8_takeLetters_18 rfl (lv_at hl 0 rfl) ?_
        refine lv_iload_n hx hb dX8_takeLetters_19 rfl (lv_at hl 1 rfl) ?_
        obtain ⟨r2, e3, h⟩ := jx_b1_of h
        refine jx_cV (o := some (.int r2)) (As := [.int x1]) (rest := []) (b := a_t) ⟨hx, hb, hml, hown, hts⟩ (ct_X8_byteAt l D cI cZ cO a_t a_t_bytes t_size t_fault t_next t_tokenAt t_tokenIs t_tokenValue t_bytes x1 r2 e3) (cwV 1 hts gX8_takeLetters_X8_byteAt rfl rfl rfl (by decide +kernel) ⟨Nat.le_of_ble_eq_true rfl, Nat.le_of_ble_eq_true rfl⟩) hK hN hP [0, 1] rfl (va_recv hK hP (ci := 8) (q0 := 0) rfl rfl) rfl hl.1 rfl (Nat.le_of_ble_eq_true rfl) dX8_takeLetters_20 ⟨Nat.zero_le _, Nat.zero_le _⟩ ?_
        refine lv_bipush (v := (97 : Int32)) hx hb dX8_takeLetters_23 (by decide) ?_
        refine lv_bipush (v := (122 : Int32)) hx hb dX8_takeLetters_25 (by decide) ?_
        obtain ⟨r4, e5, h⟩ := jx_b1_of h
        refine jx_cSN (o := some (.int r4)) (As := [.int r2, .int (97 : Int32), .int (122 : Int32)]) (rest := []) ⟨hx, hb, hml, hown, hts⟩ (ct_X11_isWithin l r2 (97 : Int32) (122 : Int32) r4 e5) ⟨va_cnB 3 hts gX8_takeLetters_X11_isWithin_n79 rfl rfl rfl (jx_Nm hN 16 rfl) (hts (.initialized RX11) (List.mem_of_getElem? (i := 13) rfl)) (by decide +kernel) ⟨Nat.le_of_ble_eq_true rfl, Nat.le_of_ble_eq_true rfl⟩, (hts (.static yX11_isWithin) (List.mem_of_getElem? (i := 12) rfl)), trivial⟩ rfl hl.1 rfl (Nat.le_of_ble_eq_true rfl) dX8_takeLetters_27 ⟨Nat.zero_le _, Nat.zero_le _⟩ ?_
        refine lv_if_eq (tgt := 46) hx hb dX8_takeLetters_30 (by decide) (fun c6 => ?_) (fun c6 => ?_)
        · have h := jx_t h c6
          exact bl_b46 t_next t_tokenIs t_tokenValue _ _ _ hP hD hS (lv_sub hl [0] rfl) h
        · have h := jx_f h c6
          refine lv_aload_n hx hb dX8_takeLetters_33 rfl (lv_at hl 0 rfl) ?_
          refine lv_iload_n hx hb dX8_takeLetters_34 rfl (lv_at hl 1 rfl) ?_
          refine lv_iconst (v := (1 : Int32)) hx hb dX8_takeLetters_35 (by decide) ?_
          refine lv_iadd hx hb dX8_takeLetters_36 ?_
          refine va_put (D := D) (ci := 8) (v := .int (x1 + (1 : Int32))) (ty := .int) (C := RX8) (T := TX8) (N := 7) hx hb hts hi_X8 tyX8 tyX8_ok nmX8 hown hK hP hD hS 0 rfl rfl 3 (by decide) (hts (.fieldLink RX8 27 "TriangleRest$Text" "next" "I") (List.mem_of_getElem? (i := 2) rfl)) (fun _ h9 => h9) rfl (by decide +kernel) rfl rfl (Nat.le_of_ble_eq_true rfl) dX8_takeLetters_37 (fun H locs hP hD hS => ?_)
          have hP : va_P D vwCl [(a_t, .inr (8, [.ref a_t_bytes, .int t_size, .int t_fault, .int (x1 + (1 : Int32)), .int t_tokenAt, .int t_tokenIs, .int t_tokenValue])), (a_t_bytes, .inl (cI, 120, .inl t_bytes))] H := hP
          have hD : va_D A [(a_t, .inr (8, [.ref a_t_bytes, .int t_size, .int t_fault, .int (x1 + (1 : Int32)), .int t_tokenAt, .int t_tokenIs, .int t_tokenValue])), (a_t_bytes, .inl (cI, 120, .inl t_bytes))] := hD
          refine lv_iinc (v := (x1 + 1)) (lv' := [(1, .int (x1 + 1)), (0, .ref a_t)]) hx hb dX8_takeLetters_40 hl (k := 1) rfl rfl (by decide) rfl (fun ls hl => ?_)
          refine lv_goto (tgt := 10) hx hb dX8_takeLetters_43 (by decide) ?_
          exact ih_l10 (x1 + 1) (x1 + (1 : Int32)) t_tokenIs t_tokenValue _ _ _ hP hD hS (lv_sub hl [1, 0] rfl) h
  have h := hm
  unfold mi_X8_takeLetters at h
  refine lv_aload_n hx hb dX8_takeLetters_0 rfl (lv_at hl 0 rfl) ?_
  refine lv_iconst (v := (1 : Int32)) hx hb dX8_takeLetters_1 (by decide) ?_
  refine va_put (D := D) (ci := 8) (v := .int (1 : Int32)) (ty := .int) (C := RX8) (T := TX8) (N := 7) hx hb hts hi_X8 tyX8 tyX8_ok nmX8 hown hK hP hD hS 0 rfl rfl 5 (by decide) (hts (.fieldLink RX8 33 "TriangleRest$Text" "tokenIs" "I") (List.mem_of_getElem? (i := 1) rfl)) (fun _ h9 => h9) rfl (by decide +kernel) rfl rfl (Nat.le_of_ble_eq_true rfl) dX8_takeLetters_2 (fun H locs hP hD hS => ?_)
  have hP : va_P D vwCl [(a_t, .inr (8, [.ref a_t_bytes, .int t_size, .int t_fault, .int t_next, .int t_tokenAt, .int (1 : Int32), .int t_tokenValue])), (a_t_bytes, .inl (cI, 120, .inl t_bytes))] H := hP
  have hD : va_D A [(a_t, .inr (8, [.ref a_t_bytes, .int t_size, .int t_fault, .int t_next, .int t_tokenAt, .int (1 : Int32), .int t_tokenValue])), (a_t_bytes, .inl (cI, 120, .inl t_bytes))] := hD
  refine lv_aload_n hx hb dX8_takeLetters_5 rfl (lv_at hl 0 rfl) ?_
  refine va_get (D := D) (ci := 8) (v := .int t_next) (C := RX8) (T := TX8) (N := 7) hx hb hts hi_X8 hown hK hP 0 rfl rfl 3 (by decide) (hts (.fieldLink RX8 27 "TriangleRest$Text" "next" "I") (List.mem_of_getElem? (i := 2) rfl)) (fun _ h9 => h9) rfl dX8_takeLetters_6 ?_
  refine lv_istore_n (lv' := [(1, .int t_next), (0, .ref a_t)]) hx hb dX8_takeLetters_9 rfl hl (by decide) rfl (fun ls hl => ?_)
  exact bl_l10 jx_F t_next t_next (1 : Int32) t_tokenValue _ _ _ hP hD hS (lv_sub hl [1, 0] rfl) h
def mi_X8_takeDigits_b105 (x1 : Int32) (t_next : Int32) (t_tokenIs : Int32) (t_tokenValue : Int32) : Option (Int32 × Int32 × Int32) := some (t_next, (4 : Int32), x1)
def mi_X8_takeDigits_b93 (x1 : Int32) (k0 : Int32) (t_next : Int32) (t_tokenIs : Int32) (t_tokenValue : Int32) : Option (Int32 × Int32 × Int32) := if k0 = 0 then (if x1 ≤ (99 : Int32) then (some (t_next, (2 : Int32), x1)) else (mi_X8_takeDigits_b105 x1 t_next t_tokenIs t_tokenValue)) else (mi_X8_takeDigits_b105 x1 t_next t_tokenIs t_tokenValue)
def mi_X8_takeDigits_b92 (x1 : Int32) (t_next : Int32) (t_tokenIs : Int32) (t_tokenValue : Int32) : Option (Int32 × Int32 × Int32) := mi_X8_takeDigits_b93 x1 (0 : Int32) t_next t_tokenIs t_tokenValue
def mi_X8_takeDigits_b62 (t_tokenAt : Int32) (t_bytes : Nat → Int32) (x1 : Int32) (t_next : Int32) (t_tokenIs : Int32) (t_tokenValue : Int32) : Option (Int32 × Int32 × Int32) := jx_b1 (mi_X8_byteAt t_bytes t_tokenAt) fun r9 => (if r9 = (48 : Int32) then (if (t_next - t_tokenAt) ≤ (1 : Int32) then (mi_X8_takeDigits_b92 x1 t_next t_tokenIs t_tokenValue) else (mi_X8_takeDigits_b93 x1 (1 : Int32) t_next t_tokenIs t_tokenValue)) else (mi_X8_takeDigits_b92 x1 t_next t_tokenIs t_tokenValue))
def mi_X8_takeDigits_l7 (t_size : Int32) (t_tokenAt : Int32) (t_bytes : Nat → Int32) : Nat → Int32 → Int32 → Int32 → Int32 → Int32 → Option (Int32 × Int32 × Int32)
  | 0, _, _, _, _, _ => none
  | n + 1, x1, x2, t_next, t_tokenIs, t_tokenValue => if t_size ≤ x2 then (mi_X8_takeDigits_b62 t_tokenAt t_bytes x1 t_next t_tokenIs t_tokenValue) else (jx_b1 (mi_X8_byteAt t_bytes x2) fun r2 => (jx_b1 (mi_X11_isWithin r2 (48 : Int32) (57 : Int32)) fun r4 => (if r4 = 0 then (mi_X8_takeDigits_b62 t_tokenAt t_bytes x1 t_next t_tokenIs t_tokenValue) else (jx_b1 (mi_X8_byteAt t_bytes x2) fun r7 => (mi_X8_takeDigits_l7 t_size t_tokenAt t_bytes n (if (100 : Int32) < (((x1 * (10 : Int32)) + r7) - (48 : Int32)) then (100 : Int32) else (((x1 * (10 : Int32)) + r7) - (48 : Int32))) (x2 + 1) (x2 + (1 : Int32)) t_tokenIs t_tokenValue)))))
def mi_X8_takeDigits (t_size : Int32) (t_next : Int32) (t_tokenAt : Int32) (t_tokenIs : Int32) (t_tokenValue : Int32) (t_bytes : Nat → Int32) : Option (Int32 × Int32 × Int32) := mi_X8_takeDigits_l7 t_size t_tokenAt t_bytes jx_F (0 : Int32) t_next t_next t_tokenIs t_tokenValue
abbrev rm_X8_takeDigits : Room := { frames := 1, cells := 0, slots := 0, locals := 22 }
set_option maxRecDepth 100000 in
set_option maxHeartbeats 4000000 in
theorem ct_X8_takeDigits (l : Launch) (D : va_G) (cI cZ cO : ClassId) (a_t a_t_bytes : Nat) (sz : Nat) (t_size : Int32) (t_fault : Int32) (t_next : Int32) (t_tokenAt : Int32) (t_tokenIs : Int32) (t_tokenValue : Int32) (t_bytes : Nat → Int32) (z_t_next : Int32) (z_t_tokenIs : Int32) (z_t_tokenValue : Int32) (hm : mi_X8_takeDigits t_size t_next t_tokenAt t_tokenIs t_tokenValue t_bytes = some (z_t_next, z_t_tokenIs, z_t_tokenValue)) : Met l yX8_takeDigits wsX8_takeDigits rm_X8_takeDigits (va_Pc [.ref a_t] (jx_W D (jx_T cI cZ cO) sz [(a_t, .inr (8, [.ref a_t_bytes, .int t_size, .int t_fault, .int t_next, .int t_tokenAt, .int t_tokenIs, .int t_tokenValue])), (a_t_bytes, .inl (cI, 120, .inl t_bytes))])) (jx_Q none D [(a_t, .inr (8, [.ref a_t_bytes, .int t_size, .int t_fault, .int z_t_next, .int t_tokenAt, .int z_t_tokenIs, .int z_t_tokenValue])), (a_t_bytes, .inl (cI, 120, .inl t_bytes))] (va_A [(a_t, .inr (8, [.ref a_t_bytes, .int t_size, .int t_fault, .int t_next, .int t_tokenAt, .int t_tokenIs, .int t_tokenValue])), (a_t_bytes, .inl (cI, 120, .inl t_bytes))] sz)) 0 0 (va_A [(a_t, .inr (8, [.ref a_t_bytes, .int t_size, .int t_fault, .int t_next, .int t_tokenAt, .int t_tokenIs, .int t_tokenValue])), (a_t_bytes, .inl (cI, 120, .inl t_bytes))] sz) := by
  refine jx_metV (own := RX8) (cc := cX8_takeDigits) (maxL := 3) (by decide) rfl rfl (Nat.le_of_ble_eq_true rfl) ?_
  intro p e s m args below meth c Q ls A hx hb hml hown hts hK hN hA hP hD hS hl hret
  have hi_X8 : ∀ w ∈ u_ws RX8 TX8 7, w ∈ wsX8_takeDigits := by decide +kernel
  have hl : lv_has ls 3 [(0, .ref a_t)] := hl
  have bl_b105 : ∀ (x1 : Int32) (t_next : Int32) (t_tokenIs : Int32) (t_tokenValue : Int32) (H : Heap) (locs : List Loc) (ls : Array Slot), va_P D vwCl [(a_t, .inr (8, [.ref a_t_bytes, .int t_size, .int t_fault, .int t_next, .int t_tokenAt, .int t_tokenIs, .int t_tokenValue])), (a_t_bytes, .inl (cI, 120, .inl t_bytes))] H → va_D A [(a_t, .inr (8, [.ref a_t_bytes, .int t_size, .int t_fault, .int t_next, .int t_tokenAt, .int t_tokenIs, .int t_tokenValue])), (a_t_bytes, .inl (cI, 120, .inl t_bytes))] → va_S A s.heap H locs → lv_has ls 3 [(0, .ref a_t), (1, .int x1)] → mi_X8_takeDigits_b105 x1 t_next t_tokenIs t_tokenValue = some (z_t_next, z_t_tokenIs, z_t_tokenValue) → W p l e (headSpec wsX8_takeDigits rm_X8_takeDigits).room s m args below meth c H locs 0 0 Q (F0 m 105 ls [.ref a_t]) := by
    intro x1 t_next t_tokenIs t_tokenValue H locs ls hP hD hS hl h
    unfold mi_X8_takeDigits_b105 at h
    refine lv_iconst (v := (4 : Int32)) hx hb dX8_takeDigits_105 (by decide) ?_
    refine lv_goto (tgt := 110) hx hb dX8_takeDigits_106 (by decide) ?_
    refine va_put (D := D) (ci := 8) (v := .int (4 : Int32)) (ty := .int) (C := RX8) (T := TX8) (N := 7) hx hb hts hi_X8 tyX8 tyX8_ok nmX8 hown hK hP hD hS 0 rfl rfl 5 (by decide) (hts (.fieldLink RX8 33 "TriangleRest$Text" "tokenIs" "I") (List.mem_of_getElem? (i := 8) rfl)) (fun _ h9 => h9) rfl (by decide +kernel) rfl rfl (Nat.le_of_ble_eq_true rfl) dX8_takeDigits_110 (fun H locs hP hD hS => ?_)
    have hP : va_P D vwCl [(a_t, .inr (8, [.ref a_t_bytes, .int t_size, .int t_fault, .int t_next, .int t_tokenAt, .int (4 : Int32), .int t_tokenValue])), (a_t_bytes, .inl (cI, 120, .inl t_bytes))] H := hP
    have hD : va_D A [(a_t, .inr (8, [.ref a_t_bytes, .int t_size, .int t_fault, .int t_next, .int t_tokenAt, .int (4 : Int32), .int t_tokenValue])), (a_t_bytes, .inl (cI, 120, .inl t_bytes))] := hD
    refine lv_aload_n hx hb dX8_takeDigits_113 rfl (lv_at hl 0 rfl) ?_
    refine lv_iload_n hx hb dX8_takeDigits_114 rfl (lv_at hl 1 rfl) ?_
    refine va_put (D := D) (ci := 8) (v := .int x1) (ty := .int) (C := RX8) (T := TX8) (N := 7) hx hb hts hi_X8 tyX8 tyX8_ok nmX8 hown hK hP hD hS 0 rfl rfl 6 (by decide) (hts (.fieldLink RX8 40 "TriangleRest$Text" "tokenValue" "I") (List.mem_of_getElem? (i := 9) rfl)) (fun _ h9 => h9) rfl (by decide +kernel) rfl rfl (Nat.le_of_ble_eq_true rfl) dX8_takeDigits_115 (fun H locs hP hD hS => ?_)
    have hP : va_P D vwCl [(a_t, .inr (8, [.ref a_t_bytes, .int t_size, .int t_fault, .int t_next, .int t_tokenAt, .int (4 : Int32), .int x1])), (a_t_bytes, .inl (cI, 120, .inl t_bytes))] H := hP
    have hD : va_D A [(a_t, .inr (8, [.ref a_t_bytes, .int t_size, .int t_fault, .int t_next, .int t_tokenAt, .int (4 : Int32), .int x1])), (a_t_bytes, .inl (cI, 120, .inl t_bytes))] := hD
    cases h
    exact hret 118 ls _ _ hP hD hS dX8_takeDigits_118
  have bl_b93 : ∀ (x1 : Int32) (k0 : Int32) (t_next : Int32) (t_tokenIs : Int32) (t_tokenValue : Int32) (H : Heap) (locs : List Loc) (ls : Array Slot), va_P D vwCl [(a_t, .inr (8, [.ref a_t_bytes, .int t_size, .int t_fault, .int t_next, .int t_tokenAt, .int t_tokenIs, .int t_tokenValue])), (a_t_bytes, .inl (cI, 120, .inl t_bytes))] H → va_D A [(a_t, .inr (8, [.ref a_t_bytes, .int t_size, .int t_fault, .int t_next, .int t_tokenAt, .int t_tokenIs, .int t_tokenValue])), (a_t_bytes, .inl (cI, 120, .inl t_bytes))] → va_S A s.heap H locs → lv_has ls 3 [(0, .ref a_t), (1, .int x1)] → mi_X8_takeDigits_b93 x1 k0 t_next t_tokenIs t_tokenValue = some (z_t_next, z_t_tokenIs, z_t_tokenValue) → W p l e (headSpec wsX8_takeDigits rm_X8_takeDigits).room s m args below meth c H locs 0 0 Q (F0 m 93 ls [.int k0]) := by
    intro x1 k0 t_next t_tokenIs t_tokenValue H locs ls hP hD hS hl h
    unfold mi_X8_takeDigits_b93 at h
    refine lv_istore_n (lv' := [(2, .int k0), (0, .ref a_t), (1, .int x1)]) hx hb dX8_takeDigits_93 rfl hl (by decide) rfl (fun ls hl => ?_)
    refine lv_aload_n hx hb dX8_takeDigits_94 rfl (lv_at hl 1 rfl) ?_
    refine lv_iload_n hx hb dX8_takeDigits_95 rfl (lv_at hl 0 rfl) ?_
    refine lv_if_ne (tgt := 105) hx hb dX8_takeDigits_96 (by decide) (fun c13 => ?_) (fun c13 => ?_)
    · have h := jx_f h c13
      exact bl_b105 x1 t_next t_tokenIs t_tokenValue _ _ _ hP hD hS (lv_sub hl [1, 2] rfl) h
    · have h := jx_t h c13
      refine lv_iload_n hx hb dX8_takeDigits_99 rfl (lv_at hl 2 rfl) ?_
      refine lv_bipush (v := (99 : Int32)) hx hb dX8_takeDigits_100 (by decide) ?_
      refine lv_icmp_le (tgt := 109) hx hb dX8_takeDigits_102 (by decide) (fun c14 => ?_) (fun c14 => ?_)
      · have h := jx_t h c14
        refine lv_iconst (v := (2 : Int32)) hx hb dX8_takeDigits_109 (by decide) ?_
        refine va_put (D := D) (ci := 8) (v := .int (2 : Int32)) (ty := .int) (C := RX8) (T := TX8) (N := 7) hx hb hts hi_X8 tyX8 tyX8_ok nmX8 hown hK hP hD hS 0 rfl rfl 5 (by decide) (hts (.fieldLink RX8 33 "TriangleRest$Text" "tokenIs" "I") (List.mem_of_getElem? (i := 8) rfl)) (fun _ h9 => h9) rfl (by decide +kernel) rfl rfl (Nat.le_of_ble_eq_true rfl) dX8_takeDigits_110 (fun H locs hP hD hS => ?_)
        have hP : va_P D vwCl [(a_t, .inr (8, [.ref a_t_bytes, .int t_size, .int t_fault, .int t_next, .int t_tokenAt, .int (2 : Int32), .int t_tokenValue])), (a_t_bytes, .inl (cI, 120, .inl t_bytes))] H := hP
        have hD : va_D A [(a_t, .inr (8, [.ref a_t_bytes, .int t_size, .int t_fault, .int t_next, .int t_tokenAt, .int (2 : Int32), .int t_tokenValue])), (a_t_bytes, .inl (cI, 120, .inl t_bytes))] := hD
        refine lv_aload_n hx hb dX8_takeDigits_113 rfl (lv_at hl 1 rfl) ?_
        refine lv_iload_n hx hb dX8_takeDigits_114 rfl (lv_at hl 2 rfl) ?_
        refine va_put (D := D) (ci := 8) (v := .int x1) (ty := .int) (C := RX8) (T := TX8) (N := 7) hx hb hts hi_X8 tyX8 tyX8_ok nmX8 hown hK hP hD hS 0 rfl rfl 6 (by decide) (hts (.fieldLink RX8 40 "TriangleRest$Text" "tokenValue" "I") (List.mem_of_getElem? (i := 9) rfl)) (fun _ h9 => h9) rfl (by decide +kernel) rfl rfl (Nat.le_of_ble_eq_true rfl) dX8_takeDigits_115 (fun H locs hP hD hS => ?_)
        have hP : va_P D vwCl [(a_t, .inr (8, [.ref a_t_bytes, .int t_size, .int t_fault, .int t_next, .int t_tokenAt, .int (2 : Int32), .int x1])), (a_t_bytes, .inl (cI, 120, .inl t_bytes))] H := hP
        have hD : va_D A [(a_t, .inr (8, [.ref a_t_bytes, .int t_size, .int t_fault, .int t_next, .int t_tokenAt, .int (2 : Int32), .int x1])), (a_t_bytes, .inl (cI, 120, .inl t_bytes))] := hD
        cases h
        exact hret 118 ls _ _ hP hD hS dX8_takeDigits_118
      · have h := jx_f h c14
        exact bl_b105 x1 t_next t_tokenIs t_tokenValue _ _ _ hP hD hS (lv_sub hl [1, 2] rfl) h
  have bl_b92 : ∀ (x1 : Int32) (t_next : Int32) (t_tokenIs : Int32) (t_tokenValue : Int32) (H : Heap) (locs : List Loc) (ls : Array Slot), va_P D vwCl [(a_t, .inr (8, [.ref a_t_bytes, .int t_size, .int t_fault, .int t_next, .int t_tokenAt, .int t_tokenIs, .int t_tokenValue])), (a_t_bytes, .inl (cI, 120, .inl t_bytes))] H → va_D A [(a_t, .inr (8, [.ref a_t_bytes, .int t_size, .int t_fault, .int t_next, .int t_tokenAt, .int t_tokenIs, .int t_tokenValue])), (a_t_bytes, .inl (cI, 120, .inl t_bytes))] → va_S A s.heap H locs → lv_has ls 3 [(0, .ref a_t), (1, .int x1)] → mi_X8_takeDigits_b92 x1 t_next t_tokenIs t_tokenValue = some (z_t_next, z_t_tokenIs, z_t_tokenValue) → W p l e (headSpec wsX8_takeDigits rm_X8_takeDigits).room s m args below meth c H locs 0 0 Q (F0 m 92 ls []) := by
    intro x1 t_next t_tokenIs t_tokenValue H locs ls hP hD hS hl h
    unfold mi_X8_takeDigits_b92 at h
    refine lv_iconst (v := (0 : Int32)) hx hb dX8_takeDigits_92 (by decide) ?_
    exact bl_b93 x1 (0 : Int32) t_next t_tokenIs t_tokenValue _ _ _ hP hD hS (lv_sub hl [0, 1] rfl) h
  have bl_b62 : ∀ (x1 : Int32) (t_next : Int32) (t_tokenIs : Int32) (t_tokenValue : Int32) (H : Heap) (locs : List Loc) (ls : Array Slot), va_P D vwCl [(a_t, .inr (8, [.ref a_t_bytes, .int t_size, .int t_fault, .int t_next, .int t_tokenAt, .int t_tokenIs, .int t_tokenValue])), (a_t_bytes, .inl (cI, 120, .inl t_bytes))] H → va_D A [(a_t, .inr (8, [.ref a_t_bytes, .int t_size, .int t_fault, .int t_next, .int t_tokenAt, .int t_tokenIs, .int t_tokenValue])), (a_t_bytes, .inl (cI, 120, .inl t_bytes))] → va_S A s.heap H locs → lv_has ls 3 [(0, .ref a_t), (1, .int x1)] → mi_X8_takeDigits_b62 t_tokenAt t_bytes x1 t_next t_tokenIs t_tokenValue = some (z_t_next, z_t_tokenIs, z_t_tokenValue) → W p l e (headSpec wsX8_takeDigits rm_X8_takeDigits).room s m args below meth c H locs 0 0 Q (F0 m 62 ls []) := by
    intro x1 t_next t_tokenIs t_tokenValue H locs ls hP hD hS hl h
    unfold mi_X8_takeDigits_b62 at h
    refine lv_aload_n hx hb dX8_takeDigits_62 rfl (lv_at hl 0 rfl) ?_
    refine lv_aload_n hx hb dX8_takeDigits_63 rfl (lv_at hl 0 rfl) ?_
    refine va_get (D := D) (ci := 8) (v := .int t_tokenAt) (C := RX8) (T := TX8) (N := 7) hx hb hts hi_X8 hown hK hP 0 rfl rfl 4 (by decide) (hts (.fieldLink RX8 83 "TriangleRest$Text" "tokenAt" "I") (List.mem_of_getElem? (i := 7) rfl)) (fun _ h9 => h9) rfl dX8_takeDigits_64 ?_
    obtain ⟨r9, e10, h⟩ := jx_b1_of h
    refine jx_cV (o := some (.int r9)) (As := [.int t_tokenAt]) (rest := []) (b := a_t) ⟨hx, hb, hml, hown, hts⟩ (ct_X8_byteAt l D cI cZ cO a_t a_t_bytes t_size t_fault t_next t_tokenAt t_tokenIs t_tokenValue t_bytes t_tokenAt r9 e10) (cwV 1 hts gX8_takeDigits_X8_byteAt rfl rfl rfl (by decide +kernel) ⟨Nat.le_of_ble_eq_true rfl, Nat.le_of_ble_eq_true rfl⟩) hK hN hP [0, 1] rfl (va_recv hK hP (ci := 8) (q0 := 0) rfl rfl) rfl hl.1 rfl (Nat.le_of_ble_eq_true rfl) dX8_takeDigits_67 ⟨Nat.zero_le _, Nat.zero_le _⟩ ?_
    refine lv_bipush (v := (48 : Int32)) hx hb dX8_takeDigits_70 (by decide) ?_
    refine lv_icmp_ne (tgt := 92) hx hb dX8_takeDigits_72 (by decide) (fun c11 => ?_) (fun c11 => ?_)
    · have h := jx_f h c11
      exact bl_b92 x1 t_next t_tokenIs t_tokenValue _ _ _ hP hD hS (lv_sub hl [0, 1] rfl) h
    · have h := jx_t h c11
      refine lv_aload_n hx hb dX8_takeDigits_75 rfl (lv_at hl 0 rfl) ?_
      refine va_get (D := D) (ci := 8) (v := .int t_next) (C := RX8) (T := TX8) (N := 7) hx hb hts hi_X8 hown hK hP 0 rfl rfl 3 (by decide) (hts (.fieldLink RX8 27 "TriangleRest$Text" "next" "I") (List.mem_of_getElem? (i := 1) rfl)) (fun _ h9 => h9) rfl dX8_takeDigits_76 ?_
      refine lv_aload_n hx hb dX8_takeDigits_79 rfl (lv_at hl 0 rfl) ?_
      refine va_get (D := D) (ci := 8) (v := .int t_tokenAt) (C := RX8) (T := TX8) (N := 7) hx hb hts hi_X8 hown hK hP 0 rfl rfl 4 (by decide) (hts (.fieldLink RX8 83 "TriangleRest$Text" "tokenAt" "I") (List.mem_of_getElem? (i := 7) rfl)) (fun _ h9 => h9) rfl dX8_takeDigits_80 ?_
      refine lv_isub hx hb dX8_takeDigits_83 ?_
      refine lv_iconst (v := (1 : Int32)) hx hb dX8_takeDigits_84 (by decide) ?_
      refine lv_icmp_le (tgt := 92) hx hb dX8_takeDigits_85 (by decide) (fun c12 => ?_) (fun c12 => ?_)
      · have h := jx_t h c12
        exact bl_b92 x1 t_next t_tokenIs t_tokenValue _ _ _ hP hD hS (lv_sub hl [0, 1] rfl) h
      · have h := jx_f h c12
        refine lv_iconst (v := (1 : Int32)) hx hb dX8_takeDigits_88 (by decide) ?_
        refine lv_goto (tgt := 93) hx hb dX8_takeDigits_89 (by decide) ?_
        exact bl_b93 x1 (1 : Int32) t_next t_tokenIs t_tokenValue _ _ _ hP hD hS (lv_sub hl [0, 1] rfl) h
  have bl_l7 : ∀ (n : Nat) (x1 : Int32) (x2 : Int32) (t_next : Int32) (t_tokenIs : Int32) (t_tokenValue : Int32) (H : Heap) (locs : List Loc) (ls : Array Slot), va_P D vwCl [(a_t, .inr (8, [.ref a_t_bytes, .int t_size, .int t_fault, .int t_next, .int t_tokenAt, .int t_tokenIs, .int t_tokenValue])), (a_t_bytes, .inl (cI, 120, .inl t_bytes))] H → va_D A [(a_t, .inr (8, [.ref a_t_bytes, .int t_size, .int t_fault, .int t_next, .int t_tokenAt, .int t_tokenIs, .int t_tokenValue])), (a_t_bytes, .inl (cI, 120, .inl t_bytes))] → va_S A s.heap H locs → lv_has ls 3 [(0, .ref a_t), (1, .int x1), (2, .int x2)] → mi_X8_takeDigits_l7 t_size t_tokenAt t_bytes n x1 x2 t_next t_tokenIs t_tokenValue = some (z_t_next, z_t_tokenIs, z_t_tokenValue) → W p l e (headSpec wsX8_takeDigits rm_X8_takeDigits).room s m args below meth c H locs 0 0 Q (F0 m 7 ls []) := by
    intro n
    induction n with
    | zero =>
      intro x1 x2 t_next t_tokenIs t_tokenValue H locs ls hP hD hS hl h
      rw [mi_X8_takeDigits_l7] at h
      cases h
    | succ n_l7 ih_l7 =>
      intro x1 x2 t_next t_tokenIs t_tokenValue H locs ls hP hD hS hl h
      rw [mi_X8_takeDigits_l7] at h
      refine lv_iload_n hx hb dX8_takeDigits_7 rfl (lv_at hl 2 rfl) ?_
      refine lv_aload_n hx hb dX8_takeDigits_8 rfl (lv_at hl 0 rfl) ?_
      refine va_get (D := D) (ci := 8) (v := .int t_size) (C := RX8) (T := TX8) (N := 7) hx hb hts hi_X8 hown hK hP 0 rfl rfl 1 (by decide) (hts (.fieldLink RX8 19 "TriangleRest$Text" "size" "I") (List.mem_of_getElem? (i := 2) rfl)) (fun _ h9 => h9) rfl dX8_takeDigits_9 ?_
      refine lv_icmp_ge (tgt := 62) hx hb dX8_takeDigits_12 (by decide) (fun c1 => ?_) (fun c1 => ?_)
      · have h := jx_t h c1
        exact bl_b62 x1 t_next t_tokenIs t_tokenValue _ _ _ hP hD hS (lv_sub hl [0, 1] rfl) h
      · have h := jx_f h c1
        refine lv_aload_n hx hb dX8_takeDigits_15 rfl (lv_at hl 0 rfl) ?_
        refine lv_iload_n hx hb dX8_takeDigits_16 rfl (lv_at hl 2 rfl) ?_
        obtain ⟨r2, e3, h⟩ := jx_b1_of h
        refine jx_cV (o := some (.int r2)) (As := [.int x2]) (rest := []) (b := a_t) ⟨hx, hb, hml, hown, hts⟩ (ct_X8_byteAt l D cI cZ cO a_t a_t_bytes t_size t_fault t_next t_tokenAt t_tokenIs t_tokenValue t_bytes x2 r2 e3) (cwV 1 hts gX8_takeDigits_X8_byteAt rfl rfl rfl (by decide +kernel) ⟨Nat.le_of_ble_eq_true rfl, Nat.le_of_ble_eq_true rfl⟩) hK hN hP [0, 1] rfl (va_recv hK hP (ci := 8) (q0 := 0) rfl rfl) rfl hl.1 rfl (Nat.le_of_ble_eq_true rfl) dX8_takeDigits_17 ⟨Nat.zero_le _, Nat.zero_le _⟩ ?_
        refine lv_bipush (v := (48 : Int32)) hx hb dX8_takeDigits_20 (by decide) ?_
        refine lv_bipush (v := (57 : Int32)) hx hb dX8_takeDigits_22 (by decide) ?_
        obtain ⟨r4, e5, h⟩ := jx_b1_of h
        refine jx_cSN (o := some (.int r4)) (As := [.int r2, .int (48 : Int32), .int (57 : Int32)]) (rest := []) ⟨hx, hb, hml, hown, hts⟩ (ct_X11_isWithin l r2 (48 : Int32) (57 : Int32) r4 e5) ⟨va_cnB 3 hts gX8_takeDigits_X11_isWithin_n79 rfl rfl rfl (jx_Nm hN 16 rfl) (hts (.initialized RX11) (List.mem_of_getElem? (i := 17) rfl)) (by decide +kernel) ⟨Nat.le_of_ble_eq_true rfl, Nat.le_of_ble_eq_true rfl⟩, (hts (.static yX11_isWithin) (List.mem_of_getElem? (i := 16) rfl)), trivial⟩ rfl hl.1 rfl (Nat.le_of_ble_eq_true rfl) dX8_takeDigits_24 ⟨Nat.zero_le _, Nat.zero_le _⟩ ?_
        refine lv_if_eq (tgt := 62) hx hb dX8_takeDigits_27 (by decide) (fun c6 => ?_) (fun c6 => ?_)
        · have h := jx_t h c6
          exact bl_b62 x1 t_next t_tokenIs t_tokenValue _ _ _ hP hD hS (lv_sub hl [0, 1] rfl) h
        · have h := jx_f h c6
          refine lv_iload_n hx hb dX8_takeDigits_30 rfl (lv_at hl 1 rfl) ?_
          refine lv_bipush (v := (10 : Int32)) hx hb dX8_takeDigits_31 (by decide) ?_
          refine lv_imul hx hb dX8_takeDigits_33 ?_
          refine lv_aload_n hx hb dX8_takeDigits_34 rfl (lv_at hl 0 rfl) ?_
          refine lv_iload_n hx hb dX8_takeDigits_35 rfl (lv_at hl 2 rfl) ?_
          obtain ⟨r7, e8, h⟩ := jx_b1_of h
          refine jx_cV (o := some (.int r7)) (As := [.int x2]) (rest := [.int (x1 * (10 : Int32))]) (b := a_t) ⟨hx, hb, hml, hown, hts⟩ (ct_X8_byteAt l D cI cZ cO a_t a_t_bytes t_size t_fault t_next t_tokenAt t_tokenIs t_tokenValue t_bytes x2 r7 e8) (cwV 1 hts gX8_takeDigits_X8_byteAt rfl rfl rfl (by decide +kernel) ⟨Nat.le_of_ble_eq_true rfl, Nat.le_of_ble_eq_true rfl⟩) hK hN hP [0, 1] rfl (va_recv hK hP (ci := 8) (q0 := 0) rfl rfl) rfl hl.1 rfl (Nat.le_of_ble_eq_true rfl) dX8_takeDigits_36 ⟨Nat.zero_le _, Nat.zero_le _⟩ ?_
          refine lv_iadd hx hb dX8_takeDigits_39 ?_
          refine lv_bipush (v := (48 : Int32)) hx hb dX8_takeDigits_40 (by decide) ?_
          refine lv_isub hx hb dX8_takeDigits_42 ?_
          refine lv_bipush (v := (100 : Int32)) hx hb dX8_takeDigits_43 (by decide) ?_
          refine va_mmin hx hb (hml.trans hl.1.symm) hown (hts (.methodLink RX8 95 Lib.Math.min.name) (List.mem_of_getElem? (i := 3) rfl)) (hts (.static Lib.Math.min.name) (List.mem_of_getElem? (i := 4) rfl)) (hts (.initialized "java/lang/Math") (List.mem_of_getElem? (i := 5) rfl)) (hts (.code Lib.Math.min.name Lib.Math.min.code 2 (some .int)) (List.mem_of_getElem? (i := 6) rfl)) (Nat.le_of_ble_eq_true rfl) (Nat.le_of_ble_eq_true rfl) (Nat.zero_le _) (Nat.zero_le _) dX8_takeDigits_45 ?_
          refine lv_istore_n (lv' := [(1, .int (if (100 : Int32) < (((x1 * (10 : Int32)) + r7) - (48 : Int32)) then (100 : Int32) else (((x1 * (10 : Int32)) + r7) - (48 : Int32)))), (0, .ref a_t), (2, .int x2)]) hx hb dX8_takeDigits_48 rfl hl (by decide) rfl (fun ls hl => ?_)
          refine lv_aload_n hx hb dX8_takeDigits_49 rfl (lv_at hl 1 rfl) ?_
          refine lv_iload_n hx hb dX8_takeDigits_50 rfl (lv_at hl 2 rfl) ?_
          refine lv_iconst (v := (1 : Int32)) hx hb dX8_takeDigits_51 (by decide) ?_
          refine lv_iadd hx hb dX8_takeDigits_52 ?_
          refine va_put (D := D) (ci := 8) (v := .int (x2 + (1 : Int32))) (ty := .int) (C := RX8) (T := TX8) (N := 7) hx hb hts hi_X8 tyX8 tyX8_ok nmX8 hown hK hP hD hS 0 rfl rfl 3 (by decide) (hts (.fieldLink RX8 27 "TriangleRest$Text" "next" "I") (List.mem_of_getElem? (i := 1) rfl)) (fun _ h9 => h9) rfl (by decide +kernel) rfl rfl (Nat.le_of_ble_eq_true rfl) dX8_takeDigits_53 (fun H locs hP hD hS => ?_)
          have hP : va_P D vwCl [(a_t, .inr (8, [.ref a_t_bytes, .int t_size, .int t_fault, .int (x2 + (1 : Int32)), .int t_tokenAt, .int t_tokenIs, .int t_tokenValue])), (a_t_bytes, .inl (cI, 120, .inl t_bytes))] H := hP
          have hD : va_D A [(a_t, .inr (8, [.ref a_t_bytes, .int t_size, .int t_fault, .int (x2 + (1 : Int32)), .int t_tokenAt, .int t_tokenIs, .int t_tokenValue])), (a_t_bytes, .inl (cI, 120, .inl t_bytes))] := hD
          refine lv_iinc (v := (x2 + 1)) (lv' := [(2, .int (x2 + 1)), (1, .int (if (100 : Int32) < (((x1 * (10 : Int32)) + r7) - (48 : Int32)) then (100 : Int32) else (((x1 * (10 : Int32)) + r7) - (48 : Int32)))), (0, .ref a_t)]) hx hb dX8_takeDigits_56 hl (k := 2) rfl rfl (by decide) rfl (fun ls hl => ?_)
          refine lv_goto (tgt := 7) hx hb dX8_takeDigits_59 (by decide) ?_
          exact ih_l7 (if (100 : Int32) < (((x1 * (10 : Int32)) + r7) - (48 : Int32)) then (100 : Int32) else (((x1 * (10 : Int32)) + r7) - (48 : Int32))) (x2 + 1) (x2 + (1 : Int32)) t_tokenIs t_tokenValue _ _ _ hP hD hS (lv_sub hl [2, 1, 0] rfl) h
  have h := hm
  unfold mi_X8_takeDigits at h
  refine lv_iconst (v := (0 : Int32)) hx hb dX8_takeDigits_0 (by decide) ?_
  refine lv_istore_n (lv' := [(1, .int (0 : Int32)), (0, .ref a_t)]) hx hb dX8_takeDigits_1 rfl hl (by decide) rfl (fun ls hl => ?_)
  refine lv_aload_n hx hb dX8_takeDigits_2 rfl (lv_at hl 1 rfl) ?_
  refine va_get (D := D) (ci := 8) (v := .int t_next) (C := RX8) (T := TX8) (N := 7) hx hb hts hi_X8 hown hK hP 0 rfl rfl 3 (by decide) (hts (.fieldLink RX8 27 "TriangleRest$Text" "next" "I") (List.mem_of_getElem? (i := 1) rfl)) (fun _ h9 => h9) rfl dX8_takeDigits_3 ?_
  refine lv_istore_n (lv' := [(2, .int t_next), (1, .int (0 : Int32)), (0, .ref a_t)]) hx hb dX8_takeDigits_6 rfl hl (by decide) rfl (fun ls hl => ?_)
  exact bl_l7 jx_F (0 : Int32) t_next t_next t_tokenIs t_tokenValue _ _ _ hP hD hS (lv_sub hl [2, 1, 0] rfl) h
def mi_X8_readToken_b120 (k1 : Int32) (t_next : Int32) (t_tokenAt : Int32) (t_tokenIs : Int32) (t_tokenValue : Int32) : Option (Int32 × Int32 × Int32 × Int32) := some ((t_next + (1 : Int32)), t_tokenAt, k1, t_tokenValue)
def mi_X8_readToken_b36 (t_size : Int32) (t_bytes : Nat → Int32) (t_next : Int32) (t_tokenAt : Int32) (t_tokenIs : Int32) (t_tokenValue : Int32) : Option (Int32 × Int32 × Int32 × Int32) := jx_b1 (mi_X8_byteAt t_bytes t_next) fun r5 => (if t_next < t_size then (jx_b1 (mi_X11_isWithin r5 (97 : Int32) (122 : Int32)) fun r8 => (if r8 = 0 then (jx_b1 (mi_X11_isWithin r5 (48 : Int32) (57 : Int32)) fun r11 => (if r11 = 0 then (if r5 = (59 : Int32) then (mi_X8_readToken_b120 (3 : Int32) t_next t_next t_tokenIs t_tokenValue) else (mi_X8_readToken_b120 (4 : Int32) t_next t_next t_tokenIs t_tokenValue)) else (jx_b3 (mi_X8_takeDigits t_size t_next t_next t_tokenIs t_tokenValue t_bytes) fun t_next_15 t_tokenIs_16 t_tokenValue_17 => (some (t_next_15, t_next, t_tokenIs_16, t_tokenValue_17))))) else (jx_b3 (mi_X8_takeLetters t_size t_next t_next t_tokenValue t_bytes) fun t_next_19 t_tokenIs_20 t_tokenValue_21 => (some (t_next_19, t_next, t_tokenIs_20, t_tokenValue_21))))) else (some (t_next, t_next, (0 : Int32), t_tokenValue)))
def mi_X8_readToken_l5 (t_size : Int32) (t_bytes : Nat → Int32) : Nat → Int32 → Int32 → Int32 → Int32 → Int32 → Option (Int32 × Int32 × Int32 × Int32)
  | 0, _, _, _, _, _ => none
  | n + 1, x1, t_next, t_tokenAt, t_tokenIs, t_tokenValue => if t_size ≤ x1 then (mi_X8_readToken_b36 t_size t_bytes t_next t_tokenAt t_tokenIs t_tokenValue) else (jx_b1 (mi_X8_byteAt t_bytes x1) fun r2 => (if r2 = (32 : Int32) then (mi_X8_readToken_l5 t_size t_bytes n (x1 + 1) (x1 + (1 : Int32)) t_tokenAt t_tokenIs t_tokenValue) else (mi_X8_readToken_b36 t_size t_bytes t_next t_tokenAt t_tokenIs t_tokenValue)))
def mi_X8_readToken (t_size : Int32) (t_next : Int32) (t_tokenAt : Int32) (t_tokenIs : Int32) (t_tokenValue : Int32) (t_bytes : Nat → Int32) : Option (Int32 × Int32 × Int32 × Int32) := mi_X8_readToken_l5 t_size t_bytes jx_F t_next t_next t_tokenAt t_tokenIs t_tokenValue
abbrev rm_X8_readToken : Room := { frames := 2, cells := 0, slots := 0, locals := 44 }
set_option maxRecDepth 100000 in
set_option maxHeartbeats 4000000 in
theorem ct_X8_readToken (l : Launch) (D : va_G) (cI cZ cO : ClassId) (a_t a_t_bytes : Nat) (sz : Nat) (t_size : Int32) (t_fault : Int32) (t_next : Int32) (t_tokenAt : Int32) (t_tokenIs : Int32) (t_tokenValue : Int32) (t_bytes : Nat → Int32) (z_t_next : Int32) (z_t_tokenAt : Int32) (z_t_tokenIs : Int32) (z_t_tokenValue : Int32) (hm : mi_X8_readToken t_size t_next t_tokenAt t_tokenIs t_tokenValue t_bytes = some (z_t_next, z_t_tokenAt, z_t_tokenIs, z_t_tokenValue)) : Met l yX8_readToken wsX8_readToken rm_X8_readToken (va_Pc [.ref a_t] (jx_W D (jx_T cI cZ cO) sz [(a_t, .inr (8, [.ref a_t_bytes, .int t_size, .int t_fault, .int t_next, .int t_tokenAt, .int t_tokenIs, .int t_tokenValue])), (a_t_bytes, .inl (cI, 120, .inl t_bytes))])) (jx_Q none D [(a_t, .inr (8, [.ref a_t_bytes, .int t_size, .int t_fault, .int z_t_next, .int z_t_tokenAt, .int z_t_tokenIs, .int z_t_tokenValue])), (a_t_bytes, .inl (cI, 120, .inl t_bytes))] (va_A [(a_t, .inr (8, [.ref a_t_bytes, .int t_size, .int t_fault, .int t_next, .int t_tokenAt, .int t_tokenIs, .int t_tokenValue])), (a_t_bytes, .inl (cI, 120, .inl t_bytes))] sz)) 0 0 (va_A [(a_t, .inr (8, [.ref a_t_bytes, .int t_size, .int t_fault, .int t_next, .int t_tokenAt, .int t_tokenIs, .int t_tokenValue])), (a_t_bytes, .inl (cI, 120, .inl t_bytes))] sz) := by
  refine jx_metV (own := RX8) (cc := cX8_readToken) (maxL := 2) (by decide) rfl rfl (Nat.le_of_ble_eq_true rfl) ?_
  intro p e s m args below meth c Q ls A hx hb hml hown hts hK hN hA hP hD hS hl hret
  have hi_X8 : ∀ w ∈ u_ws RX8 TX8 7, w ∈ wsX8_readToken := by decide +kernel
  have hl : lv_has ls 2 [(0, .ref a_t)] := hl
  have bl_b120 : ∀ (k1 : Int32) (t_next : Int32) (t_tokenAt : Int32) (t_tokenIs : Int32) (t_tokenValue : Int32) (H : Heap) (locs : List Loc) (ls : Array Slot), va_P D vwCl [(a_t, .inr (8, [.ref a_t_bytes, .int t_size, .int t_fault, .int t_next, .int t_tokenAt, .int t_tokenIs, .int t_tokenValue])), (a_t_bytes, .inl (cI, 120, .inl t_bytes))] H → va_D A [(a_t, .inr (8, [.ref a_t_bytes, .int t_size, .int t_fault, .int t_next, .int t_tokenAt, .int t_tokenIs, .int t_tokenValue])), (a_t_bytes, .inl (cI, 120, .inl t_bytes))] → va_S A s.heap H locs → lv_has ls 2 [(0, .ref a_t)] → mi_X8_readToken_b120 k1 t_next t_tokenAt t_tokenIs t_tokenValue = some (z_t_next, z_t_tokenAt, z_t_tokenIs, z_t_tokenValue) → W p l e (headSpec wsX8_readToken rm_X8_readToken).room s m args below meth c H locs 0 0 Q (F0 m 120 ls [.int k1, .ref a_t]) := by
    intro k1 t_next t_tokenAt t_tokenIs t_tokenValue H locs ls hP hD hS hl h
    unfold mi_X8_readToken_b120 at h
    refine va_put (D := D) (ci := 8) (v := .int k1) (ty := .int) (C := RX8) (T := TX8) (N := 7) hx hb hts hi_X8 tyX8 tyX8_ok nmX8 hown hK hP hD hS 0 rfl rfl 5 (by decide) (hts (.fieldLink RX8 33 "TriangleRest$Text" "tokenIs" "I") (List.mem_of_getElem? (i := 4) rfl)) (fun _ h9 => h9) rfl (by decide +kernel) rfl rfl (Nat.le_of_ble_eq_true rfl) dX8_readToken_120 (fun H locs hP hD hS => ?_)
    have hP : va_P D vwCl [(a_t, .inr (8, [.ref a_t_bytes, .int t_size, .int t_fault, .int t_next, .int t_tokenAt, .int k1, .int t_tokenValue])), (a_t_bytes, .inl (cI, 120, .inl t_bytes))] H := hP
    have hD : va_D A [(a_t, .inr (8, [.ref a_t_bytes, .int t_size, .int t_fault, .int t_next, .int t_tokenAt, .int k1, .int t_tokenValue])), (a_t_bytes, .inl (cI, 120, .inl t_bytes))] := hD
    refine lv_aload_n hx hb dX8_readToken_123 rfl (lv_at hl 0 rfl) ?_
    refine lv_dup hx hb dX8_readToken_124 rfl ?_
    refine va_get (D := D) (ci := 8) (v := .int t_next) (C := RX8) (T := TX8) (N := 7) hx hb hts hi_X8 hown hK hP 0 rfl rfl 3 (by decide) (hts (.fieldLink RX8 27 "TriangleRest$Text" "next" "I") (List.mem_of_getElem? (i := 1) rfl)) (fun _ h9 => h9) rfl dX8_readToken_125 ?_
    refine lv_iconst (v := (1 : Int32)) hx hb dX8_readToken_128 (by decide) ?_
    refine lv_iadd hx hb dX8_readToken_129 ?_
    refine va_put (D := D) (ci := 8) (v := .int (t_next + (1 : Int32))) (ty := .int) (C := RX8) (T := TX8) (N := 7) hx hb hts hi_X8 tyX8 tyX8_ok nmX8 hown hK hP hD hS 0 rfl rfl 3 (by decide) (hts (.fieldLink RX8 27 "TriangleRest$Text" "next" "I") (List.mem_of_getElem? (i := 1) rfl)) (fun _ h9 => h9) rfl (by decide +kernel) rfl rfl (Nat.le_of_ble_eq_true rfl) dX8_readToken_130 (fun H locs hP hD hS => ?_)
    have hP : va_P D vwCl [(a_t, .inr (8, [.ref a_t_bytes, .int t_size, .int t_fault, .int (t_next + (1 : Int32)), .int t_tokenAt, .int k1, .int t_tokenValue])), (a_t_bytes, .inl (cI, 120, .inl t_bytes))] H := hP
    have hD : va_D A [(a_t, .inr (8, [.ref a_t_bytes, .int t_size, .int t_fault, .int (t_next + (1 : Int32)), .int t_tokenAt, .int k1, .int t_tokenValue])), (a_t_bytes, .inl (cI, 120, .inl t_bytes))] := hD
    cases h
    exact hret 133 ls _ _ hP hD hS dX8_readToken_133
  have bl_b36 : ∀ (t_next : Int32) (t_tokenAt : Int32) (t_tokenIs : Int32) (t_tokenValue : Int32) (H : Heap) (locs : List Loc) (ls : Array Slot), va_P D vwCl [(a_t, .inr (8, [.ref a_t_bytes, .int t_size, .int t_fault, .int t_next, .int t_tokenAt, .int t_tokenIs, .int t_tokenValue])), (a_t_bytes, .inl (cI, 120, .inl t_bytes))] H → va_D A [(a_t, .inr (8, [.ref a_t_bytes, .int t_size, .int t_fault, .int t_next, .int t_tokenAt, .int t_tokenIs, .int t_tokenValue])), (a_t_bytes, .inl (cI, 120, .inl t_bytes))] → va_S A s.heap H locs → lv_has ls 2 [(0, .ref a_t)] → mi_X8_readToken_b36 t_size t_bytes t_next t_tokenAt t_tokenIs t_tokenValue = some (z_t_next, z_t_tokenAt, z_t_tokenIs, z_t_tokenValue) → W p l e (headSpec wsX8_readToken rm_X8_readToken).room s m args below meth c H locs 0 0 Q (F0 m 36 ls []) := by
    intro t_next t_tokenAt t_tokenIs t_tokenValue H locs ls hP hD hS hl h
    unfold mi_X8_readToken_b36 at h
    refine lv_aload_n hx hb dX8_readToken_36 rfl (lv_at hl 0 rfl) ?_
    refine lv_aload_n hx hb dX8_readToken_37 rfl (lv_at hl 0 rfl) ?_
    refine va_get (D := D) (ci := 8) (v := .int t_next) (C := RX8) (T := TX8) (N := 7) hx hb hts hi_X8 hown hK hP 0 rfl rfl 3 (by decide) (hts (.fieldLink RX8 27 "TriangleRest$Text" "next" "I") (List.mem_of_getElem? (i := 1) rfl)) (fun _ h9 => h9) rfl dX8_readToken_38 ?_
    refine va_put (D := D) (ci := 8) (v := .int t_next) (ty := .int) (C := RX8) (T := TX8) (N := 7) hx hb hts hi_X8 tyX8 tyX8_ok nmX8 hown hK hP hD hS 0 rfl rfl 4 (by decide) (hts (.fieldLink RX8 83 "TriangleRest$Text" "tokenAt" "I") (List.mem_of_getElem? (i := 3) rfl)) (fun _ h9 => h9) rfl (by decide +kernel) rfl rfl (Nat.le_of_ble_eq_true rfl) dX8_readToken_41 (fun H locs hP hD hS => ?_)
    have hP : va_P D vwCl [(a_t, .inr (8, [.ref a_t_bytes, .int t_size, .int t_fault, .int t_next, .int t_next, .int t_tokenIs, .int t_tokenValue])), (a_t_bytes, .inl (cI, 120, .inl t_bytes))] H := hP
    have hD : va_D A [(a_t, .inr (8, [.ref a_t_bytes, .int t_size, .int t_fault, .int t_next, .int t_next, .int t_tokenIs, .int t_tokenValue])), (a_t_bytes, .inl (cI, 120, .inl t_bytes))] := hD
    refine lv_aload_n hx hb dX8_readToken_44 rfl (lv_at hl 0 rfl) ?_
    refine lv_aload_n hx hb dX8_readToken_45 rfl (lv_at hl 0 rfl) ?_
    refine va_get (D := D) (ci := 8) (v := .int t_next) (C := RX8) (T := TX8) (N := 7) hx hb hts hi_X8 hown hK hP 0 rfl rfl 3 (by decide) (hts (.fieldLink RX8 27 "TriangleRest$Text" "next" "I") (List.mem_of_getElem? (i := 1) rfl)) (fun _ h9 => h9) rfl dX8_readToken_46 ?_
    obtain ⟨r5, e6, h⟩ := jx_b1_of h
    refine jx_cV (o := some (.int r5)) (As := [.int t_next]) (rest := []) (b := a_t) ⟨hx, hb, hml, hown, hts⟩ (ct_X8_byteAt l D cI cZ cO a_t a_t_bytes t_size t_fault t_next t_next t_tokenIs t_tokenValue t_bytes t_next r5 e6) (cwV 1 hts gX8_readToken_X8_byteAt rfl rfl rfl (by decide +kernel) ⟨Nat.le_of_ble_eq_true rfl, Nat.le_of_ble_eq_true rfl⟩) hK hN hP [0, 1] rfl (va_recv hK hP (ci := 8) (q0 := 0) rfl rfl) rfl hl.1 rfl (Nat.le_of_ble_eq_true rfl) dX8_readToken_49 ⟨Nat.zero_le _, Nat.zero_le _⟩ ?_
    refine lv_istore_n (lv' := [(1, .int r5), (0, .ref a_t)]) hx hb dX8_readToken_52 rfl hl (by decide) rfl (fun ls hl => ?_)
    refine lv_aload_n hx hb dX8_readToken_53 rfl (lv_at hl 1 rfl) ?_
    refine va_get (D := D) (ci := 8) (v := .int t_next) (C := RX8) (T := TX8) (N := 7) hx hb hts hi_X8 hown hK hP 0 rfl rfl 3 (by decide) (hts (.fieldLink RX8 27 "TriangleRest$Text" "next" "I") (List.mem_of_getElem? (i := 1) rfl)) (fun _ h9 => h9) rfl dX8_readToken_54 ?_
    refine lv_aload_n hx hb dX8_readToken_57 rfl (lv_at hl 1 rfl) ?_
    refine va_get (D := D) (ci := 8) (v := .int t_size) (C := RX8) (T := TX8) (N := 7) hx hb hts hi_X8 hown hK hP 0 rfl rfl 1 (by decide) (hts (.fieldLink RX8 19 "TriangleRest$Text" "size" "I") (List.mem_of_getElem? (i := 2) rfl)) (fun _ h9 => h9) rfl dX8_readToken_58 ?_
    refine lv_icmp_lt (tgt := 72) hx hb dX8_readToken_61 (by decide) (fun c7 => ?_) (fun c7 => ?_)
    · have h := jx_t h c7
      refine lv_iload_n hx hb dX8_readToken_72 rfl (lv_at hl 0 rfl) ?_
      refine lv_bipush (v := (97 : Int32)) hx hb dX8_readToken_73 (by decide) ?_
      refine lv_bipush (v := (122 : Int32)) hx hb dX8_readToken_75 (by decide) ?_
      obtain ⟨r8, e9, h⟩ := jx_b1_of h
      refine jx_cSN (o := some (.int r8)) (As := [.int r5, .int (97 : Int32), .int (122 : Int32)]) (rest := []) ⟨hx, hb, hml, hown, hts⟩ (ct_X11_isWithin l r5 (97 : Int32) (122 : Int32) r8 e9) ⟨va_cnB 3 hts gX8_readToken_X11_isWithin_n79 rfl rfl rfl (jx_Nm hN 16 rfl) (hts (.initialized RX11) (List.mem_of_getElem? (i := 12) rfl)) (by decide +kernel) ⟨Nat.le_of_ble_eq_true rfl, Nat.le_of_ble_eq_true rfl⟩, (hts (.static yX11_isWithin) (List.mem_of_getElem? (i := 11) rfl)), trivial⟩ rfl hl.1 rfl (Nat.le_of_ble_eq_true rfl) dX8_readToken_77 ⟨Nat.zero_le _, Nat.zero_le _⟩ ?_
      refine lv_if_eq (tgt := 90) hx hb dX8_readToken_80 (by decide) (fun c10 => ?_) (fun c10 => ?_)
      · have h := jx_t h c10
        refine lv_iload_n hx hb dX8_readToken_90 rfl (lv_at hl 0 rfl) ?_
        refine lv_bipush (v := (48 : Int32)) hx hb dX8_readToken_91 (by decide) ?_
        refine lv_bipush (v := (57 : Int32)) hx hb dX8_readToken_93 (by decide) ?_
        obtain ⟨r11, e12, h⟩ := jx_b1_of h
        refine jx_cSN (o := some (.int r11)) (As := [.int r5, .int (48 : Int32), .int (57 : Int32)]) (rest := []) ⟨hx, hb, hml, hown, hts⟩ (ct_X11_isWithin l r5 (48 : Int32) (57 : Int32) r11 e12) ⟨va_cnB 3 hts gX8_readToken_X11_isWithin_n79 rfl rfl rfl (jx_Nm hN 16 rfl) (hts (.initialized RX11) (List.mem_of_getElem? (i := 12) rfl)) (by decide +kernel) ⟨Nat.le_of_ble_eq_true rfl, Nat.le_of_ble_eq_true rfl⟩, (hts (.static yX11_isWithin) (List.mem_of_getElem? (i := 11) rfl)), trivial⟩ rfl hl.1 rfl (Nat.le_of_ble_eq_true rfl) dX8_readToken_95 ⟨Nat.zero_le _, Nat.zero_le _⟩ ?_
        refine lv_if_eq (tgt := 108) hx hb dX8_readToken_98 (by decide) (fun c13 => ?_) (fun c13 => ?_)
        · have h := jx_t h c13
          refine lv_aload_n hx hb dX8_readToken_108 rfl (lv_at hl 1 rfl) ?_
          refine lv_iload_n hx hb dX8_readToken_109 rfl (lv_at hl 0 rfl) ?_
          refine lv_bipush (v := (59 : Int32)) hx hb dX8_readToken_110 (by decide) ?_
          refine lv_icmp_ne (tgt := 119) hx hb dX8_readToken_112 (by decide) (fun c14 => ?_) (fun c14 => ?_)
          · have h := jx_f h c14
            refine lv_iconst (v := (4 : Int32)) hx hb dX8_readToken_119 (by decide) ?_
            exact bl_b120 (4 : Int32) t_next t_next t_tokenIs t_tokenValue _ _ _ hP hD hS (lv_sub hl [1] rfl) h
          · have h := jx_t h c14
            refine lv_iconst (v := (3 : Int32)) hx hb dX8_readToken_115 (by decide) ?_
            refine lv_goto (tgt := 120) hx hb dX8_readToken_116 (by decide) ?_
            exact bl_b120 (3 : Int32) t_next t_next t_tokenIs t_tokenValue _ _ _ hP hD hS (lv_sub hl [1] rfl) h
        · have h := jx_f h c13
          refine lv_aload_n hx hb dX8_readToken_101 rfl (lv_at hl 1 rfl) ?_
          obtain ⟨t_next_15, t_tokenIs_16, t_tokenValue_17, e18, h⟩ := jx_b3_of h
          refine jx_cW (o := none) (As := []) (rest := []) (b := a_t) (wr := []) (wd' := [(a_t, .inr (8, [.ref a_t_bytes, .int t_size, .int t_fault, .int t_next_15, .int t_next, .int t_tokenIs_16, .int t_tokenValue_17])), (a_t_bytes, .inl (cI, 120, .inl t_bytes))]) ⟨hx, hb, hml, hown, hts⟩ (ct_X8_takeDigits l D cI cZ cO a_t a_t_bytes H.size t_size t_fault t_next t_next t_tokenIs t_tokenValue t_bytes t_next_15 t_tokenIs_16 t_tokenValue_17 e18) (cwV 0 hts gX8_readToken_X8_takeDigits rfl rfl rfl (by decide +kernel) ⟨Nat.le_of_ble_eq_true rfl, Nat.le_of_ble_eq_true rfl⟩) hK hN hP hD hS hA [0, 1] [] (by decide) rfl rfl (by decide) (by decide) rfl (va_recv hK hP (ci := 8) (q0 := 0) rfl rfl) rfl hl.1 rfl (Nat.le_of_ble_eq_true rfl) dX8_readToken_102 ⟨Nat.zero_le _, Nat.zero_le _⟩ [0, 1] (by decide) rfl (fun H locs hP hD hS => ?_)
          refine lv_goto (tgt := 133) hx hb dX8_readToken_105 (by decide) ?_
          cases h
          exact hret 133 ls _ _ hP hD hS dX8_readToken_133
      · have h := jx_f h c10
        refine lv_aload_n hx hb dX8_readToken_83 rfl (lv_at hl 1 rfl) ?_
        obtain ⟨t_next_19, t_tokenIs_20, t_tokenValue_21, e22, h⟩ := jx_b3_of h
        refine jx_cW (o := none) (As := []) (rest := []) (b := a_t) (wr := []) (wd' := [(a_t, .inr (8, [.ref a_t_bytes, .int t_size, .int t_fault, .int t_next_19, .int t_next, .int t_tokenIs_20, .int t_tokenValue_21])), (a_t_bytes, .inl (cI, 120, .inl t_bytes))]) ⟨hx, hb, hml, hown, hts⟩ (ct_X8_takeLetters l D cI cZ cO a_t a_t_bytes H.size t_size t_fault t_next t_next t_tokenIs t_tokenValue t_bytes t_next_19 t_tokenIs_20 t_tokenValue_21 e22) (cwV 0 hts gX8_readToken_X8_takeLetters rfl rfl rfl (by decide +kernel) ⟨Nat.le_of_ble_eq_true rfl, Nat.le_of_ble_eq_true rfl⟩) hK hN hP hD hS hA [0, 1] [] (by decide) rfl rfl (by decide) (by decide) rfl (va_recv hK hP (ci := 8) (q0 := 0) rfl rfl) rfl hl.1 rfl (Nat.le_of_ble_eq_true rfl) dX8_readToken_84 ⟨Nat.zero_le _, Nat.zero_le _⟩ [0, 1] (by decide) rfl (fun H locs hP hD hS => ?_)
        refine lv_goto (tgt := 133) hx hb dX8_readToken_87 (by decide) ?_
        cases h
        exact hret 133 ls _ _ hP hD hS dX8_readToken_133
    · have h := jx_f h c7
      refine lv_aload_n hx hb dX8_readToken_64 rfl (lv_at hl 1 rfl) ?_
      refine lv_iconst (v := (0 : Int32)) hx hb dX8_readToken_65 (by decide) ?_
      refine va_put (D := D) (ci := 8) (v := .int (0 : Int32)) (ty := .int) (C := RX8) (T := TX8) (N := 7) hx hb hts hi_X8 tyX8 tyX8_ok nmX8 hown hK hP hD hS 0 rfl rfl 5 (by decide) (hts (.fieldLink RX8 33 "TriangleRest$Text" "tokenIs" "I") (List.mem_of_getElem? (i := 4) rfl)) (fun _ h9 => h9) rfl (by decide +kernel) rfl rfl (Nat.le_of_ble_eq_true rfl) dX8_readToken_66 (fun H locs hP hD hS => ?_)
      have hP : va_P D vwCl [(a_t, .inr (8, [.ref a_t_bytes, .int t_size, .int t_fault, .int t_next, .int t_next, .int (0 : Int32), .int t_tokenValue])), (a_t_bytes, .inl (cI, 120, .inl t_bytes))] H := hP
      have hD : va_D A [(a_t, .inr (8, [.ref a_t_bytes, .int t_size, .int t_fault, .int t_next, .int t_next, .int (0 : Int32), .int t_tokenValue])), (a_t_bytes, .inl (cI, 120, .inl t_bytes))] := hD
      refine lv_goto (tgt := 133) hx hb dX8_readToken_69 (by decide) ?_
      cases h
      exact hret 133 ls _ _ hP hD hS dX8_readToken_133
  have bl_l5 : ∀ (n : Nat) (x1 : Int32) (t_next : Int32) (t_tokenAt : Int32) (t_tokenIs : Int32) (t_tokenValue : Int32) (H : Heap) (locs : List Loc) (ls : Array Slot), va_P D vwCl [(a_t, .inr (8, [.ref a_t_bytes, .int t_size, .int t_fault, .int t_next, .int t_tokenAt, .int t_tokenIs, .int t_tokenValue])), (a_t_bytes, .inl (cI, 120, .inl t_bytes))] H → va_D A [(a_t, .inr (8, [.ref a_t_bytes, .int t_size, .int t_fault, .int t_next, .int t_tokenAt, .int t_tokenIs, .int t_tokenValue])), (a_t_bytes, .inl (cI, 120, .inl t_bytes))] → va_S A s.heap H locs → lv_has ls 2 [(0, .ref a_t), (1, .int x1)] → mi_X8_readToken_l5 t_size t_bytes n x1 t_next t_tokenAt t_tokenIs t_tokenValue = some (z_t_next, z_t_tokenAt, z_t_tokenIs, z_t_tokenValue) → W p l e (headSpec wsX8_readToken rm_X8_readToken).room s m args below meth c H locs 0 0 Q (F0 m 5 ls []) := by
    intro n
    induction n with
    | zero =>
      intro x1 t_next t_tokenAt t_tokenIs t_tokenValue H locs ls hP hD hS hl h
      rw [mi_X8_readToken_l5] at h
      cases h
    | succ n_l5 ih_l5 =>
      intro x1 t_next t_tokenAt t_tokenIs t_tokenValue H locs ls hP hD hS hl h
      rw [mi_X8_readToken_l5] at h
      refine lv_iload_n hx hb dX8_readToken_5 rfl (lv_at hl 1 rfl) ?_
      refine lv_aload_n hx hb dX8_readToken_6 rfl (lv_at hl 0 rfl) ?_
      refine va_get (D := D) (ci := 8) (v := .int t_size) (C := RX8) (T := TX8) (N := 7) hx hb hts hi_X8 hown hK hP 0 rfl rfl 1 (by decide) (hts (.fieldLink RX8 19 "TriangleRest$Text" "size" "I") (List.mem_of_getElem? (i := 2) rfl)) (fun _ h9 => h9) rfl dX8_readToken_7 ?_
      refine lv_icmp_ge (tgt := 36) hx hb dX8_readToken_10 (by decide) (fun c1 => ?_) (fun c1 => ?_)
      · have h := jx_t h c1
        exact bl_b36 t_next t_tokenAt t_tokenIs t_tokenValue _ _ _ hP hD hS (lv_sub hl [0] rfl) h
      · have h := jx_f h c1
        refine lv_aload_n hx hb dX8_readToken_13 rfl (lv_at hl 0 rfl) ?_
        refine lv_iload_n hx hb dX8_readToken_14 rfl (lv_at hl 1 rfl) ?_
        obtain ⟨r2, e3, h⟩ := jx_b1_of h
        refine jx_cV (o := some (.int r2)) (As := [.int x1]) (rest := []) (b := a_t) ⟨hx, hb, hml, hown, hts⟩ (ct_X8_byteAt l D cI cZ cO a_t a_t_bytes t_size t_fault t_next t_tokenAt t_tokenIs t_tokenValue t_bytes x1 r2 e3) (cwV 1 hts gX8_readToken_X8_byteAt rfl rfl rfl (by decide +kernel) ⟨Nat.le_of_ble_eq_true rfl, Nat.le_of_ble_eq_true rfl⟩) hK hN hP [0, 1] rfl (va_recv hK hP (ci := 8) (q0 := 0) rfl rfl) rfl hl.1 rfl (Nat.le_of_ble_eq_true rfl) dX8_readToken_15 ⟨Nat.zero_le _, Nat.zero_le _⟩ ?_
        refine lv_bipush (v := (32 : Int32)) hx hb dX8_readToken_18 (by decide) ?_
        refine lv_icmp_ne (tgt := 36) hx hb dX8_readToken_20 (by decide) (fun c4 => ?_) (fun c4 => ?_)
        · have h := jx_f h c4
          exact bl_b36 t_next t_tokenAt t_tokenIs t_tokenValue _ _ _ hP hD hS (lv_sub hl [0] rfl) h
        · have h := jx_t h c4
          refine lv_aload_n hx hb dX8_readToken_23 rfl (lv_at hl 0 rfl) ?_
          refine lv_iload_n hx hb dX8_readToken_24 rfl (lv_at hl 1 rfl) ?_
          refine lv_iconst (v := (1 : Int32)) hx hb dX8_readToken_25 (by decide) ?_
          refine lv_iadd hx hb dX8_readToken_26 ?_
          refine va_put (D := D) (ci := 8) (v := .int (x1 + (1 : Int32))) (ty := .int) (C := RX8) (T := TX8) (N := 7) hx hb hts hi_X8 tyX8 tyX8_ok nmX8 hown hK hP hD hS 0 rfl rfl 3 (by decide) (hts (.fieldLink RX8 27 "TriangleRest$Text" "next" "I") (List.mem_of_getElem? (i := 1) rfl)) (fun _ h9 => h9) rfl (by decide +kernel) rfl rfl (Nat.le_of_ble_eq_true rfl) dX8_readToken_27 (fun H locs hP hD hS => ?_)
          have hP : va_P D vwCl [(a_t, .inr (8, [.ref a_t_bytes, .int t_size, .int t_fault, .int (x1 + (1 : Int32)), .int t_tokenAt, .int t_tokenIs, .int t_tokenValue])), (a_t_bytes, .inl (cI, 120, .inl t_bytes))] H := hP
          have hD : va_D A [(a_t, .inr (8, [.ref a_t_bytes, .int t_size, .int t_fault, .int (x1 + (1 : Int32)), .int t_tokenAt, .int t_tokenIs, .int t_tokenValue])), (a_t_bytes, .inl (cI, 120, .inl t_bytes))] := hD
          refine lv_iinc (v := (x1 + 1)) (lv' := [(1, .int (x1 + 1)), (0, .ref a_t)]) hx hb dX8_readToken_30 hl (k := 1) rfl rfl (by decide) rfl (fun ls hl => ?_)
          refine lv_goto (tgt := 5) hx hb dX8_readToken_33 (by decide) ?_
          exact ih_l5 (x1 + 1) (x1 + (1 : Int32)) t_tokenAt t_tokenIs t_tokenValue _ _ _ hP hD hS (lv_sub hl [1, 0] rfl) h
  have h := hm
  unfold mi_X8_readToken at h
  refine lv_aload_n hx hb dX8_readToken_0 rfl (lv_at hl 0 rfl) ?_
  refine va_get (D := D) (ci := 8) (v := .int t_next) (C := RX8) (T := TX8) (N := 7) hx hb hts hi_X8 hown hK hP 0 rfl rfl 3 (by decide) (hts (.fieldLink RX8 27 "TriangleRest$Text" "next" "I") (List.mem_of_getElem? (i := 1) rfl)) (fun _ h9 => h9) rfl dX8_readToken_1 ?_
  refine lv_istore_n (lv' := [(1, .int t_next), (0, .ref a_t)]) hx hb dX8_readToken_4 rfl hl (by decide) rfl (fun ls hl => ?_)
  exact bl_l5 jx_F t_next t_next t_tokenAt t_tokenIs t_tokenValue _ _ _ hP hD hS (lv_sub hl [1, 0] rfl) h
def mi_X8_readSemicolon (t_size : Int32) (t_fault : Int32) (t_next : Int32) (t_tokenAt : Int32) (t_tokenIs : Int32) (t_tokenValue : Int32) (t_bytes : Nat → Int32) : Option (Int32 × Int32 × Int32 × Int32 × Int32) := if t_fault = (-1 : Int32) then (jx_b4 (mi_X8_readToken t_size t_next t_tokenAt t_tokenIs t_tokenValue t_bytes) fun t_next_2 t_tokenAt_3 t_tokenIs_4 t_tokenValue_5 => (if t_tokenIs_4 = (3 : Int32) then (some (t_fault, t_next_2, t_tokenAt_3, t_tokenIs_4, t_tokenValue_5)) else (jx_b1 (mi_X8_failHere t_tokenAt_3) fun t_fault_8 => (some (t_fault_8, t_next_2, t_tokenAt_3, t_tokenIs_4, t_tokenValue_5))))) else (some (t_fault, t_next, t_tokenAt, t_tokenIs, t_tokenValue))
abbrev rm_X8_readSemicolon : Room := { frames := 3, cells := 0, slots := 0, locals := 65 }
set_option maxRecDepth 100000 in
set_option maxHeartbeats 4000000 in
theorem ct_X8_readSemicolon (l : Launch) (D : va_G) (cI cZ cO : ClassId) (a_t a_t_bytes : Nat) (sz : Nat) (t_size : Int32) (t_fault : Int32) (t_next : Int32) (t_tokenAt : Int32) (t_tokenIs : Int32) (t_tokenValue : Int32) (t_bytes : Nat → Int32) (z_t_fault : Int32) (z_t_next : Int32) (z_t_tokenAt : Int32) (z_t_tokenIs : Int32) (z_t_tokenValue : Int32) (hm : mi_X8_readSemicolon t_size t_fault t_next t_tokenAt t_tokenIs t_tokenValue t_bytes = some (z_t_fault, z_t_next, z_t_tokenAt, z_t_tokenIs, z_t_tokenValue)) : Met l yX8_readSemicolon wsX8_readSemicolon rm_X8_readSemicolon (va_Pc [.ref a_t] (jx_W D (jx_T cI cZ cO) sz [(a_t, .inr (8, [.ref a_t_bytes, .int t_size, .int t_fault, .int t_next, .int t_tokenAt, .int t_tokenIs, .int t_tokenValue])), (a_t_bytes, .inl (cI, 120, .inl t_bytes))])) (jx_Q none D [(a_t, .inr (8, [.ref a_t_bytes, .int t_size, .int z_t_fault, .int z_t_next, .int z_t_tokenAt, .int z_t_tokenIs, .int z_t_tokenValue])), (a_t_bytes, .inl (cI, 120, .inl t_bytes))] (va_A [(a_t, .inr (8, [.ref a_t_bytes, .int t_size, .int t_fault, .int t_next, .int t_tokenAt, .int t_tokenIs, .int t_tokenValue])), (a_t_bytes, .inl (cI, 120, .inl t_bytes))] sz)) 0 0 (va_A [(a_t, .inr (8, [.ref a_t_bytes, .int t_size, .int t_fault, .int t_next, .int t_tokenAt, .int t_tokenIs, .int t_tokenValue])), (a_t_bytes, .inl (cI, 120, .inl t_bytes))] sz) := by
  refine jx_metV (own := RX8) (cc := cX8_readSemicolon) (maxL := 1) (by decide) rfl rfl (Nat.le_of_ble_eq_true rfl) ?_
  intro p e s m args below meth c Q ls A hx hb hml hown hts hK hN hA hP hD hS hl hret
  have hi_X8 : ∀ w ∈ u_ws RX8 TX8 7, w ∈ wsX8_readSemicolon := by decide +kernel
  have hl : lv_has ls 1 [(0, .ref a_t)] := hl
  have h := hm
  unfold mi_X8_readSemicolon at h
  refine lv_aload_n hx hb dX8_readSemicolon_0 rfl (lv_at hl 0 rfl) ?_
  refine va_get (D := D) (ci := 8) (v := .int t_fault) (C := RX8) (T := TX8) (N := 7) hx hb hts hi_X8 hown hK hP 0 rfl rfl 2 (by decide) (hts (.fieldLink RX8 15 "TriangleRest$Text" "fault" "I") (List.mem_of_getElem? (i := 1) rfl)) (fun _ h9 => h9) rfl dX8_readSemicolon_1 ?_
  refine lv_iconst (v := (-1 : Int32)) hx hb dX8_readSemicolon_4 (by decide) ?_
  refine lv_icmp_ne (tgt := 24) hx hb dX8_readSemicolon_5 (by decide) (fun c1 => ?_) (fun c1 => ?_)
  · have h := jx_f h c1
    cases h
    exact hret 24 ls _ _ hP hD hS dX8_readSemicolon_24
  · have h := jx_t h c1
    refine lv_aload_n hx hb dX8_readSemicolon_8 rfl (lv_at hl 0 rfl) ?_
    obtain ⟨t_next_2, t_tokenAt_3, t_tokenIs_4, t_tokenValue_5, e6, h⟩ := jx_b4_of h
    refine jx_cW (o := none) (As := []) (rest := []) (b := a_t) (wr := []) (wd' := [(a_t, .inr (8, [.ref a_t_bytes, .int t_size, .int t_fault, .int t_next_2, .int t_tokenAt_3, .int t_tokenIs_4, .int t_tokenValue_5])), (a_t_bytes, .inl (cI, 120, .inl t_bytes))]) ⟨hx, hb, hml, hown, hts⟩ (ct_X8_readToken l D cI cZ cO a_t a_t_bytes s.heap.size t_size t_fault t_next t_tokenAt t_tokenIs t_tokenValue t_bytes t_next_2 t_tokenAt_3 t_tokenIs_4 t_tokenValue_5 e6) (cwV 0 hts gX8_readSemicolon_X8_readToken rfl rfl rfl (by decide +kernel) ⟨Nat.le_of_ble_eq_true rfl, Nat.le_of_ble_eq_true rfl⟩) hK hN hP hD hS hA [0, 1] [] (by decide) rfl rfl (by decide) (by decide) rfl (va_recv hK hP (ci := 8) (q0 := 0) rfl rfl) rfl hl.1 rfl (Nat.le_of_ble_eq_true rfl) dX8_readSemicolon_9 ⟨Nat.zero_le _, Nat.zero_le _⟩ [0, 1] (by decide) rfl (fun H locs hP hD hS => ?_)
    refine lv_aload_n hx hb dX8_readSemicolon_12 rfl (lv_at hl 0 rfl) ?_
    refine va_get (D := D) (ci := 8) (v := .int t_tokenIs_4) (C := RX8) (T := TX8) (N := 7) hx hb hts hi_X8 hown hK hP 0 rfl rfl 5 (by decide) (hts (.fieldLink RX8 33 "TriangleRest$Text" "tokenIs" "I") (List.mem_of_getElem? (i := 2) rfl)) (fun _ h9 => h9) rfl dX8_readSemicolon_13 ?_
    refine lv_iconst (v := (3 : Int32)) hx hb dX8_readSemicolon_16 (by decide) ?_
    refine lv_icmp_eq (tgt := 24) hx hb dX8_readSemicolon_17 (by decide) (fun c7 => ?_) (fun c7 => ?_)
    · have h := jx_t h c7
      cases h
      exact hret 24 ls _ _ hP hD hS dX8_readSemicolon_24
    · have h := jx_f h c7
      refine lv_aload_n hx hb dX8_readSemicolon_20 rfl (lv_at hl 0 rfl) ?_
      obtain ⟨t_fault_8, e9, h⟩ := jx_b1_of h
      refine jx_cW (o := none) (As := []) (rest := []) (b := a_t) (wr := [(a_t_bytes, .inl (cI, 120, .inl t_bytes))]) (wd' := [(a_t, .inr (8, [.ref a_t_bytes, .int t_size, .int t_fault_8, .int t_next_2, .int t_tokenAt_3, .int t_tokenIs_4, .int t_tokenValue_5])), (a_t_bytes, .inl (cI, 120, .inl t_bytes))]) ⟨hx, hb, hml, hown, hts⟩ (ct_X8_failHere l D cI cZ cO a_t a_t_bytes H.size t_size t_fault t_next_2 t_tokenAt_3 t_tokenIs_4 t_tokenValue_5 t_fault_8 e9) (cwV 0 hts gX8_readSemicolon_X8_failHere rfl rfl rfl (by decide +kernel) ⟨Nat.le_of_ble_eq_true rfl, Nat.le_of_ble_eq_true rfl⟩) hK hN hP hD hS hA [0] [1] (by decide) rfl rfl (by decide) (by decide) rfl (va_recv hK hP (ci := 8) (q0 := 0) rfl rfl) rfl hl.1 rfl (Nat.le_of_ble_eq_true rfl) dX8_readSemicolon_21 ⟨Nat.zero_le _, Nat.zero_le _⟩ [1, 0] (by decide) rfl (fun H locs hP hD hS => ?_)
      cases h
      exact hret 24 ls _ _ hP hD hS dX8_readSemicolon_24
def mi_X8_readNumber_b40 (t_fault : Int32) (t_next : Int32) (t_tokenAt : Int32) (t_tokenIs : Int32) (t_tokenValue : Int32) : Option (Int32 × Int32 × Int32 × Int32 × Int32 × Int32) := jx_b1 (mi_X8_failHere t_tokenAt) fun t_fault_1 => (some ((-9 : Int32), t_fault_1, t_next, t_tokenAt, t_tokenIs, t_tokenValue))
def mi_X8_readNumber (t_size : Int32) (t_fault : Int32) (t_next : Int32) (t_tokenAt : Int32) (t_tokenIs : Int32) (t_tokenValue : Int32) (t_bytes : Nat → Int32) (p1 : Int32) (p2 : Int32) : Option (Int32 × Int32 × Int32 × Int32 × Int32 × Int32) := if t_fault = (-1 : Int32) then (jx_b4 (mi_X8_readToken t_size t_next t_tokenAt t_tokenIs t_tokenValue t_bytes) fun t_next_4 t_tokenAt_5 t_tokenIs_6 t_tokenValue_7 => (if t_tokenIs_6 = (2 : Int32) then (jx_b1 (mi_X11_isWithin t_tokenValue_7 p1 p2) fun r10 => (if r10 = 0 then (mi_X8_readNumber_b40 t_fault t_next_4 t_tokenAt_5 t_tokenIs_6 t_tokenValue_7) else (some (t_tokenValue_7, t_fault, t_next_4, t_tokenAt_5, t_tokenIs_6, t_tokenValue_7)))) else (mi_X8_readNumber_b40 t_fault t_next_4 t_tokenAt_5 t_tokenIs_6 t_tokenValue_7))) else (some ((-9 : Int32), t_fault, t_next, t_tokenAt, t_tokenIs, t_tokenValue))
abbrev rm_X8_readNumber : Room := { frames := 3, cells := 0, slots := 0, locals := 65 }
set_option maxRecDepth 100000 in
set_option maxHeartbeats 4000000 in
theorem ct_X8_readNumber (l : Launch) (D : va_G) (cI cZ cO : ClassId) (a_t a_t_bytes : Nat) (sz : Nat) (t_size : Int32) (t_fault : Int32) (t_next : Int32) (t_tokenAt : Int32) (t_tokenIs : Int32) (t_tokenValue : Int32) (t_bytes : Nat → Int32) (p1 : Int32) (p2 : Int32) (r : Int32) (z_t_fault : Int32) (z_t_next : Int32) (z_t_tokenAt : Int32) (z_t_tokenIs : Int32) (z_t_tokenValue : Int32) (hm : mi_X8_readNumber t_size t_fault t_next t_tokenAt t_tokenIs t_tokenValue t_bytes p1 p2 = some (r, z_t_fault, z_t_next, z_t_tokenAt, z_t_tokenIs, z_t_tokenValue)) : Met l yX8_readNumber wsX8_readNumber rm_X8_readNumber (va_Pc [.ref a_t, .int p1, .int p2] (jx_W D (jx_T cI cZ cO) sz [(a_t, .inr (8, [.ref a_t_bytes, .int t_size, .int t_fault, .int t_next, .int t_tokenAt, .int t_tokenIs, .int t_tokenValue])), (a_t_bytes, .inl (cI, 120, .inl t_bytes))])) (jx_Q (some (.int r)) D [(a_t, .inr (8, [.ref a_t_bytes, .int t_size, .int z_t_fault, .int z_t_next, .int z_t_tokenAt, .int z_t_tokenIs, .int z_t_tokenValue])), (a_t_bytes, .inl (cI, 120, .inl t_bytes))] (va_A [(a_t, .inr (8, [.ref a_t_bytes, .int t_size, .int t_fault, .int t_next, .int t_tokenAt, .int t_tokenIs, .int t_tokenValue])), (a_t_bytes, .inl (cI, 120, .inl t_bytes))] sz)) 0 0 (va_A [(a_t, .inr (8, [.ref a_t_bytes, .int t_size, .int t_fault, .int t_next, .int t_tokenAt, .int t_tokenIs, .int t_tokenValue])), (a_t_bytes, .inl (cI, 120, .inl t_bytes))] sz) := by
  refine jx_metW (ty := .int) (own := RX8) (cc := cX8_readNumber) (maxL := 3) (by decide) rfl rfl (Nat.le_of_ble_eq_true rfl) ?_
  intro p e s m args below meth c Q ls A hx hb hml hown hts hK hN hA hP hD hS hl hret
  have hi_X8 : ∀ w ∈ u_ws RX8 TX8 7, w ∈ wsX8_readNumber := by decide +kernel
  have hl : lv_has ls 3 [(0, .ref a_t), (1, .int p1), (2, .int p2)] := hl
  have bl_b40 : ∀ (t_fault : Int32) (t_next : Int32) (t_tokenAt : Int32) (t_tokenIs : Int32) (t_tokenValue : Int32) (H : Heap) (locs : List Loc) (ls : Array Slot), va_P D vwCl [(a_t, .inr (8, [.ref a_t_bytes, .int t_size, .int t_fault, .int t_next, .int t_tokenAt, .int t_tokenIs, .int t_tokenValue])), (a_t_bytes, .inl (cI, 120, .inl t_bytes))] H → va_D A [(a_t, .inr (8, [.ref a_t_bytes, .int t_size, .int t_fault, .int t_next, .int t_tokenAt, .int t_tokenIs, .int t_tokenValue])), (a_t_bytes, .inl (cI, 120, .inl t_bytes))] → va_S A s.heap H locs → lv_has ls 3 [(0, .ref a_t)] → mi_X8_readNumber_b40 t_fault t_next t_tokenAt t_tokenIs t_tokenValue = some (r, z_t_fault, z_t_next, z_t_tokenAt, z_t_tokenIs, z_t_tokenValue) → W p l e (headSpec wsX8_readNumber rm_X8_readNumber).room s m args below meth c H locs 0 0 Q (F0 m 40 ls []) := by
    intro t_fault t_next t_tokenAt t_tokenIs t_tokenValue H locs ls hP hD hS hl h
    unfold mi_X8_readNumber_b40 at h
    refine lv_aload_n hx hb dX8_readNumber_40 rfl (lv_at hl 0 rfl) ?_
    obtain ⟨t_fault_1, e2, h⟩ := jx_b1_of h
    refine jx_cW (o := none) (As := []) (rest := []) (b := a_t) (wr := [(a_t_bytes, .inl (cI, 120, .inl t_bytes))]) (wd' := [(a_t, .inr (8, [.ref a_t_bytes, .int t_size, .int t_fault_1, .int t_next, .int t_tokenAt, .int t_tokenIs, .int t_tokenValue])), (a_t_bytes, .inl (cI, 120, .inl t_bytes))]) ⟨hx, hb, hml, hown, hts⟩ (ct_X8_failHere l D cI cZ cO a_t a_t_bytes H.size t_size t_fault t_next t_tokenAt t_tokenIs t_tokenValue t_fault_1 e2) (cwV 0 hts gX8_readNumber_X8_failHere rfl rfl rfl (by decide +kernel) ⟨Nat.le_of_ble_eq_true rfl, Nat.le_of_ble_eq_true rfl⟩) hK hN hP hD hS hA [0] [1] (by decide) rfl rfl (by decide) (by decide) rfl (va_recv hK hP (ci := 8) (q0 := 0) rfl rfl) rfl hl.1 rfl (Nat.le_of_ble_eq_true rfl) dX8_readNumber_41 ⟨Nat.zero_le _, Nat.zero_le _⟩ [1, 0] (by decide) rfl (fun H locs hP hD hS => ?_)
    refine lv_bipush (v := (-9 : Int32)) hx hb dX8_readNumber_44 (by decide) ?_
    have hq_0 := Option.some.inj h
    obtain ⟨hz_1, hq_1⟩ := Prod.mk.inj hq_0
    obtain ⟨hz_2, hq_2⟩ := Prod.mk.inj hq_1
    obtain ⟨hz_3, hq_3⟩ := Prod.mk.inj hq_2
    obtain ⟨hz_4, hq_4⟩ := Prod.mk.inj hq_3
    obtain ⟨hz_5, hq_5⟩ := Prod.mk.inj hq_4
    subst hz_1
    subst hz_2
    subst hz_3
    subst hz_4
    subst hz_5
    subst hq_5
    exact hret 46 ls _ _ hP hD hS rfl dX8_readNumber_46
  have h := hm
  unfold mi_X8_readNumber at h
  refine lv_aload_n hx hb dX8_readNumber_0 rfl (lv_at hl 0 rfl) ?_
  refine va_get (D := D) (ci := 8) (v := .int t_fault) (C := RX8) (T := TX8) (N := 7) hx hb hts hi_X8 hown hK hP 0 rfl rfl 2 (by decide) (hts (.fieldLink RX8 15 "TriangleRest$Text" "fault" "I") (List.mem_of_getElem? (i := 1) rfl)) (fun _ h9 => h9) rfl dX8_readNumber_1 ?_
  refine lv_iconst (v := (-1 : Int32)) hx hb dX8_readNumber_4 (by decide) ?_
  refine lv_icmp_eq (tgt := 11) hx hb dX8_readNumber_5 (by decide) (fun c3 => ?_) (fun c3 => ?_)
  · have h := jx_t h c3
    refine lv_aload_n hx hb dX8_readNumber_11 rfl (lv_at hl 0 rfl) ?_
    obtain ⟨t_next_4, t_tokenAt_5, t_tokenIs_6, t_tokenValue_7, e8, h⟩ := jx_b4_of h
    refine jx_cW (o := none) (As := []) (rest := []) (b := a_t) (wr := []) (wd' := [(a_t, .inr (8, [.ref a_t_bytes, .int t_size, .int t_fault, .int t_next_4, .int t_tokenAt_5, .int t_tokenIs_6, .int t_tokenValue_7])), (a_t_bytes, .inl (cI, 120, .inl t_bytes))]) ⟨hx, hb, hml, hown, hts⟩ (ct_X8_readToken l D cI cZ cO a_t a_t_bytes s.heap.size t_size t_fault t_next t_tokenAt t_tokenIs t_tokenValue t_bytes t_next_4 t_tokenAt_5 t_tokenIs_6 t_tokenValue_7 e8) (cwV 0 hts gX8_readNumber_X8_readToken rfl rfl rfl (by decide +kernel) ⟨Nat.le_of_ble_eq_true rfl, Nat.le_of_ble_eq_true rfl⟩) hK hN hP hD hS hA [0, 1] [] (by decide) rfl rfl (by decide) (by decide) rfl (va_recv hK hP (ci := 8) (q0 := 0) rfl rfl) rfl hl.1 rfl (Nat.le_of_ble_eq_true rfl) dX8_readNumber_12 ⟨Nat.zero_le _, Nat.zero_le _⟩ [0, 1] (by decide) rfl (fun H locs hP hD hS => ?_)
    refine lv_aload_n hx hb dX8_readNumber_15 rfl (lv_at hl 0 rfl) ?_
    refine va_get (D := D) (ci := 8) (v := .int t_tokenIs_6) (C := RX8) (T := TX8) (N := 7) hx hb hts hi_X8 hown hK hP 0 rfl rfl 5 (by decide) (hts (.fieldLink RX8 33 "TriangleRest$Text" "tokenIs" "I") (List.mem_of_getElem? (i := 2) rfl)) (fun _ h9 => h9) rfl dX8_readNumber_16 ?_
    refine lv_iconst (v := (2 : Int32)) hx hb dX8_readNumber_19 (by decide) ?_
    refine lv_icmp_ne (tgt := 40) hx hb dX8_readNumber_20 (by decide) (fun c9 => ?_) (fun c9 => ?_)
    · have h := jx_f h c9
      exact bl_b40 t_fault t_next_4 t_tokenAt_5 t_tokenIs_6 t_tokenValue_7 _ _ _ hP hD hS (lv_sub hl [0] rfl) h
    · have h := jx_t h c9
      refine lv_aload_n hx hb dX8_readNumber_23 rfl (lv_at hl 0 rfl) ?_
      refine va_get (D := D) (ci := 8) (v := .int t_tokenValue_7) (C := RX8) (T := TX8) (N := 7) hx hb hts hi_X8 hown hK hP 0 rfl rfl 6 (by decide) (hts (.fieldLink RX8 40 "TriangleRest$Text" "tokenValue" "I") (List.mem_of_getElem? (i := 3) rfl)) (fun _ h9 => h9) rfl dX8_readNumber_24 ?_
      refine lv_iload_n hx hb dX8_readNumber_27 rfl (lv_at hl 1 rfl) ?_
      refine lv_iload_n hx hb dX8_readNumber_28 rfl (lv_at hl 2 rfl) ?_
      obtain ⟨r10, e11, h⟩ := jx_b1_of h
      refine jx_cSN (o := some (.int r10)) (As := [.int t_tokenValue_7, .int p1, .int p2]) (rest := []) ⟨hx, hb, hml, hown, hts⟩ (ct_X11_isWithin l t_tokenValue_7 p1 p2 r10 e11) ⟨va_cnB 3 hts gX8_readNumber_X11_isWithin_n79 rfl rfl rfl (jx_Nm hN 16 rfl) (hts (.initialized RX11) (List.mem_of_getElem? (i := 18) rfl)) (by decide +kernel) ⟨Nat.le_of_ble_eq_true rfl, Nat.le_of_ble_eq_true rfl⟩, (hts (.static yX11_isWithin) (List.mem_of_getElem? (i := 17) rfl)), trivial⟩ rfl hl.1 rfl (Nat.le_of_ble_eq_true rfl) dX8_readNumber_29 ⟨Nat.zero_le _, Nat.zero_le _⟩ ?_
      refine lv_if_eq (tgt := 40) hx hb dX8_readNumber_32 (by decide) (fun c12 => ?_) (fun c12 => ?_)
      · have h := jx_t h c12
        exact bl_b40 t_fault t_next_4 t_tokenAt_5 t_tokenIs_6 t_tokenValue_7 _ _ _ hP hD hS (lv_sub hl [0] rfl) h
      · have h := jx_f h c12
        refine lv_aload_n hx hb dX8_readNumber_35 rfl (lv_at hl 0 rfl) ?_
        refine va_get (D := D) (ci := 8) (v := .int t_tokenValue_7) (C := RX8) (T := TX8) (N := 7) hx hb hts hi_X8 hown hK hP 0 rfl rfl 6 (by decide) (hts (.fieldLink RX8 40 "TriangleRest$Text" "tokenValue" "I") (List.mem_of_getElem? (i := 3) rfl)) (fun _ h9 => h9) rfl dX8_readNumber_36 ?_
        have hq_0 := Option.some.inj h
        obtain ⟨hz_1, hq_1⟩ := Prod.mk.inj hq_0
        obtain ⟨hz_2, hq_2⟩ := Prod.mk.inj hq_1
        obtain ⟨hz_3, hq_3⟩ := Prod.mk.inj hq_2
        obtain ⟨hz_4, hq_4⟩ := Prod.mk.inj hq_3
        obtain ⟨hz_5, hq_5⟩ := Prod.mk.inj hq_4
        subst hz_1
        subst hz_2
        subst hz_3
        subst hz_4
        subst hz_5
        subst hq_5
        exact hret 39 ls _ _ hP hD hS rfl dX8_readNumber_39
  · have h := jx_f h c3
    refine lv_bipush (v := (-9 : Int32)) hx hb dX8_readNumber_8 (by decide) ?_
    have hq_0 := Option.some.inj h
    obtain ⟨hz_1, hq_1⟩ := Prod.mk.inj hq_0
    obtain ⟨hz_2, hq_2⟩ := Prod.mk.inj hq_1
    obtain ⟨hz_3, hq_3⟩ := Prod.mk.inj hq_2
    obtain ⟨hz_4, hq_4⟩ := Prod.mk.inj hq_3
    obtain ⟨hz_5, hq_5⟩ := Prod.mk.inj hq_4
    subst hz_1
    subst hz_2
    subst hz_3
    subst hz_4
    subst hz_5
    subst hq_5
    exact hret 10 ls _ _ hP hD hS rfl dX8_readNumber_10
def mi_X8_readItem_b150 (t_size : Int32) (t_bytes : Nat → Int32) (t_fault : Int32) (t_next : Int32) (t_tokenAt : Int32) (t_tokenIs : Int32) (t_tokenValue : Int32) (o1_sections : Int32) (o1_things : Int32) (o1_noteTold : Int32) (o1_toldSection : Int32) (o1_toldBar : Int32) (o1_lengths : Nat → Int32) (o1_times : Nat → Int32) (o1_players : Nat → Int32) (o1_minutes : Nat → Int32) : Option (Int32 × Int32 × Int32 × Int32 × Int32 × Int32 × Int32 × Int32 × Int32 × Int32 × (Nat → Int32) × (Nat → Int32) × (Nat → Int32) × (Nat → Int32)) := jx_b5 (mi_X8_readSemicolon t_size t_fault t_next t_tokenAt t_tokenIs t_tokenValue t_bytes) fun t_fault_65 t_next_66 t_tokenAt_67 t_tokenIs_68 t_tokenValue_69 => (some (t_fault_65, t_next_66, t_tokenAt_67, t_tokenIs_68, t_tokenValue_69, o1_sections, o1_things, o1_noteTold, o1_toldSection, o1_toldBar, o1_lengths, o1_times, o1_players, o1_minutes))
def mi_X8_readItem_b146 (t_size : Int32) (t_bytes : Nat → Int32) (t_fault : Int32) (t_next : Int32) (t_tokenAt : Int32) (t_tokenIs : Int32) (t_tokenValue : Int32) (o1_sections : Int32) (o1_things : Int32) (o1_noteTold : Int32) (o1_toldSection : Int32) (o1_toldBar : Int32) (o1_lengths : Nat → Int32) (o1_times : Nat → Int32) (o1_players : Nat → Int32) (o1_minutes : Nat → Int32) : Option (Int32 × Int32 × Int32 × Int32 × Int32 × Int32 × Int32 × Int32 × Int32 × Int32 × (Nat → Int32) × (Nat → Int32) × (Nat → Int32) × (Nat → Int32)) := jx_b1 (mi_X8_failHere t_tokenAt) fun t_fault_63 => (mi_X8_readItem_b150 t_size t_bytes t_fault_63 t_next t_tokenAt t_tokenIs t_tokenValue o1_sections o1_things o1_noteTold o1_toldSection o1_toldBar o1_lengths o1_times o1_players o1_minutes)
def mi_X8_readItem_b117 (t_size : Int32) (t_bytes : Nat → Int32) (x2 : Int32) (t_fault : Int32) (t_next : Int32) (t_tokenAt : Int32) (t_tokenIs : Int32) (t_tokenValue : Int32) (o1_sections : Int32) (o1_things : Int32) (o1_noteTold : Int32) (o1_toldSection : Int32) (o1_toldBar : Int32) (o1_lengths : Nat → Int32) (o1_times : Nat → Int32) (o1_players : Nat → Int32) (o1_minutes : Nat → Int32) : Option (Int32 × Int32 × Int32 × Int32 × Int32 × Int32 × Int32 × Int32 × Int32 × Int32 × (Nat → Int32) × (Nat → Int32) × (Nat → Int32) × (Nat → Int32)) := if x2 = (116 : Int32) then (if (6 : Int32) ≤ o1_things then (mi_X8_readItem_b146 t_size t_bytes t_fault t_next t_tokenAt t_tokenIs t_tokenValue o1_sections o1_things o1_noteTold o1_toldSection o1_toldBar o1_lengths o1_times o1_players o1_minutes) else (jx_b6 (mi_X8_readNumber t_size t_fault t_next t_tokenAt t_tokenIs t_tokenValue t_bytes (1 : Int32) (60 : Int32)) fun r53 t_fault_54 t_next_55 t_tokenAt_56 t_tokenIs_57 t_tokenValue_58 => (jx_b2 (mi_X6_addThing o1_things o1_minutes r53) fun o1_things_60 o1_minutes_61 => (mi_X8_readItem_b150 t_size t_bytes t_fault_54 t_next_55 t_tokenAt_56 t_tokenIs_57 t_tokenValue_58 o1_sections o1_things_60 o1_noteTold o1_toldSection o1_toldBar o1_lengths o1_times o1_players o1_minutes_61)))) else (mi_X8_readItem_b146 t_size t_bytes t_fault t_next t_tokenAt t_tokenIs t_tokenValue o1_sections o1_things o1_noteTold o1_toldSection o1_toldBar o1_lengths o1_times o1_players o1_minutes)
def mi_X8_readItem_b68 (t_size : Int32) (t_bytes : Nat → Int32) (x2 : Int32) (t_fault : Int32) (t_next : Int32) (t_tokenAt : Int32) (t_tokenIs : Int32) (t_tokenValue : Int32) (o1_sections : Int32) (o1_things : Int32) (o1_noteTold : Int32) (o1_toldSection : Int32) (o1_toldBar : Int32) (o1_lengths : Nat → Int32) (o1_times : Nat → Int32) (o1_players : Nat → Int32) (o1_minutes : Nat → Int32) : Option (Int32 × Int32 × Int32 × Int32 × Int32 × Int32 × Int32 × Int32 × Int32 × Int32 × (Nat → Int32) × (Nat → Int32) × (Nat → Int32) × (Nat → Int32)) := if x2 = (110 : Int32) then (if o1_noteTold = 0 then (jx_b6 (mi_X8_readNumber t_size t_fault t_next t_tokenAt t_tokenIs t_tokenValue t_bytes (0 : Int32) (o1_sections - (1 : Int32))) fun r31 t_fault_32 t_next_33 t_tokenAt_34 t_tokenIs_35 t_tokenValue_36 => (jx_b1 (mi_X6_lengthOf o1_sections o1_lengths r31) fun r38 => (jx_b6 (mi_X8_readNumber t_size t_fault_32 t_next_33 t_tokenAt_34 t_tokenIs_35 t_tokenValue_36 t_bytes (0 : Int32) (r38 - (1 : Int32))) fun r40 t_fault_41 t_next_42 t_tokenAt_43 t_tokenIs_44 t_tokenValue_45 => (jx_b3 (mi_X6_tellNote r31 r40) fun o1_noteTold_47 o1_toldSection_48 o1_toldBar_49 => (mi_X8_readItem_b150 t_size t_bytes t_fault_41 t_next_42 t_tokenAt_43 t_tokenIs_44 t_tokenValue_45 o1_sections o1_things o1_noteTold_47 o1_toldSection_48 o1_toldBar_49 o1_lengths o1_times o1_players o1_minutes))))) else (mi_X8_readItem_b117 t_size t_bytes x2 t_fault t_next t_tokenAt t_tokenIs t_tokenValue o1_sections o1_things o1_noteTold o1_toldSection o1_toldBar o1_lengths o1_times o1_players o1_minutes)) else (mi_X8_readItem_b117 t_size t_bytes x2 t_fault t_next t_tokenAt t_tokenIs t_tokenValue o1_sections o1_things o1_noteTold o1_toldSection o1_toldBar o1_lengths o1_times o1_players o1_minutes)
def mi_X8_readItem_b16 (t_size : Int32) (t_bytes : Nat → Int32) (k0 : Int32) (t_fault : Int32) (t_next : Int32) (t_tokenAt : Int32) (t_tokenIs : Int32) (t_tokenValue : Int32) (o1_sections : Int32) (o1_things : Int32) (o1_noteTold : Int32) (o1_toldSection : Int32) (o1_toldBar : Int32) (o1_lengths : Nat → Int32) (o1_times : Nat → Int32) (o1_players : Nat → Int32) (o1_minutes : Nat → Int32) : Option (Int32 × Int32 × Int32 × Int32 × Int32 × Int32 × Int32 × Int32 × Int32 × Int32 × (Nat → Int32) × (Nat → Int32) × (Nat → Int32) × (Nat → Int32)) := if k0 = (115 : Int32) then (if (8 : Int32) ≤ o1_sections then (mi_X8_readItem_b68 t_size t_bytes k0 t_fault t_next t_tokenAt t_tokenIs t_tokenValue o1_sections o1_things o1_noteTold o1_toldSection o1_toldBar o1_lengths o1_times o1_players o1_minutes) else (jx_b6 (mi_X8_readNumber t_size t_fault t_next t_tokenAt t_tokenIs t_tokenValue t_bytes (1 : Int32) (30 : Int32)) fun r3 t_fault_4 t_next_5 t_tokenAt_6 t_tokenIs_7 t_tokenValue_8 => (jx_b6 (mi_X8_readNumber t_size t_fault_4 t_next_5 t_tokenAt_6 t_tokenIs_7 t_tokenValue_8 t_bytes (1 : Int32) (4 : Int32)) fun r10 t_fault_11 t_next_12 t_tokenAt_13 t_tokenIs_14 t_tokenValue_15 => (jx_b6 (mi_X8_readNumber t_size t_fault_11 t_next_12 t_tokenAt_13 t_tokenIs_14 t_tokenValue_15 t_bytes (0 : Int32) (3 : Int32)) fun r17 t_fault_18 t_next_19 t_tokenAt_20 t_tokenIs_21 t_tokenValue_22 => (jx_b4 (mi_X6_addSection o1_sections o1_lengths o1_times o1_players r3 r10 r17) fun o1_sections_24 o1_lengths_25 o1_times_26 o1_players_27 => (mi_X8_readItem_b150 t_size t_bytes t_fault_18 t_next_19 t_tokenAt_20 t_tokenIs_21 t_tokenValue_22 o1_sections_24 o1_things o1_noteTold o1_toldSection o1_toldBar o1_lengths_25 o1_times_26 o1_players_27 o1_minutes)))))) else (mi_X8_readItem_b68 t_size t_bytes k0 t_fault t_next t_tokenAt t_tokenIs t_tokenValue o1_sections o1_things o1_noteTold o1_toldSection o1_toldBar o1_lengths o1_times o1_players o1_minutes)
def mi_X8_readItem (t_size : Int32) (t_fault : Int32) (t_next : Int32) (t_tokenAt : Int32) (t_tokenIs : Int32) (t_tokenValue : Int32) (t_bytes : Nat → Int32) (o1_sections : Int32) (o1_things : Int32) (o1_noteTold : Int32) (o1_toldSection : Int32) (o1_toldBar : Int32) (o1_lengths : Nat → Int32) (o1_times : Nat → Int32) (o1_players : Nat → Int32) (o1_minutes : Nat → Int32) : Option (Int32 × Int32 × Int32 × Int32 × Int32 × Int32 × Int32 × Int32 × Int32 × Int32 × (Nat → Int32) × (Nat → Int32) × (Nat → Int32) × (Nat → Int32)) := if t_tokenIs = (1 : Int32) then (mi_X8_readItem_b16 t_size t_bytes t_tokenValue t_fault t_next t_tokenAt t_tokenIs t_tokenValue o1_sections o1_things o1_noteTold o1_toldSection o1_toldBar o1_lengths o1_times o1_players o1_minutes) else (mi_X8_readItem_b16 t_size t_bytes (0 : Int32) t_fault t_next t_tokenAt t_tokenIs t_tokenValue o1_sections o1_things o1_noteTold o1_toldSection o1_toldBar o1_lengths o1_times o1_players o1_minutes)
abbrev rm_X8_readItem : Room := { frames := 4, cells := 0, slots := 0, locals := 87 }
set_option maxRecDepth 100000 in
set_option maxHeartbeats 4000000 in
theorem ct_X8_readItem (l : Launch) (D : va_G) (cI cZ cO : ClassId) (a_t a_o1 a_t_bytes a_o1_lengths a_o1_times a_o1_players a_o1_minutes : Nat) (sz : Nat) (t_size : Int32) (t_fault : Int32) (t_next : Int32) (t_tokenAt : Int32) (t_tokenIs : Int32) (t_tokenValue : Int32) (t_bytes : Nat → Int32) (o1_sections : Int32) (o1_things : Int32) (o1_noteTold : Int32) (o1_toldSection : Int32) (o1_toldBar : Int32) (o1_lengths : Nat → Int32) (o1_times : Nat → Int32) (o1_players : Nat → Int32) (o1_minutes : Nat → Int32) (z_t_fault : Int32) (z_t_next : Int32) (z_t_tokenAt : Int32) (z_t_tokenIs : Int32) (z_t_tokenValue : Int32) (z_o1_sections : Int32) (z_o1_things : Int32) (z_o1_noteTold : Int32) (z_o1_toldSection : Int32) (z_o1_toldBar : Int32) (z_o1_lengths : Nat → Int32) (z_o1_times : Nat → Int32) (z_o1_players : Nat → Int32) (z_o1_minutes : Nat → Int32) (hm : mi_X8_readItem t_size t_fault t_next t_tokenAt t_tokenIs t_tokenValue t_bytes o1_sections o1_things o1_noteTold o1_toldSection o1_toldBar o1_lengths o1_times o1_players o1_minutes = some (z_t_fault, z_t_next, z_t_tokenAt, z_t_tokenIs, z_t_tokenValue, z_o1_sections, z_o1_things, z_o1_noteTold, z_o1_toldSection, z_o1_toldBar, z_o1_lengths, z_o1_times, z_o1_players, z_o1_minutes)) : Met l yX8_readItem wsX8_readItem rm_X8_readItem (va_Pc [.ref a_t, .ref a_o1] (jx_W D (jx_T cI cZ cO) sz [(a_t, .inr (8, [.ref a_t_bytes, .int t_size, .int t_fault, .int t_next, .int t_tokenAt, .int t_tokenIs, .int t_tokenValue])), (a_t_bytes, .inl (cI, 120, .inl t_bytes)), (a_o1, .inr (6, [.ref a_o1_lengths, .ref a_o1_times, .ref a_o1_players, .ref a_o1_minutes, .int o1_sections, .int o1_things, .int o1_noteTold, .int o1_toldSection, .int o1_toldBar])), (a_o1_lengths, .inl (cI, 8, .inl o1_lengths)), (a_o1_times, .inl (cI, 8, .inl o1_times)), (a_o1_players, .inl (cI, 8, .inl o1_players)), (a_o1_minutes, .inl (cI, 6, .inl o1_minutes))])) (jx_Q none D [(a_t, .inr (8, [.ref a_t_bytes, .int t_size, .int z_t_fault, .int z_t_next, .int z_t_tokenAt, .int z_t_tokenIs, .int z_t_tokenValue])), (a_t_bytes, .inl (cI, 120, .inl t_bytes)), (a_o1, .inr (6, [.ref a_o1_lengths, .ref a_o1_times, .ref a_o1_players, .ref a_o1_minutes, .int z_o1_sections, .int z_o1_things, .int z_o1_noteTold, .int z_o1_toldSection, .int z_o1_toldBar])), (a_o1_lengths, .inl (cI, 8, .inl z_o1_lengths)), (a_o1_times, .inl (cI, 8, .inl z_o1_times)), (a_o1_players, .inl (cI, 8, .inl z_o1_players)), (a_o1_minutes, .inl (cI, 6, .inl z_o1_minutes))] (va_A [(a_t, .inr (8, [.ref a_t_bytes, .int t_size, .int t_fault, .int t_next, .int t_tokenAt, .int t_tokenIs, .int t_tokenValue])), (a_t_bytes, .inl (cI, 120, .inl t_bytes)), (a_o1, .inr (6, [.ref a_o1_lengths, .ref a_o1_times, .ref a_o1_players, .ref a_o1_minutes, .int o1_sections, .int o1_things, .int o1_noteTold, .int o1_toldSection, .int o1_toldBar])), (a_o1_lengths, .inl (cI, 8, .inl o1_lengths)), (a_o1_times, .inl (cI, 8, .inl o1_times)), (a_o1_players, .inl (cI, 8, .inl o1_players)), (a_o1_minutes, .inl (cI, 6, .inl o1_minutes))] sz)) 0 0 (va_A [(a_t, .inr (8, [.ref a_t_bytes, .int t_size, .int t_fault, .int t_next, .int t_tokenAt, .int t_tokenIs, .int t_tokenValue])), (a_t_bytes, .inl (cI, 120, .inl t_bytes)), (a_o1, .inr (6, [.ref a_o1_lengths, .ref a_o1_times, .ref a_o1_players, .ref a_o1_minutes, .int o1_sections, .int o1_things, .int o1_noteTold, .int o1_toldSection, .int o1_toldBar])), (a_o1_lengths, .inl (cI, 8, .inl o1_lengths)), (a_o1_times, .inl (cI, 8, .inl o1_times)), (a_o1_players, .inl (cI, 8, .inl o1_players)), (a_o1_minutes, .inl (cI, 6, .inl o1_minutes))] sz) := by
  refine jx_metV (own := RX8) (cc := cX8_readItem) (maxL := 6) (by decide) rfl rfl (Nat.le_of_ble_eq_true rfl) ?_
  intro p e s m args below meth c Q ls A hx hb hml hown hts hK hN hA hP hD hS hl hret
  have hi_X6 : ∀ w ∈ u_ws RX6 TX6 9, w ∈ wsX8_readItem := by decide +kernel
  have hi_X8 : ∀ w ∈ u_ws RX8 TX8 7, w ∈ wsX8_readItem := by decide +kernel
  have hl : lv_has ls 6 [(0, .ref a_t), (1, .ref a_o1)] := hl
  have bl_b150 : ∀ (t_fault : Int32) (t_next : Int32) (t_tokenAt : Int32) (t_tokenIs : Int32) (t_tokenValue : Int32) (o1_sections : Int32) (o1_things : Int32) (o1_noteTold : Int32) (o1_toldSection : Int32) (o1_toldBar : Int32) (o1_lengths : Nat → Int32) (o1_times : Nat → Int32) (o1_players : Nat → Int32) (o1_minutes : Nat → Int32) (H : Heap) (locs : List Loc) (ls : Array Slot), va_P D vwCl [(a_t, .inr (8, [.ref a_t_bytes, .int t_size, .int t_fault, .int t_next, .int t_tokenAt, .int t_tokenIs, .int t_tokenValue])), (a_t_bytes, .inl (cI, 120, .inl t_bytes)), (a_o1, .inr (6, [.ref a_o1_lengths, .ref a_o1_times, .ref a_o1_players, .ref a_o1_minutes, .int o1_sections, .int o1_things, .int o1_noteTold, .int o1_toldSection, .int o1_toldBar])), (a_o1_lengths, .inl (cI, 8, .inl o1_lengths)), (a_o1_times, .inl (cI, 8, .inl o1_times)), (a_o1_players, .inl (cI, 8, .inl o1_players)), (a_o1_minutes, .inl (cI, 6, .inl o1_minutes))] H → va_D A [(a_t, .inr (8, [.ref a_t_bytes, .int t_size, .int t_fault, .int t_next, .int t_tokenAt, .int t_tokenIs, .int t_tokenValue])), (a_t_bytes, .inl (cI, 120, .inl t_bytes)), (a_o1, .inr (6, [.ref a_o1_lengths, .ref a_o1_times, .ref a_o1_players, .ref a_o1_minutes, .int o1_sections, .int o1_things, .int o1_noteTold, .int o1_toldSection, .int o1_toldBar])), (a_o1_lengths, .inl (cI, 8, .inl o1_lengths)), (a_o1_times, .inl (cI, 8, .inl o1_times)), (a_o1_players, .inl (cI, 8, .inl o1_players)), (a_o1_minutes, .inl (cI, 6, .inl o1_minutes))] → va_S A s.heap H locs → lv_has ls 6 [(0, .ref a_t)] → mi_X8_readItem_b150 t_size t_bytes t_fault t_next t_tokenAt t_tokenIs t_tokenValue o1_sections o1_things o1_noteTold o1_toldSection o1_toldBar o1_lengths o1_times o1_players o1_minutes = some (z_t_fault, z_t_next, z_t_tokenAt, z_t_tokenIs, z_t_tokenValue, z_o1_sections, z_o1_things, z_o1_noteTold, z_o1_toldSection, z_o1_toldBar, z_o1_lengths, z_o1_times, z_o1_players, z_o1_minutes) → W p l e (headSpec wsX8_readItem rm_X8_readItem).room s m args below meth c H locs 0 0 Q (F0 m 150 ls []) := by
    intro t_fault t_next t_tokenAt t_tokenIs t_tokenValue o1_sections o1_things o1_noteTold o1_toldSection o1_toldBar o1_lengths o1_times o1_players o1_minutes H locs ls hP hD hS hl h
    unfold mi_X8_readItem_b150 at h
    refine lv_aload_n hx hb dX8_readItem_150 rfl (lv_at hl 0 rfl) ?_
    obtain ⟨t_fault_65, t_next_66, t_tokenAt_67, t_tokenIs_68, t_tokenValue_69, e70, h⟩ := jx_b5_of h
    refine jx_cW (o := none) (As := []) (rest := []) (b := a_t) (wr := [(a_o1, .inr (6, [.ref a_o1_lengths, .ref a_o1_times, .ref a_o1_players, .ref a_o1_minutes, .int o1_sections, .int o1_things, .int o1_noteTold, .int o1_toldSection, .int o1_toldBar])), (a_o1_lengths, .inl (cI, 8, .inl o1_lengths)), (a_o1_times, .inl (cI, 8, .inl o1_times)), (a_o1_players, .inl (cI, 8, .inl o1_players)), (a_o1_minutes, .inl (cI, 6, .inl o1_minutes))]) (wd' := [(a_t, .inr (8, [.ref a_t_bytes, .int t_size, .int t_fault_65, .int t_next_66, .int t_tokenAt_67, .int t_tokenIs_68, .int t_tokenValue_69])), (a_t_bytes, .inl (cI, 120, .inl t_bytes)), (a_o1, .inr (6, [.ref a_o1_lengths, .ref a_o1_times, .ref a_o1_players, .ref a_o1_minutes, .int o1_sections, .int o1_things, .int o1_noteTold, .int o1_toldSection, .int o1_toldBar])), (a_o1_lengths, .inl (cI, 8, .inl o1_lengths)), (a_o1_times, .inl (cI, 8, .inl o1_times)), (a_o1_players, .inl (cI, 8, .inl o1_players)), (a_o1_minutes, .inl (cI, 6, .inl o1_minutes))]) ⟨hx, hb, hml, hown, hts⟩ (ct_X8_readSemicolon l D cI cZ cO a_t a_t_bytes H.size t_size t_fault t_next t_tokenAt t_tokenIs t_tokenValue t_bytes t_fault_65 t_next_66 t_tokenAt_67 t_tokenIs_68 t_tokenValue_69 e70) (cwV 0 hts gX8_readItem_X8_readSemicolon rfl rfl rfl (by decide +kernel) ⟨Nat.le_of_ble_eq_true rfl, Nat.le_of_ble_eq_true rfl⟩) hK hN hP hD hS hA [0, 1] [2, 3, 4, 5, 6] (by decide) rfl rfl (by decide) (by decide) rfl (va_recv hK hP (ci := 8) (q0 := 0) rfl rfl) rfl hl.1 rfl (Nat.le_of_ble_eq_true rfl) dX8_readItem_151 ⟨Nat.zero_le _, Nat.zero_le _⟩ [5, 6, 0, 1, 2, 3, 4] (by decide) rfl (fun H locs hP hD hS => ?_)
    have hq_0 := Option.some.inj h
    obtain ⟨hz_1, hq_1⟩ := Prod.mk.inj hq_0
    obtain ⟨hz_2, hq_2⟩ := Prod.mk.inj hq_1
    obtain ⟨hz_3, hq_3⟩ := Prod.mk.inj hq_2
    obtain ⟨hz_4, hq_4⟩ := Prod.mk.inj hq_3
    obtain ⟨hz_5, hq_5⟩ := Prod.mk.inj hq_4
    obtain ⟨hz_6, hq_6⟩ := Prod.mk.inj hq_5
    obtain ⟨hz_7, hq_7⟩ := Prod.mk.inj hq_6
    obtain ⟨hz_8, hq_8⟩ := Prod.mk.inj hq_7
    obtain ⟨hz_9, hq_9⟩ := Prod.mk.inj hq_8
    obtain ⟨hz_10, hq_10⟩ := Prod.mk.inj hq_9
    obtain ⟨hz_11, hq_11⟩ := Prod.mk.inj hq_10
    obtain ⟨hz_12, hq_12⟩ := Prod.mk.inj hq_11
    obtain ⟨hz_13, hq_13⟩ := Prod.mk.inj hq_12
    subst hz_1
    subst hz_2
    subst hz_3
    subst hz_4
    subst hz_5
    subst hz_6
    subst hz_7
    subst hz_8
    subst hz_9
    subst hz_10
    subst hz_11
    subst hz_12
    subst hz_13
    subst hq_13
    exact hret 154 ls _ _ hP hD hS dX8_readItem_154
  have bl_b146 : ∀ (t_fault : Int32) (t_next : Int32) (t_tokenAt : Int32) (t_tokenIs : Int32) (t_tokenValue : Int32) (o1_sections : Int32) (o1_things : Int32) (o1_noteTold : Int32) (o1_toldSection : Int32) (o1_toldBar : Int32) (o1_lengths : Nat → Int32) (o1_times : Nat → Int32) (o1_players : Nat → Int32) (o1_minutes : Nat → Int32) (H : Heap) (locs : List Loc) (ls : Array Slot), va_P D vwCl [(a_t, .inr (8, [.ref a_t_bytes, .int t_size, .int t_fault, .int t_next, .int t_tokenAt, .int t_tokenIs, .int t_tokenValue])), (a_t_bytes, .inl (cI, 120, .inl t_bytes)), (a_o1, .inr (6, [.ref a_o1_lengths, .ref a_o1_times, .ref a_o1_players, .ref a_o1_minutes, .int o1_sections, .int o1_things, .int o1_noteTold, .int o1_toldSection, .int o1_toldBar])), (a_o1_lengths, .inl (cI, 8, .inl o1_lengths)), (a_o1_times, .inl (cI, 8, .inl o1_times)), (a_o1_players, .inl (cI, 8, .inl o1_players)), (a_o1_minutes, .inl (cI, 6, .inl o1_minutes))] H → va_D A [(a_t, .inr (8, [.ref a_t_bytes, .int t_size, .int t_fault, .int t_next, .int t_tokenAt, .int t_tokenIs, .int t_tokenValue])), (a_t_bytes, .inl (cI, 120, .inl t_bytes)), (a_o1, .inr (6, [.ref a_o1_lengths, .ref a_o1_times, .ref a_o1_players, .ref a_o1_minutes, .int o1_sections, .int o1_things, .int o1_noteTold, .int o1_toldSection, .int o1_toldBar])), (a_o1_lengths, .inl (cI, 8, .inl o1_lengths)), (a_o1_times, .inl (cI, 8, .inl o1_times)), (a_o1_players, .inl (cI, 8, .inl o1_players)), (a_o1_minutes, .inl (cI, 6, .inl o1_minutes))] → va_S A s.heap H locs → lv_has ls 6 [(0, .ref a_t)] → mi_X8_readItem_b146 t_size t_bytes t_fault t_next t_tokenAt t_tokenIs t_tokenValue o1_sections o1_things o1_noteTold o1_toldSection o1_toldBar o1_lengths o1_times o1_players o1_minutes = some (z_t_fault, z_t_next, z_t_tokenAt, z_t_tokenIs, z_t_tokenValue, z_o1_sections, z_o1_things, z_o1_noteTold, z_o1_toldSection, z_o1_toldBar, z_o1_lengths, z_o1_times, z_o1_players, z_o1_minutes) → W p l e (headSpec wsX8_readItem rm_X8_readItem).room s m args below meth c H locs 0 0 Q (F0 m 146 ls []) := by
    intro t_fault t_next t_tokenAt t_tokenIs t_tokenValue o1_sections o1_things o1_noteTold o1_toldSection o1_toldBar o1_lengths o1_times o1_players o1_minutes H locs ls hP hD hS hl h
    unfold mi_X8_readItem_b146 at h
    refine lv_aload_n hx hb dX8_readItem_146 rfl (lv_at hl 0 rfl) ?_
    obtain ⟨t_fault_63, e64, h⟩ := jx_b1_of h
    refine jx_cW (o := none) (As := []) (rest := []) (b := a_t) (wr := [(a_t_bytes, .inl (cI, 120, .inl t_bytes)), (a_o1, .inr (6, [.ref a_o1_lengths, .ref a_o1_times, .ref a_o1_players, .ref a_o1_minutes, .int o1_sections, .int o1_things, .int o1_noteTold, .int o1_toldSection, .int o1_toldBar])), (a_o1_lengths, .inl (cI, 8, .inl o1_lengths)), (a_o1_times, .inl (cI, 8, .inl o1_times)), (a_o1_players, .inl (cI, 8, .inl o1_players)), (a_o1_minutes, .inl (cI, 6, .inl o1_minutes))]) (wd' := [(a_t, .inr (8, [.ref a_t_bytes, .int t_size, .int t_fault_63, .int t_next, .int t_tokenAt, .int t_tokenIs, .int t_tokenValue])), (a_t_bytes, .inl (cI, 120, .inl t_bytes)), (a_o1, .inr (6, [.ref a_o1_lengths, .ref a_o1_times, .ref a_o1_players, .ref a_o1_minutes, .int o1_sections, .int o1_things, .int o1_noteTold, .int o1_toldSection, .int o1_toldBar])), (a_o1_lengths, .inl (cI, 8, .inl o1_lengths)), (a_o1_times, .inl (cI, 8, .inl o1_times)), (a_o1_players, .inl (cI, 8, .inl o1_players)), (a_o1_minutes, .inl (cI, 6, .inl o1_minutes))]) ⟨hx, hb, hml, hown, hts⟩ (ct_X8_failHere l D cI cZ cO a_t a_t_bytes H.size t_size t_fault t_next t_tokenAt t_tokenIs t_tokenValue t_fault_63 e64) (cwV 0 hts gX8_readItem_X8_failHere rfl rfl rfl (by decide +kernel) ⟨Nat.le_of_ble_eq_true rfl, Nat.le_of_ble_eq_true rfl⟩) hK hN hP hD hS hA [0] [1, 2, 3, 4, 5, 6] (by decide) rfl rfl (by decide) (by decide) rfl (va_recv hK hP (ci := 8) (q0 := 0) rfl rfl) rfl hl.1 rfl (Nat.le_of_ble_eq_true rfl) dX8_readItem_147 ⟨Nat.zero_le _, Nat.zero_le _⟩ [6, 0, 1, 2, 3, 4, 5] (by decide) rfl (fun H locs hP hD hS => ?_)
    exact bl_b150 t_fault_63 t_next t_tokenAt t_tokenIs t_tokenValue o1_sections o1_things o1_noteTold o1_toldSection o1_toldBar o1_lengths o1_times o1_players o1_minutes _ _ _ hP hD hS (lv_sub hl [0] rfl) h
  have bl_b117 : ∀ (x2 : Int32) (t_fault : Int32) (t_next : Int32) (t_tokenAt : Int32) (t_tokenIs : Int32) (t_tokenValue : Int32) (o1_sections : Int32) (o1_things : Int32) (o1_noteTold : Int32) (o1_toldSection : Int32) (o1_toldBar : Int32) (o1_lengths : Nat → Int32) (o1_times : Nat → Int32) (o1_players : Nat → Int32) (o1_minutes : Nat → Int32) (H : Heap) (locs : List Loc) (ls : Array Slot), va_P D vwCl [(a_t, .inr (8, [.ref a_t_bytes, .int t_size, .int t_fault, .int t_next, .int t_tokenAt, .int t_tokenIs, .int t_tokenValue])), (a_t_bytes, .inl (cI, 120, .inl t_bytes)), (a_o1, .inr (6, [.ref a_o1_lengths, .ref a_o1_times, .ref a_o1_players, .ref a_o1_minutes, .int o1_sections, .int o1_things, .int o1_noteTold, .int o1_toldSection, .int o1_toldBar])), (a_o1_lengths, .inl (cI, 8, .inl o1_lengths)), (a_o1_times, .inl (cI, 8, .inl o1_times)), (a_o1_players, .inl (cI, 8, .inl o1_players)), (a_o1_minutes, .inl (cI, 6, .inl o1_minutes))] H → va_D A [(a_t, .inr (8, [.ref a_t_bytes, .int t_size, .int t_fault, .int t_next, .int t_tokenAt, .int t_tokenIs, .int t_tokenValue])), (a_t_bytes, .inl (cI, 120, .inl t_bytes)), (a_o1, .inr (6, [.ref a_o1_lengths, .ref a_o1_times, .ref a_o1_players, .ref a_o1_minutes, .int o1_sections, .int o1_things, .int o1_noteTold, .int o1_toldSection, .int o1_toldBar])), (a_o1_lengths, .inl (cI, 8, .inl o1_lengths)), (a_o1_times, .inl (cI, 8, .inl o1_times)), (a_o1_players, .inl (cI, 8, .inl o1_players)), (a_o1_minutes, .inl (cI, 6, .inl o1_minutes))] → va_S A s.heap H locs → lv_has ls 6 [(0, .ref a_t), (1, .ref a_o1), (2, .int x2)] → mi_X8_readItem_b117 t_size t_bytes x2 t_fault t_next t_tokenAt t_tokenIs t_tokenValue o1_sections o1_things o1_noteTold o1_toldSection o1_toldBar o1_lengths o1_times o1_players o1_minutes = some (z_t_fault, z_t_next, z_t_tokenAt, z_t_tokenIs, z_t_tokenValue, z_o1_sections, z_o1_things, z_o1_noteTold, z_o1_toldSection, z_o1_toldBar, z_o1_lengths, z_o1_times, z_o1_players, z_o1_minutes) → W p l e (headSpec wsX8_readItem rm_X8_readItem).room s m args below meth c H locs 0 0 Q (F0 m 117 ls []) := by
    intro x2 t_fault t_next t_tokenAt t_tokenIs t_tokenValue o1_sections o1_things o1_noteTold o1_toldSection o1_toldBar o1_lengths o1_times o1_players o1_minutes H locs ls hP hD hS hl h
    unfold mi_X8_readItem_b117 at h
    refine lv_iload_n hx hb dX8_readItem_117 rfl (lv_at hl 2 rfl) ?_
    refine lv_bipush (v := (116 : Int32)) hx hb dX8_readItem_118 (by decide) ?_
    refine lv_icmp_ne (tgt := 146) hx hb dX8_readItem_120 (by decide) (fun c51 => ?_) (fun c51 => ?_)
    · have h := jx_f h c51
      exact bl_b146 t_fault t_next t_tokenAt t_tokenIs t_tokenValue o1_sections o1_things o1_noteTold o1_toldSection o1_toldBar o1_lengths o1_times o1_players o1_minutes _ _ _ hP hD hS (lv_sub hl [0] rfl) h
    · have h := jx_t h c51
      refine lv_aload_n hx hb dX8_readItem_123 rfl (lv_at hl 1 rfl) ?_
      refine va_get (D := D) (ci := 6) (v := .int o1_things) (C := RX6) (T := TX6) (N := 9) hx hb hts hi_X6 hown hK hP 2 rfl rfl 5 (by decide) (hts (.fieldLink RX8 66 "TriangleRest$Score" "things" "I") (List.mem_of_getElem? (i := 5) rfl)) (fun _ h9 => h9) rfl dX8_readItem_124 ?_
      refine lv_bipush (v := (6 : Int32)) hx hb dX8_readItem_127 (by decide) ?_
      refine lv_icmp_ge (tgt := 146) hx hb dX8_readItem_129 (by decide) (fun c52 => ?_) (fun c52 => ?_)
      · have h := jx_t h c52
        exact bl_b146 t_fault t_next t_tokenAt t_tokenIs t_tokenValue o1_sections o1_things o1_noteTold o1_toldSection o1_toldBar o1_lengths o1_times o1_players o1_minutes _ _ _ hP hD hS (lv_sub hl [0] rfl) h
      · have h := jx_f h c52
        refine lv_aload_n hx hb dX8_readItem_132 rfl (lv_at hl 1 rfl) ?_
        refine lv_aload_n hx hb dX8_readItem_133 rfl (lv_at hl 0 rfl) ?_
        refine lv_iconst (v := (1 : Int32)) hx hb dX8_readItem_134 (by decide) ?_
        refine lv_bipush (v := (60 : Int32)) hx hb dX8_readItem_135 (by decide) ?_
        obtain ⟨r53, t_fault_54, t_next_55, t_tokenAt_56, t_tokenIs_57, t_tokenValue_58, e59, h⟩ := jx_b6_of h
        refine jx_cW (o := some (.int r53)) (As := [.int (1 : Int32), .int (60 : Int32)]) (rest := [.ref a_o1]) (b := a_t) (wr := [(a_o1, .inr (6, [.ref a_o1_lengths, .ref a_o1_times, .ref a_o1_players, .ref a_o1_minutes, .int o1_sections, .int o1_things, .int o1_noteTold, .int o1_toldSection, .int o1_toldBar])), (a_o1_lengths, .inl (cI, 8, .inl o1_lengths)), (a_o1_times, .inl (cI, 8, .inl o1_times)), (a_o1_players, .inl (cI, 8, .inl o1_players)), (a_o1_minutes, .inl (cI, 6, .inl o1_minutes))]) (wd' := [(a_t, .inr (8, [.ref a_t_bytes, .int t_size, .int t_fault_54, .int t_next_55, .int t_tokenAt_56, .int t_tokenIs_57, .int t_tokenValue_58])), (a_t_bytes, .inl (cI, 120, .inl t_bytes)), (a_o1, .inr (6, [.ref a_o1_lengths, .ref a_o1_times, .ref a_o1_players, .ref a_o1_minutes, .int o1_sections, .int o1_things, .int o1_noteTold, .int o1_toldSection, .int o1_toldBar])), (a_o1_lengths, .inl (cI, 8, .inl o1_lengths)), (a_o1_times, .inl (cI, 8, .inl o1_times)), (a_o1_players, .inl (cI, 8, .inl o1_players)), (a_o1_minutes, .inl (cI, 6, .inl o1_minutes))]) ⟨hx, hb, hml, hown, hts⟩ (ct_X8_readNumber l D cI cZ cO a_t a_t_bytes H.size t_size t_fault t_next t_tokenAt t_tokenIs t_tokenValue t_bytes (1 : Int32) (60 : Int32) r53 t_fault_54 t_next_55 t_tokenAt_56 t_tokenIs_57 t_tokenValue_58 e59) (cwV 2 hts gX8_readItem_X8_readNumber rfl rfl rfl (by decide +kernel) ⟨Nat.le_of_ble_eq_true rfl, Nat.le_of_ble_eq_true rfl⟩) hK hN hP hD hS hA [0, 1] [2, 3, 4, 5, 6] (by decide) rfl rfl (by decide) (by decide) rfl (va_recv hK hP (ci := 8) (q0 := 0) rfl rfl) rfl hl.1 rfl (Nat.le_of_ble_eq_true rfl) dX8_readItem_137 ⟨Nat.zero_le _, Nat.zero_le _⟩ [5, 6, 0, 1, 2, 3, 4] (by decide) rfl (fun H locs hP hD hS => ?_)
        obtain ⟨o1_things_60, o1_minutes_61, e62, h⟩ := jx_b2_of h
        refine jx_cW (o := none) (As := [.int r53]) (rest := []) (b := a_o1) (wr := [(a_t, .inr (8, [.ref a_t_bytes, .int t_size, .int t_fault_54, .int t_next_55, .int t_tokenAt_56, .int t_tokenIs_57, .int t_tokenValue_58])), (a_t_bytes, .inl (cI, 120, .inl t_bytes)), (a_o1_lengths, .inl (cI, 8, .inl o1_lengths)), (a_o1_times, .inl (cI, 8, .inl o1_times)), (a_o1_players, .inl (cI, 8, .inl o1_players))]) (wd' := [(a_t, .inr (8, [.ref a_t_bytes, .int t_size, .int t_fault_54, .int t_next_55, .int t_tokenAt_56, .int t_tokenIs_57, .int t_tokenValue_58])), (a_t_bytes, .inl (cI, 120, .inl t_bytes)), (a_o1, .inr (6, [.ref a_o1_lengths, .ref a_o1_times, .ref a_o1_players, .ref a_o1_minutes, .int o1_sections, .int o1_things_60, .int o1_noteTold, .int o1_toldSection, .int o1_toldBar])), (a_o1_lengths, .inl (cI, 8, .inl o1_lengths)), (a_o1_times, .inl (cI, 8, .inl o1_times)), (a_o1_players, .inl (cI, 8, .inl o1_players)), (a_o1_minutes, .inl (cI, 6, .inl o1_minutes_61))]) ⟨hx, hb, hml, hown, hts⟩ (ct_X6_addThing l D cI cZ cO a_o1 a_o1_lengths a_o1_times a_o1_players a_o1_minutes H.size o1_sections o1_things o1_noteTold o1_toldSection o1_toldBar o1_minutes r53 o1_things_60 o1_minutes_61 e62) (cwV 1 hts gX8_readItem_X6_addThing rfl rfl rfl (by decide +kernel) ⟨Nat.le_of_ble_eq_true rfl, Nat.le_of_ble_eq_true rfl⟩) hK hN hP hD hS hA [2, 6] [0, 1, 3, 4, 5] (by decide) rfl rfl (by decide) (by decide) rfl (va_recv hK hP (ci := 6) (q0 := 2) rfl rfl) rfl hl.1 rfl (Nat.le_of_ble_eq_true rfl) dX8_readItem_140 ⟨Nat.zero_le _, Nat.zero_le _⟩ [0, 1, 5, 2, 3, 4, 6] (by decide) rfl (fun H locs hP hD hS => ?_)
        refine lv_goto (tgt := 150) hx hb dX8_readItem_143 (by decide) ?_
        exact bl_b150 t_fault_54 t_next_55 t_tokenAt_56 t_tokenIs_57 t_tokenValue_58 o1_sections o1_things_60 o1_noteTold o1_toldSection o1_toldBar o1_lengths o1_times o1_players o1_minutes_61 _ _ _ hP hD hS (lv_sub hl [0] rfl) h
  have bl_b68 : ∀ (x2 : Int32) (t_fault : Int32) (t_next : Int32) (t_tokenAt : Int32) (t_tokenIs : Int32) (t_tokenValue : Int32) (o1_sections : Int32) (o1_things : Int32) (o1_noteTold : Int32) (o1_toldSection : Int32) (o1_toldBar : Int32) (o1_lengths : Nat → Int32) (o1_times : Nat → Int32) (o1_players : Nat → Int32) (o1_minutes : Nat → Int32) (H : Heap) (locs : List Loc) (ls : Array Slot), va_P D vwCl [(a_t, .inr (8, [.ref a_t_bytes, .int t_size, .int t_fault, .int t_next, .int t_tokenAt, .int t_tokenIs, .int t_tokenValue])), (a_t_bytes, .inl (cI, 120, .inl t_bytes)), (a_o1, .inr (6, [.ref a_o1_lengths, .ref a_o1_times, .ref a_o1_players, .ref a_o1_minutes, .int o1_sections, .int o1_things, .int o1_noteTold, .int o1_toldSection, .int o1_toldBar])), (a_o1_lengths, .inl (cI, 8, .inl o1_lengths)), (a_o1_times, .inl (cI, 8, .inl o1_times)), (a_o1_players, .inl (cI, 8, .inl o1_players)), (a_o1_minutes, .inl (cI, 6, .inl o1_minutes))] H → va_D A [(a_t, .inr (8, [.ref a_t_bytes, .int t_size, .int t_fault, .int t_next, .int t_tokenAt, .int t_tokenIs, .int t_tokenValue])), (a_t_bytes, .inl (cI, 120, .inl t_bytes)), (a_o1, .inr (6, [.ref a_o1_lengths, .ref a_o1_times, .ref a_o1_players, .ref a_o1_minutes, .int o1_sections, .int o1_things, .int o1_noteTold, .int o1_toldSection, .int o1_toldBar])), (a_o1_lengths, .inl (cI, 8, .inl o1_lengths)), (a_o1_times, .inl (cI, 8, .inl o1_times)), (a_o1_players, .inl (cI, 8, .inl o1_players)), (a_o1_minutes, .inl (cI, 6, .inl o1_minutes))] → va_S A s.heap H locs → lv_has ls 6 [(0, .ref a_t), (1, .ref a_o1), (2, .int x2)] → mi_X8_readItem_b68 t_size t_bytes x2 t_fault t_next t_tokenAt t_tokenIs t_tokenValue o1_sections o1_things o1_noteTold o1_toldSection o1_toldBar o1_lengths o1_times o1_players o1_minutes = some (z_t_fault, z_t_next, z_t_tokenAt, z_t_tokenIs, z_t_tokenValue, z_o1_sections, z_o1_things, z_o1_noteTold, z_o1_toldSection, z_o1_toldBar, z_o1_lengths, z_o1_times, z_o1_players, z_o1_minutes) → W p l e (headSpec wsX8_readItem rm_X8_readItem).room s m args below meth c H locs 0 0 Q (F0 m 68 ls []) := by
    intro x2 t_fault t_next t_tokenAt t_tokenIs t_tokenValue o1_sections o1_things o1_noteTold o1_toldSection o1_toldBar o1_lengths o1_times o1_players o1_minutes H locs ls hP hD hS hl h
    unfold mi_X8_readItem_b68 at h
    refine lv_iload_n hx hb dX8_readItem_68 rfl (lv_at hl 2 rfl) ?_
    refine lv_bipush (v := (110 : Int32)) hx hb dX8_readItem_69 (by decide) ?_
    refine lv_icmp_ne (tgt := 117) hx hb dX8_readItem_71 (by decide) (fun c29 => ?_) (fun c29 => ?_)
    · have h := jx_f h c29
      exact bl_b117 x2 t_fault t_next t_tokenAt t_tokenIs t_tokenValue o1_sections o1_things o1_noteTold o1_toldSection o1_toldBar o1_lengths o1_times o1_players o1_minutes _ _ _ hP hD hS (lv_sub hl [0, 1, 2] rfl) h
    · have h := jx_t h c29
      refine lv_aload_n hx hb dX8_readItem_74 rfl (lv_at hl 1 rfl) ?_
      refine va_get (D := D) (ci := 6) (v := .int o1_noteTold) (C := RX6) (T := TX6) (N := 9) hx hb hts hi_X6 hown hK hP 2 rfl rfl 6 (by decide) (hts (.fieldLink RX8 54 "TriangleRest$Score" "noteTold" "Z") (List.mem_of_getElem? (i := 4) rfl)) (fun _ h9 => h9) rfl dX8_readItem_75 ?_
      refine lv_if_ne (tgt := 117) hx hb dX8_readItem_78 (by decide) (fun c30 => ?_) (fun c30 => ?_)
      · have h := jx_f h c30
        exact bl_b117 x2 t_fault t_next t_tokenAt t_tokenIs t_tokenValue o1_sections o1_things o1_noteTold o1_toldSection o1_toldBar o1_lengths o1_times o1_players o1_minutes _ _ _ hP hD hS (lv_sub hl [0, 1, 2] rfl) h
      · have h := jx_t h c30
        refine lv_aload_n hx hb dX8_readItem_81 rfl (lv_at hl 0 rfl) ?_
        refine lv_iconst (v := (0 : Int32)) hx hb dX8_readItem_82 (by decide) ?_
        refine lv_aload_n hx hb dX8_readItem_83 rfl (lv_at hl 1 rfl) ?_
        refine va_get (D := D) (ci := 6) (v := .int o1_sections) (C := RX6) (T := TX6) (N := 9) hx hb hts hi_X6 hown hK hP 2 rfl rfl 4 (by decide) (hts (.fieldLink RX8 43 "TriangleRest$Score" "sections" "I") (List.mem_of_getElem? (i := 3) rfl)) (fun _ h9 => h9) rfl dX8_readItem_84 ?_
        refine lv_iconst (v := (1 : Int32)) hx hb dX8_readItem_87 (by decide) ?_
        refine lv_isub hx hb dX8_readItem_88 ?_
        obtain ⟨r31, t_fault_32, t_next_33, t_tokenAt_34, t_tokenIs_35, t_tokenValue_36, e37, h⟩ := jx_b6_of h
        refine jx_cW (o := some (.int r31)) (As := [.int (0 : Int32), .int (o1_sections - (1 : Int32))]) (rest := []) (b := a_t) (wr := [(a_o1, .inr (6, [.ref a_o1_lengths, .ref a_o1_times, .ref a_o1_players, .ref a_o1_minutes, .int o1_sections, .int o1_things, .int o1_noteTold, .int o1_toldSection, .int o1_toldBar])), (a_o1_lengths, .inl (cI, 8, .inl o1_lengths)), (a_o1_times, .inl (cI, 8, .inl o1_times)), (a_o1_players, .inl (cI, 8, .inl o1_players)), (a_o1_minutes, .inl (cI, 6, .inl o1_minutes))]) (wd' := [(a_t, .inr (8, [.ref a_t_bytes, .int t_size, .int t_fault_32, .int t_next_33, .int t_tokenAt_34, .int t_tokenIs_35, .int t_tokenValue_36])), (a_t_bytes, .inl (cI, 120, .inl t_bytes)), (a_o1, .inr (6, [.ref a_o1_lengths, .ref a_o1_times, .ref a_o1_players, .ref a_o1_minutes, .int o1_sections, .int o1_things, .int o1_noteTold, .int o1_toldSection, .int o1_toldBar])), (a_o1_lengths, .inl (cI, 8, .inl o1_lengths)), (a_o1_times, .inl (cI, 8, .inl o1_times)), (a_o1_players, .inl (cI, 8, .inl o1_players)), (a_o1_minutes, .inl (cI, 6, .inl o1_minutes))]) ⟨hx, hb, hml, hown, hts⟩ (ct_X8_readNumber l D cI cZ cO a_t a_t_bytes H.size t_size t_fault t_next t_tokenAt t_tokenIs t_tokenValue t_bytes (0 : Int32) (o1_sections - (1 : Int32)) r31 t_fault_32 t_next_33 t_tokenAt_34 t_tokenIs_35 t_tokenValue_36 e37) (cwV 2 hts gX8_readItem_X8_readNumber rfl rfl rfl (by decide +kernel) ⟨Nat.le_of_ble_eq_true rfl, Nat.le_of_ble_eq_true rfl⟩) hK hN hP hD hS hA [0, 1] [2, 3, 4, 5, 6] (by decide) rfl rfl (by decide) (by decide) rfl (va_recv hK hP (ci := 8) (q0 := 0) rfl rfl) rfl hl.1 rfl (Nat.le_of_ble_eq_true rfl) dX8_readItem_89 ⟨Nat.zero_le _, Nat.zero_le _⟩ [5, 6, 0, 1, 2, 3, 4] (by decide) rfl (fun H locs hP hD hS => ?_)
        refine lv_istore_n (lv' := [(3, .int r31), (0, .ref a_t), (1, .ref a_o1), (2, .int x2)]) hx hb dX8_readItem_92 rfl hl (by decide) rfl (fun ls hl => ?_)
        refine lv_aload_n hx hb dX8_readItem_93 rfl (lv_at hl 1 rfl) ?_
        refine lv_iconst (v := (0 : Int32)) hx hb dX8_readItem_94 (by decide) ?_
        refine lv_aload_n hx hb dX8_readItem_95 rfl (lv_at hl 2 rfl) ?_
        refine lv_iload_n hx hb dX8_readItem_96 rfl (lv_at hl 0 rfl) ?_
        obtain ⟨r38, e39, h⟩ := jx_b1_of h
        refine jx_cV (o := some (.int r38)) (As := [.int r31]) (rest := [.int (0 : Int32), .ref a_t]) (b := a_o1) ⟨hx, hb, hml, hown, hts⟩ (ct_X6_lengthOf l D cI cZ cO a_o1 a_o1_lengths a_o1_times a_o1_players a_o1_minutes o1_sections o1_things o1_noteTold o1_toldSection o1_toldBar o1_lengths r31 r38 e39) (cwV 1 hts gX8_readItem_X6_lengthOf rfl rfl rfl (by decide +kernel) ⟨Nat.le_of_ble_eq_true rfl, Nat.le_of_ble_eq_true rfl⟩) hK hN hP [2, 3] rfl (va_recv hK hP (ci := 6) (q0 := 2) rfl rfl) rfl hl.1 rfl (Nat.le_of_ble_eq_true rfl) dX8_readItem_97 ⟨Nat.zero_le _, Nat.zero_le _⟩ ?_
        refine lv_iconst (v := (1 : Int32)) hx hb dX8_readItem_100 (by decide) ?_
        refine lv_isub hx hb dX8_readItem_101 ?_
        obtain ⟨r40, t_fault_41, t_next_42, t_tokenAt_43, t_tokenIs_44, t_tokenValue_45, e46, h⟩ := jx_b6_of h
        refine jx_cW (o := some (.int r40)) (As := [.int (0 : Int32), .int (r38 - (1 : Int32))]) (rest := []) (b := a_t) (wr := [(a_o1, .inr (6, [.ref a_o1_lengths, .ref a_o1_times, .ref a_o1_players, .ref a_o1_minutes, .int o1_sections, .int o1_things, .int o1_noteTold, .int o1_toldSection, .int o1_toldBar])), (a_o1_lengths, .inl (cI, 8, .inl o1_lengths)), (a_o1_times, .inl (cI, 8, .inl o1_times)), (a_o1_players, .inl (cI, 8, .inl o1_players)), (a_o1_minutes, .inl (cI, 6, .inl o1_minutes))]) (wd' := [(a_t, .inr (8, [.ref a_t_bytes, .int t_size, .int t_fault_41, .int t_next_42, .int t_tokenAt_43, .int t_tokenIs_44, .int t_tokenValue_45])), (a_t_bytes, .inl (cI, 120, .inl t_bytes)), (a_o1, .inr (6, [.ref a_o1_lengths, .ref a_o1_times, .ref a_o1_players, .ref a_o1_minutes, .int o1_sections, .int o1_things, .int o1_noteTold, .int o1_toldSection, .int o1_toldBar])), (a_o1_lengths, .inl (cI, 8, .inl o1_lengths)), (a_o1_times, .inl (cI, 8, .inl o1_times)), (a_o1_players, .inl (cI, 8, .inl o1_players)), (a_o1_minutes, .inl (cI, 6, .inl o1_minutes))]) ⟨hx, hb, hml, hown, hts⟩ (ct_X8_readNumber l D cI cZ cO a_t a_t_bytes H.size t_size t_fault_32 t_next_33 t_tokenAt_34 t_tokenIs_35 t_tokenValue_36 t_bytes (0 : Int32) (r38 - (1 : Int32)) r40 t_fault_41 t_next_42 t_tokenAt_43 t_tokenIs_44 t_tokenValue_45 e46) (cwV 2 hts gX8_readItem_X8_readNumber rfl rfl rfl (by decide +kernel) ⟨Nat.le_of_ble_eq_true rfl, Nat.le_of_ble_eq_true rfl⟩) hK hN hP hD hS hA [0, 1] [2, 3, 4, 5, 6] (by decide) rfl rfl (by decide) (by decide) rfl (va_recv hK hP (ci := 8) (q0 := 0) rfl rfl) rfl hl.1 rfl (Nat.le_of_ble_eq_true rfl) dX8_readItem_102 ⟨Nat.zero_le _, Nat.zero_le _⟩ [5, 6, 0, 1, 2, 3, 4] (by decide) rfl (fun H locs hP hD hS => ?_)
        refine lv_istore (lv' := [(4, .int r40), (3, .int r31), (0, .ref a_t), (1, .ref a_o1), (2, .int x2)]) hx hb dX8_readItem_105 hl (by decide) rfl (fun ls hl => ?_)
        refine lv_aload_n hx hb dX8_readItem_107 rfl (lv_at hl 3 rfl) ?_
        refine lv_iload_n hx hb dX8_readItem_108 rfl (lv_at hl 1 rfl) ?_
        refine lv_iload hx hb dX8_readItem_109 (lv_at hl 0 rfl) ?_
        obtain ⟨o1_noteTold_47, o1_toldSection_48, o1_toldBar_49, e50, h⟩ := jx_b3_of h
        refine jx_cW (o := none) (As := [.int r31, .int r40]) (rest := []) (b := a_o1) (wr := [(a_t, .inr (8, [.ref a_t_bytes, .int t_size, .int t_fault_41, .int t_next_42, .int t_tokenAt_43, .int t_tokenIs_44, .int t_tokenValue_45])), (a_t_bytes, .inl (cI, 120, .inl t_bytes)), (a_o1_lengths, .inl (cI, 8, .inl o1_lengths)), (a_o1_times, .inl (cI, 8, .inl o1_times)), (a_o1_players, .inl (cI, 8, .inl o1_players)), (a_o1_minutes, .inl (cI, 6, .inl o1_minutes))]) (wd' := [(a_t, .inr (8, [.ref a_t_bytes, .int t_size, .int t_fault_41, .int t_next_42, .int t_tokenAt_43, .int t_tokenIs_44, .int t_tokenValue_45])), (a_t_bytes, .inl (cI, 120, .inl t_bytes)), (a_o1, .inr (6, [.ref a_o1_lengths, .ref a_o1_times, .ref a_o1_players, .ref a_o1_minutes, .int o1_sections, .int o1_things, .int o1_noteTold_47, .int o1_toldSection_48, .int o1_toldBar_49])), (a_o1_lengths, .inl (cI, 8, .inl o1_lengths)), (a_o1_times, .inl (cI, 8, .inl o1_times)), (a_o1_players, .inl (cI, 8, .inl o1_players)), (a_o1_minutes, .inl (cI, 6, .inl o1_minutes))]) ⟨hx, hb, hml, hown, hts⟩ (ct_X6_tellNote l D cI cZ cO a_o1 a_o1_lengths a_o1_times a_o1_players a_o1_minutes H.size o1_sections o1_things o1_noteTold o1_toldSection o1_toldBar r31 r40 o1_noteTold_47 o1_toldSection_48 o1_toldBar_49 e50) (cwV 2 hts gX8_readItem_X6_tellNote rfl rfl rfl (by decide +kernel) ⟨Nat.le_of_ble_eq_true rfl, Nat.le_of_ble_eq_true rfl⟩) hK hN hP hD hS hA [2] [0, 1, 3, 4, 5, 6] (by decide) rfl rfl (by decide) (by decide) rfl (va_recv hK hP (ci := 6) (q0 := 2) rfl rfl) rfl hl.1 rfl (Nat.le_of_ble_eq_true rfl) dX8_readItem_111 ⟨Nat.zero_le _, Nat.zero_le _⟩ [0, 1, 6, 2, 3, 4, 5] (by decide) rfl (fun H locs hP hD hS => ?_)
        refine lv_goto (tgt := 150) hx hb dX8_readItem_114 (by decide) ?_
        exact bl_b150 t_fault_41 t_next_42 t_tokenAt_43 t_tokenIs_44 t_tokenValue_45 o1_sections o1_things o1_noteTold_47 o1_toldSection_48 o1_toldBar_49 o1_lengths o1_times o1_players o1_minutes _ _ _ hP hD hS (lv_sub hl [2] rfl) h
  have bl_b16 : ∀ (k0 : Int32) (t_fault : Int32) (t_next : Int32) (t_tokenAt : Int32) (t_tokenIs : Int32) (t_tokenValue : Int32) (o1_sections : Int32) (o1_things : Int32) (o1_noteTold : Int32) (o1_toldSection : Int32) (o1_toldBar : Int32) (o1_lengths : Nat → Int32) (o1_times : Nat → Int32) (o1_players : Nat → Int32) (o1_minutes : Nat → Int32) (H : Heap) (locs : List Loc) (ls : Array Slot), va_P D vwCl [(a_t, .inr (8, [.ref a_t_bytes, .int t_size, .int t_fault, .int t_next, .int t_tokenAt, .int t_tokenIs, .int t_tokenValue])), (a_t_bytes, .inl (cI, 120, .inl t_bytes)), (a_o1, .inr (6, [.ref a_o1_lengths, .ref a_o1_times, .ref a_o1_players, .ref a_o1_minutes, .int o1_sections, .int o1_things, .int o1_noteTold, .int o1_toldSection, .int o1_toldBar])), (a_o1_lengths, .inl (cI, 8, .inl o1_lengths)), (a_o1_times, .inl (cI, 8, .inl o1_times)), (a_o1_players, .inl (cI, 8, .inl o1_players)), (a_o1_minutes, .inl (cI, 6, .inl o1_minutes))] H → va_D A [(a_t, .inr (8, [.ref a_t_bytes, .int t_size, .int t_fault, .int t_next, .int t_tokenAt, .int t_tokenIs, .int t_tokenValue])), (a_t_bytes, .inl (cI, 120, .inl t_bytes)), (a_o1, .inr (6, [.ref a_o1_lengths, .ref a_o1_times, .ref a_o1_players, .ref a_o1_minutes, .int o1_sections, .int o1_things, .int o1_noteTold, .int o1_toldSection, .int o1_toldBar])), (a_o1_lengths, .inl (cI, 8, .inl o1_lengths)), (a_o1_times, .inl (cI, 8, .inl o1_times)), (a_o1_players, .inl (cI, 8, .inl o1_players)), (a_o1_minutes, .inl (cI, 6, .inl o1_minutes))] → va_S A s.heap H locs → lv_has ls 6 [(0, .ref a_t), (1, .ref a_o1)] → mi_X8_readItem_b16 t_size t_bytes k0 t_fault t_next t_tokenAt t_tokenIs t_tokenValue o1_sections o1_things o1_noteTold o1_toldSection o1_toldBar o1_lengths o1_times o1_players o1_minutes = some (z_t_fault, z_t_next, z_t_tokenAt, z_t_tokenIs, z_t_tokenValue, z_o1_sections, z_o1_things, z_o1_noteTold, z_o1_toldSection, z_o1_toldBar, z_o1_lengths, z_o1_times, z_o1_players, z_o1_minutes) → W p l e (headSpec wsX8_readItem rm_X8_readItem).room s m args below meth c H locs 0 0 Q (F0 m 16 ls [.int k0]) := by
    intro k0 t_fault t_next t_tokenAt t_tokenIs t_tokenValue o1_sections o1_things o1_noteTold o1_toldSection o1_toldBar o1_lengths o1_times o1_players o1_minutes H locs ls hP hD hS hl h
    unfold mi_X8_readItem_b16 at h
    refine lv_istore_n (lv' := [(2, .int k0), (0, .ref a_t), (1, .ref a_o1)]) hx hb dX8_readItem_16 rfl hl (by decide) rfl (fun ls hl => ?_)
    refine lv_iload_n hx hb dX8_readItem_17 rfl (lv_at hl 0 rfl) ?_
    refine lv_bipush (v := (115 : Int32)) hx hb dX8_readItem_18 (by decide) ?_
    refine lv_icmp_ne (tgt := 68) hx hb dX8_readItem_20 (by decide) (fun c1 => ?_) (fun c1 => ?_)
    · have h := jx_f h c1
      exact bl_b68 k0 t_fault t_next t_tokenAt t_tokenIs t_tokenValue o1_sections o1_things o1_noteTold o1_toldSection o1_toldBar o1_lengths o1_times o1_players o1_minutes _ _ _ hP hD hS (lv_sub hl [1, 2, 0] rfl) h
    · have h := jx_t h c1
      refine lv_aload_n hx hb dX8_readItem_23 rfl (lv_at hl 2 rfl) ?_
      refine va_get (D := D) (ci := 6) (v := .int o1_sections) (C := RX6) (T := TX6) (N := 9) hx hb hts hi_X6 hown hK hP 2 rfl rfl 4 (by decide) (hts (.fieldLink RX8 43 "TriangleRest$Score" "sections" "I") (List.mem_of_getElem? (i := 3) rfl)) (fun _ h9 => h9) rfl dX8_readItem_24 ?_
      refine lv_bipush (v := (8 : Int32)) hx hb dX8_readItem_27 (by decide) ?_
      refine lv_icmp_ge (tgt := 68) hx hb dX8_readItem_29 (by decide) (fun c2 => ?_) (fun c2 => ?_)
      · have h := jx_t h c2
        exact bl_b68 k0 t_fault t_next t_tokenAt t_tokenIs t_tokenValue o1_sections o1_things o1_noteTold o1_toldSection o1_toldBar o1_lengths o1_times o1_players o1_minutes _ _ _ hP hD hS (lv_sub hl [1, 2, 0] rfl) h
      · have h := jx_f h c2
        refine lv_aload_n hx hb dX8_readItem_32 rfl (lv_at hl 1 rfl) ?_
        refine lv_iconst (v := (1 : Int32)) hx hb dX8_readItem_33 (by decide) ?_
        refine lv_bipush (v := (30 : Int32)) hx hb dX8_readItem_34 (by decide) ?_
        obtain ⟨r3, t_fault_4, t_next_5, t_tokenAt_6, t_tokenIs_7, t_tokenValue_8, e9, h⟩ := jx_b6_of h
        refine jx_cW (o := some (.int r3)) (As := [.int (1 : Int32), .int (30 : Int32)]) (rest := []) (b := a_t) (wr := [(a_o1, .inr (6, [.ref a_o1_lengths, .ref a_o1_times, .ref a_o1_players, .ref a_o1_minutes, .int o1_sections, .int o1_things, .int o1_noteTold, .int o1_toldSection, .int o1_toldBar])), (a_o1_lengths, .inl (cI, 8, .inl o1_lengths)), (a_o1_times, .inl (cI, 8, .inl o1_times)), (a_o1_players, .inl (cI, 8, .inl o1_players)), (a_o1_minutes, .inl (cI, 6, .inl o1_minutes))]) (wd' := [(a_t, .inr (8, [.ref a_t_bytes, .int t_size, .int t_fault_4, .int t_next_5, .int t_tokenAt_6, .int t_tokenIs_7, .int t_tokenValue_8])), (a_t_bytes, .inl (cI, 120, .inl t_bytes)), (a_o1, .inr (6, [.ref a_o1_lengths, .ref a_o1_times, .ref a_o1_players, .ref a_o1_minutes, .int o1_sections, .int o1_things, .int o1_noteTold, .int o1_toldSection, .int o1_toldBar])), (a_o1_lengths, .inl (cI, 8, .inl o1_lengths)), (a_o1_times, .inl (cI, 8, .inl o1_times)), (a_o1_players, .inl (cI, 8, .inl o1_players)), (a_o1_minutes, .inl (cI, 6, .inl o1_minutes))]) ⟨hx, hb, hml, hown, hts⟩ (ct_X8_readNumber l D cI cZ cO a_t a_t_bytes H.size t_size t_fault t_next t_tokenAt t_tokenIs t_tokenValue t_bytes (1 : Int32) (30 : Int32) r3 t_fault_4 t_next_5 t_tokenAt_6 t_tokenIs_7 t_tokenValue_8 e9) (cwV 2 hts gX8_readItem_X8_readNumber rfl rfl rfl (by decide +kernel) ⟨Nat.le_of_ble_eq_true rfl, Nat.le_of_ble_eq_true rfl⟩) hK hN hP hD hS hA [0, 1] [2, 3, 4, 5, 6] (by decide) rfl rfl (by decide) (by decide) rfl (va_recv hK hP (ci := 8) (q0 := 0) rfl rfl) rfl hl.1 rfl (Nat.le_of_ble_eq_true rfl) dX8_readItem_36 ⟨Nat.zero_le _, Nat.zero_le _⟩ [5, 6, 0, 1, 2, 3, 4] (by decide) rfl (fun H locs hP hD hS => ?_)
        refine lv_istore_n (lv' := [(3, .int r3), (2, .int k0), (0, .ref a_t), (1, .ref a_o1)]) hx hb dX8_readItem_39 rfl hl (by decide) rfl (fun ls hl => ?_)
        refine lv_aload_n hx hb dX8_readItem_40 rfl (lv_at hl 2 rfl) ?_
        refine lv_iconst (v := (1 : Int32)) hx hb dX8_readItem_41 (by decide) ?_
        refine lv_iconst (v := (4 : Int32)) hx hb dX8_readItem_42 (by decide) ?_
        obtain ⟨r10, t_fault_11, t_next_12, t_tokenAt_13, t_tokenIs_14, t_tokenValue_15, e16, h⟩ := jx_b6_of h
        refine jx_cW (o := some (.int r10)) (As := [.int (1 : Int32), .int (4 : Int32)]) (rest := []) (b := a_t) (wr := [(a_o1, .inr (6, [.ref a_o1_lengths, .ref a_o1_times, .ref a_o1_players, .ref a_o1_minutes, .int o1_sections, .int o1_things, .int o1_noteTold, .int o1_toldSection, .int o1_toldBar])), (a_o1_lengths, .inl (cI, 8, .inl o1_lengths)), (a_o1_times, .inl (cI, 8, .inl o1_times)), (a_o1_players, .inl (cI, 8, .inl o1_players)), (a_o1_minutes, .inl (cI, 6, .inl o1_minutes))]) (wd' := [(a_t, .inr (8, [.ref a_t_bytes, .int t_size, .int t_fault_11, .int t_next_12, .int t_tokenAt_13, .int t_tokenIs_14, .int t_tokenValue_15])), (a_t_bytes, .inl (cI, 120, .inl t_bytes)), (a_o1, .inr (6, [.ref a_o1_lengths, .ref a_o1_times, .ref a_o1_players, .ref a_o1_minutes, .int o1_sections, .int o1_things, .int o1_noteTold, .int o1_toldSection, .int o1_toldBar])), (a_o1_lengths, .inl (cI, 8, .inl o1_lengths)), (a_o1_times, .inl (cI, 8, .inl o1_times)), (a_o1_players, .inl (cI, 8, .inl o1_players)), (a_o1_minutes, .inl (cI, 6, .inl o1_minutes))]) ⟨hx, hb, hml, hown, hts⟩ (ct_X8_readNumber l D cI cZ cO a_t a_t_bytes H.size t_size t_fault_4 t_next_5 t_tokenAt_6 t_tokenIs_7 t_tokenValue_8 t_bytes (1 : Int32) (4 : Int32) r10 t_fault_11 t_next_12 t_tokenAt_13 t_tokenIs_14 t_tokenValue_15 e16) (cwV 2 hts gX8_readItem_X8_readNumber rfl rfl rfl (by decide +kernel) ⟨Nat.le_of_ble_eq_true rfl, Nat.le_of_ble_eq_true rfl⟩) hK hN hP hD hS hA [0, 1] [2, 3, 4, 5, 6] (by decide) rfl rfl (by decide) (by decide) rfl (va_recv hK hP (ci := 8) (q0 := 0) rfl rfl) rfl hl.1 rfl (Nat.le_of_ble_eq_true rfl) dX8_readItem_43 ⟨Nat.zero_le _, Nat.zero_le _⟩ [5, 6, 0, 1, 2, 3, 4] (by decide) rfl (fun H locs hP hD hS => ?_)
        refine lv_istore (lv' := [(4, .int r10), (3, .int r3), (2, .int k0), (0, .ref a_t), (1, .ref a_o1)]) hx hb dX8_readItem_46 hl (by decide) rfl (fun ls hl => ?_)
        refine lv_aload_n hx hb dX8_readItem_48 rfl (lv_at hl 3 rfl) ?_
        refine lv_iconst (v := (0 : Int32)) hx hb dX8_readItem_49 (by decide) ?_
        refine lv_iconst (v := (3 : Int32)) hx hb dX8_readItem_50 (by decide) ?_
        obtain ⟨r17, t_fault_18, t_next_19, t_tokenAt_20, t_tokenIs_21, t_tokenValue_22, e23, h⟩ := jx_b6_of h
        refine jx_cW (o := some (.int r17)) (As := [.int (0 : Int32), .int (3 : Int32)]) (rest := []) (b := a_t) (wr := [(a_o1, .inr (6, [.ref a_o1_lengths, .ref a_o1_times, .ref a_o1_players, .ref a_o1_minutes, .int o1_sections, .int o1_things, .int o1_noteTold, .int o1_toldSection, .int o1_toldBar])), (a_o1_lengths, .inl (cI, 8, .inl o1_lengths)), (a_o1_times, .inl (cI, 8, .inl o1_times)), (a_o1_players, .inl (cI, 8, .inl o1_players)), (a_o1_minutes, .inl (cI, 6, .inl o1_minutes))]) (wd' := [(a_t, .inr (8, [.ref a_t_bytes, .int t_size, .int t_fault_18, .int t_next_19, .int t_tokenAt_20, .int t_tokenIs_21, .int t_tokenValue_22])), (a_t_bytes, .inl (cI, 120, .inl t_bytes)), (a_o1, .inr (6, [.ref a_o1_lengths, .ref a_o1_times, .ref a_o1_players, .ref a_o1_minutes, .int o1_sections, .int o1_things, .int o1_noteTold, .int o1_toldSection, .int o1_toldBar])), (a_o1_lengths, .inl (cI, 8, .inl o1_lengths)), (a_o1_times, .inl (cI, 8, .inl o1_times)), (a_o1_players, .inl (cI, 8, .inl o1_players)), (a_o1_minutes, .inl (cI, 6, .inl o1_minutes))]) ⟨hx, hb, hml, hown, hts⟩ (ct_X8_readNumber l D cI cZ cO a_t a_t_bytes H.size t_size t_fault_11 t_next_12 t_tokenAt_13 t_tokenIs_14 t_tokenValue_15 t_bytes (0 : Int32) (3 : Int32) r17 t_fault_18 t_next_19 t_tokenAt_20 t_tokenIs_21 t_tokenValue_22 e23) (cwV 2 hts gX8_readItem_X8_readNumber rfl rfl rfl (by decide +kernel) ⟨Nat.le_of_ble_eq_true rfl, Nat.le_of_ble_eq_true rfl⟩) hK hN hP hD hS hA [0, 1] [2, 3, 4, 5, 6] (by decide) rfl rfl (by decide) (by decide) rfl (va_recv hK hP (ci := 8) (q0 := 0) rfl rfl) rfl hl.1 rfl (Nat.le_of_ble_eq_true rfl) dX8_readItem_51 ⟨Nat.zero_le _, Nat.zero_le _⟩ [5, 6, 0, 1, 2, 3, 4] (by decide) rfl (fun H locs hP hD hS => ?_)
        refine lv_istore (lv' := [(5, .int r17), (4, .int r10), (3, .int r3), (2, .int k0), (0, .ref a_t), (1, .ref a_o1)]) hx hb dX8_readItem_54 hl (by decide) rfl (fun ls hl => ?_)
        refine lv_aload_n hx hb dX8_readItem_56 rfl (lv_at hl 5 rfl) ?_
        refine lv_iload_n hx hb dX8_readItem_57 rfl (lv_at hl 2 rfl) ?_
        refine lv_iload hx hb dX8_readItem_58 (lv_at hl 1 rfl) ?_
        refine lv_iload hx hb dX8_readItem_60 (lv_at hl 0 rfl) ?_
        obtain ⟨o1_sections_24, o1_lengths_25, o1_times_26, o1_players_27, e28, h⟩ := jx_b4_of h
        refine jx_cW (o := none) (As := [.int r3, .int r10, .int r17]) (rest := []) (b := a_o1) (wr := [(a_t, .inr (8, [.ref a_t_bytes, .int t_size, .int t_fault_18, .int t_next_19, .int t_tokenAt_20, .int t_tokenIs_21, .int t_tokenValue_22])), (a_t_bytes, .inl (cI, 120, .inl t_bytes)), (a_o1_minutes, .inl (cI, 6, .inl o1_minutes))]) (wd' := [(a_t, .inr (8, [.ref a_t_bytes, .int t_size, .int t_fault_18, .int t_next_19, .int t_tokenAt_20, .int t_tokenIs_21, .int t_tokenValue_22])), (a_t_bytes, .inl (cI, 120, .inl t_bytes)), (a_o1, .inr (6, [.ref a_o1_lengths, .ref a_o1_times, .ref a_o1_players, .ref a_o1_minutes, .int o1_sections_24, .int o1_things, .int o1_noteTold, .int o1_toldSection, .int o1_toldBar])), (a_o1_lengths, .inl (cI, 8, .inl o1_lengths_25)), (a_o1_times, .inl (cI, 8, .inl o1_times_26)), (a_o1_players, .inl (cI, 8, .inl o1_players_27)), (a_o1_minutes, .inl (cI, 6, .inl o1_minutes))]) ⟨hx, hb, hml, hown, hts⟩ (ct_X6_addSection l D cI cZ cO a_o1 a_o1_lengths a_o1_times a_o1_players a_o1_minutes H.size o1_sections o1_things o1_noteTold o1_toldSection o1_toldBar o1_lengths o1_times o1_players r3 r10 r17 o1_sections_24 o1_lengths_25 o1_times_26 o1_players_27 e28) (cwV 3 hts gX8_readItem_X6_addSection rfl rfl rfl (by decide +kernel) ⟨Nat.le_of_ble_eq_true rfl, Nat.le_of_ble_eq_true rfl⟩) hK hN hP hD hS hA [2, 3, 4, 5] [0, 1, 6] (by decide) rfl rfl (by decide) (by decide) rfl (va_recv hK hP (ci := 6) (q0 := 2) rfl rfl) rfl hl.1 rfl (Nat.le_of_ble_eq_true rfl) dX8_readItem_62 ⟨Nat.zero_le _, Nat.zero_le _⟩ [0, 1, 3, 4, 5, 6, 2] (by decide) rfl (fun H locs hP hD hS => ?_)
        refine lv_goto (tgt := 150) hx hb dX8_readItem_65 (by decide) ?_
        exact bl_b150 t_fault_18 t_next_19 t_tokenAt_20 t_tokenIs_21 t_tokenValue_22 o1_sections_24 o1_things o1_noteTold o1_toldSection o1_toldBar o1_lengths_25 o1_times_26 o1_players_27 o1_minutes _ _ _ hP hD hS (lv_sub hl [4] rfl) h
  have h := hm
  unfold mi_X8_readItem at h
  refine lv_aload_n hx hb dX8_readItem_0 rfl (lv_at hl 0 rfl) ?_
  refine va_get (D := D) (ci := 8) (v := .int t_tokenIs) (C := RX8) (T := TX8) (N := 7) hx hb hts hi_X8 hown hK hP 0 rfl rfl 5 (by decide) (hts (.fieldLink RX8 33 "TriangleRest$Text" "tokenIs" "I") (List.mem_of_getElem? (i := 1) rfl)) (fun _ h9 => h9) rfl dX8_readItem_1 ?_
  refine lv_iconst (v := (1 : Int32)) hx hb dX8_readItem_4 (by decide) ?_
  refine lv_icmp_ne (tgt := 15) hx hb dX8_readItem_5 (by decide) (fun c71 => ?_) (fun c71 => ?_)
  · have h := jx_f h c71
    refine lv_iconst (v := (0 : Int32)) hx hb dX8_readItem_15 (by decide) ?_
    exact bl_b16 (0 : Int32) t_fault t_next t_tokenAt t_tokenIs t_tokenValue o1_sections o1_things o1_noteTold o1_toldSection o1_toldBar o1_lengths o1_times o1_players o1_minutes _ _ _ hP hD hS (lv_sub hl [0, 1] rfl) h
  · have h := jx_t h c71
    refine lv_aload_n hx hb dX8_readItem_8 rfl (lv_at hl 0 rfl) ?_
    refine va_get (D := D) (ci := 8) (v := .int t_tokenValue) (C := RX8) (T := TX8) (N := 7) hx hb hts hi_X8 hown hK hP 0 rfl rfl 6 (by decide) (hts (.fieldLink RX8 40 "TriangleRest$Text" "tokenValue" "I") (List.mem_of_getElem? (i := 2) rfl)) (fun _ h9 => h9) rfl dX8_readItem_9 ?_
    refine lv_goto (tgt := 16) hx hb dX8_readItem_12 (by decide) ?_
    exact bl_b16 t_tokenValue t_fault t_next t_tokenAt t_tokenIs t_tokenValue o1_sections o1_things o1_noteTold o1_toldSection o1_toldBar o1_lengths o1_times o1_players o1_minutes _ _ _ hP hD hS (lv_sub hl [0, 1] rfl) h
def mi_X8_tellTo_l20 (t_size : Int32) (t_bytes : Nat → Int32) : Nat → Int32 → Int32 → Int32 → Int32 → Int32 → Int32 → Int32 → Int32 → Int32 → Int32 → Int32 → (Nat → Int32) → (Nat → Int32) → (Nat → Int32) → (Nat → Int32) → Option (Int32 × Int32 × Int32 × Int32 × Int32 × Int32 × Int32 × Int32 × Int32 × Int32 × Int32 × (Nat → Int32) × (Nat → Int32) × (Nat → Int32) × (Nat → Int32))
  | 0, _, _, _, _, _, _, _, _, _, _, _, _, _, _, _ => none
  | n + 1, x2, t_fault, t_next, t_tokenAt, t_tokenIs, t_tokenValue, o1_sections, o1_things, o1_noteTold, o1_toldSection, o1_toldBar, o1_lengths, o1_times, o1_players, o1_minutes => if t_tokenIs = 0 then (some (x2, t_fault, t_next, t_tokenAt, t_tokenIs, t_tokenValue, o1_sections, o1_things, o1_noteTold, o1_toldSection, o1_toldBar, o1_lengths, o1_times, o1_players, o1_minutes)) else (if t_fault = (-1 : Int32) then (if (120 : Int32) ≤ x2 then (some (x2, t_fault, t_next, t_tokenAt, t_tokenIs, t_tokenValue, o1_sections, o1_things, o1_noteTold, o1_toldSection, o1_toldBar, o1_lengths, o1_times, o1_players, o1_minutes)) else (jx_b14 (mi_X8_readItem t_size t_fault t_next t_tokenAt t_tokenIs t_tokenValue t_bytes o1_sections o1_things o1_noteTold o1_toldSection o1_toldBar o1_lengths o1_times o1_players o1_minutes) fun t_fault_4 t_next_5 t_tokenAt_6 t_tokenIs_7 t_tokenValue_8 o1_sections_9 o1_things_10 o1_noteTold_11 o1_toldSection_12 o1_toldBar_13 o1_lengths_14 o1_times_15 o1_players_16 o1_minutes_17 => (jx_b4 (mi_X8_readToken t_size t_next_5 t_tokenAt_6 t_tokenIs_7 t_tokenValue_8 t_bytes) fun t_next_19 t_tokenAt_20 t_tokenIs_21 t_tokenValue_22 => (mi_X8_tellTo_l20 t_size t_bytes n (x2 + 1) t_fault_4 t_next_19 t_tokenAt_20 t_tokenIs_21 t_tokenValue_22 o1_sections_9 o1_things_10 o1_noteTold_11 o1_toldSection_12 o1_toldBar_13 o1_lengths_14 o1_times_15 o1_players_16 o1_minutes_17)))) else (some (x2, t_fault, t_next, t_tokenAt, t_tokenIs, t_tokenValue, o1_sections, o1_things, o1_noteTold, o1_toldSection, o1_toldBar, o1_lengths, o1_times, o1_players, o1_minutes)))
def mi_X8_tellTo (t_size : Int32) (t_tokenAt : Int32) (t_tokenIs : Int32) (t_tokenValue : Int32) (t_bytes : Nat → Int32) (o1_lengths : Nat → Int32) (o1_times : Nat → Int32) (o1_players : Nat → Int32) (o1_minutes : Nat → Int32) : Option (Int32 × Int32 × Int32 × Int32 × Int32 × Int32 × Int32 × Int32 × Int32 × Int32 × Int32 × (Nat → Int32) × (Nat → Int32) × (Nat → Int32) × (Nat → Int32)) := jx_b5 (mi_X6_begin) fun o1_sections_24 o1_things_25 o1_noteTold_26 o1_toldSection_27 o1_toldBar_28 => (jx_b4 (mi_X8_readToken t_size (0 : Int32) t_tokenAt t_tokenIs t_tokenValue t_bytes) fun t_next_30 t_tokenAt_31 t_tokenIs_32 t_tokenValue_33 => (mi_X8_tellTo_l20 t_size t_bytes jx_F (0 : Int32) (-1 : Int32) t_next_30 t_tokenAt_31 t_tokenIs_32 t_tokenValue_33 o1_sections_24 o1_things_25 o1_noteTold_26 o1_toldSection_27 o1_toldBar_28 o1_lengths o1_times o1_players o1_minutes))
abbrev rm_X8_tellTo : Room := { frames := 5, cells := 0, slots := 0, locals := 112 }
set_option maxRecDepth 100000 in
set_option maxHeartbeats 4000000 in
theorem ct_X8_tellTo (l : Launch) (D : va_G) (cI cZ cO : ClassId) (a_t a_o1 a_t_bytes a_o1_lengths a_o1_times a_o1_players a_o1_minutes : Nat) (sz : Nat) (t_size : Int32) (t_fault : Int32) (t_next : Int32) (t_tokenAt : Int32) (t_tokenIs : Int32) (t_tokenValue : Int32) (t_bytes : Nat → Int32) (o1_sections : Int32) (o1_things : Int32) (o1_noteTold : Int32) (o1_toldSection : Int32) (o1_toldBar : Int32) (o1_lengths : Nat → Int32) (o1_times : Nat → Int32) (o1_players : Nat → Int32) (o1_minutes : Nat → Int32) (r : Int32) (z_t_fault : Int32) (z_t_next : Int32) (z_t_tokenAt : Int32) (z_t_tokenIs : Int32) (z_t_tokenValue : Int32) (z_o1_sections : Int32) (z_o1_things : Int32) (z_o1_noteTold : Int32) (z_o1_toldSection : Int32) (z_o1_toldBar : Int32) (z_o1_lengths : Nat → Int32) (z_o1_times : Nat → Int32) (z_o1_players : Nat → Int32) (z_o1_minutes : Nat → Int32) (hm : mi_X8_tellTo t_size t_tokenAt t_tokenIs t_tokenValue t_bytes o1_lengths o1_times o1_players o1_minutes = some (r, z_t_fault, z_t_next, z_t_tokenAt, z_t_tokenIs, z_t_tokenValue, z_o1_sections, z_o1_things, z_o1_noteTold, z_o1_toldSection, z_o1_toldBar, z_o1_lengths, z_o1_times, z_o1_players, z_o1_minutes)) : Met l yX8_tellTo wsX8_tellTo rm_X8_tellTo (va_Pc [.ref a_t, .ref a_o1] (jx_W D (jx_T cI cZ cO) sz [(a_t, .inr (8, [.ref a_t_bytes, .int t_size, .int t_fault, .int t_next, .int t_tokenAt, .int t_tokenIs, .int t_tokenValue])), (a_t_bytes, .inl (cI, 120, .inl t_bytes)), (a_o1, .inr (6, [.ref a_o1_lengths, .ref a_o1_times, .ref a_o1_players, .ref a_o1_minutes, .int o1_sections, .int o1_things, .int o1_noteTold, .int o1_toldSection, .int o1_toldBar])), (a_o1_lengths, .inl (cI, 8, .inl o1_lengths)), (a_o1_times, .inl (cI, 8, .inl o1_times)), (a_o1_players, .inl (cI, 8, .inl o1_players)), (a_o1_minutes, .inl (cI, 6, .inl o1_minutes))])) (jx_Q (some (.int r)) D [(a_t, .inr (8, [.ref a_t_bytes, .int t_size, .int z_t_fault, .int z_t_next, .int z_t_tokenAt, .int z_t_tokenIs, .int z_t_tokenValue])), (a_t_bytes, .inl (cI, 120, .inl t_bytes)), (a_o1, .inr (6, [.ref a_o1_lengths, .ref a_o1_times, .ref a_o1_players, .ref a_o1_minutes, .int z_o1_sections, .int z_o1_things, .int z_o1_noteTold, .int z_o1_toldSection, .int z_o1_toldBar])), (a_o1_lengths, .inl (cI, 8, .inl z_o1_lengths)), (a_o1_times, .inl (cI, 8, .inl z_o1_times)), (a_o1_players, .inl (cI, 8, .inl z_o1_players)), (a_o1_minutes, .inl (cI, 6, .inl z_o1_minutes))] (va_A [(a_t, .inr (8, [.ref a_t_bytes, .int t_size, .int t_fault, .int t_next, .int t_tokenAt, .int t_tokenIs, .int t_tokenValue])), (a_t_bytes, .inl (cI, 120, .inl t_bytes)), (a_o1, .inr (6, [.ref a_o1_lengths, .ref a_o1_times, .ref a_o1_players, .ref a_o1_minutes, .int o1_sections, .int o1_things, .int o1_noteTold, .int o1_toldSection, .int o1_toldBar])), (a_o1_lengths, .inl (cI, 8, .inl o1_lengths)), (a_o1_times, .inl (cI, 8, .inl o1_times)), (a_o1_players, .inl (cI, 8, .inl o1_players)), (a_o1_minutes, .inl (cI, 6, .inl o1_minutes))] sz)) 0 0 (va_A [(a_t, .inr (8, [.ref a_t_bytes, .int t_size, .int t_fault, .int t_next, .int t_tokenAt, .int t_tokenIs, .int t_tokenValue])), (a_t_bytes, .inl (cI, 120, .inl t_bytes)), (a_o1, .inr (6, [.ref a_o1_lengths, .ref a_o1_times, .ref a_o1_players, .ref a_o1_minutes, .int o1_sections, .int o1_things, .int o1_noteTold, .int o1_toldSection, .int o1_toldBar])), (a_o1_lengths, .inl (cI, 8, .inl o1_lengths)), (a_o1_times, .inl (cI, 8, .inl o1_times)), (a_o1_players, .inl (cI, 8, .inl o1_players)), (a_o1_minutes, .inl (cI, 6, .inl o1_minutes))] sz) := by
  refine jx_metW (ty := .int) (own := RX8) (cc := cX8_tellTo) (maxL := 3) (by decide) rfl rfl (Nat.le_of_ble_eq_true rfl) ?_
  intro p e s m args below meth c Q ls A hx hb hml hown hts hK hN hA hP hD hS hl hret
  have hi_X8 : ∀ w ∈ u_ws RX8 TX8 7, w ∈ wsX8_tellTo := by decide +kernel
  have hl : lv_has ls 3 [(0, .ref a_t), (1, .ref a_o1)] := hl
  have bl_l20 : ∀ (n : Nat) (x2 : Int32) (t_fault : Int32) (t_next : Int32) (t_tokenAt : Int32) (t_tokenIs : Int32) (t_tokenValue : Int32) (o1_sections : Int32) (o1_things : Int32) (o1_noteTold : Int32) (o1_toldSection : Int32) (o1_toldBar : Int32) (o1_lengths : Nat → Int32) (o1_times : Nat → Int32) (o1_players : Nat → Int32) (o1_minutes : Nat → Int32) (H : Heap) (locs : List Loc) (ls : Array Slot), va_P D vwCl [(a_t, .inr (8, [.ref a_t_bytes, .int t_size, .int t_fault, .int t_next, .int t_tokenAt, .int t_tokenIs, .int t_tokenValue])), (a_t_bytes, .inl (cI, 120, .inl t_bytes)), (a_o1, .inr (6, [.ref a_o1_lengths, .ref a_o1_times, .ref a_o1_players, .ref a_o1_minutes, .int o1_sections, .int o1_things, .int o1_noteTold, .int o1_toldSection, .int o1_toldBar])), (a_o1_lengths, .inl (cI, 8, .inl o1_lengths)), (a_o1_times, .inl (cI, 8, .inl o1_times)), (a_o1_players, .inl (cI, 8, .inl o1_players)), (a_o1_minutes, .inl (cI, 6, .inl o1_minutes))] H → va_D A [(a_t, .inr (8, [.ref a_t_bytes, .int t_size, .int t_fault, .int t_next, .int t_tokenAt, .int t_tokenIs, .int t_tokenValue])), (a_t_bytes, .inl (cI, 120, .inl t_bytes)), (a_o1, .inr (6, [.ref a_o1_lengths, .ref a_o1_times, .ref a_o1_players, .ref a_o1_minutes, .int o1_sections, .int o1_things, .int o1_noteTold, .int o1_toldSection, .int o1_toldBar])), (a_o1_lengths, .inl (cI, 8, .inl o1_lengths)), (a_o1_times, .inl (cI, 8, .inl o1_times)), (a_o1_players, .inl (cI, 8, .inl o1_players)), (a_o1_minutes, .inl (cI, 6, .inl o1_minutes))] → va_S A s.heap H locs → lv_has ls 3 [(0, .ref a_t), (1, .ref a_o1), (2, .int x2)] → mi_X8_tellTo_l20 t_size t_bytes n x2 t_fault t_next t_tokenAt t_tokenIs t_tokenValue o1_sections o1_things o1_noteTold o1_toldSection o1_toldBar o1_lengths o1_times o1_players o1_minutes = some (r, z_t_fault, z_t_next, z_t_tokenAt, z_t_tokenIs, z_t_tokenValue, z_o1_sections, z_o1_things, z_o1_noteTold, z_o1_toldSection, z_o1_toldBar, z_o1_lengths, z_o1_times, z_o1_players, z_o1_minutes) → W p l e (headSpec wsX8_tellTo rm_X8_tellTo).room s m args below meth c H locs 0 0 Q (F0 m 20 ls []) := by
    intro n
    induction n with
    | zero =>
      intro x2 t_fault t_next t_tokenAt t_tokenIs t_tokenValue o1_sections o1_things o1_noteTold o1_toldSection o1_toldBar o1_lengths o1_times o1_players o1_minutes H locs ls hP hD hS hl h
      rw [mi_X8_tellTo_l20] at h
      cases h
    | succ n_l20 ih_l20 =>
      intro x2 t_fault t_next t_tokenAt t_tokenIs t_tokenValue o1_sections o1_things o1_noteTold o1_toldSection o1_toldBar o1_lengths o1_times o1_players o1_minutes H locs ls hP hD hS hl h
      rw [mi_X8_tellTo_l20] at h
      refine lv_aload_n hx hb dX8_tellTo_20 rfl (lv_at hl 0 rfl) ?_
      refine va_get (D := D) (ci := 8) (v := .int t_tokenIs) (C := RX8) (T := TX8) (N := 7) hx hb hts hi_X8 hown hK hP 0 rfl rfl 5 (by decide) (hts (.fieldLink RX8 33 "TriangleRest$Text" "tokenIs" "I") (List.mem_of_getElem? (i := 3) rfl)) (fun _ h9 => h9) rfl dX8_tellTo_21 ?_
      refine lv_if_eq (tgt := 56) hx hb dX8_tellTo_24 (by decide) (fun c1 => ?_) (fun c1 => ?_)
      · have h := jx_t h c1
        refine lv_iload_n hx hb dX8_tellTo_56 rfl (lv_at hl 2 rfl) ?_
        have hq_0 := Option.some.inj h
        obtain ⟨hz_1, hq_1⟩ := Prod.mk.inj hq_0
        obtain ⟨hz_2, hq_2⟩ := Prod.mk.inj hq_1
        obtain ⟨hz_3, hq_3⟩ := Prod.mk.inj hq_2
        obtain ⟨hz_4, hq_4⟩ := Prod.mk.inj hq_3
        obtain ⟨hz_5, hq_5⟩ := Prod.mk.inj hq_4
        obtain ⟨hz_6, hq_6⟩ := Prod.mk.inj hq_5
        obtain ⟨hz_7, hq_7⟩ := Prod.mk.inj hq_6
        obtain ⟨hz_8, hq_8⟩ := Prod.mk.inj hq_7
        obtain ⟨hz_9, hq_9⟩ := Prod.mk.inj hq_8
        obtain ⟨hz_10, hq_10⟩ := Prod.mk.inj hq_9
        obtain ⟨hz_11, hq_11⟩ := Prod.mk.inj hq_10
        obtain ⟨hz_12, hq_12⟩ := Prod.mk.inj hq_11
        obtain ⟨hz_13, hq_13⟩ := Prod.mk.inj hq_12
        obtain ⟨hz_14, hq_14⟩ := Prod.mk.inj hq_13
        subst hz_1
        subst hz_2
        subst hz_3
        subst hz_4
        subst hz_5
        subst hz_6
        subst hz_7
        subst hz_8
        subst hz_9
        subst hz_10
        subst hz_11
        subst hz_12
        subst hz_13
        subst hz_14
        subst hq_14
        exact hret 57 ls _ _ hP hD hS rfl dX8_tellTo_57
      · have h := jx_f h c1
        refine lv_aload_n hx hb dX8_tellTo_27 rfl (lv_at hl 0 rfl) ?_
        refine va_get (D := D) (ci := 8) (v := .int t_fault) (C := RX8) (T := TX8) (N := 7) hx hb hts hi_X8 hown hK hP 0 rfl rfl 2 (by decide) (hts (.fieldLink RX8 15 "TriangleRest$Text" "fault" "I") (List.mem_of_getElem? (i := 1) rfl)) (fun _ h9 => h9) rfl dX8_tellTo_28 ?_
        refine lv_iconst (v := (-1 : Int32)) hx hb dX8_tellTo_31 (by decide) ?_
        refine lv_icmp_ne (tgt := 56) hx hb dX8_tellTo_32 (by decide) (fun c2 => ?_) (fun c2 => ?_)
        · have h := jx_f h c2
          refine lv_iload_n hx hb dX8_tellTo_56 rfl (lv_at hl 2 rfl) ?_
          have hq_0 := Option.some.inj h
          obtain ⟨hz_1, hq_1⟩ := Prod.mk.inj hq_0
          obtain ⟨hz_2, hq_2⟩ := Prod.mk.inj hq_1
          obtain ⟨hz_3, hq_3⟩ := Prod.mk.inj hq_2
          obtain ⟨hz_4, hq_4⟩ := Prod.mk.inj hq_3
          obtain ⟨hz_5, hq_5⟩ := Prod.mk.inj hq_4
          obtain ⟨hz_6, hq_6⟩ := Prod.mk.inj hq_5
          obtain ⟨hz_7, hq_7⟩ := Prod.mk.inj hq_6
          obtain ⟨hz_8, hq_8⟩ := Prod.mk.inj hq_7
          obtain ⟨hz_9, hq_9⟩ := Prod.mk.inj hq_8
          obtain ⟨hz_10, hq_10⟩ := Prod.mk.inj hq_9
          obtain ⟨hz_11, hq_11⟩ := Prod.mk.inj hq_10
          obtain ⟨hz_12, hq_12⟩ := Prod.mk.inj hq_11
          obtain ⟨hz_13, hq_13⟩ := Prod.mk.inj hq_12
          obtain ⟨hz_14, hq_14⟩ := Prod.mk.inj hq_13
          subst hz_1
          subst hz_2
          subst hz_3
          subst hz_4
          subst hz_5
          subst hz_6
          subst hz_7
          subst hz_8
          subst hz_9
          subst hz_10
          subst hz_11
          subst hz_12
          subst hz_13
          subst hz_14
          subst hq_14
          exact hret 57 ls _ _ hP hD hS rfl dX8_tellTo_57
        · have h := jx_t h c2
          refine lv_iload_n hx hb dX8_tellTo_35 rfl (lv_at hl 2 rfl) ?_
          refine lv_bipush (v := (120 : Int32)) hx hb dX8_tellTo_36 (by decide) ?_
          refine lv_icmp_ge (tgt := 56) hx hb dX8_tellTo_38 (by decide) (fun c3 => ?_) (fun c3 => ?_)
          · have h := jx_t h c3
            refine lv_iload_n hx hb dX8_tellTo_56 rfl (lv_at hl 2 rfl) ?_
            have hq_0 := Option.some.inj h
            obtain ⟨hz_1, hq_1⟩ := Prod.mk.inj hq_0
            obtain ⟨hz_2, hq_2⟩ := Prod.mk.inj hq_1
            obtain ⟨hz_3, hq_3⟩ := Prod.mk.inj hq_2
            obtain ⟨hz_4, hq_4⟩ := Prod.mk.inj hq_3
            obtain ⟨hz_5, hq_5⟩ := Prod.mk.inj hq_4
            obtain ⟨hz_6, hq_6⟩ := Prod.mk.inj hq_5
            obtain ⟨hz_7, hq_7⟩ := Prod.mk.inj hq_6
            obtain ⟨hz_8, hq_8⟩ := Prod.mk.inj hq_7
            obtain ⟨hz_9, hq_9⟩ := Prod.mk.inj hq_8
            obtain ⟨hz_10, hq_10⟩ := Prod.mk.inj hq_9
            obtain ⟨hz_11, hq_11⟩ := Prod.mk.inj hq_10
            obtain ⟨hz_12, hq_12⟩ := Prod.mk.inj hq_11
            obtain ⟨hz_13, hq_13⟩ := Prod.mk.inj hq_12
            obtain ⟨hz_14, hq_14⟩ := Prod.mk.inj hq_13
            subst hz_1
            subst hz_2
            subst hz_3
            subst hz_4
            subst hz_5
            subst hz_6
            subst hz_7
            subst hz_8
            subst hz_9
            subst hz_10
            subst hz_11
            subst hz_12
            subst hz_13
            subst hz_14
            subst hq_14
            exact hret 57 ls _ _ hP hD hS rfl dX8_tellTo_57
          · have h := jx_f h c3
            refine lv_aload_n hx hb dX8_tellTo_41 rfl (lv_at hl 0 rfl) ?_
            refine lv_aload_n hx hb dX8_tellTo_42 rfl (lv_at hl 1 rfl) ?_
            obtain ⟨t_fault_4, t_next_5, t_tokenAt_6, t_tokenIs_7, t_tokenValue_8, o1_sections_9, o1_things_10, o1_noteTold_11, o1_toldSection_12, o1_toldBar_13, o1_lengths_14, o1_times_15, o1_players_16, o1_minutes_17, e18, h⟩ := jx_b14_of h
            refine jx_cW (o := none) (As := [.ref a_o1]) (rest := []) (b := a_t) (wr := []) (wd' := [(a_t, .inr (8, [.ref a_t_bytes, .int t_size, .int t_fault_4, .int t_next_5, .int t_tokenAt_6, .int t_tokenIs_7, .int t_tokenValue_8])), (a_t_bytes, .inl (cI, 120, .inl t_bytes)), (a_o1, .inr (6, [.ref a_o1_lengths, .ref a_o1_times, .ref a_o1_players, .ref a_o1_minutes, .int o1_sections_9, .int o1_things_10, .int o1_noteTold_11, .int o1_toldSection_12, .int o1_toldBar_13])), (a_o1_lengths, .inl (cI, 8, .inl o1_lengths_14)), (a_o1_times, .inl (cI, 8, .inl o1_times_15)), (a_o1_players, .inl (cI, 8, .inl o1_players_16)), (a_o1_minutes, .inl (cI, 6, .inl o1_minutes_17))]) ⟨hx, hb, hml, hown, hts⟩ (ct_X8_readItem l D cI cZ cO a_t a_o1 a_t_bytes a_o1_lengths a_o1_times a_o1_players a_o1_minutes H.size t_size t_fault t_next t_tokenAt t_tokenIs t_tokenValue t_bytes o1_sections o1_things o1_noteTold o1_toldSection o1_toldBar o1_lengths o1_times o1_players o1_minutes t_fault_4 t_next_5 t_tokenAt_6 t_tokenIs_7 t_tokenValue_8 o1_sections_9 o1_things_10 o1_noteTold_11 o1_toldSection_12 o1_toldBar_13 o1_lengths_14 o1_times_15 o1_players_16 o1_minutes_17 e18) (cwV 1 hts gX8_tellTo_X8_readItem rfl rfl rfl (by decide +kernel) ⟨Nat.le_of_ble_eq_true rfl, Nat.le_of_ble_eq_true rfl⟩) hK hN hP hD hS hA [0, 1, 2, 3, 4, 5, 6] [] (by decide) rfl rfl (by decide) (by decide) rfl (va_recv hK hP (ci := 8) (q0 := 0) rfl rfl) rfl hl.1 rfl (Nat.le_of_ble_eq_true rfl) dX8_tellTo_43 ⟨Nat.zero_le _, Nat.zero_le _⟩ [0, 1, 2, 3, 4, 5, 6] (by decide) rfl (fun H locs hP hD hS => ?_)
            refine lv_iinc (v := (x2 + 1)) (lv' := [(2, .int (x2 + 1)), (0, .ref a_t), (1, .ref a_o1)]) hx hb dX8_tellTo_46 hl (k := 2) rfl rfl (by decide) rfl (fun ls hl => ?_)
            refine lv_aload_n hx hb dX8_tellTo_49 rfl (lv_at hl 1 rfl) ?_
            obtain ⟨t_next_19, t_tokenAt_20, t_tokenIs_21, t_tokenValue_22, e23, h⟩ := jx_b4_of h
            refine jx_cW (o := none) (As := []) (rest := []) (b := a_t) (wr := [(a_o1, .inr (6, [.ref a_o1_lengths, .ref a_o1_times, .ref a_o1_players, .ref a_o1_minutes, .int o1_sections_9, .int o1_things_10, .int o1_noteTold_11, .int o1_toldSection_12, .int o1_toldBar_13])), (a_o1_lengths, .inl (cI, 8, .inl o1_lengths_14)), (a_o1_times, .inl (cI, 8, .inl o1_times_15)), (a_o1_players, .inl (cI, 8, .inl o1_players_16)), (a_o1_minutes, .inl (cI, 6, .inl o1_minutes_17))]) (wd' := [(a_t, .inr (8, [.ref a_t_bytes, .int t_size, .int t_fault_4, .int t_next_19, .int t_tokenAt_20, .int t_tokenIs_21, .int t_tokenValue_22])), (a_t_bytes, .inl (cI, 120, .inl t_bytes)), (a_o1, .inr (6, [.ref a_o1_lengths, .ref a_o1_times, .ref a_o1_players, .ref a_o1_minutes, .int o1_sections_9, .int o1_things_10, .int o1_noteTold_11, .int o1_toldSection_12, .int o1_toldBar_13])), (a_o1_lengths, .inl (cI, 8, .inl o1_lengths_14)), (a_o1_times, .inl (cI, 8, .inl o1_times_15)), (a_o1_players, .inl (cI, 8, .inl o1_players_16)), (a_o1_minutes, .inl (cI, 6, .inl o1_minutes_17))]) ⟨hx, hb, hml, hown, hts⟩ (ct_X8_readToken l D cI cZ cO a_t a_t_bytes H.size t_size t_fault_4 t_next_5 t_tokenAt_6 t_tokenIs_7 t_tokenValue_8 t_bytes t_next_19 t_tokenAt_20 t_tokenIs_21 t_tokenValue_22 e23) (cwV 0 hts gX8_tellTo_X8_readToken rfl rfl rfl (by decide +kernel) ⟨Nat.le_of_ble_eq_true rfl, Nat.le_of_ble_eq_true rfl⟩) hK hN hP hD hS hA [0, 1] [2, 3, 4, 5, 6] (by decide) rfl rfl (by decide) (by decide) rfl (va_recv hK hP (ci := 8) (q0 := 0) rfl rfl) rfl hl.1 rfl (Nat.le_of_ble_eq_true rfl) dX8_tellTo_50 ⟨Nat.zero_le _, Nat.zero_le _⟩ [5, 6, 0, 1, 2, 3, 4] (by decide) rfl (fun H locs hP hD hS => ?_)
            refine lv_goto (tgt := 20) hx hb dX8_tellTo_53 (by decide) ?_
            exact ih_l20 (x2 + 1) t_fault_4 t_next_19 t_tokenAt_20 t_tokenIs_21 t_tokenValue_22 o1_sections_9 o1_things_10 o1_noteTold_11 o1_toldSection_12 o1_toldBar_13 o1_lengths_14 o1_times_15 o1_players_16 o1_minutes_17 _ _ _ hP hD hS (lv_sub hl [1, 2, 0] rfl) h
  have h := hm
  unfold mi_X8_tellTo at h
  refine lv_aload_n hx hb dX8_tellTo_0 rfl (lv_at hl 1 rfl) ?_
  obtain ⟨o1_sections_24, o1_things_25, o1_noteTold_26, o1_toldSection_27, o1_toldBar_28, e29, h⟩ := jx_b5_of h
  refine jx_cW (o := none) (As := []) (rest := []) (b := a_o1) (wr := [(a_t, .inr (8, [.ref a_t_bytes, .int t_size, .int t_fault, .int t_next, .int t_tokenAt, .int t_tokenIs, .int t_tokenValue])), (a_t_bytes, .inl (cI, 120, .inl t_bytes)), (a_o1_lengths, .inl (cI, 8, .inl o1_lengths)), (a_o1_times, .inl (cI, 8, .inl o1_times)), (a_o1_players, .inl (cI, 8, .inl o1_players)), (a_o1_minutes, .inl (cI, 6, .inl o1_minutes))]) (wd' := [(a_t, .inr (8, [.ref a_t_bytes, .int t_size, .int t_fault, .int t_next, .int t_tokenAt, .int t_tokenIs, .int t_tokenValue])), (a_t_bytes, .inl (cI, 120, .inl t_bytes)), (a_o1, .inr (6, [.ref a_o1_lengths, .ref a_o1_times, .ref a_o1_players, .ref a_o1_minutes, .int o1_sections_24, .int o1_things_25, .int o1_noteTold_26, .int o1_toldSection_27, .int o1_toldBar_28])), (a_o1_lengths, .inl (cI, 8, .inl o1_lengths)), (a_o1_times, .inl (cI, 8, .inl o1_times)), (a_o1_players, .inl (cI, 8, .inl o1_players)), (a_o1_minutes, .inl (cI, 6, .inl o1_minutes))]) ⟨hx, hb, hml, hown, hts⟩ (ct_X6_begin l D cI cZ cO a_o1 a_o1_lengths a_o1_times a_o1_players a_o1_minutes s.heap.size o1_sections o1_things o1_noteTold o1_toldSection o1_toldBar o1_sections_24 o1_things_25 o1_noteTold_26 o1_toldSection_27 o1_toldBar_28 e29) (cwV 0 hts gX8_tellTo_X6_begin rfl rfl rfl (by decide +kernel) ⟨Nat.le_of_ble_eq_true rfl, Nat.le_of_ble_eq_true rfl⟩) hK hN hP hD hS hA [2] [0, 1, 3, 4, 5, 6] (by decide) rfl rfl (by decide) (by decide) rfl (va_recv hK hP (ci := 6) (q0 := 2) rfl rfl) rfl hl.1 rfl (Nat.le_of_ble_eq_true rfl) dX8_tellTo_1 ⟨Nat.zero_le _, Nat.zero_le _⟩ [0, 1, 6, 2, 3, 4, 5] (by decide) rfl (fun H locs hP hD hS => ?_)
  refine lv_aload_n hx hb dX8_tellTo_4 rfl (lv_at hl 0 rfl) ?_
  refine lv_iconst (v := (-1 : Int32)) hx hb dX8_tellTo_5 (by decide) ?_
  refine va_put (D := D) (ci := 8) (v := .int (-1 : Int32)) (ty := .int) (C := RX8) (T := TX8) (N := 7) hx hb hts hi_X8 tyX8 tyX8_ok nmX8 hown hK hP hD hS 0 rfl rfl 2 (by decide) (hts (.fieldLink RX8 15 "TriangleRest$Text" "fault" "I") (List.mem_of_getElem? (i := 1) rfl)) (fun _ h9 => h9) rfl (by decide +kernel) rfl rfl (Nat.le_of_ble_eq_true rfl) dX8_tellTo_6 (fun H locs hP hD hS => ?_)
  have hP : va_P D vwCl [(a_t, .inr (8, [.ref a_t_bytes, .int t_size, .int (-1 : Int32), .int t_next, .int t_tokenAt, .int t_tokenIs, .int t_tokenValue])), (a_t_bytes, .inl (cI, 120, .inl t_bytes)), (a_o1, .inr (6, [.ref a_o1_lengths, .ref a_o1_times, .ref a_o1_players, .ref a_o1_minutes, .int o1_sections_24, .int o1_things_25, .int o1_noteTold_26, .int o1_toldSection_27, .int o1_toldBar_28])), (a_o1_lengths, .inl (cI, 8, .inl o1_lengths)), (a_o1_times, .inl (cI, 8, .inl o1_times)), (a_o1_players, .inl (cI, 8, .inl o1_players)), (a_o1_minutes, .inl (cI, 6, .inl o1_minutes))] H := hP
  have hD : va_D A [(a_t, .inr (8, [.ref a_t_bytes, .int t_size, .int (-1 : Int32), .int t_next, .int t_tokenAt, .int t_tokenIs, .int t_tokenValue])), (a_t_bytes, .inl (cI, 120, .inl t_bytes)), (a_o1, .inr (6, [.ref a_o1_lengths, .ref a_o1_times, .ref a_o1_players, .ref a_o1_minutes, .int o1_sections_24, .int o1_things_25, .int o1_noteTold_26, .int o1_toldSection_27, .int o1_toldBar_28])), (a_o1_lengths, .inl (cI, 8, .inl o1_lengths)), (a_o1_times, .inl (cI, 8, .inl o1_times)), (a_o1_players, .inl (cI, 8, .inl o1_players)), (a_o1_minutes, .inl (cI, 6, .inl o1_minutes))] := hD
  refine lv_aload_n hx hb dX8_tellTo_9 rfl (lv_at hl 0 rfl) ?_
  refine lv_iconst (v := (0 : Int32)) hx hb dX8_tellTo_10 (by decide) ?_
  refine va_put (D := D) (ci := 8) (v := .int (0 : Int32)) (ty := .int) (C := RX8) (T := TX8) (N := 7) hx hb hts hi_X8 tyX8 tyX8_ok nmX8 hown hK hP hD hS 0 rfl rfl 3 (by decide) (hts (.fieldLink RX8 27 "TriangleRest$Text" "next" "I") (List.mem_of_getElem? (i := 2) rfl)) (fun _ h9 => h9) rfl (by decide +kernel) rfl rfl (Nat.le_of_ble_eq_true rfl) dX8_tellTo_11 (fun H locs hP hD hS => ?_)
  have hP : va_P D vwCl [(a_t, .inr (8, [.ref a_t_bytes, .int t_size, .int (-1 : Int32), .int (0 : Int32), .int t_tokenAt, .int t_tokenIs, .int t_tokenValue])), (a_t_bytes, .inl (cI, 120, .inl t_bytes)), (a_o1, .inr (6, [.ref a_o1_lengths, .ref a_o1_times, .ref a_o1_players, .ref a_o1_minutes, .int o1_sections_24, .int o1_things_25, .int o1_noteTold_26, .int o1_toldSection_27, .int o1_toldBar_28])), (a_o1_lengths, .inl (cI, 8, .inl o1_lengths)), (a_o1_times, .inl (cI, 8, .inl o1_times)), (a_o1_players, .inl (cI, 8, .inl o1_players)), (a_o1_minutes, .inl (cI, 6, .inl o1_minutes))] H := hP
  have hD : va_D A [(a_t, .inr (8, [.ref a_t_bytes, .int t_size, .int (-1 : Int32), .int (0 : Int32), .int t_tokenAt, .int t_tokenIs, .int t_tokenValue])), (a_t_bytes, .inl (cI, 120, .inl t_bytes)), (a_o1, .inr (6, [.ref a_o1_lengths, .ref a_o1_times, .ref a_o1_players, .ref a_o1_minutes, .int o1_sections_24, .int o1_things_25, .int o1_noteTold_26, .int o1_toldSection_27, .int o1_toldBar_28])), (a_o1_lengths, .inl (cI, 8, .inl o1_lengths)), (a_o1_times, .inl (cI, 8, .inl o1_times)), (a_o1_players, .inl (cI, 8, .inl o1_players)), (a_o1_minutes, .inl (cI, 6, .inl o1_minutes))] := hD
  refine lv_iconst (v := (0 : Int32)) hx hb dX8_tellTo_14 (by decide) ?_
  refine lv_istore_n (lv' := [(2, .int (0 : Int32)), (0, .ref a_t), (1, .ref a_o1)]) hx hb dX8_tellTo_15 rfl hl (by decide) rfl (fun ls hl => ?_)
  refine lv_aload_n hx hb dX8_tellTo_16 rfl (lv_at hl 1 rfl) ?_
  obtain ⟨t_next_30, t_tokenAt_31, t_tokenIs_32, t_tokenValue_33, e34, h⟩ := jx_b4_of h
  refine jx_cW (o := none) (As := []) (rest := []) (b := a_t) (wr := [(a_o1, .inr (6, [.ref a_o1_lengths, .ref a_o1_times, .ref a_o1_players, .ref a_o1_minutes, .int o1_sections_24, .int o1_things_25, .int o1_noteTold_26, .int o1_toldSection_27, .int o1_toldBar_28])), (a_o1_lengths, .inl (cI, 8, .inl o1_lengths)), (a_o1_times, .inl (cI, 8, .inl o1_times)), (a_o1_players, .inl (cI, 8, .inl o1_players)), (a_o1_minutes, .inl (cI, 6, .inl o1_minutes))]) (wd' := [(a_t, .inr (8, [.ref a_t_bytes, .int t_size, .int (-1 : Int32), .int t_next_30, .int t_tokenAt_31, .int t_tokenIs_32, .int t_tokenValue_33])), (a_t_bytes, .inl (cI, 120, .inl t_bytes)), (a_o1, .inr (6, [.ref a_o1_lengths, .ref a_o1_times, .ref a_o1_players, .ref a_o1_minutes, .int o1_sections_24, .int o1_things_25, .int o1_noteTold_26, .int o1_toldSection_27, .int o1_toldBar_28])), (a_o1_lengths, .inl (cI, 8, .inl o1_lengths)), (a_o1_times, .inl (cI, 8, .inl o1_times)), (a_o1_players, .inl (cI, 8, .inl o1_players)), (a_o1_minutes, .inl (cI, 6, .inl o1_minutes))]) ⟨hx, hb, hml, hown, hts⟩ (ct_X8_readToken l D cI cZ cO a_t a_t_bytes H.size t_size (-1 : Int32) (0 : Int32) t_tokenAt t_tokenIs t_tokenValue t_bytes t_next_30 t_tokenAt_31 t_tokenIs_32 t_tokenValue_33 e34) (cwV 0 hts gX8_tellTo_X8_readToken rfl rfl rfl (by decide +kernel) ⟨Nat.le_of_ble_eq_true rfl, Nat.le_of_ble_eq_true rfl⟩) hK hN hP hD hS hA [0, 1] [2, 3, 4, 5, 6] (by decide) rfl rfl (by decide) (by decide) rfl (va_recv hK hP (ci := 8) (q0 := 0) rfl rfl) rfl hl.1 rfl (Nat.le_of_ble_eq_true rfl) dX8_tellTo_17 ⟨Nat.zero_le _, Nat.zero_le _⟩ [5, 6, 0, 1, 2, 3, 4] (by decide) rfl (fun H locs hP hD hS => ?_)
  exact bl_l20 jx_F (0 : Int32) (-1 : Int32) t_next_30 t_tokenAt_31 t_tokenIs_32 t_tokenValue_33 o1_sections_24 o1_things_25 o1_noteTold_26 o1_toldSection_27 o1_toldBar_28 o1_lengths o1_times o1_players o1_minutes _ _ _ hP hD hS (lv_sub hl [1, 2, 0] rfl) h
