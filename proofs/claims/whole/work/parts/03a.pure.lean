/-! written by program (wip/whole/gen.py) out of the printed names: each method as a pure function, and its contract -/
def mi_X11_isWithin (p0 : Int32) (p1 : Int32) (p2 : Int32) : Option (Int32) := if p0 < p1 then (some ((0 : Int32))) else (if p2 < p0 then (some ((0 : Int32))) else (some ((1 : Int32))))
abbrev rm_X11_isWithin : Room := { frames := 0, cells := 0, slots := 0, locals := 0 }
set_option maxRecDepth 100000 in
set_option maxHeartbeats 4000000 in
theorem ct_X11_isWithin (l : Launch) (p0 : Int32) (p1 : Int32) (p2 : Int32) (r : Int32) (hm : mi_X11_isWithin p0 p1 p2 = some r) : Met l yX11_isWithin wsX11_isWithin rm_X11_isWithin (fun v _ => v = ([.int p0, .int p1, .int p2] : List Value).toArray) (jx_S (some (.int r))) 0 0 (fun _ => False) := by
  refine jx_metS (ty := .boolean) (own := RX11) (cc := cX11_isWithin) (maxL := 3) (by decide) rfl rfl (Nat.le_of_ble_eq_true rfl) ?_
  intro p e s m args below meth c Q ls hx hb hml hown hts hl hret
  have hl : lv_has ls 3 [(0, .int p0), (1, .int p1), (2, .int p2)] := hl
  have h := hm
  unfold mi_X11_isWithin at h
  refine lv_iload_n hx hb dX11_isWithin_0 rfl (lv_at hl 0 rfl) ?_
  refine lv_iload_n hx hb dX11_isWithin_1 rfl (lv_at hl 1 rfl) ?_
  refine lv_icmp_lt (tgt := 14) hx hb dX11_isWithin_2 (by decide) (fun c1 => ?_) (fun c1 => ?_)
  · have h := jx_t h c1
    refine lv_iconst (v := (0 : Int32)) hx hb dX11_isWithin_14 (by decide) ?_
    cases h
    exact hret 15 ls rfl dX11_isWithin_15
  · have h := jx_f h c1
    refine lv_iload_n hx hb dX11_isWithin_5 rfl (lv_at hl 0 rfl) ?_
    refine lv_iload_n hx hb dX11_isWithin_6 rfl (lv_at hl 2 rfl) ?_
    refine lv_icmp_gt (tgt := 14) hx hb dX11_isWithin_7 (by decide) (fun c2 => ?_) (fun c2 => ?_)
    · have h := jx_t h c2
      refine lv_iconst (v := (0 : Int32)) hx hb dX11_isWithin_14 (by decide) ?_
      cases h
      exact hret 15 ls rfl dX11_isWithin_15
    · have h := jx_f h c2
      refine lv_iconst (v := (1 : Int32)) hx hb dX11_isWithin_10 (by decide) ?_
      refine lv_goto (tgt := 15) hx hb dX11_isWithin_11 (by decide) ?_
      cases h
      exact hret 15 ls rfl dX11_isWithin_15
def mi_X11_isIn (p0 : Int32) (p1 : Int32) : Option (Int32) := if ((p0 >>> (p1 &&& 31)) &&& (1 : Int32)) = (1 : Int32) then (some ((1 : Int32))) else (some ((0 : Int32)))
abbrev rm_X11_isIn : Room := { frames := 0, cells := 0, slots := 0, locals := 0 }
set_option maxRecDepth 100000 in
set_option maxHeartbeats 4000000 in
theorem ct_X11_isIn (l : Launch) (p0 : Int32) (p1 : Int32) (r : Int32) (hm : mi_X11_isIn p0 p1 = some r) : Met l yX11_isIn wsX11_isIn rm_X11_isIn (fun v _ => v = ([.int p0, .int p1] : List Value).toArray) (jx_S (some (.int r))) 0 0 (fun _ => False) := by
  refine jx_metS (ty := .boolean) (own := RX11) (cc := cX11_isIn) (maxL := 2) (by decide) rfl rfl (Nat.le_of_ble_eq_true rfl) ?_
  intro p e s m args below meth c Q ls hx hb hml hown hts hl hret
  have hl : lv_has ls 2 [(0, .int p0), (1, .int p1)] := hl
  have h := hm
  unfold mi_X11_isIn at h
  refine lv_iload_n hx hb dX11_isIn_0 rfl (lv_at hl 0 rfl) ?_
  refine lv_iload_n hx hb dX11_isIn_1 rfl (lv_at hl 1 rfl) ?_
  refine lv_ishr hx hb dX11_isIn_2 ?_
  refine lv_iconst (v := (1 : Int32)) hx hb dX11_isIn_3 (by decide) ?_
  refine lv_iand hx hb dX11_isIn_4 ?_
  refine lv_iconst (v := (1 : Int32)) hx hb dX11_isIn_5 (by decide) ?_
  refine lv_icmp_ne (tgt := 13) hx hb dX11_isIn_6 (by decide) (fun c1 => ?_) (fun c1 => ?_)
  · have h := jx_f h c1
    refine lv_iconst (v := (0 : Int32)) hx hb dX11_isIn_13 (by decide) ?_
    cases h
    exact hret 14 ls rfl dX11_isIn_14
  · have h := jx_t h c1
    refine lv_iconst (v := (1 : Int32)) hx hb dX11_isIn_9 (by decide) ?_
    refine lv_goto (tgt := 14) hx hb dX11_isIn_10 (by decide) ?_
    cases h
    exact hret 14 ls rfl dX11_isIn_14
def mi_X11_oneIf (p0 : Int32) : Option (Int32) := if p0 = 0 then (some ((0 : Int32))) else (some ((1 : Int32)))
abbrev rm_X11_oneIf : Room := { frames := 0, cells := 0, slots := 0, locals := 0 }
set_option maxRecDepth 100000 in
set_option maxHeartbeats 4000000 in
theorem ct_X11_oneIf (l : Launch) (p0 : Int32) (r : Int32) (hm : mi_X11_oneIf p0 = some r) : Met l yX11_oneIf wsX11_oneIf rm_X11_oneIf (fun v _ => v = ([.int p0] : List Value).toArray) (jx_S (some (.int r))) 0 0 (fun _ => False) := by
  refine jx_metS (ty := .int) (own := RX11) (cc := cX11_oneIf) (maxL := 1) (by decide) rfl rfl (Nat.le_of_ble_eq_true rfl) ?_
  intro p e s m args below meth c Q ls hx hb hml hown hts hl hret
  have hl : lv_has ls 1 [(0, .int p0)] := hl
  have h := hm
  unfold mi_X11_oneIf at h
  refine lv_iload_n hx hb dX11_oneIf_0 rfl (lv_at hl 0 rfl) ?_
  refine lv_if_eq (tgt := 8) hx hb dX11_oneIf_1 (by decide) (fun c1 => ?_) (fun c1 => ?_)
  · have h := jx_t h c1
    refine lv_iconst (v := (0 : Int32)) hx hb dX11_oneIf_8 (by decide) ?_
    cases h
    exact hret 9 ls rfl dX11_oneIf_9
  · have h := jx_f h c1
    refine lv_iconst (v := (1 : Int32)) hx hb dX11_oneIf_4 (by decide) ?_
    refine lv_goto (tgt := 9) hx hb dX11_oneIf_5 (by decide) ?_
    cases h
    exact hret 9 ls rfl dX11_oneIf_9
def mi_X11_greatestDivisor_l7 : Nat → Int32 → Int32 → Int32 → Option (Int32)
  | 0, _, _, _ => none
  | n + 1, x2, x3, x4 => if (64 : Int32) ≤ x4 then (some (x2)) else (if x3 = 0 then (some (x2)) else (jx_g (jx_nz x3) (mi_X11_greatestDivisor_l7 n x3 (x2 - x2 / x3 * x3) (x4 + 1))))
def mi_X11_greatestDivisor (p0 : Int32) (p1 : Int32) : Option (Int32) := mi_X11_greatestDivisor_l7 jx_F p0 p1 (0 : Int32)
abbrev rm_X11_greatestDivisor : Room := { frames := 0, cells := 0, slots := 0, locals := 0 }
set_option maxRecDepth 100000 in
set_option maxHeartbeats 4000000 in
theorem ct_X11_greatestDivisor (l : Launch) (p0 : Int32) (p1 : Int32) (r : Int32) (hm : mi_X11_greatestDivisor p0 p1 = some r) : Met l yX11_greatestDivisor wsX11_greatestDivisor rm_X11_greatestDivisor (fun v _ => v = ([.int p0, .int p1] : List Value).toArray) (jx_S (some (.int r))) 0 0 (fun _ => False) := by
  refine jx_metS (ty := .int) (own := RX11) (cc := cX11_greatestDivisor) (maxL := 6) (by decide) rfl rfl (Nat.le_of_ble_eq_true rfl) ?_
  intro p e s m args below meth c Q ls hx hb hml hown hts hl hret
  have hl : lv_has ls 6 [(0, .int p0), (1, .int p1)] := hl
  have bl_l7 : ∀ (n : Nat) (x2 : Int32) (x3 : Int32) (x4 : Int32) (ls : Array Slot), lv_has ls 6 [(2, .int x2), (3, .int x3), (4, .int x4)] → mi_X11_greatestDivisor_l7 n x2 x3 x4 = some r → W p l e (headSpec wsX11_greatestDivisor rm_X11_greatestDivisor).room s m args below meth c s.heap [] 0 0 Q (F0 m 7 ls []) := by
    intro n
    induction n with
    | zero =>
      intro x2 x3 x4 ls hl h
      rw [mi_X11_greatestDivisor_l7] at h
      cases h
    | succ n_l7 ih_l7 =>
      intro x2 x3 x4 ls hl h
      rw [mi_X11_greatestDivisor_l7] at h
      refine lv_iload hx hb dX11_greatestDivisor_7 (lv_at hl 2 rfl) ?_
      refine lv_bipush (v := (64 : Int32)) hx hb dX11_greatestDivisor_9 (by decide) ?_
      refine lv_icmp_ge (tgt := 34) hx hb dX11_greatestDivisor_11 (by decide) (fun c1 => ?_) (fun c1 => ?_)
      · have h := jx_t h c1
        refine lv_iload_n hx hb dX11_greatestDivisor_34 rfl (lv_at hl 0 rfl) ?_
        cases h
        exact hret 35 ls rfl dX11_greatestDivisor_35
      · have h := jx_f h c1
        refine lv_iload_n hx hb dX11_greatestDivisor_14 rfl (lv_at hl 1 rfl) ?_
        refine lv_if_eq (tgt := 34) hx hb dX11_greatestDivisor_15 (by decide) (fun c2 => ?_) (fun c2 => ?_)
        · have h := jx_t h c2
          refine lv_iload_n hx hb dX11_greatestDivisor_34 rfl (lv_at hl 0 rfl) ?_
          cases h
          exact hret 35 ls rfl dX11_greatestDivisor_35
        · have h := jx_f h c2
          refine lv_iload_n hx hb dX11_greatestDivisor_18 rfl (lv_at hl 0 rfl) ?_
          refine lv_iload_n hx hb dX11_greatestDivisor_19 rfl (lv_at hl 1 rfl) ?_
          obtain ⟨g3, h⟩ := jx_g_of h
          refine lv_irem hx hb dX11_greatestDivisor_20 (jx_nz_of g3) ?_
          refine lv_istore (lv' := [(5, .int (x2 - x2 / x3 * x3)), (2, .int x2), (3, .int x3), (4, .int x4)]) hx hb dX11_greatestDivisor_21 hl (by decide) rfl (fun ls hl => ?_)
          refine lv_iload_n hx hb dX11_greatestDivisor_23 rfl (lv_at hl 2 rfl) ?_
          refine lv_istore_n (lv' := [(2, .int x3), (5, .int (x2 - x2 / x3 * x3)), (3, .int x3), (4, .int x4)]) hx hb dX11_greatestDivisor_24 rfl hl (by decide) rfl (fun ls hl => ?_)
          refine lv_iload hx hb dX11_greatestDivisor_25 (lv_at hl 1 rfl) ?_
          refine lv_istore_n (lv' := [(3, .int (x2 - x2 / x3 * x3)), (2, .int x3), (5, .int (x2 - x2 / x3 * x3)), (4, .int x4)]) hx hb dX11_greatestDivisor_27 rfl hl (by decide) rfl (fun ls hl => ?_)
          refine lv_iinc (v := (x4 + 1)) (lv' := [(4, .int (x4 + 1)), (3, .int (x2 - x2 / x3 * x3)), (2, .int x3), (5, .int (x2 - x2 / x3 * x3))]) hx hb dX11_greatestDivisor_28 hl (k := 3) rfl rfl (by decide) rfl (fun ls hl => ?_)
          refine lv_goto (tgt := 7) hx hb dX11_greatestDivisor_31 (by decide) ?_
          exact ih_l7 x3 (x2 - x2 / x3 * x3) (x4 + 1) _ (lv_sub hl [2, 1, 0] rfl) h
  have h := hm
  unfold mi_X11_greatestDivisor at h
  refine lv_iload_n hx hb dX11_greatestDivisor_0 rfl (lv_at hl 0 rfl) ?_
  refine lv_istore_n (lv' := [(2, .int p0), (0, .int p0), (1, .int p1)]) hx hb dX11_greatestDivisor_1 rfl hl (by decide) rfl (fun ls hl => ?_)
  refine lv_iload_n hx hb dX11_greatestDivisor_2 rfl (lv_at hl 2 rfl) ?_
  refine lv_istore_n (lv' := [(3, .int p1), (2, .int p0), (0, .int p0), (1, .int p1)]) hx hb dX11_greatestDivisor_3 rfl hl (by decide) rfl (fun ls hl => ?_)
  refine lv_iconst (v := (0 : Int32)) hx hb dX11_greatestDivisor_4 (by decide) ?_
  refine lv_istore (lv' := [(4, .int (0 : Int32)), (3, .int p1), (2, .int p0), (0, .int p0), (1, .int p1)]) hx hb dX11_greatestDivisor_5 hl (by decide) rfl (fun ls hl => ?_)
  exact bl_l7 jx_F p0 p1 (0 : Int32) _ (lv_sub hl [2, 1, 0] rfl) h
def mi_X12_in (p0 : Int32) (p1 : Int32) (p2 : Int32) : Option (Int32) := if p0 < p1 then (some ((0 : Int32))) else (if p2 < p0 then (some ((0 : Int32))) else (some ((1 : Int32))))
abbrev rm_X12_in : Room := { frames := 0, cells := 0, slots := 0, locals := 0 }
set_option maxRecDepth 100000 in
set_option maxHeartbeats 4000000 in
theorem ct_X12_in (l : Launch) (p0 : Int32) (p1 : Int32) (p2 : Int32) (r : Int32) (hm : mi_X12_in p0 p1 p2 = some r) : Met l yX12_in wsX12_in rm_X12_in (fun v _ => v = ([.int p0, .int p1, .int p2] : List Value).toArray) (jx_S (some (.int r))) 0 0 (fun _ => False) := by
  refine jx_metS (ty := .boolean) (own := RX12) (cc := cX12_in) (maxL := 3) (by decide) rfl rfl (Nat.le_of_ble_eq_true rfl) ?_
  intro p e s m args below meth c Q ls hx hb hml hown hts hl hret
  have hl : lv_has ls 3 [(0, .int p0), (1, .int p1), (2, .int p2)] := hl
  have h := hm
  unfold mi_X12_in at h
  refine lv_iload_n hx hb dX12_in_0 rfl (lv_at hl 0 rfl) ?_
  refine lv_iload_n hx hb dX12_in_1 rfl (lv_at hl 1 rfl) ?_
  refine lv_icmp_lt (tgt := 14) hx hb dX12_in_2 (by decide) (fun c1 => ?_) (fun c1 => ?_)
  · have h := jx_t h c1
    refine lv_iconst (v := (0 : Int32)) hx hb dX12_in_14 (by decide) ?_
    cases h
    exact hret 15 ls rfl dX12_in_15
  · have h := jx_f h c1
    refine lv_iload_n hx hb dX12_in_5 rfl (lv_at hl 0 rfl) ?_
    refine lv_iload_n hx hb dX12_in_6 rfl (lv_at hl 2 rfl) ?_
    refine lv_icmp_gt (tgt := 14) hx hb dX12_in_7 (by decide) (fun c2 => ?_) (fun c2 => ?_)
    · have h := jx_t h c2
      refine lv_iconst (v := (0 : Int32)) hx hb dX12_in_14 (by decide) ?_
      cases h
      exact hret 15 ls rfl dX12_in_15
    · have h := jx_f h c2
      refine lv_iconst (v := (1 : Int32)) hx hb dX12_in_10 (by decide) ?_
      refine lv_goto (tgt := 15) hx hb dX12_in_11 (by decide) ?_
      cases h
      exact hret 15 ls rfl dX12_in_15
def mi_X12_has (p0 : Int32) (p1 : Int32) : Option (Int32) := if ((p0 >>> (p1 &&& 31)) &&& (1 : Int32)) = (1 : Int32) then (some ((1 : Int32))) else (some ((0 : Int32)))
abbrev rm_X12_has : Room := { frames := 0, cells := 0, slots := 0, locals := 0 }
set_option maxRecDepth 100000 in
set_option maxHeartbeats 4000000 in
theorem ct_X12_has (l : Launch) (p0 : Int32) (p1 : Int32) (r : Int32) (hm : mi_X12_has p0 p1 = some r) : Met l yX12_has wsX12_has rm_X12_has (fun v _ => v = ([.int p0, .int p1] : List Value).toArray) (jx_S (some (.int r))) 0 0 (fun _ => False) := by
  refine jx_metS (ty := .boolean) (own := RX12) (cc := cX12_has) (maxL := 2) (by decide) rfl rfl (Nat.le_of_ble_eq_true rfl) ?_
  intro p e s m args below meth c Q ls hx hb hml hown hts hl hret
  have hl : lv_has ls 2 [(0, .int p0), (1, .int p1)] := hl
  have h := hm
  unfold mi_X12_has at h
  refine lv_iload_n hx hb dX12_has_0 rfl (lv_at hl 0 rfl) ?_
  refine lv_iload_n hx hb dX12_has_1 rfl (lv_at hl 1 rfl) ?_
  refine lv_ishr hx hb dX12_has_2 ?_
  refine lv_iconst (v := (1 : Int32)) hx hb dX12_has_3 (by decide) ?_
  refine lv_iand hx hb dX12_has_4 ?_
  refine lv_iconst (v := (1 : Int32)) hx hb dX12_has_5 (by decide) ?_
  refine lv_icmp_ne (tgt := 13) hx hb dX12_has_6 (by decide) (fun c1 => ?_) (fun c1 => ?_)
  · have h := jx_f h c1
    refine lv_iconst (v := (0 : Int32)) hx hb dX12_has_13 (by decide) ?_
    cases h
    exact hret 14 ls rfl dX12_has_14
  · have h := jx_t h c1
    refine lv_iconst (v := (1 : Int32)) hx hb dX12_has_9 (by decide) ?_
    refine lv_goto (tgt := 14) hx hb dX12_has_10 (by decide) ?_
    cases h
    exact hret 14 ls rfl dX12_has_14
def mi_X12_ones_l4 (p0 : Int32) : Nat → Int32 → Int32 → Option (Int32)
  | 0, _, _ => none
  | n + 1, x1, x2 => if (8 : Int32) ≤ x2 then (some (x1)) else (mi_X12_ones_l4 p0 n (x1 + ((p0 >>> (x2 &&& 31)) &&& (1 : Int32))) (x2 + 1))
def mi_X12_ones (p0 : Int32) : Option (Int32) := mi_X12_ones_l4 p0 jx_F (0 : Int32) (0 : Int32)
abbrev rm_X12_ones : Room := { frames := 0, cells := 0, slots := 0, locals := 0 }
set_option maxRecDepth 100000 in
set_option maxHeartbeats 4000000 in
theorem ct_X12_ones (l : Launch) (p0 : Int32) (r : Int32) (hm : mi_X12_ones p0 = some r) : Met l yX12_ones wsX12_ones rm_X12_ones (fun v _ => v = ([.int p0] : List Value).toArray) (jx_S (some (.int r))) 0 0 (fun _ => False) := by
  refine jx_metS (ty := .int) (own := RX12) (cc := cX12_ones) (maxL := 3) (by decide) rfl rfl (Nat.le_of_ble_eq_true rfl) ?_
  intro p e s m args below meth c Q ls hx hb hml hown hts hl hret
  have hl : lv_has ls 3 [(0, .int p0)] := hl
  have bl_l4 : ∀ (n : Nat) (x1 : Int32) (x2 : Int32) (ls : Array Slot), lv_has ls 3 [(0, .int p0), (1, .int x1), (2, .int x2)] → mi_X12_ones_l4 p0 n x1 x2 = some r → W p l e (headSpec wsX12_ones rm_X12_ones).room s m args below meth c s.heap [] 0 0 Q (F0 m 4 ls []) := by
    intro n
    induction n with
    | zero =>
      intro x1 x2 ls hl h
      rw [mi_X12_ones_l4] at h
      cases h
    | succ n_l4 ih_l4 =>
      intro x1 x2 ls hl h
      rw [mi_X12_ones_l4] at h
      refine lv_iload_n hx hb dX12_ones_4 rfl (lv_at hl 2 rfl) ?_
      refine lv_bipush (v := (8 : Int32)) hx hb dX12_ones_5 (by decide) ?_
      refine lv_icmp_ge (tgt := 24) hx hb dX12_ones_7 (by decide) (fun c1 => ?_) (fun c1 => ?_)
      · have h := jx_t h c1
        refine lv_iload_n hx hb dX12_ones_24 rfl (lv_at hl 1 rfl) ?_
        cases h
        exact hret 25 ls rfl dX12_ones_25
      · have h := jx_f h c1
        refine lv_iload_n hx hb dX12_ones_10 rfl (lv_at hl 1 rfl) ?_
        refine lv_iload_n hx hb dX12_ones_11 rfl (lv_at hl 0 rfl) ?_
        refine lv_iload_n hx hb dX12_ones_12 rfl (lv_at hl 2 rfl) ?_
        refine lv_ishr hx hb dX12_ones_13 ?_
        refine lv_iconst (v := (1 : Int32)) hx hb dX12_ones_14 (by decide) ?_
        refine lv_iand hx hb dX12_ones_15 ?_
        refine lv_iadd hx hb dX12_ones_16 ?_
        refine lv_istore_n (lv' := [(1, .int (x1 + ((p0 >>> (x2 &&& 31)) &&& (1 : Int32)))), (0, .int p0), (2, .int x2)]) hx hb dX12_ones_17 rfl hl (by decide) rfl (fun ls hl => ?_)
        refine lv_iinc (v := (x2 + 1)) (lv' := [(2, .int (x2 + 1)), (1, .int (x1 + ((p0 >>> (x2 &&& 31)) &&& (1 : Int32)))), (0, .int p0)]) hx hb dX12_ones_18 hl (k := 2) rfl rfl (by decide) rfl (fun ls hl => ?_)
        refine lv_goto (tgt := 4) hx hb dX12_ones_21 (by decide) ?_
        exact ih_l4 (x1 + ((p0 >>> (x2 &&& 31)) &&& (1 : Int32))) (x2 + 1) _ (lv_sub hl [2, 1, 0] rfl) h
  have h := hm
  unfold mi_X12_ones at h
  refine lv_iconst (v := (0 : Int32)) hx hb dX12_ones_0 (by decide) ?_
  refine lv_istore_n (lv' := [(1, .int (0 : Int32)), (0, .int p0)]) hx hb dX12_ones_1 rfl hl (by decide) rfl (fun ls hl => ?_)
  refine lv_iconst (v := (0 : Int32)) hx hb dX12_ones_2 (by decide) ?_
  refine lv_istore_n (lv' := [(2, .int (0 : Int32)), (1, .int (0 : Int32)), (0, .int p0)]) hx hb dX12_ones_3 rfl hl (by decide) rfl (fun ls hl => ?_)
  exact bl_l4 jx_F (0 : Int32) (0 : Int32) _ (lv_sub hl [2, 1, 0] rfl) h
def mi_X12_apart (p0 : Int32) (p1 : Int32) : Option (Int32) := if p1 ≤ p0 then (some ((p0 - p1))) else (some ((p1 - p0)))
abbrev rm_X12_apart : Room := { frames := 0, cells := 0, slots := 0, locals := 0 }
set_option maxRecDepth 100000 in
set_option maxHeartbeats 4000000 in
theorem ct_X12_apart (l : Launch) (p0 : Int32) (p1 : Int32) (r : Int32) (hm : mi_X12_apart p0 p1 = some r) : Met l yX12_apart wsX12_apart rm_X12_apart (fun v _ => v = ([.int p0, .int p1] : List Value).toArray) (jx_S (some (.int r))) 0 0 (fun _ => False) := by
  refine jx_metS (ty := .int) (own := RX12) (cc := cX12_apart) (maxL := 2) (by decide) rfl rfl (Nat.le_of_ble_eq_true rfl) ?_
  intro p e s m args below meth c Q ls hx hb hml hown hts hl hret
  have hl : lv_has ls 2 [(0, .int p0), (1, .int p1)] := hl
  have h := hm
  unfold mi_X12_apart at h
  refine lv_iload_n hx hb dX12_apart_0 rfl (lv_at hl 0 rfl) ?_
  refine lv_iload_n hx hb dX12_apart_1 rfl (lv_at hl 1 rfl) ?_
  refine lv_icmp_ge (tgt := 11) hx hb dX12_apart_2 (by decide) (fun c1 => ?_) (fun c1 => ?_)
  · have h := jx_t h c1
    refine lv_iload_n hx hb dX12_apart_11 rfl (lv_at hl 0 rfl) ?_
    refine lv_iload_n hx hb dX12_apart_12 rfl (lv_at hl 1 rfl) ?_
    refine lv_isub hx hb dX12_apart_13 ?_
    cases h
    exact hret 14 ls rfl dX12_apart_14
  · have h := jx_f h c1
    refine lv_iload_n hx hb dX12_apart_5 rfl (lv_at hl 1 rfl) ?_
    refine lv_iload_n hx hb dX12_apart_6 rfl (lv_at hl 0 rfl) ?_
    refine lv_isub hx hb dX12_apart_7 ?_
    refine lv_goto (tgt := 14) hx hb dX12_apart_8 (by decide) ?_
    cases h
    exact hret 14 ls rfl dX12_apart_14
def mi_X12_isDigit (p0 : Int32) : Option (Int32) := jx_b1 (mi_X12_in p0 (48 : Int32) (57 : Int32)) fun r1 => (jx_g (jx_tf r1) (some (r1)))
abbrev rm_X12_isDigit : Room := { frames := 1, cells := 0, slots := 0, locals := 22 }
set_option maxRecDepth 100000 in
set_option maxHeartbeats 4000000 in
theorem ct_X12_isDigit (l : Launch) (p0 : Int32) (r : Int32) (hm : mi_X12_isDigit p0 = some r) : Met l yX12_isDigit wsX12_isDigit rm_X12_isDigit (fun v _ => v = ([.int p0] : List Value).toArray) (jx_S (some (.int r))) 0 0 (fun _ => False) := by
  refine jx_metS (ty := .boolean) (own := RX12) (cc := cX12_isDigit) (maxL := 1) (by decide) rfl rfl (Nat.le_of_ble_eq_true rfl) ?_
  intro p e s m args below meth c Q ls hx hb hml hown hts hl hret
  have hl : lv_has ls 1 [(0, .int p0)] := hl
  have h := hm
  unfold mi_X12_isDigit at h
  refine lv_iload_n hx hb dX12_isDigit_0 rfl (lv_at hl 0 rfl) ?_
  refine lv_bipush (v := (48 : Int32)) hx hb dX12_isDigit_1 (by decide) ?_
  refine lv_bipush (v := (57 : Int32)) hx hb dX12_isDigit_3 (by decide) ?_
  obtain ⟨r1, e2, h⟩ := jx_b1_of h
  refine jx_cS (o := some (.int r1)) (As := [.int p0, .int (48 : Int32), .int (57 : Int32)]) (rest := []) ⟨hx, hb, hml, hown, hts⟩ (ct_X12_in l p0 (48 : Int32) (57 : Int32) r1 e2) (va_cwS 3 hts gX12_isDigit_X12_in rfl rfl rfl (by decide +kernel) ⟨Nat.le_of_ble_eq_true rfl, Nat.le_of_ble_eq_true rfl⟩) rfl hl.1 rfl (Nat.le_of_ble_eq_true rfl) dX12_isDigit_5 ⟨Nat.zero_le _, Nat.zero_le _⟩ ?_
  obtain ⟨g3, h⟩ := jx_g_of h
  cases h
  exact hret 8 ls (jx_tf_of g3) dX12_isDigit_8
def mi_X12_isLetter (p0 : Int32) : Option (Int32) := jx_b1 (mi_X12_in p0 (97 : Int32) (122 : Int32)) fun r1 => (jx_g (jx_tf r1) (some (r1)))
abbrev rm_X12_isLetter : Room := { frames := 1, cells := 0, slots := 0, locals := 22 }
set_option maxRecDepth 100000 in
set_option maxHeartbeats 4000000 in
theorem ct_X12_isLetter (l : Launch) (p0 : Int32) (r : Int32) (hm : mi_X12_isLetter p0 = some r) : Met l yX12_isLetter wsX12_isLetter rm_X12_isLetter (fun v _ => v = ([.int p0] : List Value).toArray) (jx_S (some (.int r))) 0 0 (fun _ => False) := by
  refine jx_metS (ty := .boolean) (own := RX12) (cc := cX12_isLetter) (maxL := 1) (by decide) rfl rfl (Nat.le_of_ble_eq_true rfl) ?_
  intro p e s m args below meth c Q ls hx hb hml hown hts hl hret
  have hl : lv_has ls 1 [(0, .int p0)] := hl
  have h := hm
  unfold mi_X12_isLetter at h
  refine lv_iload_n hx hb dX12_isLetter_0 rfl (lv_at hl 0 rfl) ?_
  refine lv_bipush (v := (97 : Int32)) hx hb dX12_isLetter_1 (by decide) ?_
  refine lv_bipush (v := (122 : Int32)) hx hb dX12_isLetter_3 (by decide) ?_
  obtain ⟨r1, e2, h⟩ := jx_b1_of h
  refine jx_cS (o := some (.int r1)) (As := [.int p0, .int (97 : Int32), .int (122 : Int32)]) (rest := []) ⟨hx, hb, hml, hown, hts⟩ (ct_X12_in l p0 (97 : Int32) (122 : Int32) r1 e2) (va_cwS 3 hts gX12_isLetter_X12_in rfl rfl rfl (by decide +kernel) ⟨Nat.le_of_ble_eq_true rfl, Nat.le_of_ble_eq_true rfl⟩) rfl hl.1 rfl (Nat.le_of_ble_eq_true rfl) dX12_isLetter_5 ⟨Nat.zero_le _, Nat.zero_le _⟩ ?_
  obtain ⟨g3, h⟩ := jx_g_of h
  cases h
  exact hret 8 ls (jx_tf_of g3) dX12_isLetter_8
def mi_J6_bitCount_0f7a4 (p0 : Int32) : Option (Int32) := jx_l (((p0 - ((UInt32.toInt32 (Int32.toUInt32 p0 >>> (Int32.toUInt32 (1 : Int32) &&& Int32.toUInt32 31))) &&& (1431655765 : Int32))) &&& (858993459 : Int32)) + ((UInt32.toInt32 (Int32.toUInt32 (p0 - ((UInt32.toInt32 (Int32.toUInt32 p0 >>> (Int32.toUInt32 (1 : Int32) &&& Int32.toUInt32 31))) &&& (1431655765 : Int32))) >>> (Int32.toUInt32 (2 : Int32) &&& Int32.toUInt32 31))) &&& (858993459 : Int32))) fun v1 => (jx_l (((v1 + (UInt32.toInt32 (Int32.toUInt32 v1 >>> (Int32.toUInt32 (4 : Int32) &&& Int32.toUInt32 31)))) &&& (252645135 : Int32)) + (UInt32.toInt32 (Int32.toUInt32 ((v1 + (UInt32.toInt32 (Int32.toUInt32 v1 >>> (Int32.toUInt32 (4 : Int32) &&& Int32.toUInt32 31)))) &&& (252645135 : Int32)) >>> (Int32.toUInt32 (8 : Int32) &&& Int32.toUInt32 31)))) fun v2 => (some (((v2 + (UInt32.toInt32 (Int32.toUInt32 v2 >>> (Int32.toUInt32 (16 : Int32) &&& Int32.toUInt32 31)))) &&& (63 : Int32)))))
abbrev rm_J6_bitCount_0f7a4 : Room := { frames := 0, cells := 0, slots := 0, locals := 0 }
set_option maxRecDepth 100000 in
set_option maxHeartbeats 4000000 in
theorem ct_J6_bitCount_0f7a4 (l : Launch) (p0 : Int32) (r : Int32) (hm : mi_J6_bitCount_0f7a4 p0 = some r) : Met l yJ6_bitCount_0f7a4 wsJ6_bitCount_0f7a4 rm_J6_bitCount_0f7a4 (fun v _ => v = ([.int p0] : List Value).toArray) (jx_S (some (.int r))) 0 0 (fun _ => False) := by
  refine jx_metS (ty := .int) (own := RJ6) (cc := cJ6_bitCount_0f7a4) (maxL := 1) (by decide) rfl rfl (Nat.le_of_ble_eq_true rfl) ?_
  intro p e s m args below meth c Q ls hx hb hml hown hts hl hret
  have hl : lv_has ls 1 [(0, .int p0)] := hl
  have h := hm
  unfold mi_J6_bitCount_0f7a4 at h
  refine lv_iload_n hx hb dJ6_bitCount_0f7a4_0 rfl (lv_at hl 0 rfl) ?_
  refine lv_iload_n hx hb dJ6_bitCount_0f7a4_1 rfl (lv_at hl 0 rfl) ?_
  refine lv_iconst (v := (1 : Int32)) hx hb dJ6_bitCount_0f7a4_2 (by decide) ?_
  refine lv_iushr (v := (UInt32.toInt32 (Int32.toUInt32 p0 >>> (Int32.toUInt32 (1 : Int32) &&& Int32.toUInt32 31)))) hx hb dJ6_bitCount_0f7a4_3 rfl ?_
  refine lv_ldcw (v := (1431655765 : Int32)) hx hb hown (hts (.constant RJ6 265 (1431655765)) (List.mem_of_getElem? (i := 1) rfl)) dJ6_bitCount_0f7a4_4 ?_
  refine lv_iand hx hb dJ6_bitCount_0f7a4_7 ?_
  refine lv_isub hx hb dJ6_bitCount_0f7a4_8 ?_
  refine lv_istore_n (lv' := [(0, .int (p0 - ((UInt32.toInt32 (Int32.toUInt32 p0 >>> (Int32.toUInt32 (1 : Int32) &&& Int32.toUInt32 31))) &&& (1431655765 : Int32))))]) hx hb dJ6_bitCount_0f7a4_9 rfl hl (by decide) rfl (fun ls hl => ?_)
  refine lv_iload_n hx hb dJ6_bitCount_0f7a4_10 rfl (lv_at hl 0 rfl) ?_
  refine lv_ldcw (v := (858993459 : Int32)) hx hb hown (hts (.constant RJ6 266 (858993459)) (List.mem_of_getElem? (i := 2) rfl)) dJ6_bitCount_0f7a4_11 ?_
  refine lv_iand hx hb dJ6_bitCount_0f7a4_14 ?_
  refine lv_iload_n hx hb dJ6_bitCount_0f7a4_15 rfl (lv_at hl 0 rfl) ?_
  refine lv_iconst (v := (2 : Int32)) hx hb dJ6_bitCount_0f7a4_16 (by decide) ?_
  refine lv_iushr (v := (UInt32.toInt32 (Int32.toUInt32 (p0 - ((UInt32.toInt32 (Int32.toUInt32 p0 >>> (Int32.toUInt32 (1 : Int32) &&& Int32.toUInt32 31))) &&& (1431655765 : Int32))) >>> (Int32.toUInt32 (2 : Int32) &&& Int32.toUInt32 31)))) hx hb dJ6_bitCount_0f7a4_17 rfl ?_
  refine lv_ldcw (v := (858993459 : Int32)) hx hb hown (hts (.constant RJ6 266 (858993459)) (List.mem_of_getElem? (i := 2) rfl)) dJ6_bitCount_0f7a4_18 ?_
  refine lv_iand hx hb dJ6_bitCount_0f7a4_21 ?_
  refine lv_iadd hx hb dJ6_bitCount_0f7a4_22 ?_
  refine lv_topi (fun v1 e_v1 => ?_)
  have h := jx_l_of e_v1 h
  refine lv_istore_n (lv' := [(0, .int v1)]) hx hb dJ6_bitCount_0f7a4_23 rfl hl (by decide) rfl (fun ls hl => ?_)
  refine lv_iload_n hx hb dJ6_bitCount_0f7a4_24 rfl (lv_at hl 0 rfl) ?_
  refine lv_iload_n hx hb dJ6_bitCount_0f7a4_25 rfl (lv_at hl 0 rfl) ?_
  refine lv_iconst (v := (4 : Int32)) hx hb dJ6_bitCount_0f7a4_26 (by decide) ?_
  refine lv_iushr (v := (UInt32.toInt32 (Int32.toUInt32 v1 >>> (Int32.toUInt32 (4 : Int32) &&& Int32.toUInt32 31)))) hx hb dJ6_bitCount_0f7a4_27 rfl ?_
  refine lv_iadd hx hb dJ6_bitCount_0f7a4_28 ?_
  refine lv_ldcw (v := (252645135 : Int32)) hx hb hown (hts (.constant RJ6 267 (252645135)) (List.mem_of_getElem? (i := 3) rfl)) dJ6_bitCount_0f7a4_29 ?_
  refine lv_iand hx hb dJ6_bitCount_0f7a4_32 ?_
  refine lv_istore_n (lv' := [(0, .int ((v1 + (UInt32.toInt32 (Int32.toUInt32 v1 >>> (Int32.toUInt32 (4 : Int32) &&& Int32.toUInt32 31)))) &&& (252645135 : Int32)))]) hx hb dJ6_bitCount_0f7a4_33 rfl hl (by decide) rfl (fun ls hl => ?_)
  refine lv_iload_n hx hb dJ6_bitCount_0f7a4_34 rfl (lv_at hl 0 rfl) ?_
  refine lv_iload_n hx hb dJ6_bitCount_0f7a4_35 rfl (lv_at hl 0 rfl) ?_
  refine lv_bipush (v := (8 : Int32)) hx hb dJ6_bitCount_0f7a4_36 (by decide) ?_
  refine lv_iushr (v := (UInt32.toInt32 (Int32.toUInt32 ((v1 + (UInt32.toInt32 (Int32.toUInt32 v1 >>> (Int32.toUInt32 (4 : Int32) &&& Int32.toUInt32 31)))) &&& (252645135 : Int32)) >>> (Int32.toUInt32 (8 : Int32) &&& Int32.toUInt32 31)))) hx hb dJ6_bitCount_0f7a4_38 rfl ?_
  refine lv_iadd hx hb dJ6_bitCount_0f7a4_39 ?_
  refine lv_topi (fun v2 e_v2 => ?_)
  have h := jx_l_of e_v2 h
  refine lv_istore_n (lv' := [(0, .int v2)]) hx hb dJ6_bitCount_0f7a4_40 rfl hl (by decide) rfl (fun ls hl => ?_)
  refine lv_iload_n hx hb dJ6_bitCount_0f7a4_41 rfl (lv_at hl 0 rfl) ?_
  refine lv_iload_n hx hb dJ6_bitCount_0f7a4_42 rfl (lv_at hl 0 rfl) ?_
  refine lv_bipush (v := (16 : Int32)) hx hb dJ6_bitCount_0f7a4_43 (by decide) ?_
  refine lv_iushr (v := (UInt32.toInt32 (Int32.toUInt32 v2 >>> (Int32.toUInt32 (16 : Int32) &&& Int32.toUInt32 31)))) hx hb dJ6_bitCount_0f7a4_45 rfl ?_
  refine lv_iadd hx hb dJ6_bitCount_0f7a4_46 ?_
  refine lv_istore_n (lv' := [(0, .int (v2 + (UInt32.toInt32 (Int32.toUInt32 v2 >>> (Int32.toUInt32 (16 : Int32) &&& Int32.toUInt32 31)))))]) hx hb dJ6_bitCount_0f7a4_47 rfl hl (by decide) rfl (fun ls hl => ?_)
  refine lv_iload_n hx hb dJ6_bitCount_0f7a4_48 rfl (lv_at hl 0 rfl) ?_
  refine lv_bipush (v := (63 : Int32)) hx hb dJ6_bitCount_0f7a4_49 (by decide) ?_
  refine lv_iand hx hb dJ6_bitCount_0f7a4_51 ?_
  cases h
  exact hret 52 ls rfl dJ6_bitCount_0f7a4_52
