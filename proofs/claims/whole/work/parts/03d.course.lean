/-! written by program (wip/whole/gen.py) out of the printed names: each method as a pure function, and its contract -/
def mi_X2_begin : Option (Int32 × Int32 × Int32 × Int32 × Int32 × Int32) := some ((0 : Int32), (0 : Int32), (0 : Int32), (0 : Int32), (0 : Int32), (0 : Int32))
abbrev rm_X2_begin : Room := { frames := 0, cells := 0, slots := 0, locals := 0 }
set_option maxRecDepth 100000 in
set_option maxHeartbeats 4000000 in
theorem ct_X2_begin (l : Launch) (D : va_G) (cI cZ cO : ClassId) (a_t a_t_past : Nat) (sz : Nat) (t_bar : Int32) (t_count : Int32) (t_waits : Int32) (t_cut : Int32) (t_struck : Int32) (t_known : Int32) (z_t_bar : Int32) (z_t_count : Int32) (z_t_waits : Int32) (z_t_cut : Int32) (z_t_struck : Int32) (z_t_known : Int32) (hm : mi_X2_begin = some (z_t_bar, z_t_count, z_t_waits, z_t_cut, z_t_struck, z_t_known)) : Met l yX2_begin wsX2_begin rm_X2_begin (va_Pc [.ref a_t] (jx_W D (jx_T cI cZ cO) sz [(a_t, .inr (2, [.int t_bar, .int t_count, .int t_waits, .int t_cut, .int t_struck, .int t_known, .ref a_t_past]))])) (jx_Q none D [(a_t, .inr (2, [.int z_t_bar, .int z_t_count, .int z_t_waits, .int z_t_cut, .int z_t_struck, .int z_t_known, .ref a_t_past]))] (va_A [(a_t, .inr (2, [.int t_bar, .int t_count, .int t_waits, .int t_cut, .int t_struck, .int t_known, .ref a_t_past]))] sz)) 0 0 (va_A [(a_t, .inr (2, [.int t_bar, .int t_count, .int t_waits, .int t_cut, .int t_struck, .int t_known, .ref a_t_past]))] sz) := by
  refine jx_metV (own := RX2) (cc := cX2_begin) (maxL := 1) (by decide) rfl rfl (Nat.le_of_ble_eq_true rfl) ?_
  intro p e s m args below meth c Q ls A hx hb hml hown hts hK hN hA hP hD hS hl hret
  have hi_X2 : ∀ w ∈ u_ws RX2 TX2 7, w ∈ wsX2_begin := by decide +kernel
  have hl : lv_has ls 1 [(0, .ref a_t)] := hl
  have h := hm
  unfold mi_X2_begin at h
  refine lv_aload_n hx hb dX2_begin_0 rfl (lv_at hl 0 rfl) ?_
  refine lv_iconst (v := (0 : Int32)) hx hb dX2_begin_1 (by decide) ?_
  refine va_put (D := D) (ci := 2) (v := .int (0 : Int32)) (ty := .int) (C := RX2) (T := TX2) (N := 7) hx hb hts hi_X2 tyX2 tyX2_ok nmX2 hown hK hP hD hS 0 rfl rfl 0 (by decide) (hts (.fieldLink RX2 13 "TriangleRest$Course" "bar" "I") (List.mem_of_getElem? (i := 1) rfl)) (fun _ h9 => h9) rfl (by decide +kernel) rfl rfl (Nat.le_of_ble_eq_true rfl) dX2_begin_2 (fun H locs hP hD hS => ?_)
  have hP : va_P D vwCl [(a_t, .inr (2, [.int (0 : Int32), .int t_count, .int t_waits, .int t_cut, .int t_struck, .int t_known, .ref a_t_past]))] H := hP
  have hD : va_D A [(a_t, .inr (2, [.int (0 : Int32), .int t_count, .int t_waits, .int t_cut, .int t_struck, .int t_known, .ref a_t_past]))] := hD
  refine lv_aload_n hx hb dX2_begin_5 rfl (lv_at hl 0 rfl) ?_
  refine lv_iconst (v := (0 : Int32)) hx hb dX2_begin_6 (by decide) ?_
  refine va_put (D := D) (ci := 2) (v := .int (0 : Int32)) (ty := .int) (C := RX2) (T := TX2) (N := 7) hx hb hts hi_X2 tyX2 tyX2_ok nmX2 hown hK hP hD hS 0 rfl rfl 1 (by decide) (hts (.fieldLink RX2 17 "TriangleRest$Course" "count" "I") (List.mem_of_getElem? (i := 2) rfl)) (fun _ h9 => h9) rfl (by decide +kernel) rfl rfl (Nat.le_of_ble_eq_true rfl) dX2_begin_7 (fun H locs hP hD hS => ?_)
  have hP : va_P D vwCl [(a_t, .inr (2, [.int (0 : Int32), .int (0 : Int32), .int t_waits, .int t_cut, .int t_struck, .int t_known, .ref a_t_past]))] H := hP
  have hD : va_D A [(a_t, .inr (2, [.int (0 : Int32), .int (0 : Int32), .int t_waits, .int t_cut, .int t_struck, .int t_known, .ref a_t_past]))] := hD
  refine lv_aload_n hx hb dX2_begin_10 rfl (lv_at hl 0 rfl) ?_
  refine lv_iconst (v := (0 : Int32)) hx hb dX2_begin_11 (by decide) ?_
  refine va_put (D := D) (ci := 2) (v := .int (0 : Int32)) (ty := .int) (C := RX2) (T := TX2) (N := 7) hx hb hts hi_X2 tyX2 tyX2_ok nmX2 hown hK hP hD hS 0 rfl rfl 2 (by decide) (hts (.fieldLink RX2 20 "TriangleRest$Course" "waits" "I") (List.mem_of_getElem? (i := 3) rfl)) (fun _ h9 => h9) rfl (by decide +kernel) rfl rfl (Nat.le_of_ble_eq_true rfl) dX2_begin_12 (fun H locs hP hD hS => ?_)
  have hP : va_P D vwCl [(a_t, .inr (2, [.int (0 : Int32), .int (0 : Int32), .int (0 : Int32), .int t_cut, .int t_struck, .int t_known, .ref a_t_past]))] H := hP
  have hD : va_D A [(a_t, .inr (2, [.int (0 : Int32), .int (0 : Int32), .int (0 : Int32), .int t_cut, .int t_struck, .int t_known, .ref a_t_past]))] := hD
  refine lv_aload_n hx hb dX2_begin_15 rfl (lv_at hl 0 rfl) ?_
  refine lv_iconst (v := (0 : Int32)) hx hb dX2_begin_16 (by decide) ?_
  refine va_put (D := D) (ci := 2) (v := .int (0 : Int32)) (ty := .int) (C := RX2) (T := TX2) (N := 7) hx hb hts hi_X2 tyX2 tyX2_ok nmX2 hown hK hP hD hS 0 rfl rfl 3 (by decide) (hts (.fieldLink RX2 23 "TriangleRest$Course" "cut" "I") (List.mem_of_getElem? (i := 4) rfl)) (fun _ h9 => h9) rfl (by decide +kernel) rfl rfl (Nat.le_of_ble_eq_true rfl) dX2_begin_17 (fun H locs hP hD hS => ?_)
  have hP : va_P D vwCl [(a_t, .inr (2, [.int (0 : Int32), .int (0 : Int32), .int (0 : Int32), .int (0 : Int32), .int t_struck, .int t_known, .ref a_t_past]))] H := hP
  have hD : va_D A [(a_t, .inr (2, [.int (0 : Int32), .int (0 : Int32), .int (0 : Int32), .int (0 : Int32), .int t_struck, .int t_known, .ref a_t_past]))] := hD
  refine lv_aload_n hx hb dX2_begin_20 rfl (lv_at hl 0 rfl) ?_
  refine lv_iconst (v := (0 : Int32)) hx hb dX2_begin_21 (by decide) ?_
  refine va_put (D := D) (ci := 2) (v := .int (0 : Int32)) (ty := .boolean) (C := RX2) (T := TX2) (N := 7) hx hb hts hi_X2 tyX2 tyX2_ok nmX2 hown hK hP hD hS 0 rfl rfl 4 (by decide) (hts (.fieldLink RX2 26 "TriangleRest$Course" "struck" "Z") (List.mem_of_getElem? (i := 5) rfl)) (fun _ h9 => h9) rfl (by decide +kernel) rfl rfl (Nat.le_of_ble_eq_true rfl) dX2_begin_22 (fun H locs hP hD hS => ?_)
  have hP : va_P D vwCl [(a_t, .inr (2, [.int (0 : Int32), .int (0 : Int32), .int (0 : Int32), .int (0 : Int32), .int (0 : Int32), .int t_known, .ref a_t_past]))] H := hP
  have hD : va_D A [(a_t, .inr (2, [.int (0 : Int32), .int (0 : Int32), .int (0 : Int32), .int (0 : Int32), .int (0 : Int32), .int t_known, .ref a_t_past]))] := hD
  refine lv_aload_n hx hb dX2_begin_25 rfl (lv_at hl 0 rfl) ?_
  refine lv_iconst (v := (0 : Int32)) hx hb dX2_begin_26 (by decide) ?_
  refine va_put (D := D) (ci := 2) (v := .int (0 : Int32)) (ty := .int) (C := RX2) (T := TX2) (N := 7) hx hb hts hi_X2 tyX2 tyX2_ok nmX2 hown hK hP hD hS 0 rfl rfl 5 (by decide) (hts (.fieldLink RX2 30 "TriangleRest$Course" "known" "I") (List.mem_of_getElem? (i := 6) rfl)) (fun _ h9 => h9) rfl (by decide +kernel) rfl rfl (Nat.le_of_ble_eq_true rfl) dX2_begin_27 (fun H locs hP hD hS => ?_)
  have hP : va_P D vwCl [(a_t, .inr (2, [.int (0 : Int32), .int (0 : Int32), .int (0 : Int32), .int (0 : Int32), .int (0 : Int32), .int (0 : Int32), .ref a_t_past]))] H := hP
  have hD : va_D A [(a_t, .inr (2, [.int (0 : Int32), .int (0 : Int32), .int (0 : Int32), .int (0 : Int32), .int (0 : Int32), .int (0 : Int32), .ref a_t_past]))] := hD
  have hq_0 := Option.some.inj h
  obtain ⟨hz_1, hq_1⟩ := Prod.mk.inj hq_0
  obtain ⟨hz_2, hq_2⟩ := Prod.mk.inj hq_1
  obtain ⟨hz_3, hq_3⟩ := Prod.mk.inj hq_2
  obtain ⟨hz_4, hq_4⟩ := Prod.mk.inj hq_3
  obtain ⟨hz_5, hq_5⟩ := Prod.mk.inj hq_4
  subst hz_1
  subst hz_2
  subst hz_3
  subst hz_4
  subst hz_5
  subst hq_5
  exact hret 30 ls _ _ hP hD hS dX2_begin_30
def mi_X2_becomeLike (t_past : Nat → Int32) (o1_bar : Int32) (o1_count : Int32) (o1_waits : Int32) (o1_cut : Int32) (o1_struck : Int32) (o1_known : Int32) (o1_past : Nat → Int32) : Option (Int32 × Int32 × Int32 × Int32 × Int32 × Int32 × (Nat → Int32)) := jx_g (jx_tf o1_struck) (jx_g (jx_cp (0 : Int32) (0 : Int32) (50 : Int32) 50 50) (some (o1_bar, o1_count, o1_waits, o1_cut, o1_struck, o1_known, (va_cpy o1_past t_past (Int32.toNatClampNeg (0 : Int32)) (Int32.toNatClampNeg (0 : Int32)) (Int32.toNatClampNeg (50 : Int32))))))
abbrev rm_X2_becomeLike : Room := { frames := 1, cells := 0, slots := 0, locals := 40 }
set_option maxRecDepth 100000 in
set_option maxHeartbeats 4000000 in
theorem ct_X2_becomeLike (l : Launch) (D : va_G) (cI cZ cO : ClassId) (a_t a_o1 a_t_past a_o1_past : Nat) (sz : Nat) (t_bar : Int32) (t_count : Int32) (t_waits : Int32) (t_cut : Int32) (t_struck : Int32) (t_known : Int32) (t_past : Nat → Int32) (o1_bar : Int32) (o1_count : Int32) (o1_waits : Int32) (o1_cut : Int32) (o1_struck : Int32) (o1_known : Int32) (o1_past : Nat → Int32) (z_t_bar : Int32) (z_t_count : Int32) (z_t_waits : Int32) (z_t_cut : Int32) (z_t_struck : Int32) (z_t_known : Int32) (z_t_past : Nat → Int32) (hm : mi_X2_becomeLike t_past o1_bar o1_count o1_waits o1_cut o1_struck o1_known o1_past = some (z_t_bar, z_t_count, z_t_waits, z_t_cut, z_t_struck, z_t_known, z_t_past)) : Met l yX2_becomeLike wsX2_becomeLike rm_X2_becomeLike (va_Pc [.ref a_t, .ref a_o1] (jx_W D (jx_T cI cZ cO) sz [(a_t, .inr (2, [.int t_bar, .int t_count, .int t_waits, .int t_cut, .int t_struck, .int t_known, .ref a_t_past])), (a_t_past, .inl (cI, 50, .inl t_past)), (a_o1, .inr (2, [.int o1_bar, .int o1_count, .int o1_waits, .int o1_cut, .int o1_struck, .int o1_known, .ref a_o1_past])), (a_o1_past, .inl (cI, 50, .inl o1_past))])) (jx_Q none D [(a_t, .inr (2, [.int z_t_bar, .int z_t_count, .int z_t_waits, .int z_t_cut, .int z_t_struck, .int z_t_known, .ref a_t_past])), (a_t_past, .inl (cI, 50, .inl z_t_past)), (a_o1, .inr (2, [.int o1_bar, .int o1_count, .int o1_waits, .int o1_cut, .int o1_struck, .int o1_known, .ref a_o1_past])), (a_o1_past, .inl (cI, 50, .inl o1_past))] (va_A [(a_t, .inr (2, [.int t_bar, .int t_count, .int t_waits, .int t_cut, .int t_struck, .int t_known, .ref a_t_past])), (a_t_past, .inl (cI, 50, .inl t_past)), (a_o1, .inr (2, [.int o1_bar, .int o1_count, .int o1_waits, .int o1_cut, .int o1_struck, .int o1_known, .ref a_o1_past])), (a_o1_past, .inl (cI, 50, .inl o1_past))] sz)) 0 0 (va_A [(a_t, .inr (2, [.int t_bar, .int t_count, .int t_waits, .int t_cut, .int t_struck, .int t_known, .ref a_t_past])), (a_t_past, .inl (cI, 50, .inl t_past)), (a_o1, .inr (2, [.int o1_bar, .int o1_count, .int o1_waits, .int o1_cut, .int o1_struck, .int o1_known, .ref a_o1_past])), (a_o1_past, .inl (cI, 50, .inl o1_past))] sz) := by
  refine jx_metV (own := RX2) (cc := cX2_becomeLike) (maxL := 2) (by decide) rfl rfl (Nat.le_of_ble_eq_true rfl) ?_
  intro p e s m args below meth c Q ls A hx hb hml hown hts hK hN hA hP hD hS hl hret
  have hi_X2 : ∀ w ∈ u_ws RX2 TX2 7, w ∈ wsX2_becomeLike := by decide +kernel
  have hl : lv_has ls 2 [(0, .ref a_t), (1, .ref a_o1)] := hl
  have h := hm
  unfold mi_X2_becomeLike at h
  refine lv_aload_n hx hb dX2_becomeLike_0 rfl (lv_at hl 0 rfl) ?_
  refine lv_aload_n hx hb dX2_becomeLike_1 rfl (lv_at hl 1 rfl) ?_
  refine va_get (D := D) (ci := 2) (v := .int o1_bar) (C := RX2) (T := TX2) (N := 7) hx hb hts hi_X2 hown hK hP 2 rfl rfl 0 (by decide) (hts (.fieldLink RX2 13 "TriangleRest$Course" "bar" "I") (List.mem_of_getElem? (i := 1) rfl)) (fun _ h9 => h9) rfl dX2_becomeLike_2 ?_
  refine va_put (D := D) (ci := 2) (v := .int o1_bar) (ty := .int) (C := RX2) (T := TX2) (N := 7) hx hb hts hi_X2 tyX2 tyX2_ok nmX2 hown hK hP hD hS 0 rfl rfl 0 (by decide) (hts (.fieldLink RX2 13 "TriangleRest$Course" "bar" "I") (List.mem_of_getElem? (i := 1) rfl)) (fun _ h9 => h9) rfl (by decide +kernel) rfl rfl (Nat.le_of_ble_eq_true rfl) dX2_becomeLike_5 (fun H locs hP hD hS => ?_)
  have hP : va_P D vwCl [(a_t, .inr (2, [.int o1_bar, .int t_count, .int t_waits, .int t_cut, .int t_struck, .int t_known, .ref a_t_past])), (a_t_past, .inl (cI, 50, .inl t_past)), (a_o1, .inr (2, [.int o1_bar, .int o1_count, .int o1_waits, .int o1_cut, .int o1_struck, .int o1_known, .ref a_o1_past])), (a_o1_past, .inl (cI, 50, .inl o1_past))] H := hP
  have hD : va_D A [(a_t, .inr (2, [.int o1_bar, .int t_count, .int t_waits, .int t_cut, .int t_struck, .int t_known, .ref a_t_past])), (a_t_past, .inl (cI, 50, .inl t_past)), (a_o1, .inr (2, [.int o1_bar, .int o1_count, .int o1_waits, .int o1_cut, .int o1_struck, .int o1_known, .ref a_o1_past])), (a_o1_past, .inl (cI, 50, .inl o1_past))] := hD
  refine lv_aload_n hx hb dX2_becomeLike_8 rfl (lv_at hl 0 rfl) ?_
  refine lv_aload_n hx hb dX2_becomeLike_9 rfl (lv_at hl 1 rfl) ?_
  refine va_get (D := D) (ci := 2) (v := .int o1_count) (C := RX2) (T := TX2) (N := 7) hx hb hts hi_X2 hown hK hP 2 rfl rfl 1 (by decide) (hts (.fieldLink RX2 17 "TriangleRest$Course" "count" "I") (List.mem_of_getElem? (i := 2) rfl)) (fun _ h9 => h9) rfl dX2_becomeLike_10 ?_
  refine va_put (D := D) (ci := 2) (v := .int o1_count) (ty := .int) (C := RX2) (T := TX2) (N := 7) hx hb hts hi_X2 tyX2 tyX2_ok nmX2 hown hK hP hD hS 0 rfl rfl 1 (by decide) (hts (.fieldLink RX2 17 "TriangleRest$Course" "count" "I") (List.mem_of_getElem? (i := 2) rfl)) (fun _ h9 => h9) rfl (by decide +kernel) rfl rfl (Nat.le_of_ble_eq_true rfl) dX2_becomeLike_13 (fun H locs hP hD hS => ?_)
  have hP : va_P D vwCl [(a_t, .inr (2, [.int o1_bar, .int o1_count, .int t_waits, .int t_cut, .int t_struck, .int t_known, .ref a_t_past])), (a_t_past, .inl (cI, 50, .inl t_past)), (a_o1, .inr (2, [.int o1_bar, .int o1_count, .int o1_waits, .int o1_cut, .int o1_struck, .int o1_known, .ref a_o1_past])), (a_o1_past, .inl (cI, 50, .inl o1_past))] H := hP
  have hD : va_D A [(a_t, .inr (2, [.int o1_bar, .int o1_count, .int t_waits, .int t_cut, .int t_struck, .int t_known, .ref a_t_past])), (a_t_past, .inl (cI, 50, .inl t_past)), (a_o1, .inr (2, [.int o1_bar, .int o1_count, .int o1_waits, .int o1_cut, .int o1_struck, .int o1_known, .ref a_o1_past])), (a_o1_past, .inl (cI, 50, .inl o1_past))] := hD
  refine lv_aload_n hx hb dX2_becomeLike_16 rfl (lv_at hl 0 rfl) ?_
  refine lv_aload_n hx hb dX2_becomeLike_17 rfl (lv_at hl 1 rfl) ?_
  refine va_get (D := D) (ci := 2) (v := .int o1_waits) (C := RX2) (T := TX2) (N := 7) hx hb hts hi_X2 hown hK hP 2 rfl rfl 2 (by decide) (hts (.fieldLink RX2 20 "TriangleRest$Course" "waits" "I") (List.mem_of_getElem? (i := 3) rfl)) (fun _ h9 => h9) rfl dX2_becomeLike_18 ?_
  refine va_put (D := D) (ci := 2) (v := .int o1_waits) (ty := .int) (C := RX2) (T := TX2) (N := 7) hx hb hts hi_X2 tyX2 tyX2_ok nmX2 hown hK hP hD hS 0 rfl rfl 2 (by decide) (hts (.fieldLink RX2 20 "TriangleRest$Course" "waits" "I") (List.mem_of_getElem? (i := 3) rfl)) (fun _ h9 => h9) rfl (by decide +kernel) rfl rfl (Nat.le_of_ble_eq_true rfl) dX2_becomeLike_21 (fun H locs hP hD hS => ?_)
  have hP : va_P D vwCl [(a_t, .inr (2, [.int o1_bar, .int o1_count, .int o1_waits, .int t_cut, .int t_struck, .int t_known, .ref a_t_past])), (a_t_past, .inl (cI, 50, .inl t_past)), (a_o1, .inr (2, [.int o1_bar, .int o1_count, .int o1_waits, .int o1_cut, .int o1_struck, .int o1_known, .ref a_o1_past])), (a_o1_past, .inl (cI, 50, .inl o1_past))] H := hP
  have hD : va_D A [(a_t, .inr (2, [.int o1_bar, .int o1_count, .int o1_waits, .int t_cut, .int t_struck, .int t_known, .ref a_t_past])), (a_t_past, .inl (cI, 50, .inl t_past)), (a_o1, .inr (2, [.int o1_bar, .int o1_count, .int o1_waits, .int o1_cut, .int o1_struck, .int o1_known, .ref a_o1_past])), (a_o1_past, .inl (cI, 50, .inl o1_past))] := hD
  refine lv_aload_n hx hb dX2_becomeLike_24 rfl (lv_at hl 0 rfl) ?_
  refine lv_aload_n hx hb dX2_becomeLike_25 rfl (lv_at hl 1 rfl) ?_
  refine va_get (D := D) (ci := 2) (v := .int o1_cut) (C := RX2) (T := TX2) (N := 7) hx hb hts hi_X2 hown hK hP 2 rfl rfl 3 (by decide) (hts (.fieldLink RX2 23 "TriangleRest$Course" "cut" "I") (List.mem_of_getElem? (i := 4) rfl)) (fun _ h9 => h9) rfl dX2_becomeLike_26 ?_
  refine va_put (D := D) (ci := 2) (v := .int o1_cut) (ty := .int) (C := RX2) (T := TX2) (N := 7) hx hb hts hi_X2 tyX2 tyX2_ok nmX2 hown hK hP hD hS 0 rfl rfl 3 (by decide) (hts (.fieldLink RX2 23 "TriangleRest$Course" "cut" "I") (List.mem_of_getElem? (i := 4) rfl)) (fun _ h9 => h9) rfl (by decide +kernel) rfl rfl (Nat.le_of_ble_eq_true rfl) dX2_becomeLike_29 (fun H locs hP hD hS => ?_)
  have hP : va_P D vwCl [(a_t, .inr (2, [.int o1_bar, .int o1_count, .int o1_waits, .int o1_cut, .int t_struck, .int t_known, .ref a_t_past])), (a_t_past, .inl (cI, 50, .inl t_past)), (a_o1, .inr (2, [.int o1_bar, .int o1_count, .int o1_waits, .int o1_cut, .int o1_struck, .int o1_known, .ref a_o1_past])), (a_o1_past, .inl (cI, 50, .inl o1_past))] H := hP
  have hD : va_D A [(a_t, .inr (2, [.int o1_bar, .int o1_count, .int o1_waits, .int o1_cut, .int t_struck, .int t_known, .ref a_t_past])), (a_t_past, .inl (cI, 50, .inl t_past)), (a_o1, .inr (2, [.int o1_bar, .int o1_count, .int o1_waits, .int o1_cut, .int o1_struck, .int o1_known, .ref a_o1_past])), (a_o1_past, .inl (cI, 50, .inl o1_past))] := hD
  refine lv_aload_n hx hb dX2_becomeLike_32 rfl (lv_at hl 0 rfl) ?_
  refine lv_aload_n hx hb dX2_becomeLike_33 rfl (lv_at hl 1 rfl) ?_
  refine va_get (D := D) (ci := 2) (v := .int o1_struck) (C := RX2) (T := TX2) (N := 7) hx hb hts hi_X2 hown hK hP 2 rfl rfl 4 (by decide) (hts (.fieldLink RX2 26 "TriangleRest$Course" "struck" "Z") (List.mem_of_getElem? (i := 5) rfl)) (fun _ h9 => h9) rfl dX2_becomeLike_34 ?_
  obtain ⟨g1, h⟩ := jx_g_of h
  refine va_put (D := D) (ci := 2) (v := .int o1_struck) (ty := .boolean) (C := RX2) (T := TX2) (N := 7) hx hb hts hi_X2 tyX2 tyX2_ok nmX2 hown hK hP hD hS 0 rfl rfl 4 (by decide) (hts (.fieldLink RX2 26 "TriangleRest$Course" "struck" "Z") (List.mem_of_getElem? (i := 5) rfl)) (fun _ h9 => h9) rfl (by decide +kernel) (jx_tf_of g1) (jx_tf_fit g1) (Nat.le_of_ble_eq_true rfl) dX2_becomeLike_37 (fun H locs hP hD hS => ?_)
  have hP : va_P D vwCl [(a_t, .inr (2, [.int o1_bar, .int o1_count, .int o1_waits, .int o1_cut, .int o1_struck, .int t_known, .ref a_t_past])), (a_t_past, .inl (cI, 50, .inl t_past)), (a_o1, .inr (2, [.int o1_bar, .int o1_count, .int o1_waits, .int o1_cut, .int o1_struck, .int o1_known, .ref a_o1_past])), (a_o1_past, .inl (cI, 50, .inl o1_past))] H := hP
  have hD : va_D A [(a_t, .inr (2, [.int o1_bar, .int o1_count, .int o1_waits, .int o1_cut, .int o1_struck, .int t_known, .ref a_t_past])), (a_t_past, .inl (cI, 50, .inl t_past)), (a_o1, .inr (2, [.int o1_bar, .int o1_count, .int o1_waits, .int o1_cut, .int o1_struck, .int o1_known, .ref a_o1_past])), (a_o1_past, .inl (cI, 50, .inl o1_past))] := hD
  refine lv_aload_n hx hb dX2_becomeLike_40 rfl (lv_at hl 0 rfl) ?_
  refine lv_aload_n hx hb dX2_becomeLike_41 rfl (lv_at hl 1 rfl) ?_
  refine va_get (D := D) (ci := 2) (v := .int o1_known) (C := RX2) (T := TX2) (N := 7) hx hb hts hi_X2 hown hK hP 2 rfl rfl 5 (by decide) (hts (.fieldLink RX2 30 "TriangleRest$Course" "known" "I") (List.mem_of_getElem? (i := 6) rfl)) (fun _ h9 => h9) rfl dX2_becomeLike_42 ?_
  refine va_put (D := D) (ci := 2) (v := .int o1_known) (ty := .int) (C := RX2) (T := TX2) (N := 7) hx hb hts hi_X2 tyX2 tyX2_ok nmX2 hown hK hP hD hS 0 rfl rfl 5 (by decide) (hts (.fieldLink RX2 30 "TriangleRest$Course" "known" "I") (List.mem_of_getElem? (i := 6) rfl)) (fun _ h9 => h9) rfl (by decide +kernel) rfl rfl (Nat.le_of_ble_eq_true rfl) dX2_becomeLike_45 (fun H locs hP hD hS => ?_)
  have hP : va_P D vwCl [(a_t, .inr (2, [.int o1_bar, .int o1_count, .int o1_waits, .int o1_cut, .int o1_struck, .int o1_known, .ref a_t_past])), (a_t_past, .inl (cI, 50, .inl t_past)), (a_o1, .inr (2, [.int o1_bar, .int o1_count, .int o1_waits, .int o1_cut, .int o1_struck, .int o1_known, .ref a_o1_past])), (a_o1_past, .inl (cI, 50, .inl o1_past))] H := hP
  have hD : va_D A [(a_t, .inr (2, [.int o1_bar, .int o1_count, .int o1_waits, .int o1_cut, .int o1_struck, .int o1_known, .ref a_t_past])), (a_t_past, .inl (cI, 50, .inl t_past)), (a_o1, .inr (2, [.int o1_bar, .int o1_count, .int o1_waits, .int o1_cut, .int o1_struck, .int o1_known, .ref a_o1_past])), (a_o1_past, .inl (cI, 50, .inl o1_past))] := hD
  refine lv_aload_n hx hb dX2_becomeLike_48 rfl (lv_at hl 1 rfl) ?_
  refine va_get (D := D) (ci := 2) (v := .ref a_o1_past) (C := RX2) (T := TX2) (N := 7) hx hb hts hi_X2 hown hK hP 2 rfl rfl 6 (by decide) (hts (.fieldLink RX2 9 "TriangleRest$Course" "past" "[I") (List.mem_of_getElem? (i := 7) rfl)) (fun _ h9 => h9) rfl dX2_becomeLike_49 ?_
  refine lv_iconst (v := (0 : Int32)) hx hb dX2_becomeLike_52 (by decide) ?_
  refine lv_aload_n hx hb dX2_becomeLike_53 rfl (lv_at hl 0 rfl) ?_
  refine va_get (D := D) (ci := 2) (v := .ref a_t_past) (C := RX2) (T := TX2) (N := 7) hx hb hts hi_X2 hown hK hP 0 rfl rfl 6 (by decide) (hts (.fieldLink RX2 9 "TriangleRest$Course" "past" "[I") (List.mem_of_getElem? (i := 7) rfl)) (fun _ h9 => h9) rfl dX2_becomeLike_54 ?_
  refine lv_iconst (v := (0 : Int32)) hx hb dX2_becomeLike_57 (by decide) ?_
  refine lv_bipush (v := (50 : Int32)) hx hb dX2_becomeLike_58 (by decide) ?_
  obtain ⟨g2, h⟩ := jx_g_of h
  have g2 := jx_cp_of g2
  refine va_copyi hx hb (hml.trans hl.1.symm) hown (hts (.methodLink RX2 33 arraycopyName) (List.mem_of_getElem? (i := 8) rfl)) (hts (.native arraycopyName) (List.mem_of_getElem? (i := 9) rfl)) (hts (.static arraycopyName) (List.mem_of_getElem? (i := 10) rfl)) (hts (.initialized "java/lang/System") (List.mem_of_getElem? (i := 11) rfl)) hK hP hD hS 3 1 0 0 rfl rfl rfl rfl rfl g2.1 g2.2.1 g2.2.2.1 g2.2.2.2.1 g2.2.2.2.2 (fun _ _ => rfl) (Nat.le_of_ble_eq_true rfl) (by decide +kernel) dX2_becomeLike_60 (fun H locs hP hD hS => ?_)
  have hP : va_P D vwCl [(a_t, .inr (2, [.int o1_bar, .int o1_count, .int o1_waits, .int o1_cut, .int o1_struck, .int o1_known, .ref a_t_past])), (a_t_past, .inl (cI, 50, .inl (va_cpy o1_past t_past (Int32.toNatClampNeg (0 : Int32)) (Int32.toNatClampNeg (0 : Int32)) (Int32.toNatClampNeg (50 : Int32))))), (a_o1, .inr (2, [.int o1_bar, .int o1_count, .int o1_waits, .int o1_cut, .int o1_struck, .int o1_known, .ref a_o1_past])), (a_o1_past, .inl (cI, 50, .inl o1_past))] H := hP
  have hD : va_D A [(a_t, .inr (2, [.int o1_bar, .int o1_count, .int o1_waits, .int o1_cut, .int o1_struck, .int o1_known, .ref a_t_past])), (a_t_past, .inl (cI, 50, .inl (va_cpy o1_past t_past (Int32.toNatClampNeg (0 : Int32)) (Int32.toNatClampNeg (0 : Int32)) (Int32.toNatClampNeg (50 : Int32))))), (a_o1, .inr (2, [.int o1_bar, .int o1_count, .int o1_waits, .int o1_cut, .int o1_struck, .int o1_known, .ref a_o1_past])), (a_o1_past, .inl (cI, 50, .inl o1_past))] := hD
  have hq_0 := Option.some.inj h
  obtain ⟨hz_1, hq_1⟩ := Prod.mk.inj hq_0
  obtain ⟨hz_2, hq_2⟩ := Prod.mk.inj hq_1
  obtain ⟨hz_3, hq_3⟩ := Prod.mk.inj hq_2
  obtain ⟨hz_4, hq_4⟩ := Prod.mk.inj hq_3
  obtain ⟨hz_5, hq_5⟩ := Prod.mk.inj hq_4
  obtain ⟨hz_6, hq_6⟩ := Prod.mk.inj hq_5
  subst hz_1
  subst hz_2
  subst hz_3
  subst hz_4
  subst hz_5
  subst hz_6
  subst hq_6
  exact hret 63 ls _ _ hP hD hS dX2_becomeLike_63
def mi_X2_remember_b30 (t_bar : Int32) (t_count : Int32) (t_waits : Int32) (t_cut : Int32) (t_struck : Int32) (t_known : Int32) (t_past : Nat → Int32) : Option (Int32 × (Nat → Int32)) := if (t_known * (5 : Int32)) < 0 then (some (t_known, t_past)) else (if (50 : Int32) < ((t_known * (5 : Int32)) + (5 : Int32)) then (some (t_known, t_past)) else (jx_g (jx_in (t_known * (5 : Int32)) 50) (jx_g (jx_in ((t_known * (5 : Int32)) + (1 : Int32)) 50) (jx_g (jx_in ((t_known * (5 : Int32)) + (2 : Int32)) 50) (jx_g (jx_in ((t_known * (5 : Int32)) + (3 : Int32)) 50) (jx_b1 (mi_X11_oneIf t_struck) fun r7 => (jx_g (jx_in ((t_known * (5 : Int32)) + (4 : Int32)) 50) (some ((t_known + (1 : Int32)), (upd (upd (upd (upd (upd t_past (Int32.toNatClampNeg (t_known * (5 : Int32))) t_bar) (Int32.toNatClampNeg ((t_known * (5 : Int32)) + (1 : Int32))) t_count) (Int32.toNatClampNeg ((t_known * (5 : Int32)) + (2 : Int32))) t_waits) (Int32.toNatClampNeg ((t_known * (5 : Int32)) + (3 : Int32))) t_cut) (Int32.toNatClampNeg ((t_known * (5 : Int32)) + (4 : Int32))) r7))))))))))
def mi_X2_remember (t_bar : Int32) (t_count : Int32) (t_waits : Int32) (t_cut : Int32) (t_struck : Int32) (t_known : Int32) (t_past : Nat → Int32) : Option (Int32 × (Nat → Int32)) := if t_known < (10 : Int32) then (mi_X2_remember_b30 t_bar t_count t_waits t_cut t_struck t_known t_past) else (jx_g (jx_cp (5 : Int32) (0 : Int32) (45 : Int32) 50 50) (mi_X2_remember_b30 t_bar t_count t_waits t_cut t_struck (9 : Int32) (va_cpy t_past t_past (Int32.toNatClampNeg (5 : Int32)) (Int32.toNatClampNeg (0 : Int32)) (Int32.toNatClampNeg (45 : Int32)))))
abbrev rm_X2_remember : Room := { frames := 1, cells := 0, slots := 0, locals := 40 }
set_option maxRecDepth 100000 in
set_option maxHeartbeats 4000000 in
theorem ct_X2_remember (l : Launch) (D : va_G) (cI cZ cO : ClassId) (a_t a_t_past : Nat) (sz : Nat) (t_bar : Int32) (t_count : Int32) (t_waits : Int32) (t_cut : Int32) (t_struck : Int32) (t_known : Int32) (t_past : Nat → Int32) (z_t_known : Int32) (z_t_past : Nat → Int32) (hm : mi_X2_remember t_bar t_count t_waits t_cut t_struck t_known t_past = some (z_t_known, z_t_past)) : Met l yX2_remember wsX2_remember rm_X2_remember (va_Pc [.ref a_t] (jx_W D (jx_T cI cZ cO) sz [(a_t, .inr (2, [.int t_bar, .int t_count, .int t_waits, .int t_cut, .int t_struck, .int t_known, .ref a_t_past])), (a_t_past, .inl (cI, 50, .inl t_past))])) (jx_Q none D [(a_t, .inr (2, [.int t_bar, .int t_count, .int t_waits, .int t_cut, .int t_struck, .int z_t_known, .ref a_t_past])), (a_t_past, .inl (cI, 50, .inl z_t_past))] (va_A [(a_t, .inr (2, [.int t_bar, .int t_count, .int t_waits, .int t_cut, .int t_struck, .int t_known, .ref a_t_past])), (a_t_past, .inl (cI, 50, .inl t_past))] sz)) 0 0 (va_A [(a_t, .inr (2, [.int t_bar, .int t_count, .int t_waits, .int t_cut, .int t_struck, .int t_known, .ref a_t_past])), (a_t_past, .inl (cI, 50, .inl t_past))] sz) := by
  refine jx_metV (own := RX2) (cc := cX2_remember) (maxL := 2) (by decide) rfl rfl (Nat.le_of_ble_eq_true rfl) ?_
  intro p e s m args below meth c Q ls A hx hb hml hown hts hK hN hA hP hD hS hl hret
  have hi_X2 : ∀ w ∈ u_ws RX2 TX2 7, w ∈ wsX2_remember := by decide +kernel
  have hl : lv_has ls 2 [(0, .ref a_t)] := hl
  have bl_b30 : ∀ (t_known : Int32) (t_past : Nat → Int32) (H : Heap) (locs : List Loc) (ls : Array Slot), va_P D vwCl [(a_t, .inr (2, [.int t_bar, .int t_count, .int t_waits, .int t_cut, .int t_struck, .int t_known, .ref a_t_past])), (a_t_past, .inl (cI, 50, .inl t_past))] H → va_D A [(a_t, .inr (2, [.int t_bar, .int t_count, .int t_waits, .int t_cut, .int t_struck, .int t_known, .ref a_t_past])), (a_t_past, .inl (cI, 50, .inl t_past))] → va_S A s.heap H locs → lv_has ls 2 [(0, .ref a_t)] → mi_X2_remember_b30 t_bar t_count t_waits t_cut t_struck t_known t_past = some (z_t_known, z_t_past) → W p l e (headSpec wsX2_remember rm_X2_remember).room s m args below meth c H locs 0 0 Q (F0 m 30 ls []) := by
    intro t_known t_past H locs ls hP hD hS hl h
    unfold mi_X2_remember_b30 at h
    refine lv_aload_n hx hb dX2_remember_30 rfl (lv_at hl 0 rfl) ?_
    refine va_get (D := D) (ci := 2) (v := .int t_known) (C := RX2) (T := TX2) (N := 7) hx hb hts hi_X2 hown hK hP 0 rfl rfl 5 (by decide) (hts (.fieldLink RX2 30 "TriangleRest$Course" "known" "I") (List.mem_of_getElem? (i := 1) rfl)) (fun _ h9 => h9) rfl dX2_remember_31 ?_
    refine lv_iconst (v := (5 : Int32)) hx hb dX2_remember_34 (by decide) ?_
    refine lv_imul hx hb dX2_remember_35 ?_
    refine lv_istore_n (lv' := [(1, .int (t_known * (5 : Int32))), (0, .ref a_t)]) hx hb dX2_remember_36 rfl hl (by decide) rfl (fun ls hl => ?_)
    refine lv_iload_n hx hb dX2_remember_37 rfl (lv_at hl 0 rfl) ?_
    refine lv_if_lt (tgt := 123) hx hb dX2_remember_38 (by decide) (fun c1 => ?_) (fun c1 => ?_)
    · have h := jx_t h c1
      cases h
      exact hret 123 ls _ _ hP hD hS dX2_remember_123
    · have h := jx_f h c1
      refine lv_iload_n hx hb dX2_remember_41 rfl (lv_at hl 0 rfl) ?_
      refine lv_iconst (v := (5 : Int32)) hx hb dX2_remember_42 (by decide) ?_
      refine lv_iadd hx hb dX2_remember_43 ?_
      refine lv_aload_n hx hb dX2_remember_44 rfl (lv_at hl 1 rfl) ?_
      refine va_get (D := D) (ci := 2) (v := .ref a_t_past) (C := RX2) (T := TX2) (N := 7) hx hb hts hi_X2 hown hK hP 0 rfl rfl 6 (by decide) (hts (.fieldLink RX2 9 "TriangleRest$Course" "past" "[I") (List.mem_of_getElem? (i := 2) rfl)) (fun _ h9 => h9) rfl dX2_remember_45 ?_
      refine va_alen (v := (50 : Int32)) hx hb hK hP 1 0 rfl (ty := .int) rfl rfl dX2_remember_48 ?_
      refine lv_icmp_gt (tgt := 123) hx hb dX2_remember_49 (by decide) (fun c2 => ?_) (fun c2 => ?_)
      · have h := jx_t h c2
        cases h
        exact hret 123 ls _ _ hP hD hS dX2_remember_123
      · have h := jx_f h c2
        refine lv_aload_n hx hb dX2_remember_52 rfl (lv_at hl 1 rfl) ?_
        refine va_get (D := D) (ci := 2) (v := .ref a_t_past) (C := RX2) (T := TX2) (N := 7) hx hb hts hi_X2 hown hK hP 0 rfl rfl 6 (by decide) (hts (.fieldLink RX2 9 "TriangleRest$Course" "past" "[I") (List.mem_of_getElem? (i := 2) rfl)) (fun _ h9 => h9) rfl dX2_remember_53 ?_
        refine lv_iload_n hx hb dX2_remember_56 rfl (lv_at hl 0 rfl) ?_
        refine lv_aload_n hx hb dX2_remember_57 rfl (lv_at hl 1 rfl) ?_
        refine va_get (D := D) (ci := 2) (v := .int t_bar) (C := RX2) (T := TX2) (N := 7) hx hb hts hi_X2 hown hK hP 0 rfl rfl 0 (by decide) (hts (.fieldLink RX2 13 "TriangleRest$Course" "bar" "I") (List.mem_of_getElem? (i := 7) rfl)) (fun _ h9 => h9) rfl dX2_remember_58 ?_
        obtain ⟨g3, h⟩ := jx_g_of h
        refine va_iast hx hb hK hP hD hS 1 0 rfl rfl (jx_in_of g3) dX2_remember_61 (fun H locs hP hD hS => ?_)
        have hP : va_P D vwCl [(a_t, .inr (2, [.int t_bar, .int t_count, .int t_waits, .int t_cut, .int t_struck, .int t_known, .ref a_t_past])), (a_t_past, .inl (cI, 50, .inl (upd t_past (Int32.toNatClampNeg (t_known * (5 : Int32))) t_bar)))] H := hP
        have hD : va_D A [(a_t, .inr (2, [.int t_bar, .int t_count, .int t_waits, .int t_cut, .int t_struck, .int t_known, .ref a_t_past])), (a_t_past, .inl (cI, 50, .inl (upd t_past (Int32.toNatClampNeg (t_known * (5 : Int32))) t_bar)))] := hD
        refine lv_aload_n hx hb dX2_remember_62 rfl (lv_at hl 1 rfl) ?_
        refine va_get (D := D) (ci := 2) (v := .ref a_t_past) (C := RX2) (T := TX2) (N := 7) hx hb hts hi_X2 hown hK hP 0 rfl rfl 6 (by decide) (hts (.fieldLink RX2 9 "TriangleRest$Course" "past" "[I") (List.mem_of_getElem? (i := 2) rfl)) (fun _ h9 => h9) rfl dX2_remember_63 ?_
        refine lv_iload_n hx hb dX2_remember_66 rfl (lv_at hl 0 rfl) ?_
        refine lv_iconst (v := (1 : Int32)) hx hb dX2_remember_67 (by decide) ?_
        refine lv_iadd hx hb dX2_remember_68 ?_
        refine lv_aload_n hx hb dX2_remember_69 rfl (lv_at hl 1 rfl) ?_
        refine va_get (D := D) (ci := 2) (v := .int t_count) (C := RX2) (T := TX2) (N := 7) hx hb hts hi_X2 hown hK hP 0 rfl rfl 1 (by decide) (hts (.fieldLink RX2 17 "TriangleRest$Course" "count" "I") (List.mem_of_getElem? (i := 8) rfl)) (fun _ h9 => h9) rfl dX2_remember_70 ?_
        obtain ⟨g4, h⟩ := jx_g_of h
        refine va_iast hx hb hK hP hD hS 1 0 rfl rfl (jx_in_of g4) dX2_remember_73 (fun H locs hP hD hS => ?_)
        have hP : va_P D vwCl [(a_t, .inr (2, [.int t_bar, .int t_count, .int t_waits, .int t_cut, .int t_struck, .int t_known, .ref a_t_past])), (a_t_past, .inl (cI, 50, .inl (upd (upd t_past (Int32.toNatClampNeg (t_known * (5 : Int32))) t_bar) (Int32.toNatClampNeg ((t_known * (5 : Int32)) + (1 : Int32))) t_count)))] H := hP
        have hD : va_D A [(a_t, .inr (2, [.int t_bar, .int t_count, .int t_waits, .int t_cut, .int t_struck, .int t_known, .ref a_t_past])), (a_t_past, .inl (cI, 50, .inl (upd (upd t_past (Int32.toNatClampNeg (t_known * (5 : Int32))) t_bar) (Int32.toNatClampNeg ((t_known * (5 : Int32)) + (1 : Int32))) t_count)))] := hD
        refine lv_aload_n hx hb dX2_remember_74 rfl (lv_at hl 1 rfl) ?_
        refine va_get (D := D) (ci := 2) (v := .ref a_t_past) (C := RX2) (T := TX2) (N := 7) hx hb hts hi_X2 hown hK hP 0 rfl rfl 6 (by decide) (hts (.fieldLink RX2 9 "TriangleRest$Course" "past" "[I") (List.mem_of_getElem? (i := 2) rfl)) (fun _ h9 => h9) rfl dX2_remember_75 ?_
        refine lv_iload_n hx hb dX2_remember_78 rfl (lv_at hl 0 rfl) ?_
        refine lv_iconst (v := (2 : Int32)) hx hb dX2_remember_79 (by decide) ?_
        refine lv_iadd hx hb dX2_remember_80 ?_
        refine lv_aload_n hx hb dX2_remember_81 rfl (lv_at hl 1 rfl) ?_
        refine va_get (D := D) (ci := 2) (v := .int t_waits) (C := RX2) (T := TX2) (N := 7) hx hb hts hi_X2 hown hK hP 0 rfl rfl 2 (by decide) (hts (.fieldLink RX2 20 "TriangleRest$Course" "waits" "I") (List.mem_of_getElem? (i := 9) rfl)) (fun _ h9 => h9) rfl dX2_remember_82 ?_
        obtain ⟨g5, h⟩ := jx_g_of h
        refine va_iast hx hb hK hP hD hS 1 0 rfl rfl (jx_in_of g5) dX2_remember_85 (fun H locs hP hD hS => ?_)
        have hP : va_P D vwCl [(a_t, .inr (2, [.int t_bar, .int t_count, .int t_waits, .int t_cut, .int t_struck, .int t_known, .ref a_t_past])), (a_t_past, .inl (cI, 50, .inl (upd (upd (upd t_past (Int32.toNatClampNeg (t_known * (5 : Int32))) t_bar) (Int32.toNatClampNeg ((t_known * (5 : Int32)) + (1 : Int32))) t_count) (Int32.toNatClampNeg ((t_known * (5 : Int32)) + (2 : Int32))) t_waits)))] H := hP
        have hD : va_D A [(a_t, .inr (2, [.int t_bar, .int t_count, .int t_waits, .int t_cut, .int t_struck, .int t_known, .ref a_t_past])), (a_t_past, .inl (cI, 50, .inl (upd (upd (upd t_past (Int32.toNatClampNeg (t_known * (5 : Int32))) t_bar) (Int32.toNatClampNeg ((t_known * (5 : Int32)) + (1 : Int32))) t_count) (Int32.toNatClampNeg ((t_known * (5 : Int32)) + (2 : Int32))) t_waits)))] := hD
        refine lv_aload_n hx hb dX2_remember_86 rfl (lv_at hl 1 rfl) ?_
        refine va_get (D := D) (ci := 2) (v := .ref a_t_past) (C := RX2) (T := TX2) (N := 7) hx hb hts hi_X2 hown hK hP 0 rfl rfl 6 (by decide) (hts (.fieldLink RX2 9 "TriangleRest$Course" "past" "[I") (List.mem_of_getElem? (i := 2) rfl)) (fun _ h9 => h9) rfl dX2_remember_87 ?_
        refine lv_iload_n hx hb dX2_remember_90 rfl (lv_at hl 0 rfl) ?_
        refine lv_iconst (v := (3 : Int32)) hx hb dX2_remember_91 (by decide) ?_
        refine lv_iadd hx hb dX2_remember_92 ?_
        refine lv_aload_n hx hb dX2_remember_93 rfl (lv_at hl 1 rfl) ?_
        refine va_get (D := D) (ci := 2) (v := .int t_cut) (C := RX2) (T := TX2) (N := 7) hx hb hts hi_X2 hown hK hP 0 rfl rfl 3 (by decide) (hts (.fieldLink RX2 23 "TriangleRest$Course" "cut" "I") (List.mem_of_getElem? (i := 10) rfl)) (fun _ h9 => h9) rfl dX2_remember_94 ?_
        obtain ⟨g6, h⟩ := jx_g_of h
        refine va_iast hx hb hK hP hD hS 1 0 rfl rfl (jx_in_of g6) dX2_remember_97 (fun H locs hP hD hS => ?_)
        have hP : va_P D vwCl [(a_t, .inr (2, [.int t_bar, .int t_count, .int t_waits, .int t_cut, .int t_struck, .int t_known, .ref a_t_past])), (a_t_past, .inl (cI, 50, .inl (upd (upd (upd (upd t_past (Int32.toNatClampNeg (t_known * (5 : Int32))) t_bar) (Int32.toNatClampNeg ((t_known * (5 : Int32)) + (1 : Int32))) t_count) (Int32.toNatClampNeg ((t_known * (5 : Int32)) + (2 : Int32))) t_waits) (Int32.toNatClampNeg ((t_known * (5 : Int32)) + (3 : Int32))) t_cut)))] H := hP
        have hD : va_D A [(a_t, .inr (2, [.int t_bar, .int t_count, .int t_waits, .int t_cut, .int t_struck, .int t_known, .ref a_t_past])), (a_t_past, .inl (cI, 50, .inl (upd (upd (upd (upd t_past (Int32.toNatClampNeg (t_known * (5 : Int32))) t_bar) (Int32.toNatClampNeg ((t_known * (5 : Int32)) + (1 : Int32))) t_count) (Int32.toNatClampNeg ((t_known * (5 : Int32)) + (2 : Int32))) t_waits) (Int32.toNatClampNeg ((t_known * (5 : Int32)) + (3 : Int32))) t_cut)))] := hD
        refine lv_aload_n hx hb dX2_remember_98 rfl (lv_at hl 1 rfl) ?_
        refine va_get (D := D) (ci := 2) (v := .ref a_t_past) (C := RX2) (T := TX2) (N := 7) hx hb hts hi_X2 hown hK hP 0 rfl rfl 6 (by decide) (hts (.fieldLink RX2 9 "TriangleRest$Course" "past" "[I") (List.mem_of_getElem? (i := 2) rfl)) (fun _ h9 => h9) rfl dX2_remember_99 ?_
        refine lv_iload_n hx hb dX2_remember_102 rfl (lv_at hl 0 rfl) ?_
        refine lv_iconst (v := (4 : Int32)) hx hb dX2_remember_103 (by decide) ?_
        refine lv_iadd hx hb dX2_remember_104 ?_
        refine lv_aload_n hx hb dX2_remember_105 rfl (lv_at hl 1 rfl) ?_
        refine va_get (D := D) (ci := 2) (v := .int t_struck) (C := RX2) (T := TX2) (N := 7) hx hb hts hi_X2 hown hK hP 0 rfl rfl 4 (by decide) (hts (.fieldLink RX2 26 "TriangleRest$Course" "struck" "Z") (List.mem_of_getElem? (i := 11) rfl)) (fun _ h9 => h9) rfl dX2_remember_106 ?_
        obtain ⟨r7, e8, h⟩ := jx_b1_of h
        refine jx_cSN (o := some (.int r7)) (As := [.int t_struck]) (rest := [.int ((t_known * (5 : Int32)) + (4 : Int32)), .ref a_t_past]) ⟨hx, hb, hml, hown, hts⟩ (ct_X11_oneIf l t_struck r7 e8) ⟨va_cnB 1 hts gX2_remember_X11_oneIf_n39 rfl rfl rfl (jx_Nm hN 18 rfl) (hts (.initialized RX11) (List.mem_of_getElem? (i := 13) rfl)) (by decide +kernel) ⟨Nat.le_of_ble_eq_true rfl, Nat.le_of_ble_eq_true rfl⟩, (hts (.static yX11_oneIf) (List.mem_of_getElem? (i := 12) rfl)), trivial⟩ rfl hl.1 rfl (Nat.le_of_ble_eq_true rfl) dX2_remember_109 ⟨Nat.zero_le _, Nat.zero_le _⟩ ?_
        obtain ⟨g9, h⟩ := jx_g_of h
        refine va_iast hx hb hK hP hD hS 1 0 rfl rfl (jx_in_of g9) dX2_remember_112 (fun H locs hP hD hS => ?_)
        have hP : va_P D vwCl [(a_t, .inr (2, [.int t_bar, .int t_count, .int t_waits, .int t_cut, .int t_struck, .int t_known, .ref a_t_past])), (a_t_past, .inl (cI, 50, .inl (upd (upd (upd (upd (upd t_past (Int32.toNatClampNeg (t_known * (5 : Int32))) t_bar) (Int32.toNatClampNeg ((t_known * (5 : Int32)) + (1 : Int32))) t_count) (Int32.toNatClampNeg ((t_known * (5 : Int32)) + (2 : Int32))) t_waits) (Int32.toNatClampNeg ((t_known * (5 : Int32)) + (3 : Int32))) t_cut) (Int32.toNatClampNeg ((t_known * (5 : Int32)) + (4 : Int32))) r7)))] H := hP
        have hD : va_D A [(a_t, .inr (2, [.int t_bar, .int t_count, .int t_waits, .int t_cut, .int t_struck, .int t_known, .ref a_t_past])), (a_t_past, .inl (cI, 50, .inl (upd (upd (upd (upd (upd t_past (Int32.toNatClampNeg (t_known * (5 : Int32))) t_bar) (Int32.toNatClampNeg ((t_known * (5 : Int32)) + (1 : Int32))) t_count) (Int32.toNatClampNeg ((t_known * (5 : Int32)) + (2 : Int32))) t_waits) (Int32.toNatClampNeg ((t_known * (5 : Int32)) + (3 : Int32))) t_cut) (Int32.toNatClampNeg ((t_known * (5 : Int32)) + (4 : Int32))) r7)))] := hD
        refine lv_aload_n hx hb dX2_remember_113 rfl (lv_at hl 1 rfl) ?_
        refine lv_dup hx hb dX2_remember_114 rfl ?_
        refine va_get (D := D) (ci := 2) (v := .int t_known) (C := RX2) (T := TX2) (N := 7) hx hb hts hi_X2 hown hK hP 0 rfl rfl 5 (by decide) (hts (.fieldLink RX2 30 "TriangleRest$Course" "known" "I") (List.mem_of_getElem? (i := 1) rfl)) (fun _ h9 => h9) rfl dX2_remember_115 ?_
        refine lv_iconst (v := (1 : Int32)) hx hb dX2_remember_118 (by decide) ?_
        refine lv_iadd hx hb dX2_remember_119 ?_
        refine va_put (D := D) (ci := 2) (v := .int (t_known + (1 : Int32))) (ty := .int) (C := RX2) (T := TX2) (N := 7) hx hb hts hi_X2 tyX2 tyX2_ok nmX2 hown hK hP hD hS 0 rfl rfl 5 (by decide) (hts (.fieldLink RX2 30 "TriangleRest$Course" "known" "I") (List.mem_of_getElem? (i := 1) rfl)) (fun _ h9 => h9) rfl (by decide +kernel) rfl rfl (Nat.le_of_ble_eq_true rfl) dX2_remember_120 (fun H locs hP hD hS => ?_)
        have hP : va_P D vwCl [(a_t, .inr (2, [.int t_bar, .int t_count, .int t_waits, .int t_cut, .int t_struck, .int (t_known + (1 : Int32)), .ref a_t_past])), (a_t_past, .inl (cI, 50, .inl (upd (upd (upd (upd (upd t_past (Int32.toNatClampNeg (t_known * (5 : Int32))) t_bar) (Int32.toNatClampNeg ((t_known * (5 : Int32)) + (1 : Int32))) t_count) (Int32.toNatClampNeg ((t_known * (5 : Int32)) + (2 : Int32))) t_waits) (Int32.toNatClampNeg ((t_known * (5 : Int32)) + (3 : Int32))) t_cut) (Int32.toNatClampNeg ((t_known * (5 : Int32)) + (4 : Int32))) r7)))] H := hP
        have hD : va_D A [(a_t, .inr (2, [.int t_bar, .int t_count, .int t_waits, .int t_cut, .int t_struck, .int (t_known + (1 : Int32)), .ref a_t_past])), (a_t_past, .inl (cI, 50, .inl (upd (upd (upd (upd (upd t_past (Int32.toNatClampNeg (t_known * (5 : Int32))) t_bar) (Int32.toNatClampNeg ((t_known * (5 : Int32)) + (1 : Int32))) t_count) (Int32.toNatClampNeg ((t_known * (5 : Int32)) + (2 : Int32))) t_waits) (Int32.toNatClampNeg ((t_known * (5 : Int32)) + (3 : Int32))) t_cut) (Int32.toNatClampNeg ((t_known * (5 : Int32)) + (4 : Int32))) r7)))] := hD
        cases h
        exact hret 123 ls _ _ hP hD hS dX2_remember_123
  have h := hm
  unfold mi_X2_remember at h
  refine lv_aload_n hx hb dX2_remember_0 rfl (lv_at hl 0 rfl) ?_
  refine va_get (D := D) (ci := 2) (v := .int t_known) (C := RX2) (T := TX2) (N := 7) hx hb hts hi_X2 hown hK hP 0 rfl rfl 5 (by decide) (hts (.fieldLink RX2 30 "TriangleRest$Course" "known" "I") (List.mem_of_getElem? (i := 1) rfl)) (fun _ h9 => h9) rfl dX2_remember_1 ?_
  refine lv_bipush (v := (10 : Int32)) hx hb dX2_remember_4 (by decide) ?_
  refine lv_icmp_lt (tgt := 30) hx hb dX2_remember_6 (by decide) (fun c10 => ?_) (fun c10 => ?_)
  · have h := jx_t h c10
    exact bl_b30 t_known t_past _ _ _ hP hD hS (lv_sub hl [0] rfl) h
  · have h := jx_f h c10
    refine lv_aload_n hx hb dX2_remember_9 rfl (lv_at hl 0 rfl) ?_
    refine va_get (D := D) (ci := 2) (v := .ref a_t_past) (C := RX2) (T := TX2) (N := 7) hx hb hts hi_X2 hown hK hP 0 rfl rfl 6 (by decide) (hts (.fieldLink RX2 9 "TriangleRest$Course" "past" "[I") (List.mem_of_getElem? (i := 2) rfl)) (fun _ h9 => h9) rfl dX2_remember_10 ?_
    refine lv_iconst (v := (5 : Int32)) hx hb dX2_remember_13 (by decide) ?_
    refine lv_aload_n hx hb dX2_remember_14 rfl (lv_at hl 0 rfl) ?_
    refine va_get (D := D) (ci := 2) (v := .ref a_t_past) (C := RX2) (T := TX2) (N := 7) hx hb hts hi_X2 hown hK hP 0 rfl rfl 6 (by decide) (hts (.fieldLink RX2 9 "TriangleRest$Course" "past" "[I") (List.mem_of_getElem? (i := 2) rfl)) (fun _ h9 => h9) rfl dX2_remember_15 ?_
    refine lv_iconst (v := (0 : Int32)) hx hb dX2_remember_18 (by decide) ?_
    refine lv_bipush (v := (45 : Int32)) hx hb dX2_remember_19 (by decide) ?_
    obtain ⟨g11, h⟩ := jx_g_of h
    have g11 := jx_cp_of g11
    refine va_copyi hx hb (hml.trans hl.1.symm) hown (hts (.methodLink RX2 33 arraycopyName) (List.mem_of_getElem? (i := 3) rfl)) (hts (.native arraycopyName) (List.mem_of_getElem? (i := 4) rfl)) (hts (.static arraycopyName) (List.mem_of_getElem? (i := 5) rfl)) (hts (.initialized "java/lang/System") (List.mem_of_getElem? (i := 6) rfl)) hK hP hD hS 1 1 0 0 rfl rfl rfl rfl rfl g11.1 g11.2.1 g11.2.2.1 g11.2.2.2.1 g11.2.2.2.2 (fun _ _ => rfl) (Nat.le_of_ble_eq_true rfl) (by decide +kernel) dX2_remember_21 (fun H locs hP hD hS => ?_)
    have hP : va_P D vwCl [(a_t, .inr (2, [.int t_bar, .int t_count, .int t_waits, .int t_cut, .int t_struck, .int t_known, .ref a_t_past])), (a_t_past, .inl (cI, 50, .inl (va_cpy t_past t_past (Int32.toNatClampNeg (5 : Int32)) (Int32.toNatClampNeg (0 : Int32)) (Int32.toNatClampNeg (45 : Int32)))))] H := hP
    have hD : va_D A [(a_t, .inr (2, [.int t_bar, .int t_count, .int t_waits, .int t_cut, .int t_struck, .int t_known, .ref a_t_past])), (a_t_past, .inl (cI, 50, .inl (va_cpy t_past t_past (Int32.toNatClampNeg (5 : Int32)) (Int32.toNatClampNeg (0 : Int32)) (Int32.toNatClampNeg (45 : Int32)))))] := hD
    refine lv_aload_n hx hb dX2_remember_24 rfl (lv_at hl 0 rfl) ?_
    refine lv_bipush (v := (9 : Int32)) hx hb dX2_remember_25 (by decide) ?_
    refine va_put (D := D) (ci := 2) (v := .int (9 : Int32)) (ty := .int) (C := RX2) (T := TX2) (N := 7) hx hb hts hi_X2 tyX2 tyX2_ok nmX2 hown hK hP hD hS 0 rfl rfl 5 (by decide) (hts (.fieldLink RX2 30 "TriangleRest$Course" "known" "I") (List.mem_of_getElem? (i := 1) rfl)) (fun _ h9 => h9) rfl (by decide +kernel) rfl rfl (Nat.le_of_ble_eq_true rfl) dX2_remember_27 (fun H locs hP hD hS => ?_)
    have hP : va_P D vwCl [(a_t, .inr (2, [.int t_bar, .int t_count, .int t_waits, .int t_cut, .int t_struck, .int (9 : Int32), .ref a_t_past])), (a_t_past, .inl (cI, 50, .inl (va_cpy t_past t_past (Int32.toNatClampNeg (5 : Int32)) (Int32.toNatClampNeg (0 : Int32)) (Int32.toNatClampNeg (45 : Int32)))))] H := hP
    have hD : va_D A [(a_t, .inr (2, [.int t_bar, .int t_count, .int t_waits, .int t_cut, .int t_struck, .int (9 : Int32), .ref a_t_past])), (a_t_past, .inl (cI, 50, .inl (va_cpy t_past t_past (Int32.toNatClampNeg (5 : Int32)) (Int32.toNatClampNeg (0 : Int32)) (Int32.toNatClampNeg (45 : Int32)))))] := hD
    exact bl_b30 (9 : Int32) (va_cpy t_past t_past (Int32.toNatClampNeg (5 : Int32)) (Int32.toNatClampNeg (0 : Int32)) (Int32.toNatClampNeg (45 : Int32))) _ _ _ hP hD hS (lv_sub hl [0] rfl) h
def mi_X2_recall (t_bar : Int32) (t_count : Int32) (t_waits : Int32) (t_cut : Int32) (t_struck : Int32) (t_known : Int32) (t_past : Nat → Int32) : Option (Int32 × Int32 × Int32 × Int32 × Int32 × Int32) := if ((t_known - (1 : Int32)) * (5 : Int32)) < 0 then (some (t_bar, t_count, t_waits, t_cut, t_struck, t_known)) else (if (50 : Int32) < (((t_known - (1 : Int32)) * (5 : Int32)) + (5 : Int32)) then (some (t_bar, t_count, t_waits, t_cut, t_struck, t_known)) else (jx_g (jx_in ((t_known - (1 : Int32)) * (5 : Int32)) 50) (jx_g (jx_in (((t_known - (1 : Int32)) * (5 : Int32)) + (1 : Int32)) 50) (jx_g (jx_in (((t_known - (1 : Int32)) * (5 : Int32)) + (2 : Int32)) 50) (jx_g (jx_in (((t_known - (1 : Int32)) * (5 : Int32)) + (3 : Int32)) 50) (jx_g (jx_in (((t_known - (1 : Int32)) * (5 : Int32)) + (4 : Int32)) 50) (if (t_past (Int32.toNatClampNeg (((t_known - (1 : Int32)) * (5 : Int32)) + (4 : Int32)))) = (1 : Int32) then (some ((t_past (Int32.toNatClampNeg ((t_known - (1 : Int32)) * (5 : Int32)))), (t_past (Int32.toNatClampNeg (((t_known - (1 : Int32)) * (5 : Int32)) + (1 : Int32)))), (t_past (Int32.toNatClampNeg (((t_known - (1 : Int32)) * (5 : Int32)) + (2 : Int32)))), (t_past (Int32.toNatClampNeg (((t_known - (1 : Int32)) * (5 : Int32)) + (3 : Int32)))), (1 : Int32), (t_known - (1 : Int32)))) else (some ((t_past (Int32.toNatClampNeg ((t_known - (1 : Int32)) * (5 : Int32)))), (t_past (Int32.toNatClampNeg (((t_known - (1 : Int32)) * (5 : Int32)) + (1 : Int32)))), (t_past (Int32.toNatClampNeg (((t_known - (1 : Int32)) * (5 : Int32)) + (2 : Int32)))), (t_past (Int32.toNatClampNeg (((t_known - (1 : Int32)) * (5 : Int32)) + (3 : Int32)))), (0 : Int32), (t_known - (1 : Int32)))))))))))
abbrev rm_X2_recall : Room := { frames := 0, cells := 0, slots := 0, locals := 0 }
set_option maxRecDepth 100000 in
set_option maxHeartbeats 4000000 in
theorem ct_X2_recall (l : Launch) (D : va_G) (cI cZ cO : ClassId) (a_t a_t_past : Nat) (sz : Nat) (t_bar : Int32) (t_count : Int32) (t_waits : Int32) (t_cut : Int32) (t_struck : Int32) (t_known : Int32) (t_past : Nat → Int32) (z_t_bar : Int32) (z_t_count : Int32) (z_t_waits : Int32) (z_t_cut : Int32) (z_t_struck : Int32) (z_t_known : Int32) (hm : mi_X2_recall t_bar t_count t_waits t_cut t_struck t_known t_past = some (z_t_bar, z_t_count, z_t_waits, z_t_cut, z_t_struck, z_t_known)) : Met l yX2_recall wsX2_recall rm_X2_recall (va_Pc [.ref a_t] (jx_W D (jx_T cI cZ cO) sz [(a_t, .inr (2, [.int t_bar, .int t_count, .int t_waits, .int t_cut, .int t_struck, .int t_known, .ref a_t_past])), (a_t_past, .inl (cI, 50, .inl t_past))])) (jx_Q none D [(a_t, .inr (2, [.int z_t_bar, .int z_t_count, .int z_t_waits, .int z_t_cut, .int z_t_struck, .int z_t_known, .ref a_t_past])), (a_t_past, .inl (cI, 50, .inl t_past))] (va_A [(a_t, .inr (2, [.int t_bar, .int t_count, .int t_waits, .int t_cut, .int t_struck, .int t_known, .ref a_t_past])), (a_t_past, .inl (cI, 50, .inl t_past))] sz)) 0 0 (va_A [(a_t, .inr (2, [.int t_bar, .int t_count, .int t_waits, .int t_cut, .int t_struck, .int t_known, .ref a_t_past])), (a_t_past, .inl (cI, 50, .inl t_past))] sz) := by
  refine jx_metV (own := RX2) (cc := cX2_recall) (maxL := 2) (by decide) rfl rfl (Nat.le_of_ble_eq_true rfl) ?_
  intro p e s m args below meth c Q ls A hx hb hml hown hts hK hN hA hP hD hS hl hret
  have hi_X2 : ∀ w ∈ u_ws RX2 TX2 7, w ∈ wsX2_recall := by decide +kernel
  have hl : lv_has ls 2 [(0, .ref a_t)] := hl
  have h := hm
  unfold mi_X2_recall at h
  refine lv_aload_n hx hb dX2_recall_0 rfl (lv_at hl 0 rfl) ?_
  refine va_get (D := D) (ci := 2) (v := .int t_known) (C := RX2) (T := TX2) (N := 7) hx hb hts hi_X2 hown hK hP 0 rfl rfl 5 (by decide) (hts (.fieldLink RX2 30 "TriangleRest$Course" "known" "I") (List.mem_of_getElem? (i := 1) rfl)) (fun _ h9 => h9) rfl dX2_recall_1 ?_
  refine lv_iconst (v := (1 : Int32)) hx hb dX2_recall_4 (by decide) ?_
  refine lv_isub hx hb dX2_recall_5 ?_
  refine lv_iconst (v := (5 : Int32)) hx hb dX2_recall_6 (by decide) ?_
  refine lv_imul hx hb dX2_recall_7 ?_
  refine lv_istore_n (lv' := [(1, .int ((t_known - (1 : Int32)) * (5 : Int32))), (0, .ref a_t)]) hx hb dX2_recall_8 rfl hl (by decide) rfl (fun ls hl => ?_)
  refine lv_iload_n hx hb dX2_recall_9 rfl (lv_at hl 0 rfl) ?_
  refine lv_if_lt (tgt := 101) hx hb dX2_recall_10 (by decide) (fun c1 => ?_) (fun c1 => ?_)
  · have h := jx_t h c1
    have hq_0 := Option.some.inj h
    obtain ⟨hz_1, hq_1⟩ := Prod.mk.inj hq_0
    obtain ⟨hz_2, hq_2⟩ := Prod.mk.inj hq_1
    obtain ⟨hz_3, hq_3⟩ := Prod.mk.inj hq_2
    obtain ⟨hz_4, hq_4⟩ := Prod.mk.inj hq_3
    obtain ⟨hz_5, hq_5⟩ := Prod.mk.inj hq_4
    subst hz_1
    subst hz_2
    subst hz_3
    subst hz_4
    subst hz_5
    subst hq_5
    exact hret 101 ls _ _ hP hD hS dX2_recall_101
  · have h := jx_f h c1
    refine lv_iload_n hx hb dX2_recall_13 rfl (lv_at hl 0 rfl) ?_
    refine lv_iconst (v := (5 : Int32)) hx hb dX2_recall_14 (by decide) ?_
    refine lv_iadd hx hb dX2_recall_15 ?_
    refine lv_aload_n hx hb dX2_recall_16 rfl (lv_at hl 1 rfl) ?_
    refine va_get (D := D) (ci := 2) (v := .ref a_t_past) (C := RX2) (T := TX2) (N := 7) hx hb hts hi_X2 hown hK hP 0 rfl rfl 6 (by decide) (hts (.fieldLink RX2 9 "TriangleRest$Course" "past" "[I") (List.mem_of_getElem? (i := 2) rfl)) (fun _ h9 => h9) rfl dX2_recall_17 ?_
    refine va_alen (v := (50 : Int32)) hx hb hK hP 1 0 rfl (ty := .int) rfl rfl dX2_recall_20 ?_
    refine lv_icmp_gt (tgt := 101) hx hb dX2_recall_21 (by decide) (fun c2 => ?_) (fun c2 => ?_)
    · have h := jx_t h c2
      have hq_0 := Option.some.inj h
      obtain ⟨hz_1, hq_1⟩ := Prod.mk.inj hq_0
      obtain ⟨hz_2, hq_2⟩ := Prod.mk.inj hq_1
      obtain ⟨hz_3, hq_3⟩ := Prod.mk.inj hq_2
      obtain ⟨hz_4, hq_4⟩ := Prod.mk.inj hq_3
      obtain ⟨hz_5, hq_5⟩ := Prod.mk.inj hq_4
      subst hz_1
      subst hz_2
      subst hz_3
      subst hz_4
      subst hz_5
      subst hq_5
      exact hret 101 ls _ _ hP hD hS dX2_recall_101
    · have h := jx_f h c2
      refine lv_aload_n hx hb dX2_recall_24 rfl (lv_at hl 1 rfl) ?_
      refine lv_dup hx hb dX2_recall_25 rfl ?_
      refine va_get (D := D) (ci := 2) (v := .int t_known) (C := RX2) (T := TX2) (N := 7) hx hb hts hi_X2 hown hK hP 0 rfl rfl 5 (by decide) (hts (.fieldLink RX2 30 "TriangleRest$Course" "known" "I") (List.mem_of_getElem? (i := 1) rfl)) (fun _ h9 => h9) rfl dX2_recall_26 ?_
      refine lv_iconst (v := (1 : Int32)) hx hb dX2_recall_29 (by decide) ?_
      refine lv_isub hx hb dX2_recall_30 ?_
      refine va_put (D := D) (ci := 2) (v := .int (t_known - (1 : Int32))) (ty := .int) (C := RX2) (T := TX2) (N := 7) hx hb hts hi_X2 tyX2 tyX2_ok nmX2 hown hK hP hD hS 0 rfl rfl 5 (by decide) (hts (.fieldLink RX2 30 "TriangleRest$Course" "known" "I") (List.mem_of_getElem? (i := 1) rfl)) (fun _ h9 => h9) rfl (by decide +kernel) rfl rfl (Nat.le_of_ble_eq_true rfl) dX2_recall_31 (fun H locs hP hD hS => ?_)
      have hP : va_P D vwCl [(a_t, .inr (2, [.int t_bar, .int t_count, .int t_waits, .int t_cut, .int t_struck, .int (t_known - (1 : Int32)), .ref a_t_past])), (a_t_past, .inl (cI, 50, .inl t_past))] H := hP
      have hD : va_D A [(a_t, .inr (2, [.int t_bar, .int t_count, .int t_waits, .int t_cut, .int t_struck, .int (t_known - (1 : Int32)), .ref a_t_past])), (a_t_past, .inl (cI, 50, .inl t_past))] := hD
      refine lv_aload_n hx hb dX2_recall_34 rfl (lv_at hl 1 rfl) ?_
      refine lv_aload_n hx hb dX2_recall_35 rfl (lv_at hl 1 rfl) ?_
      refine va_get (D := D) (ci := 2) (v := .ref a_t_past) (C := RX2) (T := TX2) (N := 7) hx hb hts hi_X2 hown hK hP 0 rfl rfl 6 (by decide) (hts (.fieldLink RX2 9 "TriangleRest$Course" "past" "[I") (List.mem_of_getElem? (i := 2) rfl)) (fun _ h9 => h9) rfl dX2_recall_36 ?_
      refine lv_iload_n hx hb dX2_recall_39 rfl (lv_at hl 0 rfl) ?_
      obtain ⟨g3, h⟩ := jx_g_of h
      refine va_iald hx hb hK hP 1 0 rfl rfl (jx_in_of g3) dX2_recall_40 ?_
      refine va_put (D := D) (ci := 2) (v := .int (t_past (Int32.toNatClampNeg ((t_known - (1 : Int32)) * (5 : Int32))))) (ty := .int) (C := RX2) (T := TX2) (N := 7) hx hb hts hi_X2 tyX2 tyX2_ok nmX2 hown hK hP hD hS 0 rfl rfl 0 (by decide) (hts (.fieldLink RX2 13 "TriangleRest$Course" "bar" "I") (List.mem_of_getElem? (i := 3) rfl)) (fun _ h9 => h9) rfl (by decide +kernel) rfl rfl (Nat.le_of_ble_eq_true rfl) dX2_recall_41 (fun H locs hP hD hS => ?_)
      have hP : va_P D vwCl [(a_t, .inr (2, [.int (t_past (Int32.toNatClampNeg ((t_known - (1 : Int32)) * (5 : Int32)))), .int t_count, .int t_waits, .int t_cut, .int t_struck, .int (t_known - (1 : Int32)), .ref a_t_past])), (a_t_past, .inl (cI, 50, .inl t_past))] H := hP
      have hD : va_D A [(a_t, .inr (2, [.int (t_past (Int32.toNatClampNeg ((t_known - (1 : Int32)) * (5 : Int32)))), .int t_count, .int t_waits, .int t_cut, .int t_struck, .int (t_known - (1 : Int32)), .ref a_t_past])), (a_t_past, .inl (cI, 50, .inl t_past))] := hD
      refine lv_aload_n hx hb dX2_recall_44 rfl (lv_at hl 1 rfl) ?_
      refine lv_aload_n hx hb dX2_recall_45 rfl (lv_at hl 1 rfl) ?_
      refine va_get (D := D) (ci := 2) (v := .ref a_t_past) (C := RX2) (T := TX2) (N := 7) hx hb hts hi_X2 hown hK hP 0 rfl rfl 6 (by decide) (hts (.fieldLink RX2 9 "TriangleRest$Course" "past" "[I") (List.mem_of_getElem? (i := 2) rfl)) (fun _ h9 => h9) rfl dX2_recall_46 ?_
      refine lv_iload_n hx hb dX2_recall_49 rfl (lv_at hl 0 rfl) ?_
      refine lv_iconst (v := (1 : Int32)) hx hb dX2_recall_50 (by decide) ?_
      refine lv_iadd hx hb dX2_recall_51 ?_
      obtain ⟨g4, h⟩ := jx_g_of h
      refine va_iald hx hb hK hP 1 0 rfl rfl (jx_in_of g4) dX2_recall_52 ?_
      refine va_put (D := D) (ci := 2) (v := .int (t_past (Int32.toNatClampNeg (((t_known - (1 : Int32)) * (5 : Int32)) + (1 : Int32))))) (ty := .int) (C := RX2) (T := TX2) (N := 7) hx hb hts hi_X2 tyX2 tyX2_ok nmX2 hown hK hP hD hS 0 rfl rfl 1 (by decide) (hts (.fieldLink RX2 17 "TriangleRest$Course" "count" "I") (List.mem_of_getElem? (i := 4) rfl)) (fun _ h9 => h9) rfl (by decide +kernel) rfl rfl (Nat.le_of_ble_eq_true rfl) dX2_recall_53 (fun H locs hP hD hS => ?_)
      have hP : va_P D vwCl [(a_t, .inr (2, [.int (t_past (Int32.toNatClampNeg ((t_known - (1 : Int32)) * (5 : Int32)))), .int (t_past (Int32.toNatClampNeg (((t_known - (1 : Int32)) * (5 : Int32)) + (1 : Int32)))), .int t_waits, .int t_cut, .int t_struck, .int (t_known - (1 : Int32)), .ref a_t_past])), (a_t_past, .inl (cI, 50, .inl t_past))] H := hP
      have hD : va_D A [(a_t, .inr (2, [.int (t_past (Int32.toNatClampNeg ((t_known - (1 : Int32)) * (5 : Int32)))), .int (t_past (Int32.toNatClampNeg (((t_known - (1 : Int32)) * (5 : Int32)) + (1 : Int32)))), .int t_waits, .int t_cut, .int t_struck, .int (t_known - (1 : Int32)), .ref a_t_past])), (a_t_past, .inl (cI, 50, .inl t_past))] := hD
      refine lv_aload_n hx hb dX2_recall_56 rfl (lv_at hl 1 rfl) ?_
      refine lv_aload_n hx hb dX2_recall_57 rfl (lv_at hl 1 rfl) ?_
      refine va_get (D := D) (ci := 2) (v := .ref a_t_past) (C := RX2) (T := TX2) (N := 7) hx hb hts hi_X2 hown hK hP 0 rfl rfl 6 (by decide) (hts (.fieldLink RX2 9 "TriangleRest$Course" "past" "[I") (List.mem_of_getElem? (i := 2) rfl)) (fun _ h9 => h9) rfl dX2_recall_58 ?_
      refine lv_iload_n hx hb dX2_recall_61 rfl (lv_at hl 0 rfl) ?_
      refine lv_iconst (v := (2 : Int32)) hx hb dX2_recall_62 (by decide) ?_
      refine lv_iadd hx hb dX2_recall_63 ?_
      obtain ⟨g5, h⟩ := jx_g_of h
      refine va_iald hx hb hK hP 1 0 rfl rfl (jx_in_of g5) dX2_recall_64 ?_
      refine va_put (D := D) (ci := 2) (v := .int (t_past (Int32.toNatClampNeg (((t_known - (1 : Int32)) * (5 : Int32)) + (2 : Int32))))) (ty := .int) (C := RX2) (T := TX2) (N := 7) hx hb hts hi_X2 tyX2 tyX2_ok nmX2 hown hK hP hD hS 0 rfl rfl 2 (by decide) (hts (.fieldLink RX2 20 "TriangleRest$Course" "waits" "I") (List.mem_of_getElem? (i := 5) rfl)) (fun _ h9 => h9) rfl (by decide +kernel) rfl rfl (Nat.le_of_ble_eq_true rfl) dX2_recall_65 (fun H locs hP hD hS => ?_)
      have hP : va_P D vwCl [(a_t, .inr (2, [.int (t_past (Int32.toNatClampNeg ((t_known - (1 : Int32)) * (5 : Int32)))), .int (t_past (Int32.toNatClampNeg (((t_known - (1 : Int32)) * (5 : Int32)) + (1 : Int32)))), .int (t_past (Int32.toNatClampNeg (((t_known - (1 : Int32)) * (5 : Int32)) + (2 : Int32)))), .int t_cut, .int t_struck, .int (t_known - (1 : Int32)), .ref a_t_past])), (a_t_past, .inl (cI, 50, .inl t_past))] H := hP
      have hD : va_D A [(a_t, .inr (2, [.int (t_past (Int32.toNatClampNeg ((t_known - (1 : Int32)) * (5 : Int32)))), .int (t_past (Int32.toNatClampNeg (((t_known - (1 : Int32)) * (5 : Int32)) + (1 : Int32)))), .int (t_past (Int32.toNatClampNeg (((t_known - (1 : Int32)) * (5 : Int32)) + (2 : Int32)))), .int t_cut, .int t_struck, .int (t_known - (1 : Int32)), .ref a_t_past])), (a_t_past, .inl (cI, 50, .inl t_past))] := hD
      refine lv_aload_n hx hb dX2_recall_68 rfl (lv_at hl 1 rfl) ?_
      refine lv_aload_n hx hb dX2_recall_69 rfl (lv_at hl 1 rfl) ?_
      refine va_get (D := D) (ci := 2) (v := .ref a_t_past) (C := RX2) (T := TX2) (N := 7) hx hb hts hi_X2 hown hK hP 0 rfl rfl 6 (by decide) (hts (.fieldLink RX2 9 "TriangleRest$Course" "past" "[I") (List.mem_of_getElem? (i := 2) rfl)) (fun _ h9 => h9) rfl dX2_recall_70 ?_
      refine lv_iload_n hx hb dX2_recall_73 rfl (lv_at hl 0 rfl) ?_
      refine lv_iconst (v := (3 : Int32)) hx hb dX2_recall_74 (by decide) ?_
      refine lv_iadd hx hb dX2_recall_75 ?_
      obtain ⟨g6, h⟩ := jx_g_of h
      refine va_iald hx hb hK hP 1 0 rfl rfl (jx_in_of g6) dX2_recall_76 ?_
      refine va_put (D := D) (ci := 2) (v := .int (t_past (Int32.toNatClampNeg (((t_known - (1 : Int32)) * (5 : Int32)) + (3 : Int32))))) (ty := .int) (C := RX2) (T := TX2) (N := 7) hx hb hts hi_X2 tyX2 tyX2_ok nmX2 hown hK hP hD hS 0 rfl rfl 3 (by decide) (hts (.fieldLink RX2 23 "TriangleRest$Course" "cut" "I") (List.mem_of_getElem? (i := 6) rfl)) (fun _ h9 => h9) rfl (by decide +kernel) rfl rfl (Nat.le_of_ble_eq_true rfl) dX2_recall_77 (fun H locs hP hD hS => ?_)
      have hP : va_P D vwCl [(a_t, .inr (2, [.int (t_past (Int32.toNatClampNeg ((t_known - (1 : Int32)) * (5 : Int32)))), .int (t_past (Int32.toNatClampNeg (((t_known - (1 : Int32)) * (5 : Int32)) + (1 : Int32)))), .int (t_past (Int32.toNatClampNeg (((t_known - (1 : Int32)) * (5 : Int32)) + (2 : Int32)))), .int (t_past (Int32.toNatClampNeg (((t_known - (1 : Int32)) * (5 : Int32)) + (3 : Int32)))), .int t_struck, .int (t_known - (1 : Int32)), .ref a_t_past])), (a_t_past, .inl (cI, 50, .inl t_past))] H := hP
      have hD : va_D A [(a_t, .inr (2, [.int (t_past (Int32.toNatClampNeg ((t_known - (1 : Int32)) * (5 : Int32)))), .int (t_past (Int32.toNatClampNeg (((t_known - (1 : Int32)) * (5 : Int32)) + (1 : Int32)))), .int (t_past (Int32.toNatClampNeg (((t_known - (1 : Int32)) * (5 : Int32)) + (2 : Int32)))), .int (t_past (Int32.toNatClampNeg (((t_known - (1 : Int32)) * (5 : Int32)) + (3 : Int32)))), .int t_struck, .int (t_known - (1 : Int32)), .ref a_t_past])), (a_t_past, .inl (cI, 50, .inl t_past))] := hD
      refine lv_aload_n hx hb dX2_recall_80 rfl (lv_at hl 1 rfl) ?_
      refine lv_aload_n hx hb dX2_recall_81 rfl (lv_at hl 1 rfl) ?_
      refine va_get (D := D) (ci := 2) (v := .ref a_t_past) (C := RX2) (T := TX2) (N := 7) hx hb hts hi_X2 hown hK hP 0 rfl rfl 6 (by decide) (hts (.fieldLink RX2 9 "TriangleRest$Course" "past" "[I") (List.mem_of_getElem? (i := 2) rfl)) (fun _ h9 => h9) rfl dX2_recall_82 ?_
      refine lv_iload_n hx hb dX2_recall_85 rfl (lv_at hl 0 rfl) ?_
      refine lv_iconst (v := (4 : Int32)) hx hb dX2_recall_86 (by decide) ?_
      refine lv_iadd hx hb dX2_recall_87 ?_
      obtain ⟨g7, h⟩ := jx_g_of h
      refine va_iald hx hb hK hP 1 0 rfl rfl (jx_in_of g7) dX2_recall_88 ?_
      refine lv_iconst (v := (1 : Int32)) hx hb dX2_recall_89 (by decide) ?_
      refine lv_icmp_ne (tgt := 97) hx hb dX2_recall_90 (by decide) (fun c8 => ?_) (fun c8 => ?_)
      · have h := jx_f h c8
        refine lv_iconst (v := (0 : Int32)) hx hb dX2_recall_97 (by decide) ?_
        refine va_put (D := D) (ci := 2) (v := .int (0 : Int32)) (ty := .boolean) (C := RX2) (T := TX2) (N := 7) hx hb hts hi_X2 tyX2 tyX2_ok nmX2 hown hK hP hD hS 0 rfl rfl 4 (by decide) (hts (.fieldLink RX2 26 "TriangleRest$Course" "struck" "Z") (List.mem_of_getElem? (i := 7) rfl)) (fun _ h9 => h9) rfl (by decide +kernel) rfl rfl (Nat.le_of_ble_eq_true rfl) dX2_recall_98 (fun H locs hP hD hS => ?_)
        have hP : va_P D vwCl [(a_t, .inr (2, [.int (t_past (Int32.toNatClampNeg ((t_known - (1 : Int32)) * (5 : Int32)))), .int (t_past (Int32.toNatClampNeg (((t_known - (1 : Int32)) * (5 : Int32)) + (1 : Int32)))), .int (t_past (Int32.toNatClampNeg (((t_known - (1 : Int32)) * (5 : Int32)) + (2 : Int32)))), .int (t_past (Int32.toNatClampNeg (((t_known - (1 : Int32)) * (5 : Int32)) + (3 : Int32)))), .int (0 : Int32), .int (t_known - (1 : Int32)), .ref a_t_past])), (a_t_past, .inl (cI, 50, .inl t_past))] H := hP
        have hD : va_D A [(a_t, .inr (2, [.int (t_past (Int32.toNatClampNeg ((t_known - (1 : Int32)) * (5 : Int32)))), .int (t_past (Int32.toNatClampNeg (((t_known - (1 : Int32)) * (5 : Int32)) + (1 : Int32)))), .int (t_past (Int32.toNatClampNeg (((t_known - (1 : Int32)) * (5 : Int32)) + (2 : Int32)))), .int (t_past (Int32.toNatClampNeg (((t_known - (1 : Int32)) * (5 : Int32)) + (3 : Int32)))), .int (0 : Int32), .int (t_known - (1 : Int32)), .ref a_t_past])), (a_t_past, .inl (cI, 50, .inl t_past))] := hD
        have hq_0 := Option.some.inj h
        obtain ⟨hz_1, hq_1⟩ := Prod.mk.inj hq_0
        obtain ⟨hz_2, hq_2⟩ := Prod.mk.inj hq_1
        obtain ⟨hz_3, hq_3⟩ := Prod.mk.inj hq_2
        obtain ⟨hz_4, hq_4⟩ := Prod.mk.inj hq_3
        obtain ⟨hz_5, hq_5⟩ := Prod.mk.inj hq_4
        subst hz_1
        subst hz_2
        subst hz_3
        subst hz_4
        subst hz_5
        subst hq_5
        exact hret 101 ls _ _ hP hD hS dX2_recall_101
      · have h := jx_t h c8
        refine lv_iconst (v := (1 : Int32)) hx hb dX2_recall_93 (by decide) ?_
        refine lv_goto (tgt := 98) hx hb dX2_recall_94 (by decide) ?_
        refine va_put (D := D) (ci := 2) (v := .int (1 : Int32)) (ty := .boolean) (C := RX2) (T := TX2) (N := 7) hx hb hts hi_X2 tyX2 tyX2_ok nmX2 hown hK hP hD hS 0 rfl rfl 4 (by decide) (hts (.fieldLink RX2 26 "TriangleRest$Course" "struck" "Z") (List.mem_of_getElem? (i := 7) rfl)) (fun _ h9 => h9) rfl (by decide +kernel) rfl rfl (Nat.le_of_ble_eq_true rfl) dX2_recall_98 (fun H locs hP hD hS => ?_)
        have hP : va_P D vwCl [(a_t, .inr (2, [.int (t_past (Int32.toNatClampNeg ((t_known - (1 : Int32)) * (5 : Int32)))), .int (t_past (Int32.toNatClampNeg (((t_known - (1 : Int32)) * (5 : Int32)) + (1 : Int32)))), .int (t_past (Int32.toNatClampNeg (((t_known - (1 : Int32)) * (5 : Int32)) + (2 : Int32)))), .int (t_past (Int32.toNatClampNeg (((t_known - (1 : Int32)) * (5 : Int32)) + (3 : Int32)))), .int (1 : Int32), .int (t_known - (1 : Int32)), .ref a_t_past])), (a_t_past, .inl (cI, 50, .inl t_past))] H := hP
        have hD : va_D A [(a_t, .inr (2, [.int (t_past (Int32.toNatClampNeg ((t_known - (1 : Int32)) * (5 : Int32)))), .int (t_past (Int32.toNatClampNeg (((t_known - (1 : Int32)) * (5 : Int32)) + (1 : Int32)))), .int (t_past (Int32.toNatClampNeg (((t_known - (1 : Int32)) * (5 : Int32)) + (2 : Int32)))), .int (t_past (Int32.toNatClampNeg (((t_known - (1 : Int32)) * (5 : Int32)) + (3 : Int32)))), .int (1 : Int32), .int (t_known - (1 : Int32)), .ref a_t_past])), (a_t_past, .inl (cI, 50, .inl t_past))] := hD
        have hq_0 := Option.some.inj h
        obtain ⟨hz_1, hq_1⟩ := Prod.mk.inj hq_0
        obtain ⟨hz_2, hq_2⟩ := Prod.mk.inj hq_1
        obtain ⟨hz_3, hq_3⟩ := Prod.mk.inj hq_2
        obtain ⟨hz_4, hq_4⟩ := Prod.mk.inj hq_3
        obtain ⟨hz_5, hq_5⟩ := Prod.mk.inj hq_4
        subst hz_1
        subst hz_2
        subst hz_3
        subst hz_4
        subst hz_5
        subst hq_5
        exact hret 101 ls _ _ hP hD hS dX2_recall_101
