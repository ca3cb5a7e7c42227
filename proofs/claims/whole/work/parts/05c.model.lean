/-! written by program (wip/whole/gen.py) out of the printed names: each method as a pure function, and its contract -/
def mi_X12_trim_b108 (k_l24 : Int32 → Int32 → Int32 → Option (Int32)) (x2 : Int32) (x4 : Int32) (k0 : Int32) : Option (Int32) := k_l24 x2 k0 (x4 + 1)
def mi_X12_trim_b107 (k_l24 : Int32 → Int32 → Int32 → Option (Int32)) (x2 : Int32) (x3 : Int32) (x4 : Int32) : Option (Int32) := mi_X12_trim_b108 k_l24 x2 x4 x3
def mi_X12_trim_b102 (k_l24 : Int32 → Int32 → Int32 → Option (Int32)) (x2 : Int32) (x4 : Int32) : Option (Int32) := mi_X12_trim_b108 k_l24 x2 x4 x4
def mi_X12_trim_b77 (k_l24 : Int32 → Int32 → Int32 → Option (Int32)) (x2 : Int32) (x3 : Int32) (x4 : Int32) (k0 : Int32) : Option (Int32) := if k0 = 0 then (mi_X12_trim_b107 k_l24 x2 x3 x4) else (if x3 = (-9 : Int32) then (mi_X12_trim_b102 k_l24 x2 x4) else (jx_b1 (mi_X12_ones x4) fun r9 => (jx_b1 (mi_X12_ones x3) fun r11 => (if r11 ≤ r9 then (mi_X12_trim_b107 k_l24 x2 x3 x4) else (mi_X12_trim_b102 k_l24 x2 x4)))))
def mi_X12_trim_b76 (k_l24 : Int32 → Int32 → Int32 → Option (Int32)) (x2 : Int32) (x3 : Int32) (x4 : Int32) : Option (Int32) := mi_X12_trim_b77 k_l24 x2 x3 x4 (0 : Int32)
def mi_X12_trim_l24 (t_told : Nat → Int32) (t_s : Nat → Int32) (p1 : Int32) : Nat → Int32 → Int32 → Int32 → Option (Int32)
  | 0, _, _, _ => none
  | n + 1, x2, x3, x4 => if ((1 : Int32) <<< ((t_told (Int32.toNatClampNeg (0 : Int32))) &&& 31)) ≤ x4 then (some (x3)) else (if (t_told (Int32.toNatClampNeg (0 : Int32))) ≤ 0 then (some (x3)) else (if (x4 &&& (x2 ^^^ (-1 : Int32))) = 0 then (jx_b1 (mi_X12_noteBar t_told ((t_s (Int32.toNatClampNeg (3 : Int32))) ||| x4)) fun r4 => (if r4 = p1 then (mi_X12_trim_b77 (mi_X12_trim_l24 t_told t_s p1 n) x2 x3 x4 (1 : Int32)) else (mi_X12_trim_b76 (mi_X12_trim_l24 t_told t_s p1 n) x2 x3 x4))) else (mi_X12_trim_b76 (mi_X12_trim_l24 t_told t_s p1 n) x2 x3 x4)))
def mi_X12_trim (t_told : Nat → Int32) (t_s : Nat → Int32) (p1 : Int32) : Option (Int32) := jx_b1 (mi_X12_in p1 (0 : Int32) (999 : Int32)) fun r14 => (if r14 = 0 then (some ((-1 : Int32))) else (jx_b1 (mi_X12_allThatMay t_told t_s) fun r17 => (mi_X12_trim_l24 t_told t_s p1 jx_F r17 (-9 : Int32) (0 : Int32))))
abbrev rm_X12_trim : Room := { frames := 5, cells := 0, slots := 0, locals := 109 }
set_option maxRecDepth 100000 in
set_option maxHeartbeats 4000000 in
theorem ct_X12_trim (l : Launch) (D : va_G) (cI cZ cO : ClassId) (a_t a_t_text a_t_told a_t_draft a_t_s a_t_images a_t_kept a_t_notes a_t_players a_t_answers a_t_room a_t_inRest : Nat) (t_trace : Int64) (t_typed : Int32) (t_noted : Int32) (t_at : Int32) (t_sort : Int32) (t_start : Int32) (t_value : Int32) (t_told : Nat → Int32) (t_s : Nat → Int32) (p1 : Int32) (r : Int32) (hm : mi_X12_trim t_told t_s p1 = some r) : Met l yX12_trim wsX12_trim rm_X12_trim (va_Pc [.ref a_t, .int p1] (jx_R D (jx_T cI cZ cO) [(a_t, .inr (12, [.long t_trace, .ref a_t_text, .int t_typed, .ref a_t_told, .ref a_t_draft, .ref a_t_s, .ref a_t_images, .ref a_t_kept, .ref a_t_notes, .int t_noted, .int t_at, .int t_sort, .int t_start, .int t_value, .ref a_t_players, .ref a_t_answers, .ref a_t_room, .ref a_t_inRest])), (a_t_told, .inl (cI, 36, .inl t_told)), (a_t_s, .inl (cI, 56, .inl t_s))])) (jx_S (some (.int r))) 0 0 (fun _ => False) := by
  refine jx_metR (ty := .int) (own := RX12) (cc := cX12_trim) (maxL := 6) (by decide) rfl rfl (Nat.le_of_ble_eq_true rfl) ?_
  intro p e s m args below meth c Q ls hx hb hml hown hts hK hN hP hl hret
  have hi_X12 : ∀ w ∈ u_ws RX12 TX12 18, w ∈ wsX12_trim := by decide +kernel
  have hl : lv_has ls 6 [(0, .ref a_t), (1, .int p1)] := hl
  have bl_l24 : ∀ (n : Nat) (x2 : Int32) (x3 : Int32) (x4 : Int32) (ls : Array Slot), lv_has ls 6 [(0, .ref a_t), (1, .int p1), (2, .int x2), (3, .int x3), (4, .int x4)] → mi_X12_trim_l24 t_told t_s p1 n x2 x3 x4 = some r → W p l e (headSpec wsX12_trim rm_X12_trim).room s m args below meth c s.heap [] 0 0 Q (F0 m 24 ls []) := by
    intro n
    induction n with
    | zero =>
      intro x2 x3 x4 ls hl h
      rw [mi_X12_trim_l24] at h
      cases h
    | succ n_l24 ih_l24 =>
      have bl_b108 : ∀ (x2 : Int32) (x4 : Int32) (k0 : Int32) (ls : Array Slot), lv_has ls 6 [(0, .ref a_t), (1, .int p1), (2, .int x2), (4, .int x4)] → mi_X12_trim_b108 (mi_X12_trim_l24 t_told t_s p1 n_l24) x2 x4 k0 = some r → W p l e (headSpec wsX12_trim rm_X12_trim).room s m args below meth c s.heap [] 0 0 Q (F0 m 108 ls [.int k0]) := by
        intro x2 x4 k0 ls hl h
        unfold mi_X12_trim_b108 at h
        refine lv_istore_n (lv' := [(3, .int k0), (0, .ref a_t), (1, .int p1), (2, .int x2), (4, .int x4)]) hx hb dX12_trim_108 rfl hl (by decide) rfl (fun ls hl => ?_)
        refine lv_iinc (v := (x4 + 1)) (lv' := [(4, .int (x4 + 1)), (3, .int k0), (0, .ref a_t), (1, .int p1), (2, .int x2)]) hx hb dX12_trim_109 hl (k := 4) rfl rfl (by decide) rfl (fun ls hl => ?_)
        refine lv_goto (tgt := 24) hx hb dX12_trim_112 (by decide) ?_
        exact ih_l24 x2 k0 (x4 + 1) _ (lv_sub hl [2, 3, 4, 1, 0] rfl) h
      have bl_b107 : ∀ (x2 : Int32) (x3 : Int32) (x4 : Int32) (ls : Array Slot), lv_has ls 6 [(0, .ref a_t), (1, .int p1), (2, .int x2), (3, .int x3), (4, .int x4)] → mi_X12_trim_b107 (mi_X12_trim_l24 t_told t_s p1 n_l24) x2 x3 x4 = some r → W p l e (headSpec wsX12_trim rm_X12_trim).room s m args below meth c s.heap [] 0 0 Q (F0 m 107 ls []) := by
        intro x2 x3 x4 ls hl h
        unfold mi_X12_trim_b107 at h
        refine lv_iload_n hx hb dX12_trim_107 rfl (lv_at hl 3 rfl) ?_
        exact bl_b108 x2 x4 x3 _ (lv_sub hl [0, 1, 2, 4] rfl) h
      have bl_b102 : ∀ (x2 : Int32) (x4 : Int32) (ls : Array Slot), lv_has ls 6 [(0, .ref a_t), (1, .int p1), (2, .int x2), (4, .int x4)] → mi_X12_trim_b102 (mi_X12_trim_l24 t_told t_s p1 n_l24) x2 x4 = some r → W p l e (headSpec wsX12_trim rm_X12_trim).room s m args below meth c s.heap [] 0 0 Q (F0 m 102 ls []) := by
        intro x2 x4 ls hl h
        unfold mi_X12_trim_b102 at h
        refine lv_iload hx hb dX12_trim_102 (lv_at hl 3 rfl) ?_
        refine lv_goto (tgt := 108) hx hb dX12_trim_104 (by decide) ?_
        exact bl_b108 x2 x4 x4 _ (lv_sub hl [0, 1, 2, 3] rfl) h
      have bl_b77 : ∀ (x2 : Int32) (x3 : Int32) (x4 : Int32) (k0 : Int32) (ls : Array Slot), lv_has ls 6 [(0, .ref a_t), (1, .int p1), (2, .int x2), (3, .int x3), (4, .int x4)] → mi_X12_trim_b77 (mi_X12_trim_l24 t_told t_s p1 n_l24) x2 x3 x4 k0 = some r → W p l e (headSpec wsX12_trim rm_X12_trim).room s m args below meth c s.heap [] 0 0 Q (F0 m 77 ls [.int k0]) := by
        intro x2 x3 x4 k0 ls hl h
        unfold mi_X12_trim_b77 at h
        refine lv_istore (lv' := [(5, .int k0), (0, .ref a_t), (1, .int p1), (2, .int x2), (3, .int x3), (4, .int x4)]) hx hb dX12_trim_77 hl (by decide) rfl (fun ls hl => ?_)
        refine lv_iload hx hb dX12_trim_79 (lv_at hl 0 rfl) ?_
        refine lv_if_eq (tgt := 107) hx hb dX12_trim_81 (by decide) (fun c7 => ?_) (fun c7 => ?_)
        · have h := jx_t h c7
          exact bl_b107 x2 x3 x4 _ (lv_sub hl [1, 2, 3, 4, 5] rfl) h
        · have h := jx_f h c7
          refine lv_iload_n hx hb dX12_trim_84 rfl (lv_at hl 4 rfl) ?_
          refine lv_bipush (v := (-9 : Int32)) hx hb dX12_trim_85 (by decide) ?_
          refine lv_icmp_eq (tgt := 102) hx hb dX12_trim_87 (by decide) (fun c8 => ?_) (fun c8 => ?_)
          · have h := jx_t h c8
            exact bl_b102 x2 x4 _ (lv_sub hl [1, 2, 3, 5] rfl) h
          · have h := jx_f h c8
            refine lv_iload hx hb dX12_trim_90 (lv_at hl 5 rfl) ?_
            obtain ⟨r9, e10, h⟩ := jx_b1_of h
            refine jx_cS (o := some (.int r9)) (As := [.int x4]) (rest := []) ⟨hx, hb, hml, hown, hts⟩ (ct_X12_ones l x4 r9 e10) (va_cwS 1 hts gX12_trim_X12_ones rfl rfl rfl (by decide +kernel) ⟨Nat.le_of_ble_eq_true rfl, Nat.le_of_ble_eq_true rfl⟩) rfl hl.1 rfl (Nat.le_of_ble_eq_true rfl) dX12_trim_92 ⟨Nat.zero_le _, Nat.zero_le _⟩ ?_
            refine lv_iload_n hx hb dX12_trim_95 rfl (lv_at hl 4 rfl) ?_
            obtain ⟨r11, e12, h⟩ := jx_b1_of h
            refine jx_cS (o := some (.int r11)) (As := [.int x3]) (rest := [.int r9]) ⟨hx, hb, hml, hown, hts⟩ (ct_X12_ones l x3 r11 e12) (va_cwS 1 hts gX12_trim_X12_ones rfl rfl rfl (by decide +kernel) ⟨Nat.le_of_ble_eq_true rfl, Nat.le_of_ble_eq_true rfl⟩) rfl hl.1 rfl (Nat.le_of_ble_eq_true rfl) dX12_trim_96 ⟨Nat.zero_le _, Nat.zero_le _⟩ ?_
            refine lv_icmp_ge (tgt := 107) hx hb dX12_trim_99 (by decide) (fun c13 => ?_) (fun c13 => ?_)
            · have h := jx_t h c13
              exact bl_b107 x2 x3 x4 _ (lv_sub hl [1, 2, 3, 4, 5] rfl) h
            · have h := jx_f h c13
              exact bl_b102 x2 x4 _ (lv_sub hl [1, 2, 3, 5] rfl) h
      have bl_b76 : ∀ (x2 : Int32) (x3 : Int32) (x4 : Int32) (ls : Array Slot), lv_has ls 6 [(0, .ref a_t), (1, .int p1), (2, .int x2), (3, .int x3), (4, .int x4)] → mi_X12_trim_b76 (mi_X12_trim_l24 t_told t_s p1 n_l24) x2 x3 x4 = some r → W p l e (headSpec wsX12_trim rm_X12_trim).room s m args below meth c s.heap [] 0 0 Q (F0 m 76 ls []) := by
        intro x2 x3 x4 ls hl h
        unfold mi_X12_trim_b76 at h
        refine lv_iconst (v := (0 : Int32)) hx hb dX12_trim_76 (by decide) ?_
        exact bl_b77 x2 x3 x4 (0 : Int32) _ (lv_sub hl [0, 1, 2, 3, 4] rfl) h
      intro x2 x3 x4 ls hl h
      rw [mi_X12_trim_l24] at h
      refine lv_iload hx hb dX12_trim_24 (lv_at hl 4 rfl) ?_
      refine lv_iconst (v := (1 : Int32)) hx hb dX12_trim_26 (by decide) ?_
      refine lv_aload_n hx hb dX12_trim_27 rfl (lv_at hl 0 rfl) ?_
      refine va_get (D := D) (ci := 12) (v := .ref a_t_told) (C := RX12) (T := TX12) (N := 18) hx hb hts hi_X12 hown hK hP 0 rfl rfl 3 (by decide) (hts (.fieldLink RX12 13 "TriangleRestModel" "told" "[I") (List.mem_of_getElem? (i := 1) rfl)) (fun _ h9 => h9) rfl dX12_trim_28 ?_
      refine lv_iconst (v := (0 : Int32)) hx hb dX12_trim_31 (by decide) ?_
      refine va_iald hx hb hK hP 1 0 rfl rfl (jx_in_of (by decide +kernel)) dX12_trim_32 ?_
      refine lv_ishl hx hb dX12_trim_33 ?_
      refine lv_icmp_ge (tgt := 115) hx hb dX12_trim_34 (by decide) (fun c1 => ?_) (fun c1 => ?_)
      · have h := jx_t h c1
        refine lv_iload_n hx hb dX12_trim_115 rfl (lv_at hl 3 rfl) ?_
        cases h
        exact hret 116 ls rfl dX12_trim_116
      · have h := jx_f h c1
        refine lv_aload_n hx hb dX12_trim_37 rfl (lv_at hl 0 rfl) ?_
        refine va_get (D := D) (ci := 12) (v := .ref a_t_told) (C := RX12) (T := TX12) (N := 18) hx hb hts hi_X12 hown hK hP 0 rfl rfl 3 (by decide) (hts (.fieldLink RX12 13 "TriangleRestModel" "told" "[I") (List.mem_of_getElem? (i := 1) rfl)) (fun _ h9 => h9) rfl dX12_trim_38 ?_
        refine lv_iconst (v := (0 : Int32)) hx hb dX12_trim_41 (by decide) ?_
        refine va_iald hx hb hK hP 1 0 rfl rfl (jx_in_of (by decide +kernel)) dX12_trim_42 ?_
        refine lv_if_le (tgt := 115) hx hb dX12_trim_43 (by decide) (fun c2 => ?_) (fun c2 => ?_)
        · have h := jx_t h c2
          refine lv_iload_n hx hb dX12_trim_115 rfl (lv_at hl 3 rfl) ?_
          cases h
          exact hret 116 ls rfl dX12_trim_116
        · have h := jx_f h c2
          refine lv_iload hx hb dX12_trim_46 (lv_at hl 4 rfl) ?_
          refine lv_iload_n hx hb dX12_trim_48 rfl (lv_at hl 2 rfl) ?_
          refine lv_iconst (v := (-1 : Int32)) hx hb dX12_trim_49 (by decide) ?_
          refine lv_ixor hx hb dX12_trim_50 ?_
          refine lv_iand hx hb dX12_trim_51 ?_
          refine lv_if_ne (tgt := 76) hx hb dX12_trim_52 (by decide) (fun c3 => ?_) (fun c3 => ?_)
          · have h := jx_f h c3
            exact bl_b76 x2 x3 x4 _ (lv_sub hl [0, 1, 2, 3, 4] rfl) h
          · have h := jx_t h c3
            refine lv_aload_n hx hb dX12_trim_55 rfl (lv_at hl 0 rfl) ?_
            refine lv_aload_n hx hb dX12_trim_56 rfl (lv_at hl 0 rfl) ?_
            refine va_get (D := D) (ci := 12) (v := .ref a_t_s) (C := RX12) (T := TX12) (N := 18) hx hb hts hi_X12 hown hK hP 0 rfl rfl 5 (by decide) (hts (.fieldLink RX12 19 "TriangleRestModel" "s" "[I") (List.mem_of_getElem? (i := 2) rfl)) (fun _ h9 => h9) rfl dX12_trim_57 ?_
            refine lv_iconst (v := (3 : Int32)) hx hb dX12_trim_60 (by decide) ?_
            refine va_iald hx hb hK hP 2 0 rfl rfl (jx_in_of (by decide +kernel)) dX12_trim_61 ?_
            refine lv_iload hx hb dX12_trim_62 (lv_at hl 4 rfl) ?_
            refine lv_ior hx hb dX12_trim_64 ?_
            obtain ⟨r4, e5, h⟩ := jx_b1_of h
            refine jx_cV (o := some (.int r4)) (As := [.int ((t_s (Int32.toNatClampNeg (3 : Int32))) ||| x4)]) (rest := []) (b := a_t) ⟨hx, hb, hml, hown, hts⟩ (ct_X12_noteBar l D cI cZ cO a_t a_t_text a_t_told a_t_draft a_t_s a_t_images a_t_kept a_t_notes a_t_players a_t_answers a_t_room a_t_inRest t_trace t_typed t_noted t_at t_sort t_start t_value t_told ((t_s (Int32.toNatClampNeg (3 : Int32))) ||| x4) r4 e5) (cwV 1 hts gX12_trim_X12_noteBar rfl rfl rfl (by decide +kernel) ⟨Nat.le_of_ble_eq_true rfl, Nat.le_of_ble_eq_true rfl⟩) hK hN hP [0, 1] rfl (va_recv hK hP (ci := 12) (q0 := 0) rfl rfl) rfl hl.1 rfl (Nat.le_of_ble_eq_true rfl) dX12_trim_65 ⟨Nat.zero_le _, Nat.zero_le _⟩ ?_
            refine lv_iload_n hx hb dX12_trim_68 rfl (lv_at hl 1 rfl) ?_
            refine lv_icmp_ne (tgt := 76) hx hb dX12_trim_69 (by decide) (fun c6 => ?_) (fun c6 => ?_)
            · have h := jx_f h c6
              exact bl_b76 x2 x3 x4 _ (lv_sub hl [0, 1, 2, 3, 4] rfl) h
            · have h := jx_t h c6
              refine lv_iconst (v := (1 : Int32)) hx hb dX12_trim_72 (by decide) ?_
              refine lv_goto (tgt := 77) hx hb dX12_trim_73 (by decide) ?_
              exact bl_b77 x2 x3 x4 (1 : Int32) _ (lv_sub hl [0, 1, 2, 3, 4] rfl) h
  have h := hm
  unfold mi_X12_trim at h
  refine lv_iload_n hx hb dX12_trim_0 rfl (lv_at hl 1 rfl) ?_
  refine lv_iconst (v := (0 : Int32)) hx hb dX12_trim_1 (by decide) ?_
  refine lv_sipush (v := (999 : Int32)) hx hb dX12_trim_2 (by decide) ?_
  obtain ⟨r14, e15, h⟩ := jx_b1_of h
  refine jx_cS (o := some (.int r14)) (As := [.int p1, .int (0 : Int32), .int (999 : Int32)]) (rest := []) ⟨hx, hb, hml, hown, hts⟩ (ct_X12_in l p1 (0 : Int32) (999 : Int32) r14 e15) (va_cwS 3 hts gX12_trim_X12_in rfl rfl rfl (by decide +kernel) ⟨Nat.le_of_ble_eq_true rfl, Nat.le_of_ble_eq_true rfl⟩) rfl hl.1 rfl (Nat.le_of_ble_eq_true rfl) dX12_trim_5 ⟨Nat.zero_le _, Nat.zero_le _⟩ ?_
  refine lv_if_ne (tgt := 13) hx hb dX12_trim_8 (by decide) (fun c16 => ?_) (fun c16 => ?_)
  · have h := jx_f h c16
    refine lv_aload_n hx hb dX12_trim_13 rfl (lv_at hl 0 rfl) ?_
    obtain ⟨r17, e18, h⟩ := jx_b1_of h
    refine jx_cV (o := some (.int r17)) (As := []) (rest := []) (b := a_t) ⟨hx, hb, hml, hown, hts⟩ (ct_X12_allThatMay l D cI cZ cO a_t a_t_text a_t_told a_t_draft a_t_s a_t_images a_t_kept a_t_notes a_t_players a_t_answers a_t_room a_t_inRest t_trace t_typed t_noted t_at t_sort t_start t_value t_told t_s r17 e18) (cwV 0 hts gX12_trim_X12_allThatMay rfl rfl rfl (by decide +kernel) ⟨Nat.le_of_ble_eq_true rfl, Nat.le_of_ble_eq_true rfl⟩) hK hN hP [0, 1, 2] rfl (va_recv hK hP (ci := 12) (q0 := 0) rfl rfl) rfl hl.1 rfl (Nat.le_of_ble_eq_true rfl) dX12_trim_14 ⟨Nat.zero_le _, Nat.zero_le _⟩ ?_
    refine lv_istore_n (lv' := [(2, .int r17), (0, .ref a_t), (1, .int p1)]) hx hb dX12_trim_17 rfl hl (by decide) rfl (fun ls hl => ?_)
    refine lv_bipush (v := (-9 : Int32)) hx hb dX12_trim_18 (by decide) ?_
    refine lv_istore_n (lv' := [(3, .int (-9 : Int32)), (2, .int r17), (0, .ref a_t), (1, .int p1)]) hx hb dX12_trim_20 rfl hl (by decide) rfl (fun ls hl => ?_)
    refine lv_iconst (v := (0 : Int32)) hx hb dX12_trim_21 (by decide) ?_
    refine lv_istore (lv' := [(4, .int (0 : Int32)), (3, .int (-9 : Int32)), (2, .int r17), (0, .ref a_t), (1, .int p1)]) hx hb dX12_trim_22 hl (by decide) rfl (fun ls hl => ?_)
    exact bl_l24 jx_F r17 (-9 : Int32) (0 : Int32) _ (lv_sub hl [3, 4, 2, 1, 0] rfl) h
  · have h := jx_t h c16
    refine lv_iconst (v := (-1 : Int32)) hx hb dX12_trim_11 (by decide) ?_
    cases h
    exact hret 12 ls rfl dX12_trim_12
def mi_X12_odds_l226 (p3 : Int32) : Nat → Int32 → Int32 → Int32 → Int32 → Option (Int32)
  | 0, _, _, _, _ => none
  | n + 1, x5, x6, x7, x8 => if x8 ≤ 0 then (if p3 = 0 then (jx_g (jx_nz x7) (some ((x5 / x7)))) else (jx_g (jx_nz x7) (some ((x6 / x7))))) else (jx_g (jx_nz x8) (mi_X12_odds_l226 p3 n x5 x6 x8 (x7 - x7 / x8 * x8)))
def mi_X12_odds_b218 (p3 : Int32) (x5 : Int32) (x6 : Int32) : Option (Int32) := mi_X12_odds_l226 p3 jx_F x5 x6 x5 x6
def mi_X12_odds_b209 (k_l88 : Int32 → Int32 → Int32 → Int32 → Option (Int32)) (x4 : Int32) (x6 : Int32) (x7 : Int32) (k0 : Int32) (k1 : Int32) : Option (Int32) := k_l88 x4 (k0 + k1) x6 (x7 + 1)
def mi_X12_odds_b175 (k_l130 : Int32 → Int32 → Int32 → Int32 → Int32 → Int32 → Option (Int32)) (x4 : Int32) (x5 : Int32) (x6 : Int32) (x7 : Int32) (x9 : Int32) (k0 : Int32) (k1 : Int32) : Option (Int32) := k_l130 x4 x5 x6 x7 (k0 * k1) (x9 + 1)
def mi_X12_odds_l130 (t_told : Nat → Int32) (t_s : Nat → Int32) (p1 : Int32) (p2 : Int32) (k_l88 : Int32 → Int32 → Int32 → Int32 → Option (Int32)) : Nat → Int32 → Int32 → Int32 → Int32 → Int32 → Int32 → Option (Int32)
  | 0, _, _, _, _, _, _ => none
  | n + 1, x4, x5, x6, x7, x8, x9 => if (t_told (Int32.toNatClampNeg (0 : Int32))) ≤ x9 then (jx_b1 (mi_X12_noteBar t_told ((t_s (Int32.toNatClampNeg (3 : Int32))) ||| x7)) fun r9 => (if p2 < r9 then (mi_X12_odds_b209 k_l88 x4 x6 x7 x5 (0 : Int32)) else (mi_X12_odds_b209 k_l88 x4 x6 x7 x5 x8))) else (jx_b1 (mi_X12_has x4 x9) fun r12 => (if r12 = 0 then (mi_X12_odds_b175 (mi_X12_odds_l130 t_told t_s p1 p2 k_l88 n) x4 x5 x6 x7 x9 x8 (1 : Int32)) else (jx_b1 (mi_X12_has x7 x9) fun r15 => (if r15 = 0 then (mi_X12_odds_b175 (mi_X12_odds_l130 t_told t_s p1 p2 k_l88 n) x4 x5 x6 x7 x9 x8 ((10 : Int32) - p1)) else (mi_X12_odds_b175 (mi_X12_odds_l130 t_told t_s p1 p2 k_l88 n) x4 x5 x6 x7 x9 x8 p1)))))
def mi_X12_odds_b125 (t_told : Nat → Int32) (t_s : Nat → Int32) (p1 : Int32) (p2 : Int32) (k_l88 : Int32 → Int32 → Int32 → Int32 → Option (Int32)) (x4 : Int32) (x5 : Int32) (x6 : Int32) (x7 : Int32) (k0 : Int32) : Option (Int32) := mi_X12_odds_l130 t_told t_s p1 p2 k_l88 jx_F x4 x5 x6 x7 k0 (0 : Int32)
def mi_X12_odds_l88 (t_told : Nat → Int32) (t_s : Nat → Int32) (p1 : Int32) (p2 : Int32) (p3 : Int32) : Nat → Int32 → Int32 → Int32 → Int32 → Option (Int32)
  | 0, _, _, _, _ => none
  | n + 1, x4, x5, x6, x7 => if ((1 : Int32) <<< ((t_told (Int32.toNatClampNeg (0 : Int32))) &&& 31)) ≤ x7 then (mi_X12_odds_b218 p3 x5 x6) else (if (t_told (Int32.toNatClampNeg (0 : Int32))) ≤ 0 then (mi_X12_odds_b218 p3 x5 x6) else (if (x7 &&& (x4 ^^^ (-1 : Int32))) = 0 then (mi_X12_odds_b125 t_told t_s p1 p2 (mi_X12_odds_l88 t_told t_s p1 p2 p3 n) x4 x5 x6 x7 (1 : Int32)) else (mi_X12_odds_b125 t_told t_s p1 p2 (mi_X12_odds_l88 t_told t_s p1 p2 p3 n) x4 x5 x6 x7 (0 : Int32))))
def mi_X12_odds_b76 (k_l47 : Int32 → Int32 → Int32 → Int32 → Option (Int32)) (x4 : Int32) (x5 : Int32) (x7 : Int32) (k0 : Int32) (k1 : Int32) : Option (Int32) := k_l47 x4 x5 (k0 * k1) (x7 + 1)
def mi_X12_odds_l47 (t_told : Nat → Int32) (t_s : Nat → Int32) (p1 : Int32) (p2 : Int32) (p3 : Int32) : Nat → Int32 → Int32 → Int32 → Int32 → Option (Int32)
  | 0, _, _, _, _ => none
  | n + 1, x4, x5, x6, x7 => if (t_told (Int32.toNatClampNeg (0 : Int32))) ≤ x7 then (mi_X12_odds_l88 t_told t_s p1 p2 p3 jx_F x4 x5 x6 (0 : Int32)) else (jx_b1 (mi_X12_has x4 x7) fun r2 => (if r2 = 0 then (mi_X12_odds_b76 (mi_X12_odds_l47 t_told t_s p1 p2 p3 n) x4 x5 x7 x6 (1 : Int32)) else (mi_X12_odds_b76 (mi_X12_odds_l47 t_told t_s p1 p2 p3 n) x4 x5 x7 x6 (10 : Int32))))
def mi_X12_odds (t_told : Nat → Int32) (t_s : Nat → Int32) (p1 : Int32) (p2 : Int32) (p3 : Int32) : Option (Int32) := jx_b1 (mi_X12_in p1 (0 : Int32) (10 : Int32)) fun r23 => (if r23 = 0 then (some ((-1 : Int32))) else (jx_b1 (mi_X12_in p2 (0 : Int32) (999 : Int32)) fun r26 => (if r26 = 0 then (some ((-1 : Int32))) else (jx_b1 (mi_X12_in p3 (0 : Int32) (1 : Int32)) fun r29 => (if r29 = 0 then (some ((-1 : Int32))) else (jx_b1 (mi_X12_allThatMay t_told t_s) fun r32 => (mi_X12_odds_l47 t_told t_s p1 p2 p3 jx_F r32 (0 : Int32) (1 : Int32) (0 : Int32))))))))
abbrev rm_X12_odds : Room := { frames := 5, cells := 0, slots := 0, locals := 109 }
set_option maxRecDepth 100000 in
set_option maxHeartbeats 4000000 in
theorem ct_X12_odds (l : Launch) (D : va_G) (cI cZ cO : ClassId) (a_t a_t_text a_t_told a_t_draft a_t_s a_t_images a_t_kept a_t_notes a_t_players a_t_answers a_t_room a_t_inRest : Nat) (t_trace : Int64) (t_typed : Int32) (t_noted : Int32) (t_at : Int32) (t_sort : Int32) (t_start : Int32) (t_value : Int32) (t_told : Nat → Int32) (t_s : Nat → Int32) (p1 : Int32) (p2 : Int32) (p3 : Int32) (r : Int32) (hm : mi_X12_odds t_told t_s p1 p2 p3 = some r) : Met l yX12_odds wsX12_odds rm_X12_odds (va_Pc [.ref a_t, .int p1, .int p2, .int p3] (jx_R D (jx_T cI cZ cO) [(a_t, .inr (12, [.long t_trace, .ref a_t_text, .int t_typed, .ref a_t_told, .ref a_t_draft, .ref a_t_s, .ref a_t_images, .ref a_t_kept, .ref a_t_notes, .int t_noted, .int t_at, .int t_sort, .int t_start, .int t_value, .ref a_t_players, .ref a_t_answers, .ref a_t_room, .ref a_t_inRest])), (a_t_told, .inl (cI, 36, .inl t_told)), (a_t_s, .inl (cI, 56, .inl t_s))])) (jx_S (some (.int r))) 0 0 (fun _ => False) := by
  refine jx_metR (ty := .int) (own := RX12) (cc := cX12_odds) (maxL := 10) (by decide) rfl rfl (Nat.le_of_ble_eq_true rfl) ?_
  intro p e s m args below meth c Q ls hx hb hml hown hts hK hN hP hl hret
  have hi_X12 : ∀ w ∈ u_ws RX12 TX12 18, w ∈ wsX12_odds := by decide +kernel
  have hl : lv_has ls 10 [(0, .ref a_t), (1, .int p1), (2, .int p2), (3, .int p3)] := hl
  have bl_l226 : ∀ (n : Nat) (x5 : Int32) (x6 : Int32) (x7 : Int32) (x8 : Int32) (ls : Array Slot), lv_has ls 10 [(3, .int p3), (5, .int x5), (6, .int x6), (7, .int x7), (8, .int x8)] → mi_X12_odds_l226 p3 n x5 x6 x7 x8 = some r → W p l e (headSpec wsX12_odds rm_X12_odds).room s m args below meth c s.heap [] 0 0 Q (F0 m 226 ls []) := by
    intro n
    induction n with
    | zero =>
      intro x5 x6 x7 x8 ls hl h
      rw [mi_X12_odds_l226] at h
      cases h
    | succ n_l226 ih_l226 =>
      intro x5 x6 x7 x8 ls hl h
      rw [mi_X12_odds_l226] at h
      refine lv_iload hx hb dX12_odds_226 (lv_at hl 4 rfl) ?_
      refine lv_if_le (tgt := 249) hx hb dX12_odds_228 (by decide) (fun c18 => ?_) (fun c18 => ?_)
      · have h := jx_t h c18
        refine lv_iload_n hx hb dX12_odds_249 rfl (lv_at hl 0 rfl) ?_
        refine lv_if_ne (tgt := 261) hx hb dX12_odds_250 (by decide) (fun c19 => ?_) (fun c19 => ?_)
        · have h := jx_f h c19
          refine lv_iload hx hb dX12_odds_261 (lv_at hl 2 rfl) ?_
          refine lv_iload hx hb dX12_odds_263 (lv_at hl 3 rfl) ?_
          obtain ⟨g20, h⟩ := jx_g_of h
          refine lv_idiv hx hb dX12_odds_265 (jx_nz_of g20) ?_
          cases h
          exact hret 266 ls rfl dX12_odds_266
        · have h := jx_t h c19
          refine lv_iload hx hb dX12_odds_253 (lv_at hl 1 rfl) ?_
          refine lv_iload hx hb dX12_odds_255 (lv_at hl 3 rfl) ?_
          obtain ⟨g21, h⟩ := jx_g_of h
          refine lv_idiv hx hb dX12_odds_257 (jx_nz_of g21) ?_
          refine lv_goto (tgt := 266) hx hb dX12_odds_258 (by decide) ?_
          cases h
          exact hret 266 ls rfl dX12_odds_266
      · have h := jx_f h c18
        refine lv_iload hx hb dX12_odds_231 (lv_at hl 3 rfl) ?_
        refine lv_iload hx hb dX12_odds_233 (lv_at hl 4 rfl) ?_
        obtain ⟨g22, h⟩ := jx_g_of h
        refine lv_irem hx hb dX12_odds_235 (jx_nz_of g22) ?_
        refine lv_istore (lv' := [(9, .int (x7 - x7 / x8 * x8)), (3, .int p3), (5, .int x5), (6, .int x6), (7, .int x7), (8, .int x8)]) hx hb dX12_odds_236 hl (by decide) rfl (fun ls hl => ?_)
        refine lv_iload hx hb dX12_odds_238 (lv_at hl 5 rfl) ?_
        refine lv_istore (lv' := [(7, .int x8), (9, .int (x7 - x7 / x8 * x8)), (3, .int p3), (5, .int x5), (6, .int x6), (8, .int x8)]) hx hb dX12_odds_240 hl (by decide) rfl (fun ls hl => ?_)
        refine lv_iload hx hb dX12_odds_242 (lv_at hl 1 rfl) ?_
        refine lv_istore (lv' := [(8, .int (x7 - x7 / x8 * x8)), (7, .int x8), (9, .int (x7 - x7 / x8 * x8)), (3, .int p3), (5, .int x5), (6, .int x6)]) hx hb dX12_odds_244 hl (by decide) rfl (fun ls hl => ?_)
        refine lv_goto (tgt := 226) hx hb dX12_odds_246 (by decide) ?_
        exact ih_l226 x5 x6 x8 (x7 - x7 / x8 * x8) _ (lv_sub hl [3, 4, 5, 1, 0] rfl) h
  have bl_b218 : ∀ (x5 : Int32) (x6 : Int32) (ls : Array Slot), lv_has ls 10 [(3, .int p3), (5, .int x5), (6, .int x6)] → mi_X12_odds_b218 p3 x5 x6 = some r → W p l e (headSpec wsX12_odds rm_X12_odds).room s m args below meth c s.heap [] 0 0 Q (F0 m 218 ls []) := by
    intro x5 x6 ls hl h
    unfold mi_X12_odds_b218 at h
    refine lv_iload hx hb dX12_odds_218 (lv_at hl 1 rfl) ?_
    refine lv_istore (lv' := [(7, .int x5), (3, .int p3), (5, .int x5), (6, .int x6)]) hx hb dX12_odds_220 hl (by decide) rfl (fun ls hl => ?_)
    refine lv_iload hx hb dX12_odds_222 (lv_at hl 3 rfl) ?_
    refine lv_istore (lv' := [(8, .int x6), (7, .int x5), (3, .int p3), (5, .int x5), (6, .int x6)]) hx hb dX12_odds_224 hl (by decide) rfl (fun ls hl => ?_)
    exact bl_l226 jx_F x5 x6 x5 x6 _ (lv_sub hl [2, 3, 4, 1, 0] rfl) h
  have bl_l88 : ∀ (n : Nat) (x4 : Int32) (x5 : Int32) (x6 : Int32) (x7 : Int32) (ls : Array Slot), lv_has ls 10 [(0, .ref a_t), (1, .int p1), (2, .int p2), (3, .int p3), (4, .int x4), (5, .int x5), (6, .int x6), (7, .int x7)] → mi_X12_odds_l88 t_told t_s p1 p2 p3 n x4 x5 x6 x7 = some r → W p l e (headSpec wsX12_odds rm_X12_odds).room s m args below meth c s.heap [] 0 0 Q (F0 m 88 ls []) := by
    intro n
    induction n with
    | zero =>
      intro x4 x5 x6 x7 ls hl h
      rw [mi_X12_odds_l88] at h
      cases h
    | succ n_l88 ih_l88 =>
      have bl_b209 : ∀ (x4 : Int32) (x6 : Int32) (x7 : Int32) (k0 : Int32) (k1 : Int32) (ls : Array Slot), lv_has ls 10 [(0, .ref a_t), (1, .int p1), (2, .int p2), (3, .int p3), (4, .int x4), (6, .int x6), (7, .int x7)] → mi_X12_odds_b209 (mi_X12_odds_l88 t_told t_s p1 p2 p3 n_l88) x4 x6 x7 k0 k1 = some r → W p l e (headSpec wsX12_odds rm_X12_odds).room s m args below meth c s.heap [] 0 0 Q (F0 m 209 ls [.int k1, .int k0]) := by
        intro x4 x6 x7 k0 k1 ls hl h
        unfold mi_X12_odds_b209 at h
        refine lv_iadd hx hb dX12_odds_209 ?_
        refine lv_istore (lv' := [(5, .int (k0 + k1)), (0, .ref a_t), (1, .int p1), (2, .int p2), (3, .int p3), (4, .int x4), (6, .int x6), (7, .int x7)]) hx hb dX12_odds_210 hl (by decide) rfl (fun ls hl => ?_)
        refine lv_iinc (v := (x7 + 1)) (lv' := [(7, .int (x7 + 1)), (5, .int (k0 + k1)), (0, .ref a_t), (1, .int p1), (2, .int p2), (3, .int p3), (4, .int x4), (6, .int x6)]) hx hb dX12_odds_212 hl (k := 7) rfl rfl (by decide) rfl (fun ls hl => ?_)
        refine lv_goto (tgt := 88) hx hb dX12_odds_215 (by decide) ?_
        exact ih_l88 x4 (k0 + k1) x6 (x7 + 1) _ (lv_sub hl [2, 3, 4, 5, 6, 1, 7, 0] rfl) h
      have bl_l130 : ∀ (n : Nat) (x4 : Int32) (x5 : Int32) (x6 : Int32) (x7 : Int32) (x8 : Int32) (x9 : Int32) (ls : Array Slot), lv_has ls 10 [(0, .ref a_t), (1, .int p1), (2, .int p2), (3, .int p3), (4, .int x4), (5, .int x5), (6, .int x6), (7, .int x7), (8, .int x8), (9, .int x9)] → mi_X12_odds_l130 t_told t_s p1 p2 (mi_X12_odds_l88 t_told t_s p1 p2 p3 n_l88) n x4 x5 x6 x7 x8 x9 = some r → W p l e (headSpec wsX12_odds rm_X12_odds).room s m args below meth c s.heap [] 0 0 Q (F0 m 130 ls []) := by
        intro n
        induction n with
        | zero =>
          intro x4 x5 x6 x7 x8 x9 ls hl h
          rw [mi_X12_odds_l130] at h
          cases h
        | succ n_l130 ih_l130 =>
          have bl_b175 : ∀ (x4 : Int32) (x5 : Int32) (x6 : Int32) (x7 : Int32) (x9 : Int32) (k0 : Int32) (k1 : Int32) (ls : Array Slot), lv_has ls 10 [(0, .ref a_t), (1, .int p1), (2, .int p2), (3, .int p3), (4, .int x4), (5, .int x5), (6, .int x6), (7, .int x7), (9, .int x9)] → mi_X12_odds_b175 (mi_X12_odds_l130 t_told t_s p1 p2 (mi_X12_odds_l88 t_told t_s p1 p2 p3 n_l88) n_l130) x4 x5 x6 x7 x9 k0 k1 = some r → W p l e (headSpec wsX12_odds rm_X12_odds).room s m args below meth c s.heap [] 0 0 Q (F0 m 175 ls [.int k1, .int k0]) := by
            intro x4 x5 x6 x7 x9 k0 k1 ls hl h
            unfold mi_X12_odds_b175 at h
            refine lv_imul hx hb dX12_odds_175 ?_
            refine lv_istore (lv' := [(8, .int (k0 * k1)), (0, .ref a_t), (1, .int p1), (2, .int p2), (3, .int p3), (4, .int x4), (5, .int x5), (6, .int x6), (7, .int x7), (9, .int x9)]) hx hb dX12_odds_176 hl (by decide) rfl (fun ls hl => ?_)
            refine lv_iinc (v := (x9 + 1)) (lv' := [(9, .int (x9 + 1)), (8, .int (k0 * k1)), (0, .ref a_t), (1, .int p1), (2, .int p2), (3, .int p3), (4, .int x4), (5, .int x5), (6, .int x6), (7, .int x7)]) hx hb dX12_odds_178 hl (k := 9) rfl rfl (by decide) rfl (fun ls hl => ?_)
            refine lv_goto (tgt := 130) hx hb dX12_odds_181 (by decide) ?_
            exact ih_l130 x4 x5 x6 x7 (k0 * k1) (x9 + 1) _ (lv_sub hl [2, 3, 4, 5, 6, 7, 8, 9, 1, 0] rfl) h
          intro x4 x5 x6 x7 x8 x9 ls hl h
          rw [mi_X12_odds_l130] at h
          refine lv_iload hx hb dX12_odds_130 (lv_at hl 9 rfl) ?_
          refine lv_aload_n hx hb dX12_odds_132 rfl (lv_at hl 0 rfl) ?_
          refine va_get (D := D) (ci := 12) (v := .ref a_t_told) (C := RX12) (T := TX12) (N := 18) hx hb hts hi_X12 hown hK hP 0 rfl rfl 3 (by decide) (hts (.fieldLink RX12 13 "TriangleRestModel" "told" "[I") (List.mem_of_getElem? (i := 1) rfl)) (fun _ h9 => h9) rfl dX12_odds_133 ?_
          refine lv_iconst (v := (0 : Int32)) hx hb dX12_odds_136 (by decide) ?_
          refine va_iald hx hb hK hP 1 0 rfl rfl (jx_in_of (by decide +kernel)) dX12_odds_137 ?_
          refine lv_icmp_ge (tgt := 184) hx hb dX12_odds_138 (by decide) (fun c8 => ?_) (fun c8 => ?_)
          · have h := jx_t h c8
            refine lv_iload hx hb dX12_odds_184 (lv_at hl 5 rfl) ?_
            refine lv_aload_n hx hb dX12_odds_186 rfl (lv_at hl 0 rfl) ?_
            refine lv_aload_n hx hb dX12_odds_187 rfl (lv_at hl 0 rfl) ?_
            refine va_get (D := D) (ci := 12) (v := .ref a_t_s) (C := RX12) (T := TX12) (N := 18) hx hb hts hi_X12 hown hK hP 0 rfl rfl 5 (by decide) (hts (.fieldLink RX12 19 "TriangleRestModel" "s" "[I") (List.mem_of_getElem? (i := 2) rfl)) (fun _ h9 => h9) rfl dX12_odds_188 ?_
            refine lv_iconst (v := (3 : Int32)) hx hb dX12_odds_191 (by decide) ?_
            refine va_iald hx hb hK hP 2 0 rfl rfl (jx_in_of (by decide +kernel)) dX12_odds_192 ?_
            refine lv_iload hx hb dX12_odds_193 (lv_at hl 7 rfl) ?_
            refine lv_ior hx hb dX12_odds_195 ?_
            obtain ⟨r9, e10, h⟩ := jx_b1_of h
            refine jx_cV (o := some (.int r9)) (As := [.int ((t_s (Int32.toNatClampNeg (3 : Int32))) ||| x7)]) (rest := [.int x5]) (b := a_t) ⟨hx, hb, hml, hown, hts⟩ (ct_X12_noteBar l D cI cZ cO a_t a_t_text a_t_told a_t_draft a_t_s a_t_images a_t_kept a_t_notes a_t_players a_t_answers a_t_room a_t_inRest t_trace t_typed t_noted t_at t_sort t_start t_value t_told ((t_s (Int32.toNatClampNeg (3 : Int32))) ||| x7) r9 e10) (cwV 1 hts gX12_odds_X12_noteBar rfl rfl rfl (by decide +kernel) ⟨Nat.le_of_ble_eq_true rfl, Nat.le_of_ble_eq_true rfl⟩) hK hN hP [0, 1] rfl (va_recv hK hP (ci := 12) (q0 := 0) rfl rfl) rfl hl.1 rfl (Nat.le_of_ble_eq_true rfl) dX12_odds_196 ⟨Nat.zero_le _, Nat.zero_le _⟩ ?_
            refine lv_iload_n hx hb dX12_odds_199 rfl (lv_at hl 2 rfl) ?_
            refine lv_icmp_gt (tgt := 208) hx hb dX12_odds_200 (by decide) (fun c11 => ?_) (fun c11 => ?_)
            · have h := jx_t h c11
              refine lv_iconst (v := (0 : Int32)) hx hb dX12_odds_208 (by decide) ?_
              exact bl_b209 x4 x6 x7 x5 (0 : Int32) _ (lv_sub hl [0, 1, 2, 3, 4, 6, 7] rfl) h
            · have h := jx_f h c11
              refine lv_iload hx hb dX12_odds_203 (lv_at hl 8 rfl) ?_
              refine lv_goto (tgt := 209) hx hb dX12_odds_205 (by decide) ?_
              exact bl_b209 x4 x6 x7 x5 x8 _ (lv_sub hl [0, 1, 2, 3, 4, 6, 7] rfl) h
          · have h := jx_f h c8
            refine lv_iload hx hb dX12_odds_141 (lv_at hl 8 rfl) ?_
            refine lv_iload hx hb dX12_odds_143 (lv_at hl 4 rfl) ?_
            refine lv_iload hx hb dX12_odds_145 (lv_at hl 9 rfl) ?_
            obtain ⟨r12, e13, h⟩ := jx_b1_of h
            refine jx_cS (o := some (.int r12)) (As := [.int x4, .int x9]) (rest := [.int x8]) ⟨hx, hb, hml, hown, hts⟩ (ct_X12_has l x4 x9 r12 e13) (va_cwS 2 hts gX12_odds_X12_has rfl rfl rfl (by decide +kernel) ⟨Nat.le_of_ble_eq_true rfl, Nat.le_of_ble_eq_true rfl⟩) rfl hl.1 rfl (Nat.le_of_ble_eq_true rfl) dX12_odds_147 ⟨Nat.zero_le _, Nat.zero_le _⟩ ?_
            refine lv_if_ne (tgt := 157) hx hb dX12_odds_150 (by decide) (fun c14 => ?_) (fun c14 => ?_)
            · have h := jx_f h c14
              refine lv_iload hx hb dX12_odds_157 (lv_at hl 7 rfl) ?_
              refine lv_iload hx hb dX12_odds_159 (lv_at hl 9 rfl) ?_
              obtain ⟨r15, e16, h⟩ := jx_b1_of h
              refine jx_cS (o := some (.int r15)) (As := [.int x7, .int x9]) (rest := [.int x8]) ⟨hx, hb, hml, hown, hts⟩ (ct_X12_has l x7 x9 r15 e16) (va_cwS 2 hts gX12_odds_X12_has rfl rfl rfl (by decide +kernel) ⟨Nat.le_of_ble_eq_true rfl, Nat.le_of_ble_eq_true rfl⟩) rfl hl.1 rfl (Nat.le_of_ble_eq_true rfl) dX12_odds_161 ⟨Nat.zero_le _, Nat.zero_le _⟩ ?_
              refine lv_if_eq (tgt := 171) hx hb dX12_odds_164 (by decide) (fun c17 => ?_) (fun c17 => ?_)
              · have h := jx_t h c17
                refine lv_bipush (v := (10 : Int32)) hx hb dX12_odds_171 (by decide) ?_
                refine lv_iload_n hx hb dX12_odds_173 rfl (lv_at hl 1 rfl) ?_
                refine lv_isub hx hb dX12_odds_174 ?_
                exact bl_b175 x4 x5 x6 x7 x9 x8 ((10 : Int32) - p1) _ (lv_sub hl [0, 1, 2, 3, 4, 5, 6, 7, 9] rfl) h
              · have h := jx_f h c17
                refine lv_iload_n hx hb dX12_odds_167 rfl (lv_at hl 1 rfl) ?_
                refine lv_goto (tgt := 175) hx hb dX12_odds_168 (by decide) ?_
                exact bl_b175 x4 x5 x6 x7 x9 x8 p1 _ (lv_sub hl [0, 1, 2, 3, 4, 5, 6, 7, 9] rfl) h
            · have h := jx_t h c14
              refine lv_iconst (v := (1 : Int32)) hx hb dX12_odds_153 (by decide) ?_
              refine lv_goto (tgt := 175) hx hb dX12_odds_154 (by decide) ?_
              exact bl_b175 x4 x5 x6 x7 x9 x8 (1 : Int32) _ (lv_sub hl [0, 1, 2, 3, 4, 5, 6, 7, 9] rfl) h
      have bl_b125 : ∀ (x4 : Int32) (x5 : Int32) (x6 : Int32) (x7 : Int32) (k0 : Int32) (ls : Array Slot), lv_has ls 10 [(0, .ref a_t), (1, .int p1), (2, .int p2), (3, .int p3), (4, .int x4), (5, .int x5), (6, .int x6), (7, .int x7)] → mi_X12_odds_b125 t_told t_s p1 p2 (mi_X12_odds_l88 t_told t_s p1 p2 p3 n_l88) x4 x5 x6 x7 k0 = some r → W p l e (headSpec wsX12_odds rm_X12_odds).room s m args below meth c s.heap [] 0 0 Q (F0 m 125 ls [.int k0]) := by
        intro x4 x5 x6 x7 k0 ls hl h
        unfold mi_X12_odds_b125 at h
        refine lv_istore (lv' := [(8, .int k0), (0, .ref a_t), (1, .int p1), (2, .int p2), (3, .int p3), (4, .int x4), (5, .int x5), (6, .int x6), (7, .int x7)]) hx hb dX12_odds_125 hl (by decide) rfl (fun ls hl => ?_)
        refine lv_iconst (v := (0 : Int32)) hx hb dX12_odds_127 (by decide) ?_
        refine lv_istore (lv' := [(9, .int (0 : Int32)), (8, .int k0), (0, .ref a_t), (1, .int p1), (2, .int p2), (3, .int p3), (4, .int x4), (5, .int x5), (6, .int x6), (7, .int x7)]) hx hb dX12_odds_128 hl (by decide) rfl (fun ls hl => ?_)
        exact bl_l130 jx_F x4 x5 x6 x7 k0 (0 : Int32) _ (lv_sub hl [2, 3, 4, 5, 6, 7, 8, 9, 1, 0] rfl) h
      intro x4 x5 x6 x7 ls hl h
      rw [mi_X12_odds_l88] at h
      refine lv_iload hx hb dX12_odds_88 (lv_at hl 7 rfl) ?_
      refine lv_iconst (v := (1 : Int32)) hx hb dX12_odds_90 (by decide) ?_
      refine lv_aload_n hx hb dX12_odds_91 rfl (lv_at hl 0 rfl) ?_
      refine va_get (D := D) (ci := 12) (v := .ref a_t_told) (C := RX12) (T := TX12) (N := 18) hx hb hts hi_X12 hown hK hP 0 rfl rfl 3 (by decide) (hts (.fieldLink RX12 13 "TriangleRestModel" "told" "[I") (List.mem_of_getElem? (i := 1) rfl)) (fun _ h9 => h9) rfl dX12_odds_92 ?_
      refine lv_iconst (v := (0 : Int32)) hx hb dX12_odds_95 (by decide) ?_
      refine va_iald hx hb hK hP 1 0 rfl rfl (jx_in_of (by decide +kernel)) dX12_odds_96 ?_
      refine lv_ishl hx hb dX12_odds_97 ?_
      refine lv_icmp_ge (tgt := 218) hx hb dX12_odds_98 (by decide) (fun c5 => ?_) (fun c5 => ?_)
      · have h := jx_t h c5
        exact bl_b218 x5 x6 _ (lv_sub hl [3, 5, 6] rfl) h
      · have h := jx_f h c5
        refine lv_aload_n hx hb dX12_odds_101 rfl (lv_at hl 0 rfl) ?_
        refine va_get (D := D) (ci := 12) (v := .ref a_t_told) (C := RX12) (T := TX12) (N := 18) hx hb hts hi_X12 hown hK hP 0 rfl rfl 3 (by decide) (hts (.fieldLink RX12 13 "TriangleRestModel" "told" "[I") (List.mem_of_getElem? (i := 1) rfl)) (fun _ h9 => h9) rfl dX12_odds_102 ?_
        refine lv_iconst (v := (0 : Int32)) hx hb dX12_odds_105 (by decide) ?_
        refine va_iald hx hb hK hP 1 0 rfl rfl (jx_in_of (by decide +kernel)) dX12_odds_106 ?_
        refine lv_if_le (tgt := 218) hx hb dX12_odds_107 (by decide) (fun c6 => ?_) (fun c6 => ?_)
        · have h := jx_t h c6
          exact bl_b218 x5 x6 _ (lv_sub hl [3, 5, 6] rfl) h
        · have h := jx_f h c6
          refine lv_iload hx hb dX12_odds_110 (lv_at hl 7 rfl) ?_
          refine lv_iload hx hb dX12_odds_112 (lv_at hl 4 rfl) ?_
          refine lv_iconst (v := (-1 : Int32)) hx hb dX12_odds_114 (by decide) ?_
          refine lv_ixor hx hb dX12_odds_115 ?_
          refine lv_iand hx hb dX12_odds_116 ?_
          refine lv_if_ne (tgt := 124) hx hb dX12_odds_117 (by decide) (fun c7 => ?_) (fun c7 => ?_)
          · have h := jx_f h c7
            refine lv_iconst (v := (0 : Int32)) hx hb dX12_odds_124 (by decide) ?_
            exact bl_b125 x4 x5 x6 x7 (0 : Int32) _ (lv_sub hl [0, 1, 2, 3, 4, 5, 6, 7] rfl) h
          · have h := jx_t h c7
            refine lv_iconst (v := (1 : Int32)) hx hb dX12_odds_120 (by decide) ?_
            refine lv_goto (tgt := 125) hx hb dX12_odds_121 (by decide) ?_
            exact bl_b125 x4 x5 x6 x7 (1 : Int32) _ (lv_sub hl [0, 1, 2, 3, 4, 5, 6, 7] rfl) h
  have bl_l47 : ∀ (n : Nat) (x4 : Int32) (x5 : Int32) (x6 : Int32) (x7 : Int32) (ls : Array Slot), lv_has ls 10 [(0, .ref a_t), (1, .int p1), (2, .int p2), (3, .int p3), (4, .int x4), (5, .int x5), (6, .int x6), (7, .int x7)] → mi_X12_odds_l47 t_told t_s p1 p2 p3 n x4 x5 x6 x7 = some r → W p l e (headSpec wsX12_odds rm_X12_odds).room s m args below meth c s.heap [] 0 0 Q (F0 m 47 ls []) := by
    intro n
    induction n with
    | zero =>
      intro x4 x5 x6 x7 ls hl h
      rw [mi_X12_odds_l47] at h
      cases h
    | succ n_l47 ih_l47 =>
      have bl_b76 : ∀ (x4 : Int32) (x5 : Int32) (x7 : Int32) (k0 : Int32) (k1 : Int32) (ls : Array Slot), lv_has ls 10 [(0, .ref a_t), (1, .int p1), (2, .int p2), (3, .int p3), (4, .int x4), (5, .int x5), (7, .int x7)] → mi_X12_odds_b76 (mi_X12_odds_l47 t_told t_s p1 p2 p3 n_l47) x4 x5 x7 k0 k1 = some r → W p l e (headSpec wsX12_odds rm_X12_odds).room s m args below meth c s.heap [] 0 0 Q (F0 m 76 ls [.int k1, .int k0]) := by
        intro x4 x5 x7 k0 k1 ls hl h
        unfold mi_X12_odds_b76 at h
        refine lv_imul hx hb dX12_odds_76 ?_
        refine lv_istore (lv' := [(6, .int (k0 * k1)), (0, .ref a_t), (1, .int p1), (2, .int p2), (3, .int p3), (4, .int x4), (5, .int x5), (7, .int x7)]) hx hb dX12_odds_77 hl (by decide) rfl (fun ls hl => ?_)
        refine lv_iinc (v := (x7 + 1)) (lv' := [(7, .int (x7 + 1)), (6, .int (k0 * k1)), (0, .ref a_t), (1, .int p1), (2, .int p2), (3, .int p3), (4, .int x4), (5, .int x5)]) hx hb dX12_odds_79 hl (k := 7) rfl rfl (by decide) rfl (fun ls hl => ?_)
        refine lv_goto (tgt := 47) hx hb dX12_odds_82 (by decide) ?_
        exact ih_l47 x4 x5 (k0 * k1) (x7 + 1) _ (lv_sub hl [2, 3, 4, 5, 6, 7, 1, 0] rfl) h
      intro x4 x5 x6 x7 ls hl h
      rw [mi_X12_odds_l47] at h
      refine lv_iload hx hb dX12_odds_47 (lv_at hl 7 rfl) ?_
      refine lv_aload_n hx hb dX12_odds_49 rfl (lv_at hl 0 rfl) ?_
      refine va_get (D := D) (ci := 12) (v := .ref a_t_told) (C := RX12) (T := TX12) (N := 18) hx hb hts hi_X12 hown hK hP 0 rfl rfl 3 (by decide) (hts (.fieldLink RX12 13 "TriangleRestModel" "told" "[I") (List.mem_of_getElem? (i := 1) rfl)) (fun _ h9 => h9) rfl dX12_odds_50 ?_
      refine lv_iconst (v := (0 : Int32)) hx hb dX12_odds_53 (by decide) ?_
      refine va_iald hx hb hK hP 1 0 rfl rfl (jx_in_of (by decide +kernel)) dX12_odds_54 ?_
      refine lv_icmp_ge (tgt := 85) hx hb dX12_odds_55 (by decide) (fun c1 => ?_) (fun c1 => ?_)
      · have h := jx_t h c1
        refine lv_iconst (v := (0 : Int32)) hx hb dX12_odds_85 (by decide) ?_
        refine lv_istore (lv' := [(7, .int (0 : Int32)), (0, .ref a_t), (1, .int p1), (2, .int p2), (3, .int p3), (4, .int x4), (5, .int x5), (6, .int x6)]) hx hb dX12_odds_86 hl (by decide) rfl (fun ls hl => ?_)
        exact bl_l88 jx_F x4 x5 x6 (0 : Int32) _ (lv_sub hl [1, 2, 3, 4, 5, 6, 7, 0] rfl) h
      · have h := jx_f h c1
        refine lv_iload hx hb dX12_odds_58 (lv_at hl 6 rfl) ?_
        refine lv_iload hx hb dX12_odds_60 (lv_at hl 4 rfl) ?_
        refine lv_iload hx hb dX12_odds_62 (lv_at hl 7 rfl) ?_
        obtain ⟨r2, e3, h⟩ := jx_b1_of h
        refine jx_cS (o := some (.int r2)) (As := [.int x4, .int x7]) (rest := [.int x6]) ⟨hx, hb, hml, hown, hts⟩ (ct_X12_has l x4 x7 r2 e3) (va_cwS 2 hts gX12_odds_X12_has rfl rfl rfl (by decide +kernel) ⟨Nat.le_of_ble_eq_true rfl, Nat.le_of_ble_eq_true rfl⟩) rfl hl.1 rfl (Nat.le_of_ble_eq_true rfl) dX12_odds_64 ⟨Nat.zero_le _, Nat.zero_le _⟩ ?_
        refine lv_if_eq (tgt := 75) hx hb dX12_odds_67 (by decide) (fun c4 => ?_) (fun c4 => ?_)
        · have h := jx_t h c4
          refine lv_iconst (v := (1 : Int32)) hx hb dX12_odds_75 (by decide) ?_
          exact bl_b76 x4 x5 x7 x6 (1 : Int32) _ (lv_sub hl [0, 1, 2, 3, 4, 5, 7] rfl) h
        · have h := jx_f h c4
          refine lv_bipush (v := (10 : Int32)) hx hb dX12_odds_70 (by decide) ?_
          refine lv_goto (tgt := 76) hx hb dX12_odds_72 (by decide) ?_
          exact bl_b76 x4 x5 x7 x6 (10 : Int32) _ (lv_sub hl [0, 1, 2, 3, 4, 5, 7] rfl) h
  have h := hm
  unfold mi_X12_odds at h
  refine lv_iload_n hx hb dX12_odds_0 rfl (lv_at hl 1 rfl) ?_
  refine lv_iconst (v := (0 : Int32)) hx hb dX12_odds_1 (by decide) ?_
  refine lv_bipush (v := (10 : Int32)) hx hb dX12_odds_2 (by decide) ?_
  obtain ⟨r23, e24, h⟩ := jx_b1_of h
  refine jx_cS (o := some (.int r23)) (As := [.int p1, .int (0 : Int32), .int (10 : Int32)]) (rest := []) ⟨hx, hb, hml, hown, hts⟩ (ct_X12_in l p1 (0 : Int32) (10 : Int32) r23 e24) (va_cwS 3 hts gX12_odds_X12_in rfl rfl rfl (by decide +kernel) ⟨Nat.le_of_ble_eq_true rfl, Nat.le_of_ble_eq_true rfl⟩) rfl hl.1 rfl (Nat.le_of_ble_eq_true rfl) dX12_odds_4 ⟨Nat.zero_le _, Nat.zero_le _⟩ ?_
  refine lv_if_eq (tgt := 30) hx hb dX12_odds_7 (by decide) (fun c25 => ?_) (fun c25 => ?_)
  · have h := jx_t h c25
    refine lv_iconst (v := (-1 : Int32)) hx hb dX12_odds_30 (by decide) ?_
    cases h
    exact hret 31 ls rfl dX12_odds_31
  · have h := jx_f h c25
    refine lv_iload_n hx hb dX12_odds_10 rfl (lv_at hl 2 rfl) ?_
    refine lv_iconst (v := (0 : Int32)) hx hb dX12_odds_11 (by decide) ?_
    refine lv_sipush (v := (999 : Int32)) hx hb dX12_odds_12 (by decide) ?_
    obtain ⟨r26, e27, h⟩ := jx_b1_of h
    refine jx_cS (o := some (.int r26)) (As := [.int p2, .int (0 : Int32), .int (999 : Int32)]) (rest := []) ⟨hx, hb, hml, hown, hts⟩ (ct_X12_in l p2 (0 : Int32) (999 : Int32) r26 e27) (va_cwS 3 hts gX12_odds_X12_in rfl rfl rfl (by decide +kernel) ⟨Nat.le_of_ble_eq_true rfl, Nat.le_of_ble_eq_true rfl⟩) rfl hl.1 rfl (Nat.le_of_ble_eq_true rfl) dX12_odds_15 ⟨Nat.zero_le _, Nat.zero_le _⟩ ?_
    refine lv_if_eq (tgt := 30) hx hb dX12_odds_18 (by decide) (fun c28 => ?_) (fun c28 => ?_)
    · have h := jx_t h c28
      refine lv_iconst (v := (-1 : Int32)) hx hb dX12_odds_30 (by decide) ?_
      cases h
      exact hret 31 ls rfl dX12_odds_31
    · have h := jx_f h c28
      refine lv_iload_n hx hb dX12_odds_21 rfl (lv_at hl 3 rfl) ?_
      refine lv_iconst (v := (0 : Int32)) hx hb dX12_odds_22 (by decide) ?_
      refine lv_iconst (v := (1 : Int32)) hx hb dX12_odds_23 (by decide) ?_
      obtain ⟨r29, e30, h⟩ := jx_b1_of h
      refine jx_cS (o := some (.int r29)) (As := [.int p3, .int (0 : Int32), .int (1 : Int32)]) (rest := []) ⟨hx, hb, hml, hown, hts⟩ (ct_X12_in l p3 (0 : Int32) (1 : Int32) r29 e30) (va_cwS 3 hts gX12_odds_X12_in rfl rfl rfl (by decide +kernel) ⟨Nat.le_of_ble_eq_true rfl, Nat.le_of_ble_eq_true rfl⟩) rfl hl.1 rfl (Nat.le_of_ble_eq_true rfl) dX12_odds_24 ⟨Nat.zero_le _, Nat.zero_le _⟩ ?_
      refine lv_if_ne (tgt := 32) hx hb dX12_odds_27 (by decide) (fun c31 => ?_) (fun c31 => ?_)
      · have h := jx_f h c31
        refine lv_aload_n hx hb dX12_odds_32 rfl (lv_at hl 0 rfl) ?_
        obtain ⟨r32, e33, h⟩ := jx_b1_of h
        refine jx_cV (o := some (.int r32)) (As := []) (rest := []) (b := a_t) ⟨hx, hb, hml, hown, hts⟩ (ct_X12_allThatMay l D cI cZ cO a_t a_t_text a_t_told a_t_draft a_t_s a_t_images a_t_kept a_t_notes a_t_players a_t_answers a_t_room a_t_inRest t_trace t_typed t_noted t_at t_sort t_start t_value t_told t_s r32 e33) (cwV 0 hts gX12_odds_X12_allThatMay rfl rfl rfl (by decide +kernel) ⟨Nat.le_of_ble_eq_true rfl, Nat.le_of_ble_eq_true rfl⟩) hK hN hP [0, 1, 2] rfl (va_recv hK hP (ci := 12) (q0 := 0) rfl rfl) rfl hl.1 rfl (Nat.le_of_ble_eq_true rfl) dX12_odds_33 ⟨Nat.zero_le _, Nat.zero_le _⟩ ?_
        refine lv_istore (lv' := [(4, .int r32), (0, .ref a_t), (1, .int p1), (2, .int p2), (3, .int p3)]) hx hb dX12_odds_36 hl (by decide) rfl (fun ls hl => ?_)
        refine lv_iconst (v := (0 : Int32)) hx hb dX12_odds_38 (by decide) ?_
        refine lv_istore (lv' := [(5, .int (0 : Int32)), (4, .int r32), (0, .ref a_t), (1, .int p1), (2, .int p2), (3, .int p3)]) hx hb dX12_odds_39 hl (by decide) rfl (fun ls hl => ?_)
        refine lv_iconst (v := (1 : Int32)) hx hb dX12_odds_41 (by decide) ?_
        refine lv_istore (lv' := [(6, .int (1 : Int32)), (5, .int (0 : Int32)), (4, .int r32), (0, .ref a_t), (1, .int p1), (2, .int p2), (3, .int p3)]) hx hb dX12_odds_42 hl (by decide) rfl (fun ls hl => ?_)
        refine lv_iconst (v := (0 : Int32)) hx hb dX12_odds_44 (by decide) ?_
        refine lv_istore (lv' := [(7, .int (0 : Int32)), (6, .int (1 : Int32)), (5, .int (0 : Int32)), (4, .int r32), (0, .ref a_t), (1, .int p1), (2, .int p2), (3, .int p3)]) hx hb dX12_odds_45 hl (by decide) rfl (fun ls hl => ?_)
        exact bl_l47 jx_F r32 (0 : Int32) (1 : Int32) (0 : Int32) _ (lv_sub hl [4, 5, 6, 7, 3, 2, 1, 0] rfl) h
      · have h := jx_t h c31
        refine lv_iconst (v := (-1 : Int32)) hx hb dX12_odds_30 (by decide) ?_
        cases h
        exact hret 31 ls rfl dX12_odds_31
def mi_X12_hears (t_noted : Int32) (t_notes : Nat → Int32) (p1 : Int32) (p2 : Int32) : Option (Int32 × Int32 × (Nat → Int32)) := jx_b1 (mi_X12_in p1 (0 : Int32) (60 : Int32)) fun r1 => (if r1 = 0 then (some ((-1 : Int32), t_noted, t_notes)) else (jx_b1 (mi_X12_in p2 (0 : Int32) (3 : Int32)) fun r4 => (if r4 = 0 then (some ((-1 : Int32), t_noted, t_notes)) else (if t_noted = (4 : Int32) then (some ((-3 : Int32), t_noted, t_notes)) else (jx_g (jx_in ((2 : Int32) * t_noted) 8) (jx_g (jx_in (((2 : Int32) * t_noted) + (1 : Int32)) 8) (some ((t_noted + (1 : Int32)), (t_noted + (1 : Int32)), (upd (upd t_notes (Int32.toNatClampNeg ((2 : Int32) * t_noted)) p1) (Int32.toNatClampNeg (((2 : Int32) * t_noted) + (1 : Int32))) p2)))))))))
abbrev rm_X12_hears : Room := { frames := 1, cells := 0, slots := 0, locals := 22 }
set_option maxRecDepth 100000 in
set_option maxHeartbeats 4000000 in
theorem ct_X12_hears (l : Launch) (D : va_G) (cI cZ cO : ClassId) (a_t a_t_text a_t_told a_t_draft a_t_s a_t_images a_t_kept a_t_notes a_t_players a_t_answers a_t_room a_t_inRest : Nat) (sz : Nat) (t_trace : Int64) (t_typed : Int32) (t_noted : Int32) (t_at : Int32) (t_sort : Int32) (t_start : Int32) (t_value : Int32) (t_notes : Nat → Int32) (p1 : Int32) (p2 : Int32) (r : Int32) (z_t_noted : Int32) (z_t_notes : Nat → Int32) (hm : mi_X12_hears t_noted t_notes p1 p2 = some (r, z_t_noted, z_t_notes)) : Met l yX12_hears wsX12_hears rm_X12_hears (va_Pc [.ref a_t, .int p1, .int p2] (jx_W D (jx_T cI cZ cO) sz [(a_t, .inr (12, [.long t_trace, .ref a_t_text, .int t_typed, .ref a_t_told, .ref a_t_draft, .ref a_t_s, .ref a_t_images, .ref a_t_kept, .ref a_t_notes, .int t_noted, .int t_at, .int t_sort, .int t_start, .int t_value, .ref a_t_players, .ref a_t_answers, .ref a_t_room, .ref a_t_inRest])), (a_t_notes, .inl (cI, 8, .inl t_notes))])) (jx_Q (some (.int r)) D [(a_t, .inr (12, [.long t_trace, .ref a_t_text, .int t_typed, .ref a_t_told, .ref a_t_draft, .ref a_t_s, .ref a_t_images, .ref a_t_kept, .ref a_t_notes, .int z_t_noted, .int t_at, .int t_sort, .int t_start, .int t_value, .ref a_t_players, .ref a_t_answers, .ref a_t_room, .ref a_t_inRest])), (a_t_notes, .inl (cI, 8, .inl z_t_notes))] (va_A [(a_t, .inr (12, [.long t_trace, .ref a_t_text, .int t_typed, .ref a_t_told, .ref a_t_draft, .ref a_t_s, .ref a_t_images, .ref a_t_kept, .ref a_t_notes, .int t_noted, .int t_at, .int t_sort, .int t_start, .int t_value, .ref a_t_players, .ref a_t_answers, .ref a_t_room, .ref a_t_inRest])), (a_t_notes, .inl (cI, 8, .inl t_notes))] sz)) 0 0 (va_A [(a_t, .inr (12, [.long t_trace, .ref a_t_text, .int t_typed, .ref a_t_told, .ref a_t_draft, .ref a_t_s, .ref a_t_images, .ref a_t_kept, .ref a_t_notes, .int t_noted, .int t_at, .int t_sort, .int t_start, .int t_value, .ref a_t_players, .ref a_t_answers, .ref a_t_room, .ref a_t_inRest])), (a_t_notes, .inl (cI, 8, .inl t_notes))] sz) := by
  refine jx_metW (ty := .int) (own := RX12) (cc := cX12_hears) (maxL := 3) (by decide) rfl rfl (Nat.le_of_ble_eq_true rfl) ?_
  intro p e s m args below meth c Q ls A hx hb hml hown hts hK hN hA hP hD hS hl hret
  have hi_X12 : ∀ w ∈ u_ws RX12 TX12 18, w ∈ wsX12_hears := by decide +kernel
  have hl : lv_has ls 3 [(0, .ref a_t), (1, .int p1), (2, .int p2)] := hl
  have h := hm
  unfold mi_X12_hears at h
  refine lv_iload_n hx hb dX12_hears_0 rfl (lv_at hl 1 rfl) ?_
  refine lv_iconst (v := (0 : Int32)) hx hb dX12_hears_1 (by decide) ?_
  refine lv_bipush (v := (60 : Int32)) hx hb dX12_hears_2 (by decide) ?_
  obtain ⟨r1, e2, h⟩ := jx_b1_of h
  refine jx_cS (o := some (.int r1)) (As := [.int p1, .int (0 : Int32), .int (60 : Int32)]) (rest := []) ⟨hx, hb, hml, hown, hts⟩ (ct_X12_in l p1 (0 : Int32) (60 : Int32) r1 e2) (va_cwS 3 hts gX12_hears_X12_in rfl rfl rfl (by decide +kernel) ⟨Nat.le_of_ble_eq_true rfl, Nat.le_of_ble_eq_true rfl⟩) rfl hl.1 rfl (Nat.le_of_ble_eq_true rfl) dX12_hears_4 ⟨Nat.zero_le _, Nat.zero_le _⟩ ?_
  refine lv_if_eq (tgt := 19) hx hb dX12_hears_7 (by decide) (fun c3 => ?_) (fun c3 => ?_)
  · have h := jx_t h c3
    refine lv_iconst (v := (-1 : Int32)) hx hb dX12_hears_19 (by decide) ?_
    cases h
    exact hret 20 ls _ _ hP hD hS rfl dX12_hears_20
  · have h := jx_f h c3
    refine lv_iload_n hx hb dX12_hears_10 rfl (lv_at hl 2 rfl) ?_
    refine lv_iconst (v := (0 : Int32)) hx hb dX12_hears_11 (by decide) ?_
    refine lv_iconst (v := (3 : Int32)) hx hb dX12_hears_12 (by decide) ?_
    obtain ⟨r4, e5, h⟩ := jx_b1_of h
    refine jx_cS (o := some (.int r4)) (As := [.int p2, .int (0 : Int32), .int (3 : Int32)]) (rest := []) ⟨hx, hb, hml, hown, hts⟩ (ct_X12_in l p2 (0 : Int32) (3 : Int32) r4 e5) (va_cwS 3 hts gX12_hears_X12_in rfl rfl rfl (by decide +kernel) ⟨Nat.le_of_ble_eq_true rfl, Nat.le_of_ble_eq_true rfl⟩) rfl hl.1 rfl (Nat.le_of_ble_eq_true rfl) dX12_hears_13 ⟨Nat.zero_le _, Nat.zero_le _⟩ ?_
    refine lv_if_ne (tgt := 21) hx hb dX12_hears_16 (by decide) (fun c6 => ?_) (fun c6 => ?_)
    · have h := jx_f h c6
      refine lv_aload_n hx hb dX12_hears_21 rfl (lv_at hl 0 rfl) ?_
      refine va_get (D := D) (ci := 12) (v := .int t_noted) (C := RX12) (T := TX12) (N := 18) hx hb hts hi_X12 hown hK hP 0 rfl rfl 9 (by decide) (hts (.fieldLink RX12 91 "TriangleRestModel" "noted" "I") (List.mem_of_getElem? (i := 1) rfl)) (fun _ h9 => h9) rfl dX12_hears_22 ?_
      refine lv_iconst (v := (4 : Int32)) hx hb dX12_hears_25 (by decide) ?_
      refine lv_icmp_ne (tgt := 32) hx hb dX12_hears_26 (by decide) (fun c7 => ?_) (fun c7 => ?_)
      · have h := jx_f h c7
        refine lv_aload_n hx hb dX12_hears_32 rfl (lv_at hl 0 rfl) ?_
        refine va_get (D := D) (ci := 12) (v := .ref a_t_notes) (C := RX12) (T := TX12) (N := 18) hx hb hts hi_X12 hown hK hP 0 rfl rfl 8 (by decide) (hts (.fieldLink RX12 29 "TriangleRestModel" "notes" "[I") (List.mem_of_getElem? (i := 2) rfl)) (fun _ h9 => h9) rfl dX12_hears_33 ?_
        refine lv_iconst (v := (2 : Int32)) hx hb dX12_hears_36 (by decide) ?_
        refine lv_aload_n hx hb dX12_hears_37 rfl (lv_at hl 0 rfl) ?_
        refine va_get (D := D) (ci := 12) (v := .int t_noted) (C := RX12) (T := TX12) (N := 18) hx hb hts hi_X12 hown hK hP 0 rfl rfl 9 (by decide) (hts (.fieldLink RX12 91 "TriangleRestModel" "noted" "I") (List.mem_of_getElem? (i := 1) rfl)) (fun _ h9 => h9) rfl dX12_hears_38 ?_
        refine lv_imul hx hb dX12_hears_41 ?_
        refine lv_iload_n hx hb dX12_hears_42 rfl (lv_at hl 1 rfl) ?_
        obtain ⟨g8, h⟩ := jx_g_of h
        refine va_iast hx hb hK hP hD hS 1 0 rfl rfl (jx_in_of g8) dX12_hears_43 (fun H locs hP hD hS => ?_)
        have hP : va_P D vwCl [(a_t, .inr (12, [.long t_trace, .ref a_t_text, .int t_typed, .ref a_t_told, .ref a_t_draft, .ref a_t_s, .ref a_t_images, .ref a_t_kept, .ref a_t_notes, .int t_noted, .int t_at, .int t_sort, .int t_start, .int t_value, .ref a_t_players, .ref a_t_answers, .ref a_t_room, .ref a_t_inRest])), (a_t_notes, .inl (cI, 8, .inl (upd t_notes (Int32.toNatClampNeg ((2 : Int32) * t_noted)) p1)))] H := hP
        have hD : va_D A [(a_t, .inr (12, [.long t_trace, .ref a_t_text, .int t_typed, .ref a_t_told, .ref a_t_draft, .ref a_t_s, .ref a_t_images, .ref a_t_kept, .ref a_t_notes, .int t_noted, .int t_at, .int t_sort, .int t_start, .int t_value, .ref a_t_players, .ref a_t_answers, .ref a_t_room, .ref a_t_inRest])), (a_t_notes, .inl (cI, 8, .inl (upd t_notes (Int32.toNatClampNeg ((2 : Int32) * t_noted)) p1)))] := hD
        refine lv_aload_n hx hb dX12_hears_44 rfl (lv_at hl 0 rfl) ?_
        refine va_get (D := D) (ci := 12) (v := .ref a_t_notes) (C := RX12) (T := TX12) (N := 18) hx hb hts hi_X12 hown hK hP 0 rfl rfl 8 (by decide) (hts (.fieldLink RX12 29 "TriangleRestModel" "notes" "[I") (List.mem_of_getElem? (i := 2) rfl)) (fun _ h9 => h9) rfl dX12_hears_45 ?_
        refine lv_iconst (v := (2 : Int32)) hx hb dX12_hears_48 (by decide) ?_
        refine lv_aload_n hx hb dX12_hears_49 rfl (lv_at hl 0 rfl) ?_
        refine va_get (D := D) (ci := 12) (v := .int t_noted) (C := RX12) (T := TX12) (N := 18) hx hb hts hi_X12 hown hK hP 0 rfl rfl 9 (by decide) (hts (.fieldLink RX12 91 "TriangleRestModel" "noted" "I") (List.mem_of_getElem? (i := 1) rfl)) (fun _ h9 => h9) rfl dX12_hears_50 ?_
        refine lv_imul hx hb dX12_hears_53 ?_
        refine lv_iconst (v := (1 : Int32)) hx hb dX12_hears_54 (by decide) ?_
        refine lv_iadd hx hb dX12_hears_55 ?_
        refine lv_iload_n hx hb dX12_hears_56 rfl (lv_at hl 2 rfl) ?_
        obtain ⟨g9, h⟩ := jx_g_of h
        refine va_iast hx hb hK hP hD hS 1 0 rfl rfl (jx_in_of g9) dX12_hears_57 (fun H locs hP hD hS => ?_)
        have hP : va_P D vwCl [(a_t, .inr (12, [.long t_trace, .ref a_t_text, .int t_typed, .ref a_t_told, .ref a_t_draft, .ref a_t_s, .ref a_t_images, .ref a_t_kept, .ref a_t_notes, .int t_noted, .int t_at, .int t_sort, .int t_start, .int t_value, .ref a_t_players, .ref a_t_answers, .ref a_t_room, .ref a_t_inRest])), (a_t_notes, .inl (cI, 8, .inl (upd (upd t_notes (Int32.toNatClampNeg ((2 : Int32) * t_noted)) p1) (Int32.toNatClampNeg (((2 : Int32) * t_noted) + (1 : Int32))) p2)))] H := hP
        have hD : va_D A [(a_t, .inr (12, [.long t_trace, .ref a_t_text, .int t_typed, .ref a_t_told, .ref a_t_draft, .ref a_t_s, .ref a_t_images, .ref a_t_kept, .ref a_t_notes, .int t_noted, .int t_at, .int t_sort, .int t_start, .int t_value, .ref a_t_players, .ref a_t_answers, .ref a_t_room, .ref a_t_inRest])), (a_t_notes, .inl (cI, 8, .inl (upd (upd t_notes (Int32.toNatClampNeg ((2 : Int32) * t_noted)) p1) (Int32.toNatClampNeg (((2 : Int32) * t_noted) + (1 : Int32))) p2)))] := hD
        refine lv_aload_n hx hb dX12_hears_58 rfl (lv_at hl 0 rfl) ?_
        refine lv_dup hx hb dX12_hears_59 rfl ?_
        refine va_get (D := D) (ci := 12) (v := .int t_noted) (C := RX12) (T := TX12) (N := 18) hx hb hts hi_X12 hown hK hP 0 rfl rfl 9 (by decide) (hts (.fieldLink RX12 91 "TriangleRestModel" "noted" "I") (List.mem_of_getElem? (i := 1) rfl)) (fun _ h9 => h9) rfl dX12_hears_60 ?_
        refine lv_iconst (v := (1 : Int32)) hx hb dX12_hears_63 (by decide) ?_
        refine lv_iadd hx hb dX12_hears_64 ?_
        refine va_put (D := D) (ci := 12) (v := .int (t_noted + (1 : Int32))) (ty := .int) (C := RX12) (T := TX12) (N := 18) hx hb hts hi_X12 tyX12 tyX12_ok nmX12 hown hK hP hD hS 0 rfl rfl 9 (by decide) (hts (.fieldLink RX12 91 "TriangleRestModel" "noted" "I") (List.mem_of_getElem? (i := 1) rfl)) (fun _ h9 => h9) rfl (by decide +kernel) rfl rfl (Nat.le_of_ble_eq_true rfl) dX12_hears_65 (fun H locs hP hD hS => ?_)
        have hP : va_P D vwCl [(a_t, .inr (12, [.long t_trace, .ref a_t_text, .int t_typed, .ref a_t_told, .ref a_t_draft, .ref a_t_s, .ref a_t_images, .ref a_t_kept, .ref a_t_notes, .int (t_noted + (1 : Int32)), .int t_at, .int t_sort, .int t_start, .int t_value, .ref a_t_players, .ref a_t_answers, .ref a_t_room, .ref a_t_inRest])), (a_t_notes, .inl (cI, 8, .inl (upd (upd t_notes (Int32.toNatClampNeg ((2 : Int32) * t_noted)) p1) (Int32.toNatClampNeg (((2 : Int32) * t_noted) + (1 : Int32))) p2)))] H := hP
        have hD : va_D A [(a_t, .inr (12, [.long t_trace, .ref a_t_text, .int t_typed, .ref a_t_told, .ref a_t_draft, .ref a_t_s, .ref a_t_images, .ref a_t_kept, .ref a_t_notes, .int (t_noted + (1 : Int32)), .int t_at, .int t_sort, .int t_start, .int t_value, .ref a_t_players, .ref a_t_answers, .ref a_t_room, .ref a_t_inRest])), (a_t_notes, .inl (cI, 8, .inl (upd (upd t_notes (Int32.toNatClampNeg ((2 : Int32) * t_noted)) p1) (Int32.toNatClampNeg (((2 : Int32) * t_noted) + (1 : Int32))) p2)))] := hD
        refine lv_aload_n hx hb dX12_hears_68 rfl (lv_at hl 0 rfl) ?_
        refine va_get (D := D) (ci := 12) (v := .int (t_noted + (1 : Int32))) (C := RX12) (T := TX12) (N := 18) hx hb hts hi_X12 hown hK hP 0 rfl rfl 9 (by decide) (hts (.fieldLink RX12 91 "TriangleRestModel" "noted" "I") (List.mem_of_getElem? (i := 1) rfl)) (fun _ h9 => h9) rfl dX12_hears_69 ?_
        cases h
        exact hret 72 ls _ _ hP hD hS rfl dX12_hears_72
      · have h := jx_t h c7
        refine lv_bipush (v := (-3 : Int32)) hx hb dX12_hears_29 (by decide) ?_
        cases h
        exact hret 31 ls _ _ hP hD hS rfl dX12_hears_31
    · have h := jx_t h c6
      refine lv_iconst (v := (-1 : Int32)) hx hb dX12_hears_19 (by decide) ?_
      cases h
      exact hret 20 ls _ _ hP hD hS rfl dX12_hears_20
def mi_X12_forget (t_noted : Int32) : Option (Int32 × Int32) := some (t_noted, (0 : Int32))
abbrev rm_X12_forget : Room := { frames := 0, cells := 0, slots := 0, locals := 0 }
set_option maxRecDepth 100000 in
set_option maxHeartbeats 4000000 in
theorem ct_X12_forget (l : Launch) (D : va_G) (cI cZ cO : ClassId) (a_t a_t_text a_t_told a_t_draft a_t_s a_t_images a_t_kept a_t_notes a_t_players a_t_answers a_t_room a_t_inRest : Nat) (sz : Nat) (t_trace : Int64) (t_typed : Int32) (t_noted : Int32) (t_at : Int32) (t_sort : Int32) (t_start : Int32) (t_value : Int32) (r : Int32) (z_t_noted : Int32) (hm : mi_X12_forget t_noted = some (r, z_t_noted)) : Met l yX12_forget wsX12_forget rm_X12_forget (va_Pc [.ref a_t] (jx_W D (jx_T cI cZ cO) sz [(a_t, .inr (12, [.long t_trace, .ref a_t_text, .int t_typed, .ref a_t_told, .ref a_t_draft, .ref a_t_s, .ref a_t_images, .ref a_t_kept, .ref a_t_notes, .int t_noted, .int t_at, .int t_sort, .int t_start, .int t_value, .ref a_t_players, .ref a_t_answers, .ref a_t_room, .ref a_t_inRest]))])) (jx_Q (some (.int r)) D [(a_t, .inr (12, [.long t_trace, .ref a_t_text, .int t_typed, .ref a_t_told, .ref a_t_draft, .ref a_t_s, .ref a_t_images, .ref a_t_kept, .ref a_t_notes, .int z_t_noted, .int t_at, .int t_sort, .int t_start, .int t_value, .ref a_t_players, .ref a_t_answers, .ref a_t_room, .ref a_t_inRest]))] (va_A [(a_t, .inr (12, [.long t_trace, .ref a_t_text, .int t_typed, .ref a_t_told, .ref a_t_draft, .ref a_t_s, .ref a_t_images, .ref a_t_kept, .ref a_t_notes, .int t_noted, .int t_at, .int t_sort, .int t_start, .int t_value, .ref a_t_players, .ref a_t_answers, .ref a_t_room, .ref a_t_inRest]))] sz)) 0 0 (va_A [(a_t, .inr (12, [.long t_trace, .ref a_t_text, .int t_typed, .ref a_t_told, .ref a_t_draft, .ref a_t_s, .ref a_t_images, .ref a_t_kept, .ref a_t_notes, .int t_noted, .int t_at, .int t_sort, .int t_start, .int t_value, .ref a_t_players, .ref a_t_answers, .ref a_t_room, .ref a_t_inRest]))] sz) := by
  refine jx_metW (ty := .int) (own := RX12) (cc := cX12_forget) (maxL := 2) (by decide) rfl rfl (Nat.le_of_ble_eq_true rfl) ?_
  intro p e s m args below meth c Q ls A hx hb hml hown hts hK hN hA hP hD hS hl hret
  have hi_X12 : ∀ w ∈ u_ws RX12 TX12 18, w ∈ wsX12_forget := by decide +kernel
  have hl : lv_has ls 2 [(0, .ref a_t)] := hl
  have h := hm
  unfold mi_X12_forget at h
  refine lv_aload_n hx hb dX12_forget_0 rfl (lv_at hl 0 rfl) ?_
  refine va_get (D := D) (ci := 12) (v := .int t_noted) (C := RX12) (T := TX12) (N := 18) hx hb hts hi_X12 hown hK hP 0 rfl rfl 9 (by decide) (hts (.fieldLink RX12 91 "TriangleRestModel" "noted" "I") (List.mem_of_getElem? (i := 1) rfl)) (fun _ h9 => h9) rfl dX12_forget_1 ?_
  refine lv_istore_n (lv' := [(1, .int t_noted), (0, .ref a_t)]) hx hb dX12_forget_4 rfl hl (by decide) rfl (fun ls hl => ?_)
  refine lv_aload_n hx hb dX12_forget_5 rfl (lv_at hl 1 rfl) ?_
  refine lv_iconst (v := (0 : Int32)) hx hb dX12_forget_6 (by decide) ?_
  refine va_put (D := D) (ci := 12) (v := .int (0 : Int32)) (ty := .int) (C := RX12) (T := TX12) (N := 18) hx hb hts hi_X12 tyX12 tyX12_ok nmX12 hown hK hP hD hS 0 rfl rfl 9 (by decide) (hts (.fieldLink RX12 91 "TriangleRestModel" "noted" "I") (List.mem_of_getElem? (i := 1) rfl)) (fun _ h9 => h9) rfl (by decide +kernel) rfl rfl (Nat.le_of_ble_eq_true rfl) dX12_forget_7 (fun H locs hP hD hS => ?_)
  have hP : va_P D vwCl [(a_t, .inr (12, [.long t_trace, .ref a_t_text, .int t_typed, .ref a_t_told, .ref a_t_draft, .ref a_t_s, .ref a_t_images, .ref a_t_kept, .ref a_t_notes, .int (0 : Int32), .int t_at, .int t_sort, .int t_start, .int t_value, .ref a_t_players, .ref a_t_answers, .ref a_t_room, .ref a_t_inRest]))] H := hP
  have hD : va_D A [(a_t, .inr (12, [.long t_trace, .ref a_t_text, .int t_typed, .ref a_t_told, .ref a_t_draft, .ref a_t_s, .ref a_t_images, .ref a_t_kept, .ref a_t_notes, .int (0 : Int32), .int t_at, .int t_sort, .int t_start, .int t_value, .ref a_t_players, .ref a_t_answers, .ref a_t_room, .ref a_t_inRest]))] := hD
  refine lv_iload_n hx hb dX12_forget_10 rfl (lv_at hl 0 rfl) ?_
  cases h
  exact hret 11 ls _ _ hP hD hS rfl dX12_forget_11
def mi_X12_writes_l68 : Nat → Int32 → (Nat → Int32) → Option ((Nat → Int32))
  | 0, _, _ => none
  | n + 1, x1, t_players => if (1100 : Int32) ≤ x1 then (some (t_players)) else (jx_g (jx_in x1 1100) (mi_X12_writes_l68 n (x1 + 1) (upd t_players (Int32.toNatClampNeg x1) (4 : Int32))))
def mi_X12_writes_b62 (k_l4 : Int32 → Int32 → (Nat → Int32) → Option ((Nat → Int32))) (x1 : Int32) (x2 : Int32) (t_players : Nat → Int32) : Option ((Nat → Int32)) := k_l4 x1 (x2 + 1) t_players
def mi_X12_writes_l16 (t_told : Nat → Int32) (t_s : Nat → Int32) (k_l4 : Int32 → Int32 → (Nat → Int32) → Option ((Nat → Int32))) : Nat → Int32 → Int32 → Int32 → (Nat → Int32) → Option ((Nat → Int32))
  | 0, _, _, _, _ => none
  | n + 1, x1, x2, x3, t_players => jx_b1 (mi_X12_minutes t_told x2) fun r2 => (if r2 ≤ x3 then (mi_X12_writes_b62 k_l4 x1 x2 t_players) else (jx_b1 (mi_X12_has (t_s (Int32.toNatClampNeg (3 : Int32))) x2) fun r5 => (if r5 = 0 then (jx_g (jx_in ((22 : Int32) + x2) 36) (jx_g (jx_in x1 1100) (mi_X12_writes_l16 t_told t_s k_l4 n (x1 + 1) x2 (x3 + 1) (upd t_players (Int32.toNatClampNeg x1) (t_told (Int32.toNatClampNeg ((22 : Int32) + x2))))))) else (mi_X12_writes_b62 k_l4 x1 x2 t_players))))
def mi_X12_writes_l4 (t_told : Nat → Int32) (t_s : Nat → Int32) : Nat → Int32 → Int32 → (Nat → Int32) → Option ((Nat → Int32))
  | 0, _, _, _ => none
  | n + 1, x1, x2, t_players => if (t_told (Int32.toNatClampNeg (0 : Int32))) ≤ x2 then (mi_X12_writes_l68 jx_F x1 t_players) else (mi_X12_writes_l16 t_told t_s (mi_X12_writes_l4 t_told t_s n) jx_F x1 x2 (0 : Int32) t_players)
def mi_X12_writes (t_told : Nat → Int32) (t_s : Nat → Int32) (t_players : Nat → Int32) : Option ((Nat → Int32)) := mi_X12_writes_l4 t_told t_s jx_F (0 : Int32) (0 : Int32) t_players
abbrev rm_X12_writes : Room := { frames := 1, cells := 0, slots := 0, locals := 21 }
set_option maxRecDepth 100000 in
set_option maxHeartbeats 4000000 in
theorem ct_X12_writes (l : Launch) (D : va_G) (cI cZ cO : ClassId) (a_t a_t_text a_t_told a_t_draft a_t_s a_t_images a_t_kept a_t_notes a_t_players a_t_answers a_t_room a_t_inRest : Nat) (sz : Nat) (t_trace : Int64) (t_typed : Int32) (t_noted : Int32) (t_at : Int32) (t_sort : Int32) (t_start : Int32) (t_value : Int32) (t_told : Nat → Int32) (t_s : Nat → Int32) (t_players : Nat → Int32) (z_t_players : Nat → Int32) (hm : mi_X12_writes t_told t_s t_players = some z_t_players) : Met l yX12_writes wsX12_writes rm_X12_writes (va_Pc [.ref a_t] (jx_W D (jx_T cI cZ cO) sz [(a_t, .inr (12, [.long t_trace, .ref a_t_text, .int t_typed, .ref a_t_told, .ref a_t_draft, .ref a_t_s, .ref a_t_images, .ref a_t_kept, .ref a_t_notes, .int t_noted, .int t_at, .int t_sort, .int t_start, .int t_value, .ref a_t_players, .ref a_t_answers, .ref a_t_room, .ref a_t_inRest])), (a_t_told, .inl (cI, 36, .inl t_told)), (a_t_s, .inl (cI, 56, .inl t_s)), (a_t_players, .inl (cI, 1100, .inl t_players))])) (jx_Q none D [(a_t, .inr (12, [.long t_trace, .ref a_t_text, .int t_typed, .ref a_t_told, .ref a_t_draft, .ref a_t_s, .ref a_t_images, .ref a_t_kept, .ref a_t_notes, .int t_noted, .int t_at, .int t_sort, .int t_start, .int t_value, .ref a_t_players, .ref a_t_answers, .ref a_t_room, .ref a_t_inRest])), (a_t_told, .inl (cI, 36, .inl t_told)), (a_t_s, .inl (cI, 56, .inl t_s)), (a_t_players, .inl (cI, 1100, .inl z_t_players))] (va_A [(a_t, .inr (12, [.long t_trace, .ref a_t_text, .int t_typed, .ref a_t_told, .ref a_t_draft, .ref a_t_s, .ref a_t_images, .ref a_t_kept, .ref a_t_notes, .int t_noted, .int t_at, .int t_sort, .int t_start, .int t_value, .ref a_t_players, .ref a_t_answers, .ref a_t_room, .ref a_t_inRest])), (a_t_told, .inl (cI, 36, .inl t_told)), (a_t_s, .inl (cI, 56, .inl t_s)), (a_t_players, .inl (cI, 1100, .inl t_players))] sz)) 0 0 (va_A [(a_t, .inr (12, [.long t_trace, .ref a_t_text, .int t_typed, .ref a_t_told, .ref a_t_draft, .ref a_t_s, .ref a_t_images, .ref a_t_kept, .ref a_t_notes, .int t_noted, .int t_at, .int t_sort, .int t_start, .int t_value, .ref a_t_players, .ref a_t_answers, .ref a_t_room, .ref a_t_inRest])), (a_t_told, .inl (cI, 36, .inl t_told)), (a_t_s, .inl (cI, 56, .inl t_s)), (a_t_players, .inl (cI, 1100, .inl t_players))] sz) := by
  refine jx_metV (own := RX12) (cc := cX12_writes) (maxL := 4) (by decide) rfl rfl (Nat.le_of_ble_eq_true rfl) ?_
  intro p e s m args below meth c Q ls A hx hb hml hown hts hK hN hA hP hD hS hl hret
  have hi_X12 : ∀ w ∈ u_ws RX12 TX12 18, w ∈ wsX12_writes := by decide +kernel
  have hl : lv_has ls 4 [(0, .ref a_t)] := hl
  have bl_l68 : ∀ (n : Nat) (x1 : Int32) (t_players : Nat → Int32) (H : Heap) (locs : List Loc) (ls : Array Slot), va_P D vwCl [(a_t, .inr (12, [.long t_trace, .ref a_t_text, .int t_typed, .ref a_t_told, .ref a_t_draft, .ref a_t_s, .ref a_t_images, .ref a_t_kept, .ref a_t_notes, .int t_noted, .int t_at, .int t_sort, .int t_start, .int t_value, .ref a_t_players, .ref a_t_answers, .ref a_t_room, .ref a_t_inRest])), (a_t_told, .inl (cI, 36, .inl t_told)), (a_t_s, .inl (cI, 56, .inl t_s)), (a_t_players, .inl (cI, 1100, .inl t_players))] H → va_D A [(a_t, .inr (12, [.long t_trace, .ref a_t_text, .int t_typed, .ref a_t_told, .ref a_t_draft, .ref a_t_s, .ref a_t_images, .ref a_t_kept, .ref a_t_notes, .int t_noted, .int t_at, .int t_sort, .int t_start, .int t_value, .ref a_t_players, .ref a_t_answers, .ref a_t_room, .ref a_t_inRest])), (a_t_told, .inl (cI, 36, .inl t_told)), (a_t_s, .inl (cI, 56, .inl t_s)), (a_t_players, .inl (cI, 1100, .inl t_players))] → va_S A s.heap H locs → lv_has ls 4 [(0, .ref a_t), (1, .int x1)] → mi_X12_writes_l68 n x1 t_players = some z_t_players → W p l e (headSpec wsX12_writes rm_X12_writes).room s m args below meth c H locs 0 0 Q (F0 m 68 ls []) := by
    intro n
    induction n with
    | zero =>
      intro x1 t_players H locs ls hP hD hS hl h
      rw [mi_X12_writes_l68] at h
      cases h
    | succ n_l68 ih_l68 =>
      intro x1 t_players H locs ls hP hD hS hl h
      rw [mi_X12_writes_l68] at h
      refine lv_iload_n hx hb dX12_writes_68 rfl (lv_at hl 1 rfl) ?_
      refine lv_sipush (v := (1100 : Int32)) hx hb dX12_writes_69 (by decide) ?_
      refine lv_icmp_ge (tgt := 88) hx hb dX12_writes_72 (by decide) (fun c10 => ?_) (fun c10 => ?_)
      · have h := jx_t h c10
        cases h
        exact hret 88 ls _ _ hP hD hS dX12_writes_88
      · have h := jx_f h c10
        refine lv_aload_n hx hb dX12_writes_75 rfl (lv_at hl 0 rfl) ?_
        refine va_get (D := D) (ci := 12) (v := .ref a_t_players) (C := RX12) (T := TX12) (N := 18) hx hb hts hi_X12 hown hK hP 0 rfl rfl 14 (by decide) (hts (.fieldLink RX12 32 "TriangleRestModel" "players" "[I") (List.mem_of_getElem? (i := 3) rfl)) (fun _ h9 => h9) rfl dX12_writes_76 ?_
        refine lv_iload_n hx hb dX12_writes_79 rfl (lv_at hl 1 rfl) ?_
        refine lv_iconst (v := (4 : Int32)) hx hb dX12_writes_80 (by decide) ?_
        obtain ⟨g11, h⟩ := jx_g_of h
        refine va_iast hx hb hK hP hD hS 3 0 rfl rfl (jx_in_of g11) dX12_writes_81 (fun H locs hP hD hS => ?_)
        have hP : va_P D vwCl [(a_t, .inr (12, [.long t_trace, .ref a_t_text, .int t_typed, .ref a_t_told, .ref a_t_draft, .ref a_t_s, .ref a_t_images, .ref a_t_kept, .ref a_t_notes, .int t_noted, .int t_at, .int t_sort, .int t_start, .int t_value, .ref a_t_players, .ref a_t_answers, .ref a_t_room, .ref a_t_inRest])), (a_t_told, .inl (cI, 36, .inl t_told)), (a_t_s, .inl (cI, 56, .inl t_s)), (a_t_players, .inl (cI, 1100, .inl (upd t_players (Int32.toNatClampNeg x1) (4 : Int32))))] H := hP
        have hD : va_D A [(a_t, .inr (12, [.long t_trace, .ref a_t_text, .int t_typed, .ref a_t_told, .ref a_t_draft, .ref a_t_s, .ref a_t_images, .ref a_t_kept, .ref a_t_notes, .int t_noted, .int t_at, .int t_sort, .int t_start, .int t_value, .ref a_t_players, .ref a_t_answers, .ref a_t_room, .ref a_t_inRest])), (a_t_told, .inl (cI, 36, .inl t_told)), (a_t_s, .inl (cI, 56, .inl t_s)), (a_t_players, .inl (cI, 1100, .inl (upd t_players (Int32.toNatClampNeg x1) (4 : Int32))))] := hD
        refine lv_iinc (v := (x1 + 1)) (lv' := [(1, .int (x1 + 1)), (0, .ref a_t)]) hx hb dX12_writes_82 hl (k := 1) rfl rfl (by decide) rfl (fun ls hl => ?_)
        refine lv_goto (tgt := 68) hx hb dX12_writes_85 (by decide) ?_
        exact ih_l68 (x1 + 1) (upd t_players (Int32.toNatClampNeg x1) (4 : Int32)) _ _ _ hP hD hS (lv_sub hl [1, 0] rfl) h
  have bl_l4 : ∀ (n : Nat) (x1 : Int32) (x2 : Int32) (t_players : Nat → Int32) (H : Heap) (locs : List Loc) (ls : Array Slot), va_P D vwCl [(a_t, .inr (12, [.long t_trace, .ref a_t_text, .int t_typed, .ref a_t_told, .ref a_t_draft, .ref a_t_s, .ref a_t_images, .ref a_t_kept, .ref a_t_notes, .int t_noted, .int t_at, .int t_sort, .int t_start, .int t_value, .ref a_t_players, .ref a_t_answers, .ref a_t_room, .ref a_t_inRest])), (a_t_told, .inl (cI, 36, .inl t_told)), (a_t_s, .inl (cI, 56, .inl t_s)), (a_t_players, .inl (cI, 1100, .inl t_players))] H → va_D A [(a_t, .inr (12, [.long t_trace, .ref a_t_text, .int t_typed, .ref a_t_told, .ref a_t_draft, .ref a_t_s, .ref a_t_images, .ref a_t_kept, .ref a_t_notes, .int t_noted, .int t_at, .int t_sort, .int t_start, .int t_value, .ref a_t_players, .ref a_t_answers, .ref a_t_room, .ref a_t_inRest])), (a_t_told, .inl (cI, 36, .inl t_told)), (a_t_s, .inl (cI, 56, .inl t_s)), (a_t_players, .inl (cI, 1100, .inl t_players))] → va_S A s.heap H locs → lv_has ls 4 [(0, .ref a_t), (1, .int x1), (2, .int x2)] → mi_X12_writes_l4 t_told t_s n x1 x2 t_players = some z_t_players → W p l e (headSpec wsX12_writes rm_X12_writes).room s m args below meth c H locs 0 0 Q (F0 m 4 ls []) := by
    intro n
    induction n with
    | zero =>
      intro x1 x2 t_players H locs ls hP hD hS hl h
      rw [mi_X12_writes_l4] at h
      cases h
    | succ n_l4 ih_l4 =>
      have bl_b62 : ∀ (x1 : Int32) (x2 : Int32) (t_players : Nat → Int32) (H : Heap) (locs : List Loc) (ls : Array Slot), va_P D vwCl [(a_t, .inr (12, [.long t_trace, .ref a_t_text, .int t_typed, .ref a_t_told, .ref a_t_draft, .ref a_t_s, .ref a_t_images, .ref a_t_kept, .ref a_t_notes, .int t_noted, .int t_at, .int t_sort, .int t_start, .int t_value, .ref a_t_players, .ref a_t_answers, .ref a_t_room, .ref a_t_inRest])), (a_t_told, .inl (cI, 36, .inl t_told)), (a_t_s, .inl (cI, 56, .inl t_s)), (a_t_players, .inl (cI, 1100, .inl t_players))] H → va_D A [(a_t, .inr (12, [.long t_trace, .ref a_t_text, .int t_typed, .ref a_t_told, .ref a_t_draft, .ref a_t_s, .ref a_t_images, .ref a_t_kept, .ref a_t_notes, .int t_noted, .int t_at, .int t_sort, .int t_start, .int t_value, .ref a_t_players, .ref a_t_answers, .ref a_t_room, .ref a_t_inRest])), (a_t_told, .inl (cI, 36, .inl t_told)), (a_t_s, .inl (cI, 56, .inl t_s)), (a_t_players, .inl (cI, 1100, .inl t_players))] → va_S A s.heap H locs → lv_has ls 4 [(0, .ref a_t), (1, .int x1), (2, .int x2)] → mi_X12_writes_b62 (mi_X12_writes_l4 t_told t_s n_l4) x1 x2 t_players = some z_t_players → W p l e (headSpec wsX12_writes rm_X12_writes).room s m args below meth c H locs 0 0 Q (F0 m 62 ls []) := by
        intro x1 x2 t_players H locs ls hP hD hS hl h
        unfold mi_X12_writes_b62 at h
        refine lv_iinc (v := (x2 + 1)) (lv' := [(2, .int (x2 + 1)), (0, .ref a_t), (1, .int x1)]) hx hb dX12_writes_62 hl (k := 2) rfl rfl (by decide) rfl (fun ls hl => ?_)
        refine lv_goto (tgt := 4) hx hb dX12_writes_65 (by decide) ?_
        exact ih_l4 x1 (x2 + 1) t_players _ _ _ hP hD hS (lv_sub hl [1, 2, 0] rfl) h
      have bl_l16 : ∀ (n : Nat) (x1 : Int32) (x2 : Int32) (x3 : Int32) (t_players : Nat → Int32) (H : Heap) (locs : List Loc) (ls : Array Slot), va_P D vwCl [(a_t, .inr (12, [.long t_trace, .ref a_t_text, .int t_typed, .ref a_t_told, .ref a_t_draft, .ref a_t_s, .ref a_t_images, .ref a_t_kept, .ref a_t_notes, .int t_noted, .int t_at, .int t_sort, .int t_start, .int t_value, .ref a_t_players, .ref a_t_answers, .ref a_t_room, .ref a_t_inRest])), (a_t_told, .inl (cI, 36, .inl t_told)), (a_t_s, .inl (cI, 56, .inl t_s)), (a_t_players, .inl (cI, 1100, .inl t_players))] H → va_D A [(a_t, .inr (12, [.long t_trace, .ref a_t_text, .int t_typed, .ref a_t_told, .ref a_t_draft, .ref a_t_s, .ref a_t_images, .ref a_t_kept, .ref a_t_notes, .int t_noted, .int t_at, .int t_sort, .int t_start, .int t_value, .ref a_t_players, .ref a_t_answers, .ref a_t_room, .ref a_t_inRest])), (a_t_told, .inl (cI, 36, .inl t_told)), (a_t_s, .inl (cI, 56, .inl t_s)), (a_t_players, .inl (cI, 1100, .inl t_players))] → va_S A s.heap H locs → lv_has ls 4 [(0, .ref a_t), (1, .int x1), (2, .int x2), (3, .int x3)] → mi_X12_writes_l16 t_told t_s (mi_X12_writes_l4 t_told t_s n_l4) n x1 x2 x3 t_players = some z_t_players → W p l e (headSpec wsX12_writes rm_X12_writes).room s m args below meth c H locs 0 0 Q (F0 m 16 ls []) := by
        intro n
        induction n with
        | zero =>
          intro x1 x2 x3 t_players H locs ls hP hD hS hl h
          rw [mi_X12_writes_l16] at h
          cases h
        | succ n_l16 ih_l16 =>
          intro x1 x2 x3 t_players H locs ls hP hD hS hl h
          rw [mi_X12_writes_l16] at h
          refine lv_iload_n hx hb dX12_writes_16 rfl (lv_at hl 3 rfl) ?_
          refine lv_aload_n hx hb dX12_writes_17 rfl (lv_at hl 0 rfl) ?_
          refine lv_iload_n hx hb dX12_writes_18 rfl (lv_at hl 2 rfl) ?_
          obtain ⟨r2, e3, h⟩ := jx_b1_of h
          refine jx_cV (o := some (.int r2)) (As := [.int x2]) (rest := [.int x3]) (b := a_t) ⟨hx, hb, hml, hown, hts⟩ (ct_X12_minutes l D cI cZ cO a_t a_t_text a_t_told a_t_draft a_t_s a_t_images a_t_kept a_t_notes a_t_players a_t_answers a_t_room a_t_inRest t_trace t_typed t_noted t_at t_sort t_start t_value t_told x2 r2 e3) (cwV 1 hts gX12_writes_X12_minutes rfl rfl rfl (by decide +kernel) ⟨Nat.le_of_ble_eq_true rfl, Nat.le_of_ble_eq_true rfl⟩) hK hN hP [0, 1] rfl (va_recv hK hP (ci := 12) (q0 := 0) rfl rfl) rfl hl.1 rfl (Nat.le_of_ble_eq_true rfl) dX12_writes_19 ⟨Nat.zero_le _, Nat.zero_le _⟩ ?_
          refine lv_icmp_ge (tgt := 62) hx hb dX12_writes_22 (by decide) (fun c4 => ?_) (fun c4 => ?_)
          · have h := jx_t h c4
            exact bl_b62 x1 x2 t_players _ _ _ hP hD hS (lv_sub hl [0, 1, 2] rfl) h
          · have h := jx_f h c4
            refine lv_aload_n hx hb dX12_writes_25 rfl (lv_at hl 0 rfl) ?_
            refine va_get (D := D) (ci := 12) (v := .ref a_t_s) (C := RX12) (T := TX12) (N := 18) hx hb hts hi_X12 hown hK hP 0 rfl rfl 5 (by decide) (hts (.fieldLink RX12 19 "TriangleRestModel" "s" "[I") (List.mem_of_getElem? (i := 2) rfl)) (fun _ h9 => h9) rfl dX12_writes_26 ?_
            refine lv_iconst (v := (3 : Int32)) hx hb dX12_writes_29 (by decide) ?_
            refine va_iald hx hb hK hP 2 0 rfl rfl (jx_in_of (by decide +kernel)) dX12_writes_30 ?_
            refine lv_iload_n hx hb dX12_writes_31 rfl (lv_at hl 2 rfl) ?_
            obtain ⟨r5, e6, h⟩ := jx_b1_of h
            refine jx_cS (o := some (.int r5)) (As := [.int (t_s (Int32.toNatClampNeg (3 : Int32))), .int x2]) (rest := []) ⟨hx, hb, hml, hown, hts⟩ (ct_X12_has l (t_s (Int32.toNatClampNeg (3 : Int32))) x2 r5 e6) (va_cwS 2 hts gX12_writes_X12_has rfl rfl rfl (by decide +kernel) ⟨Nat.le_of_ble_eq_true rfl, Nat.le_of_ble_eq_true rfl⟩) rfl hl.1 rfl (Nat.le_of_ble_eq_true rfl) dX12_writes_32 ⟨Nat.zero_le _, Nat.zero_le _⟩ ?_
            refine lv_if_ne (tgt := 62) hx hb dX12_writes_35 (by decide) (fun c7 => ?_) (fun c7 => ?_)
            · have h := jx_f h c7
              exact bl_b62 x1 x2 t_players _ _ _ hP hD hS (lv_sub hl [0, 1, 2] rfl) h
            · have h := jx_t h c7
              refine lv_aload_n hx hb dX12_writes_38 rfl (lv_at hl 0 rfl) ?_
              refine va_get (D := D) (ci := 12) (v := .ref a_t_players) (C := RX12) (T := TX12) (N := 18) hx hb hts hi_X12 hown hK hP 0 rfl rfl 14 (by decide) (hts (.fieldLink RX12 32 "TriangleRestModel" "players" "[I") (List.mem_of_getElem? (i := 3) rfl)) (fun _ h9 => h9) rfl dX12_writes_39 ?_
              refine lv_iload_n hx hb dX12_writes_42 rfl (lv_at hl 1 rfl) ?_
              refine lv_aload_n hx hb dX12_writes_43 rfl (lv_at hl 0 rfl) ?_
              refine va_get (D := D) (ci := 12) (v := .ref a_t_told) (C := RX12) (T := TX12) (N := 18) hx hb hts hi_X12 hown hK hP 0 rfl rfl 3 (by decide) (hts (.fieldLink RX12 13 "TriangleRestModel" "told" "[I") (List.mem_of_getElem? (i := 1) rfl)) (fun _ h9 => h9) rfl dX12_writes_44 ?_
              refine lv_bipush (v := (22 : Int32)) hx hb dX12_writes_47 (by decide) ?_
              refine lv_iload_n hx hb dX12_writes_49 rfl (lv_at hl 2 rfl) ?_
              refine lv_iadd hx hb dX12_writes_50 ?_
              obtain ⟨g8, h⟩ := jx_g_of h
              refine va_iald hx hb hK hP 1 0 rfl rfl (jx_in_of g8) dX12_writes_51 ?_
              obtain ⟨g9, h⟩ := jx_g_of h
              refine va_iast hx hb hK hP hD hS 3 0 rfl rfl (jx_in_of g9) dX12_writes_52 (fun H locs hP hD hS => ?_)
              have hP : va_P D vwCl [(a_t, .inr (12, [.long t_trace, .ref a_t_text, .int t_typed, .ref a_t_told, .ref a_t_draft, .ref a_t_s, .ref a_t_images, .ref a_t_kept, .ref a_t_notes, .int t_noted, .int t_at, .int t_sort, .int t_start, .int t_value, .ref a_t_players, .ref a_t_answers, .ref a_t_room, .ref a_t_inRest])), (a_t_told, .inl (cI, 36, .inl t_told)), (a_t_s, .inl (cI, 56, .inl t_s)), (a_t_players, .inl (cI, 1100, .inl (upd t_players (Int32.toNatClampNeg x1) (t_told (Int32.toNatClampNeg ((22 : Int32) + x2))))))] H := hP
              have hD : va_D A [(a_t, .inr (12, [.long t_trace, .ref a_t_text, .int t_typed, .ref a_t_told, .ref a_t_draft, .ref a_t_s, .ref a_t_images, .ref a_t_kept, .ref a_t_notes, .int t_noted, .int t_at, .int t_sort, .int t_start, .int t_value, .ref a_t_players, .ref a_t_answers, .ref a_t_room, .ref a_t_inRest])), (a_t_told, .inl (cI, 36, .inl t_told)), (a_t_s, .inl (cI, 56, .inl t_s)), (a_t_players, .inl (cI, 1100, .inl (upd t_players (Int32.toNatClampNeg x1) (t_told (Int32.toNatClampNeg ((22 : Int32) + x2))))))] := hD
              refine lv_iinc (v := (x1 + 1)) (lv' := [(1, .int (x1 + 1)), (0, .ref a_t), (2, .int x2), (3, .int x3)]) hx hb dX12_writes_53 hl (k := 1) rfl rfl (by decide) rfl (fun ls hl => ?_)
              refine lv_iinc (v := (x3 + 1)) (lv' := [(3, .int (x3 + 1)), (1, .int (x1 + 1)), (0, .ref a_t), (2, .int x2)]) hx hb dX12_writes_56 hl (k := 3) rfl rfl (by decide) rfl (fun ls hl => ?_)
              refine lv_goto (tgt := 16) hx hb dX12_writes_59 (by decide) ?_
              exact ih_l16 (x1 + 1) x2 (x3 + 1) (upd t_players (Int32.toNatClampNeg x1) (t_told (Int32.toNatClampNeg ((22 : Int32) + x2)))) _ _ _ hP hD hS (lv_sub hl [2, 1, 3, 0] rfl) h
      intro x1 x2 t_players H locs ls hP hD hS hl h
      rw [mi_X12_writes_l4] at h
      refine lv_iload_n hx hb dX12_writes_4 rfl (lv_at hl 2 rfl) ?_
      refine lv_aload_n hx hb dX12_writes_5 rfl (lv_at hl 0 rfl) ?_
      refine va_get (D := D) (ci := 12) (v := .ref a_t_told) (C := RX12) (T := TX12) (N := 18) hx hb hts hi_X12 hown hK hP 0 rfl rfl 3 (by decide) (hts (.fieldLink RX12 13 "TriangleRestModel" "told" "[I") (List.mem_of_getElem? (i := 1) rfl)) (fun _ h9 => h9) rfl dX12_writes_6 ?_
      refine lv_iconst (v := (0 : Int32)) hx hb dX12_writes_9 (by decide) ?_
      refine va_iald hx hb hK hP 1 0 rfl rfl (jx_in_of (by decide +kernel)) dX12_writes_10 ?_
      refine lv_icmp_ge (tgt := 68) hx hb dX12_writes_11 (by decide) (fun c1 => ?_) (fun c1 => ?_)
      · have h := jx_t h c1
        exact bl_l68 jx_F x1 t_players _ _ _ hP hD hS (lv_sub hl [0, 1] rfl) h
      · have h := jx_f h c1
        refine lv_iconst (v := (0 : Int32)) hx hb dX12_writes_14 (by decide) ?_
        refine lv_istore_n (lv' := [(3, .int (0 : Int32)), (0, .ref a_t), (1, .int x1), (2, .int x2)]) hx hb dX12_writes_15 rfl hl (by decide) rfl (fun ls hl => ?_)
        exact bl_l16 jx_F x1 x2 (0 : Int32) t_players _ _ _ hP hD hS (lv_sub hl [1, 2, 3, 0] rfl) h
  have h := hm
  unfold mi_X12_writes at h
  refine lv_iconst (v := (0 : Int32)) hx hb dX12_writes_0 (by decide) ?_
  refine lv_istore_n (lv' := [(1, .int (0 : Int32)), (0, .ref a_t)]) hx hb dX12_writes_1 rfl hl (by decide) rfl (fun ls hl => ?_)
  refine lv_iconst (v := (0 : Int32)) hx hb dX12_writes_2 (by decide) ?_
  refine lv_istore_n (lv' := [(2, .int (0 : Int32)), (1, .int (0 : Int32)), (0, .ref a_t)]) hx hb dX12_writes_3 rfl hl (by decide) rfl (fun ls hl => ?_)
  exact bl_l4 jx_F (0 : Int32) (0 : Int32) t_players _ _ _ hP hD hS (lv_sub hl [2, 1, 0] rfl) h
def mi_X12_isSo_b49 (k_l4 : Int32 → Int32 → Option (Int32)) (x3 : Int32) (k0 : Int32) : Option (Int32) := k_l4 k0 (x3 + 1)
def mi_X12_isSo_b48 (k_l4 : Int32 → Int32 → Option (Int32)) (x3 : Int32) : Option (Int32) := mi_X12_isSo_b49 k_l4 x3 (0 : Int32)
def mi_X12_isSo_l4 (t_noted : Int32) (t_notes : Nat → Int32) (t_players : Nat → Int32) (p1 : Int32) : Nat → Int32 → Int32 → Option (Int32)
  | 0, _, _ => none
  | n + 1, x2, x3 => if t_noted ≤ x3 then (jx_g (jx_tf x2) (some (x2))) else (if x2 = 0 then (mi_X12_isSo_b48 (mi_X12_isSo_l4 t_noted t_notes t_players p1 n) x3) else (jx_g (jx_in ((2 : Int32) * x3) 8) (jx_g (jx_in (p1 + (t_notes (Int32.toNatClampNeg ((2 : Int32) * x3)))) 1100) (jx_g (jx_in (((2 : Int32) * x3) + (1 : Int32)) 8) (if (t_players (Int32.toNatClampNeg (p1 + (t_notes (Int32.toNatClampNeg ((2 : Int32) * x3)))))) = (t_notes (Int32.toNatClampNeg (((2 : Int32) * x3) + (1 : Int32)))) then (mi_X12_isSo_b49 (mi_X12_isSo_l4 t_noted t_notes t_players p1 n) x3 (1 : Int32)) else (mi_X12_isSo_b48 (mi_X12_isSo_l4 t_noted t_notes t_players p1 n) x3))))))
def mi_X12_isSo (t_noted : Int32) (t_notes : Nat → Int32) (t_players : Nat → Int32) (p1 : Int32) : Option (Int32) := mi_X12_isSo_l4 t_noted t_notes t_players p1 jx_F (1 : Int32) (0 : Int32)
abbrev rm_X12_isSo : Room := { frames := 0, cells := 0, slots := 0, locals := 0 }
set_option maxRecDepth 100000 in
set_option maxHeartbeats 4000000 in
theorem ct_X12_isSo (l : Launch) (D : va_G) (cI cZ cO : ClassId) (a_t a_t_text a_t_told a_t_draft a_t_s a_t_images a_t_kept a_t_notes a_t_players a_t_answers a_t_room a_t_inRest : Nat) (t_trace : Int64) (t_typed : Int32) (t_noted : Int32) (t_at : Int32) (t_sort : Int32) (t_start : Int32) (t_value : Int32) (t_notes : Nat → Int32) (t_players : Nat → Int32) (p1 : Int32) (r : Int32) (hm : mi_X12_isSo t_noted t_notes t_players p1 = some r) : Met l yX12_isSo wsX12_isSo rm_X12_isSo (va_Pc [.ref a_t, .int p1] (jx_R D (jx_T cI cZ cO) [(a_t, .inr (12, [.long t_trace, .ref a_t_text, .int t_typed, .ref a_t_told, .ref a_t_draft, .ref a_t_s, .ref a_t_images, .ref a_t_kept, .ref a_t_notes, .int t_noted, .int t_at, .int t_sort, .int t_start, .int t_value, .ref a_t_players, .ref a_t_answers, .ref a_t_room, .ref a_t_inRest])), (a_t_notes, .inl (cI, 8, .inl t_notes)), (a_t_players, .inl (cI, 1100, .inl t_players))])) (jx_S (some (.int r))) 0 0 (fun _ => False) := by
  refine jx_metR (ty := .boolean) (own := RX12) (cc := cX12_isSo) (maxL := 4) (by decide) rfl rfl (Nat.le_of_ble_eq_true rfl) ?_
  intro p e s m args below meth c Q ls hx hb hml hown hts hK hN hP hl hret
  have hi_X12 : ∀ w ∈ u_ws RX12 TX12 18, w ∈ wsX12_isSo := by decide +kernel
  have hl : lv_has ls 4 [(0, .ref a_t), (1, .int p1)] := hl
  have bl_l4 : ∀ (n : Nat) (x2 : Int32) (x3 : Int32) (ls : Array Slot), lv_has ls 4 [(0, .ref a_t), (1, .int p1), (2, .int x2), (3, .int x3)] → mi_X12_isSo_l4 t_noted t_notes t_players p1 n x2 x3 = some r → W p l e (headSpec wsX12_isSo rm_X12_isSo).room s m args below meth c s.heap [] 0 0 Q (F0 m 4 ls []) := by
    intro n
    induction n with
    | zero =>
      intro x2 x3 ls hl h
      rw [mi_X12_isSo_l4] at h
      cases h
    | succ n_l4 ih_l4 =>
      have bl_b49 : ∀ (x3 : Int32) (k0 : Int32) (ls : Array Slot), lv_has ls 4 [(0, .ref a_t), (1, .int p1), (3, .int x3)] → mi_X12_isSo_b49 (mi_X12_isSo_l4 t_noted t_notes t_players p1 n_l4) x3 k0 = some r → W p l e (headSpec wsX12_isSo rm_X12_isSo).room s m args below meth c s.heap [] 0 0 Q (F0 m 49 ls [.int k0]) := by
        intro x3 k0 ls hl h
        unfold mi_X12_isSo_b49 at h
        refine lv_istore_n (lv' := [(2, .int k0), (0, .ref a_t), (1, .int p1), (3, .int x3)]) hx hb dX12_isSo_49 rfl hl (by decide) rfl (fun ls hl => ?_)
        refine lv_iinc (v := (x3 + 1)) (lv' := [(3, .int (x3 + 1)), (2, .int k0), (0, .ref a_t), (1, .int p1)]) hx hb dX12_isSo_50 hl (k := 3) rfl rfl (by decide) rfl (fun ls hl => ?_)
        refine lv_goto (tgt := 4) hx hb dX12_isSo_53 (by decide) ?_
        exact ih_l4 k0 (x3 + 1) _ (lv_sub hl [2, 3, 1, 0] rfl) h
      have bl_b48 : ∀ (x3 : Int32) (ls : Array Slot), lv_has ls 4 [(0, .ref a_t), (1, .int p1), (3, .int x3)] → mi_X12_isSo_b48 (mi_X12_isSo_l4 t_noted t_notes t_players p1 n_l4) x3 = some r → W p l e (headSpec wsX12_isSo rm_X12_isSo).room s m args below meth c s.heap [] 0 0 Q (F0 m 48 ls []) := by
        intro x3 ls hl h
        unfold mi_X12_isSo_b48 at h
        refine lv_iconst (v := (0 : Int32)) hx hb dX12_isSo_48 (by decide) ?_
        exact bl_b49 x3 (0 : Int32) _ (lv_sub hl [0, 1, 2] rfl) h
      intro x2 x3 ls hl h
      rw [mi_X12_isSo_l4] at h
      refine lv_iload_n hx hb dX12_isSo_4 rfl (lv_at hl 3 rfl) ?_
      refine lv_aload_n hx hb dX12_isSo_5 rfl (lv_at hl 0 rfl) ?_
      refine va_get (D := D) (ci := 12) (v := .int t_noted) (C := RX12) (T := TX12) (N := 18) hx hb hts hi_X12 hown hK hP 0 rfl rfl 9 (by decide) (hts (.fieldLink RX12 91 "TriangleRestModel" "noted" "I") (List.mem_of_getElem? (i := 1) rfl)) (fun _ h9 => h9) rfl dX12_isSo_6 ?_
      refine lv_icmp_ge (tgt := 56) hx hb dX12_isSo_9 (by decide) (fun c1 => ?_) (fun c1 => ?_)
      · have h := jx_t h c1
        refine lv_iload_n hx hb dX12_isSo_56 rfl (lv_at hl 2 rfl) ?_
        obtain ⟨g2, h⟩ := jx_g_of h
        cases h
        exact hret 57 ls (jx_tf_of g2) dX12_isSo_57
      · have h := jx_f h c1
        refine lv_iload_n hx hb dX12_isSo_12 rfl (lv_at hl 2 rfl) ?_
        refine lv_if_eq (tgt := 48) hx hb dX12_isSo_13 (by decide) (fun c3 => ?_) (fun c3 => ?_)
        · have h := jx_t h c3
          exact bl_b48 x3 _ (lv_sub hl [0, 1, 3] rfl) h
        · have h := jx_f h c3
          refine lv_aload_n hx hb dX12_isSo_16 rfl (lv_at hl 0 rfl) ?_
          refine va_get (D := D) (ci := 12) (v := .ref a_t_players) (C := RX12) (T := TX12) (N := 18) hx hb hts hi_X12 hown hK hP 0 rfl rfl 14 (by decide) (hts (.fieldLink RX12 32 "TriangleRestModel" "players" "[I") (List.mem_of_getElem? (i := 2) rfl)) (fun _ h9 => h9) rfl dX12_isSo_17 ?_
          refine lv_iload_n hx hb dX12_isSo_20 rfl (lv_at hl 1 rfl) ?_
          refine lv_aload_n hx hb dX12_isSo_21 rfl (lv_at hl 0 rfl) ?_
          refine va_get (D := D) (ci := 12) (v := .ref a_t_notes) (C := RX12) (T := TX12) (N := 18) hx hb hts hi_X12 hown hK hP 0 rfl rfl 8 (by decide) (hts (.fieldLink RX12 29 "TriangleRestModel" "notes" "[I") (List.mem_of_getElem? (i := 3) rfl)) (fun _ h9 => h9) rfl dX12_isSo_22 ?_
          refine lv_iconst (v := (2 : Int32)) hx hb dX12_isSo_25 (by decide) ?_
          refine lv_iload_n hx hb dX12_isSo_26 rfl (lv_at hl 3 rfl) ?_
          refine lv_imul hx hb dX12_isSo_27 ?_
          obtain ⟨g4, h⟩ := jx_g_of h
          refine va_iald hx hb hK hP 1 0 rfl rfl (jx_in_of g4) dX12_isSo_28 ?_
          refine lv_iadd hx hb dX12_isSo_29 ?_
          obtain ⟨g5, h⟩ := jx_g_of h
          refine va_iald hx hb hK hP 2 0 rfl rfl (jx_in_of g5) dX12_isSo_30 ?_
          refine lv_aload_n hx hb dX12_isSo_31 rfl (lv_at hl 0 rfl) ?_
          refine va_get (D := D) (ci := 12) (v := .ref a_t_notes) (C := RX12) (T := TX12) (N := 18) hx hb hts hi_X12 hown hK hP 0 rfl rfl 8 (by decide) (hts (.fieldLink RX12 29 "TriangleRestModel" "notes" "[I") (List.mem_of_getElem? (i := 3) rfl)) (fun _ h9 => h9) rfl dX12_isSo_32 ?_
          refine lv_iconst (v := (2 : Int32)) hx hb dX12_isSo_35 (by decide) ?_
          refine lv_iload_n hx hb dX12_isSo_36 rfl (lv_at hl 3 rfl) ?_
          refine lv_imul hx hb dX12_isSo_37 ?_
          refine lv_iconst (v := (1 : Int32)) hx hb dX12_isSo_38 (by decide) ?_
          refine lv_iadd hx hb dX12_isSo_39 ?_
          obtain ⟨g6, h⟩ := jx_g_of h
          refine va_iald hx hb hK hP 1 0 rfl rfl (jx_in_of g6) dX12_isSo_40 ?_
          refine lv_icmp_ne (tgt := 48) hx hb dX12_isSo_41 (by decide) (fun c7 => ?_) (fun c7 => ?_)
          · have h := jx_f h c7
            exact bl_b48 x3 _ (lv_sub hl [0, 1, 3] rfl) h
          · have h := jx_t h c7
            refine lv_iconst (v := (1 : Int32)) hx hb dX12_isSo_44 (by decide) ?_
            refine lv_goto (tgt := 49) hx hb dX12_isSo_45 (by decide) ?_
            exact bl_b49 x3 (1 : Int32) _ (lv_sub hl [0, 1, 3] rfl) h
  have h := hm
  unfold mi_X12_isSo at h
  refine lv_iconst (v := (1 : Int32)) hx hb dX12_isSo_0 (by decide) ?_
  refine lv_istore_n (lv' := [(2, .int (1 : Int32)), (0, .ref a_t), (1, .int p1)]) hx hb dX12_isSo_1 rfl hl (by decide) rfl (fun ls hl => ?_)
  refine lv_iconst (v := (0 : Int32)) hx hb dX12_isSo_2 (by decide) ?_
  refine lv_istore_n (lv' := [(3, .int (0 : Int32)), (2, .int (1 : Int32)), (0, .ref a_t), (1, .int p1)]) hx hb dX12_isSo_3 rfl hl (by decide) rfl (fun ls hl => ?_)
  exact bl_l4 jx_F (1 : Int32) (0 : Int32) _ (lv_sub hl [2, 3, 1, 0] rfl) h
def mi_X12_placesBy_b49 (k_l18 : Int32 → Int32 → Int32 → Int32 → (Nat → Int32) → Option (Int32 × (Nat → Int32))) (x2 : Int32) (x3 : Int32) (x4 : Int32) (x5 : Int32) (t_players : Nat → Int32) : Option (Int32 × (Nat → Int32)) := k_l18 x2 x3 x4 (x5 + 1) t_players
def mi_X12_placesBy_b45 (k_l18 : Int32 → Int32 → Int32 → Int32 → (Nat → Int32) → Option (Int32 × (Nat → Int32))) (x2 : Int32) (x4 : Int32) (x5 : Int32) (k0 : Int32) (t_players : Nat → Int32) : Option (Int32 × (Nat → Int32)) := mi_X12_placesBy_b49 k_l18 (x2 + 1) k0 x4 x5 t_players
def mi_X12_placesBy_l18 (t_noted : Int32) (t_notes : Nat → Int32) (p1 : Int32) : Nat → Int32 → Int32 → Int32 → Int32 → (Nat → Int32) → Option (Int32 × (Nat → Int32))
  | 0, _, _, _, _, _ => none
  | n + 1, x2, x3, x4, x5, t_players => if x4 ≤ x5 then (if p1 = (-1 : Int32) then (some (x2, t_players)) else (some (x3, t_players))) else (jx_b1 (mi_X12_isSo t_noted t_notes t_players x5) fun r3 => (if r3 = 0 then (mi_X12_placesBy_b49 (mi_X12_placesBy_l18 t_noted t_notes p1 n) x2 x3 x4 x5 t_players) else (if x2 = p1 then (mi_X12_placesBy_b45 (mi_X12_placesBy_l18 t_noted t_notes p1 n) x2 x4 x5 x5 t_players) else (mi_X12_placesBy_b45 (mi_X12_placesBy_l18 t_noted t_notes p1 n) x2 x4 x5 x3 t_players))))
def mi_X12_placesBy (t_noted : Int32) (t_told : Nat → Int32) (t_s : Nat → Int32) (t_notes : Nat → Int32) (t_players : Nat → Int32) (p1 : Int32) : Option (Int32 × (Nat → Int32)) := jx_b1 (mi_X12_writes t_told t_s t_players) fun t_players_7 => (jx_b1 (mi_X12_length t_told t_s) fun r9 => (mi_X12_placesBy_l18 t_noted t_notes p1 jx_F (0 : Int32) (-9 : Int32) r9 (0 : Int32) t_players_7))
abbrev rm_X12_placesBy : Room := { frames := 3, cells := 0, slots := 0, locals := 65 }
set_option maxRecDepth 100000 in
set_option maxHeartbeats 4000000 in
theorem ct_X12_placesBy (l : Launch) (D : va_G) (cI cZ cO : ClassId) (a_t a_t_text a_t_told a_t_draft a_t_s a_t_images a_t_kept a_t_notes a_t_players a_t_answers a_t_room a_t_inRest : Nat) (sz : Nat) (t_trace : Int64) (t_typed : Int32) (t_noted : Int32) (t_at : Int32) (t_sort : Int32) (t_start : Int32) (t_value : Int32) (t_told : Nat → Int32) (t_s : Nat → Int32) (t_notes : Nat → Int32) (t_players : Nat → Int32) (p1 : Int32) (r : Int32) (z_t_players : Nat → Int32) (hm : mi_X12_placesBy t_noted t_told t_s t_notes t_players p1 = some (r, z_t_players)) : Met l yX12_placesBy wsX12_placesBy rm_X12_placesBy (va_Pc [.ref a_t, .int p1] (jx_W D (jx_T cI cZ cO) sz [(a_t, .inr (12, [.long t_trace, .ref a_t_text, .int t_typed, .ref a_t_told, .ref a_t_draft, .ref a_t_s, .ref a_t_images, .ref a_t_kept, .ref a_t_notes, .int t_noted, .int t_at, .int t_sort, .int t_start, .int t_value, .ref a_t_players, .ref a_t_answers, .ref a_t_room, .ref a_t_inRest])), (a_t_told, .inl (cI, 36, .inl t_told)), (a_t_s, .inl (cI, 56, .inl t_s)), (a_t_notes, .inl (cI, 8, .inl t_notes)), (a_t_players, .inl (cI, 1100, .inl t_players))])) (jx_Q (some (.int r)) D [(a_t, .inr (12, [.long t_trace, .ref a_t_text, .int t_typed, .ref a_t_told, .ref a_t_draft, .ref a_t_s, .ref a_t_images, .ref a_t_kept, .ref a_t_notes, .int t_noted, .int t_at, .int t_sort, .int t_start, .int t_value, .ref a_t_players, .ref a_t_answers, .ref a_t_room, .ref a_t_inRest])), (a_t_told, .inl (cI, 36, .inl t_told)), (a_t_s, .inl (cI, 56, .inl t_s)), (a_t_notes, .inl (cI, 8, .inl t_notes)), (a_t_players, .inl (cI, 1100, .inl z_t_players))] (va_A [(a_t, .inr (12, [.long t_trace, .ref a_t_text, .int t_typed, .ref a_t_told, .ref a_t_draft, .ref a_t_s, .ref a_t_images, .ref a_t_kept, .ref a_t_notes, .int t_noted, .int t_at, .int t_sort, .int t_start, .int t_value, .ref a_t_players, .ref a_t_answers, .ref a_t_room, .ref a_t_inRest])), (a_t_told, .inl (cI, 36, .inl t_told)), (a_t_s, .inl (cI, 56, .inl t_s)), (a_t_notes, .inl (cI, 8, .inl t_notes)), (a_t_players, .inl (cI, 1100, .inl t_players))] sz)) 0 0 (va_A [(a_t, .inr (12, [.long t_trace, .ref a_t_text, .int t_typed, .ref a_t_told, .ref a_t_draft, .ref a_t_s, .ref a_t_images, .ref a_t_kept, .ref a_t_notes, .int t_noted, .int t_at, .int t_sort, .int t_start, .int t_value, .ref a_t_players, .ref a_t_answers, .ref a_t_room, .ref a_t_inRest])), (a_t_told, .inl (cI, 36, .inl t_told)), (a_t_s, .inl (cI, 56, .inl t_s)), (a_t_notes, .inl (cI, 8, .inl t_notes)), (a_t_players, .inl (cI, 1100, .inl t_players))] sz) := by
  refine jx_metW (ty := .int) (own := RX12) (cc := cX12_placesBy) (maxL := 6) (by decide) rfl rfl (Nat.le_of_ble_eq_true rfl) ?_
  intro p e s m args below meth c Q ls A hx hb hml hown hts hK hN hA hP hD hS hl hret
  have hl : lv_has ls 6 [(0, .ref a_t), (1, .int p1)] := hl
  have bl_l18 : ∀ (n : Nat) (x2 : Int32) (x3 : Int32) (x4 : Int32) (x5 : Int32) (t_players : Nat → Int32) (H : Heap) (locs : List Loc) (ls : Array Slot), va_P D vwCl [(a_t, .inr (12, [.long t_trace, .ref a_t_text, .int t_typed, .ref a_t_told, .ref a_t_draft, .ref a_t_s, .ref a_t_images, .ref a_t_kept, .ref a_t_notes, .int t_noted, .int t_at, .int t_sort, .int t_start, .int t_value, .ref a_t_players, .ref a_t_answers, .ref a_t_room, .ref a_t_inRest])), (a_t_told, .inl (cI, 36, .inl t_told)), (a_t_s, .inl (cI, 56, .inl t_s)), (a_t_notes, .inl (cI, 8, .inl t_notes)), (a_t_players, .inl (cI, 1100, .inl t_players))] H → va_D A [(a_t, .inr (12, [.long t_trace, .ref a_t_text, .int t_typed, .ref a_t_told, .ref a_t_draft, .ref a_t_s, .ref a_t_images, .ref a_t_kept, .ref a_t_notes, .int t_noted, .int t_at, .int t_sort, .int t_start, .int t_value, .ref a_t_players, .ref a_t_answers, .ref a_t_room, .ref a_t_inRest])), (a_t_told, .inl (cI, 36, .inl t_told)), (a_t_s, .inl (cI, 56, .inl t_s)), (a_t_notes, .inl (cI, 8, .inl t_notes)), (a_t_players, .inl (cI, 1100, .inl t_players))] → va_S A s.heap H locs → lv_has ls 6 [(0, .ref a_t), (1, .int p1), (2, .int x2), (3, .int x3), (4, .int x4), (5, .int x5)] → mi_X12_placesBy_l18 t_noted t_notes p1 n x2 x3 x4 x5 t_players = some (r, z_t_players) → W p l e (headSpec wsX12_placesBy rm_X12_placesBy).room s m args below meth c H locs 0 0 Q (F0 m 18 ls []) := by
    intro n
    induction n with
    | zero =>
      intro x2 x3 x4 x5 t_players H locs ls hP hD hS hl h
      rw [mi_X12_placesBy_l18] at h
      cases h
    | succ n_l18 ih_l18 =>
      have bl_b49 : ∀ (x2 : Int32) (x3 : Int32) (x4 : Int32) (x5 : Int32) (t_players : Nat → Int32) (H : Heap) (locs : List Loc) (ls : Array Slot), va_P D vwCl [(a_t, .inr (12, [.long t_trace, .ref a_t_text, .int t_typed, .ref a_t_told, .ref a_t_draft, .ref a_t_s, .ref a_t_images, .ref a_t_kept, .ref a_t_notes, .int t_noted, .int t_at, .int t_sort, .int t_start, .int t_value, .ref a_t_players, .ref a_t_answers, .ref a_t_room, .ref a_t_inRest])), (a_t_told, .inl (cI, 36, .inl t_told)), (a_t_s, .inl (cI, 56, .inl t_s)), (a_t_notes, .inl (cI, 8, .inl t_notes)), (a_t_players, .inl (cI, 1100, .inl t_players))] H → va_D A [(a_t, .inr (12, [.long t_trace, .ref a_t_text, .int t_typed, .ref a_t_told, .ref a_t_draft, .ref a_t_s, .ref a_t_images, .ref a_t_kept, .ref a_t_notes, .int t_noted, .int t_at, .int t_sort, .int t_start, .int t_value, .ref a_t_players, .ref a_t_answers, .ref a_t_room, .ref a_t_inRest])), (a_t_told, .inl (cI, 36, .inl t_told)), (a_t_s, .inl (cI, 56, .inl t_s)), (a_t_notes, .inl (cI, 8, .inl t_notes)), (a_t_players, .inl (cI, 1100, .inl t_players))] → va_S A s.heap H locs → lv_has ls 6 [(0, .ref a_t), (1, .int p1), (2, .int x2), (3, .int x3), (4, .int x4), (5, .int x5)] → mi_X12_placesBy_b49 (mi_X12_placesBy_l18 t_noted t_notes p1 n_l18) x2 x3 x4 x5 t_players = some (r, z_t_players) → W p l e (headSpec wsX12_placesBy rm_X12_placesBy).room s m args below meth c H locs 0 0 Q (F0 m 49 ls []) := by
        intro x2 x3 x4 x5 t_players H locs ls hP hD hS hl h
        unfold mi_X12_placesBy_b49 at h
        refine lv_iinc (v := (x5 + 1)) (lv' := [(5, .int (x5 + 1)), (0, .ref a_t), (1, .int p1), (2, .int x2), (3, .int x3), (4, .int x4)]) hx hb dX12_placesBy_49 hl (k := 5) rfl rfl (by decide) rfl (fun ls hl => ?_)
        refine lv_goto (tgt := 18) hx hb dX12_placesBy_52 (by decide) ?_
        exact ih_l18 x2 x3 x4 (x5 + 1) t_players _ _ _ hP hD hS (lv_sub hl [1, 2, 3, 4, 5, 0] rfl) h
      have bl_b45 : ∀ (x2 : Int32) (x4 : Int32) (x5 : Int32) (k0 : Int32) (t_players : Nat → Int32) (H : Heap) (locs : List Loc) (ls : Array Slot), va_P D vwCl [(a_t, .inr (12, [.long t_trace, .ref a_t_text, .int t_typed, .ref a_t_told, .ref a_t_draft, .ref a_t_s, .ref a_t_images, .ref a_t_kept, .ref a_t_notes, .int t_noted, .int t_at, .int t_sort, .int t_start, .int t_value, .ref a_t_players, .ref a_t_answers, .ref a_t_room, .ref a_t_inRest])), (a_t_told, .inl (cI, 36, .inl t_told)), (a_t_s, .inl (cI, 56, .inl t_s)), (a_t_notes, .inl (cI, 8, .inl t_notes)), (a_t_players, .inl (cI, 1100, .inl t_players))] H → va_D A [(a_t, .inr (12, [.long t_trace, .ref a_t_text, .int t_typed, .ref a_t_told, .ref a_t_draft, .ref a_t_s, .ref a_t_images, .ref a_t_kept, .ref a_t_notes, .int t_noted, .int t_at, .int t_sort, .int t_start, .int t_value, .ref a_t_players, .ref a_t_answers, .ref a_t_room, .ref a_t_inRest])), (a_t_told, .inl (cI, 36, .inl t_told)), (a_t_s, .inl (cI, 56, .inl t_s)), (a_t_notes, .inl (cI, 8, .inl t_notes)), (a_t_players, .inl (cI, 1100, .inl t_players))] → va_S A s.heap H locs → lv_has ls 6 [(0, .ref a_t), (1, .int p1), (2, .int x2), (4, .int x4), (5, .int x5)] → mi_X12_placesBy_b45 (mi_X12_placesBy_l18 t_noted t_notes p1 n_l18) x2 x4 x5 k0 t_players = some (r, z_t_players) → W p l e (headSpec wsX12_placesBy rm_X12_placesBy).room s m args below meth c H locs 0 0 Q (F0 m 45 ls [.int k0]) := by
        intro x2 x4 x5 k0 t_players H locs ls hP hD hS hl h
        unfold mi_X12_placesBy_b45 at h
        refine lv_istore_n (lv' := [(3, .int k0), (0, .ref a_t), (1, .int p1), (2, .int x2), (4, .int x4), (5, .int x5)]) hx hb dX12_placesBy_45 rfl hl (by decide) rfl (fun ls hl => ?_)
        refine lv_iinc (v := (x2 + 1)) (lv' := [(2, .int (x2 + 1)), (3, .int k0), (0, .ref a_t), (1, .int p1), (4, .int x4), (5, .int x5)]) hx hb dX12_placesBy_46 hl (k := 3) rfl rfl (by decide) rfl (fun ls hl => ?_)
        exact bl_b49 (x2 + 1) k0 x4 x5 t_players _ _ _ hP hD hS (lv_sub hl [2, 3, 0, 1, 4, 5] rfl) h
      intro x2 x3 x4 x5 t_players H locs ls hP hD hS hl h
      rw [mi_X12_placesBy_l18] at h
      refine lv_iload hx hb dX12_placesBy_18 (lv_at hl 5 rfl) ?_
      refine lv_iload hx hb dX12_placesBy_20 (lv_at hl 4 rfl) ?_
      refine lv_icmp_ge (tgt := 55) hx hb dX12_placesBy_22 (by decide) (fun c1 => ?_) (fun c1 => ?_)
      · have h := jx_t h c1
        refine lv_iload_n hx hb dX12_placesBy_55 rfl (lv_at hl 1 rfl) ?_
        refine lv_iconst (v := (-1 : Int32)) hx hb dX12_placesBy_56 (by decide) ?_
        refine lv_icmp_ne (tgt := 64) hx hb dX12_placesBy_57 (by decide) (fun c2 => ?_) (fun c2 => ?_)
        · have h := jx_f h c2
          refine lv_iload_n hx hb dX12_placesBy_64 rfl (lv_at hl 3 rfl) ?_
          cases h
          exact hret 65 ls _ _ hP hD hS rfl dX12_placesBy_65
        · have h := jx_t h c2
          refine lv_iload_n hx hb dX12_placesBy_60 rfl (lv_at hl 2 rfl) ?_
          refine lv_goto (tgt := 65) hx hb dX12_placesBy_61 (by decide) ?_
          cases h
          exact hret 65 ls _ _ hP hD hS rfl dX12_placesBy_65
      · have h := jx_f h c1
        refine lv_aload_n hx hb dX12_placesBy_25 rfl (lv_at hl 0 rfl) ?_
        refine lv_iload hx hb dX12_placesBy_26 (lv_at hl 5 rfl) ?_
        obtain ⟨r3, e4, h⟩ := jx_b1_of h
        refine jx_cV (o := some (.int r3)) (As := [.int x5]) (rest := []) (b := a_t) ⟨hx, hb, hml, hown, hts⟩ (ct_X12_isSo l D cI cZ cO a_t a_t_text a_t_told a_t_draft a_t_s a_t_images a_t_kept a_t_notes a_t_players a_t_answers a_t_room a_t_inRest t_trace t_typed t_noted t_at t_sort t_start t_value t_notes t_players x5 r3 e4) (cwV 1 hts gX12_placesBy_X12_isSo rfl rfl rfl (by decide +kernel) ⟨Nat.le_of_ble_eq_true rfl, Nat.le_of_ble_eq_true rfl⟩) hK hN hP [0, 3, 4] rfl (va_recv hK hP (ci := 12) (q0 := 0) rfl rfl) rfl hl.1 rfl (Nat.le_of_ble_eq_true rfl) dX12_placesBy_28 ⟨Nat.zero_le _, Nat.zero_le _⟩ ?_
        refine lv_if_eq (tgt := 49) hx hb dX12_placesBy_31 (by decide) (fun c5 => ?_) (fun c5 => ?_)
        · have h := jx_t h c5
          exact bl_b49 x2 x3 x4 x5 t_players _ _ _ hP hD hS (lv_sub hl [0, 1, 2, 3, 4, 5] rfl) h
        · have h := jx_f h c5
          refine lv_iload_n hx hb dX12_placesBy_34 rfl (lv_at hl 2 rfl) ?_
          refine lv_iload_n hx hb dX12_placesBy_35 rfl (lv_at hl 1 rfl) ?_
          refine lv_icmp_ne (tgt := 44) hx hb dX12_placesBy_36 (by decide) (fun c6 => ?_) (fun c6 => ?_)
          · have h := jx_f h c6
            refine lv_iload_n hx hb dX12_placesBy_44 rfl (lv_at hl 3 rfl) ?_
            exact bl_b45 x2 x4 x5 x3 t_players _ _ _ hP hD hS (lv_sub hl [0, 1, 2, 4, 5] rfl) h
          · have h := jx_t h c6
            refine lv_iload hx hb dX12_placesBy_39 (lv_at hl 5 rfl) ?_
            refine lv_goto (tgt := 45) hx hb dX12_placesBy_41 (by decide) ?_
            exact bl_b45 x2 x4 x5 x5 t_players _ _ _ hP hD hS (lv_sub hl [0, 1, 2, 4, 5] rfl) h
  have h := hm
  unfold mi_X12_placesBy at h
  refine lv_aload_n hx hb dX12_placesBy_0 rfl (lv_at hl 0 rfl) ?_
  obtain ⟨t_players_7, e8, h⟩ := jx_b1_of h
  refine jx_cW (o := none) (As := []) (rest := []) (b := a_t) (wr := [(a_t_notes, .inl (cI, 8, .inl t_notes))]) (wd' := [(a_t, .inr (12, [.long t_trace, .ref a_t_text, .int t_typed, .ref a_t_told, .ref a_t_draft, .ref a_t_s, .ref a_t_images, .ref a_t_kept, .ref a_t_notes, .int t_noted, .int t_at, .int t_sort, .int t_start, .int t_value, .ref a_t_players, .ref a_t_answers, .ref a_t_room, .ref a_t_inRest])), (a_t_told, .inl (cI, 36, .inl t_told)), (a_t_s, .inl (cI, 56, .inl t_s)), (a_t_notes, .inl (cI, 8, .inl t_notes)), (a_t_players, .inl (cI, 1100, .inl t_players_7))]) ⟨hx, hb, hml, hown, hts⟩ (ct_X12_writes l D cI cZ cO a_t a_t_text a_t_told a_t_draft a_t_s a_t_images a_t_kept a_t_notes a_t_players a_t_answers a_t_room a_t_inRest s.heap.size t_trace t_typed t_noted t_at t_sort t_start t_value t_told t_s t_players t_players_7 e8) (cwV 0 hts gX12_placesBy_X12_writes rfl rfl rfl (by decide +kernel) ⟨Nat.le_of_ble_eq_true rfl, Nat.le_of_ble_eq_true rfl⟩) hK hN hP hD hS hA [0, 1, 2, 4] [3] (by decide) rfl rfl (by decide) (by decide) rfl (va_recv hK hP (ci := 12) (q0 := 0) rfl rfl) rfl hl.1 rfl (Nat.le_of_ble_eq_true rfl) dX12_placesBy_1 ⟨Nat.zero_le _, Nat.zero_le _⟩ [1, 2, 3, 0, 4] (by decide) rfl (fun H locs hP hD hS => ?_)
  refine lv_iconst (v := (0 : Int32)) hx hb dX12_placesBy_4 (by decide) ?_
  refine lv_istore_n (lv' := [(2, .int (0 : Int32)), (0, .ref a_t), (1, .int p1)]) hx hb dX12_placesBy_5 rfl hl (by decide) rfl (fun ls hl => ?_)
  refine lv_bipush (v := (-9 : Int32)) hx hb dX12_placesBy_6 (by decide) ?_
  refine lv_istore_n (lv' := [(3, .int (-9 : Int32)), (2, .int (0 : Int32)), (0, .ref a_t), (1, .int p1)]) hx hb dX12_placesBy_8 rfl hl (by decide) rfl (fun ls hl => ?_)
  refine lv_aload_n hx hb dX12_placesBy_9 rfl (lv_at hl 2 rfl) ?_
  obtain ⟨r9, e10, h⟩ := jx_b1_of h
  refine jx_cV (o := some (.int r9)) (As := []) (rest := []) (b := a_t) ⟨hx, hb, hml, hown, hts⟩ (ct_X12_length l D cI cZ cO a_t a_t_text a_t_told a_t_draft a_t_s a_t_images a_t_kept a_t_notes a_t_players a_t_answers a_t_room a_t_inRest t_trace t_typed t_noted t_at t_sort t_start t_value t_told t_s r9 e10) (cwV 0 hts gX12_placesBy_X12_length rfl rfl rfl (by decide +kernel) ⟨Nat.le_of_ble_eq_true rfl, Nat.le_of_ble_eq_true rfl⟩) hK hN hP [0, 1, 2] rfl (va_recv hK hP (ci := 12) (q0 := 0) rfl rfl) rfl hl.1 rfl (Nat.le_of_ble_eq_true rfl) dX12_placesBy_10 ⟨Nat.zero_le _, Nat.zero_le _⟩ ?_
  refine lv_istore (lv' := [(4, .int r9), (3, .int (-9 : Int32)), (2, .int (0 : Int32)), (0, .ref a_t), (1, .int p1)]) hx hb dX12_placesBy_13 hl (by decide) rfl (fun ls hl => ?_)
  refine lv_iconst (v := (0 : Int32)) hx hb dX12_placesBy_15 (by decide) ?_
  refine lv_istore (lv' := [(5, .int (0 : Int32)), (4, .int r9), (3, .int (-9 : Int32)), (2, .int (0 : Int32)), (0, .ref a_t), (1, .int p1)]) hx hb dX12_placesBy_16 hl (by decide) rfl (fun ls hl => ?_)
  exact bl_l18 jx_F (0 : Int32) (-9 : Int32) r9 (0 : Int32) t_players_7 _ _ _ hP hD hS (lv_sub hl [4, 5, 3, 2, 1, 0] rfl) h
def mi_X12_places (t_noted : Int32) (t_told : Nat → Int32) (t_s : Nat → Int32) (t_notes : Nat → Int32) (t_players : Nat → Int32) (p1 : Int32) : Option (Int32 × (Nat → Int32)) := jx_b1 (mi_X12_in p1 (-1 : Int32) (9 : Int32)) fun r1 => (if r1 = 0 then (some ((-1 : Int32), t_players)) else (jx_b2 (mi_X12_placesBy t_noted t_told t_s t_notes t_players p1) fun r4 t_players_5 => (some (r4, t_players_5))))
abbrev rm_X12_places : Room := { frames := 4, cells := 0, slots := 0, locals := 90 }
set_option maxRecDepth 100000 in
set_option maxHeartbeats 4000000 in
theorem ct_X12_places (l : Launch) (D : va_G) (cI cZ cO : ClassId) (a_t a_t_text a_t_told a_t_draft a_t_s a_t_images a_t_kept a_t_notes a_t_players a_t_answers a_t_room a_t_inRest : Nat) (sz : Nat) (t_trace : Int64) (t_typed : Int32) (t_noted : Int32) (t_at : Int32) (t_sort : Int32) (t_start : Int32) (t_value : Int32) (t_told : Nat → Int32) (t_s : Nat → Int32) (t_notes : Nat → Int32) (t_players : Nat → Int32) (p1 : Int32) (r : Int32) (z_t_players : Nat → Int32) (hm : mi_X12_places t_noted t_told t_s t_notes t_players p1 = some (r, z_t_players)) : Met l yX12_places wsX12_places rm_X12_places (va_Pc [.ref a_t, .int p1] (jx_W D (jx_T cI cZ cO) sz [(a_t, .inr (12, [.long t_trace, .ref a_t_text, .int t_typed, .ref a_t_told, .ref a_t_draft, .ref a_t_s, .ref a_t_images, .ref a_t_kept, .ref a_t_notes, .int t_noted, .int t_at, .int t_sort, .int t_start, .int t_value, .ref a_t_players, .ref a_t_answers, .ref a_t_room, .ref a_t_inRest])), (a_t_told, .inl (cI, 36, .inl t_told)), (a_t_s, .inl (cI, 56, .inl t_s)), (a_t_notes, .inl (cI, 8, .inl t_notes)), (a_t_players, .inl (cI, 1100, .inl t_players))])) (jx_Q (some (.int r)) D [(a_t, .inr (12, [.long t_trace, .ref a_t_text, .int t_typed, .ref a_t_told, .ref a_t_draft, .ref a_t_s, .ref a_t_images, .ref a_t_kept, .ref a_t_notes, .int t_noted, .int t_at, .int t_sort, .int t_start, .int t_value, .ref a_t_players, .ref a_t_answers, .ref a_t_room, .ref a_t_inRest])), (a_t_told, .inl (cI, 36, .inl t_told)), (a_t_s, .inl (cI, 56, .inl t_s)), (a_t_notes, .inl (cI, 8, .inl t_notes)), (a_t_players, .inl (cI, 1100, .inl z_t_players))] (va_A [(a_t, .inr (12, [.long t_trace, .ref a_t_text, .int t_typed, .ref a_t_told, .ref a_t_draft, .ref a_t_s, .ref a_t_images, .ref a_t_kept, .ref a_t_notes, .int t_noted, .int t_at, .int t_sort, .int t_start, .int t_value, .ref a_t_players, .ref a_t_answers, .ref a_t_room, .ref a_t_inRest])), (a_t_told, .inl (cI, 36, .inl t_told)), (a_t_s, .inl (cI, 56, .inl t_s)), (a_t_notes, .inl (cI, 8, .inl t_notes)), (a_t_players, .inl (cI, 1100, .inl t_players))] sz)) 0 0 (va_A [(a_t, .inr (12, [.long t_trace, .ref a_t_text, .int t_typed, .ref a_t_told, .ref a_t_draft, .ref a_t_s, .ref a_t_images, .ref a_t_kept, .ref a_t_notes, .int t_noted, .int t_at, .int t_sort, .int t_start, .int t_value, .ref a_t_players, .ref a_t_answers, .ref a_t_room, .ref a_t_inRest])), (a_t_told, .inl (cI, 36, .inl t_told)), (a_t_s, .inl (cI, 56, .inl t_s)), (a_t_notes, .inl (cI, 8, .inl t_notes)), (a_t_players, .inl (cI, 1100, .inl t_players))] sz) := by
  refine jx_metW (ty := .int) (own := RX12) (cc := cX12_places) (maxL := 2) (by decide) rfl rfl (Nat.le_of_ble_eq_true rfl) ?_
  intro p e s m args below meth c Q ls A hx hb hml hown hts hK hN hA hP hD hS hl hret
  have hl : lv_has ls 2 [(0, .ref a_t), (1, .int p1)] := hl
  have h := hm
  unfold mi_X12_places at h
  refine lv_iload_n hx hb dX12_places_0 rfl (lv_at hl 1 rfl) ?_
  refine lv_iconst (v := (-1 : Int32)) hx hb dX12_places_1 (by decide) ?_
  refine lv_bipush (v := (9 : Int32)) hx hb dX12_places_2 (by decide) ?_
  obtain ⟨r1, e2, h⟩ := jx_b1_of h
  refine jx_cS (o := some (.int r1)) (As := [.int p1, .int (-1 : Int32), .int (9 : Int32)]) (rest := []) ⟨hx, hb, hml, hown, hts⟩ (ct_X12_in l p1 (-1 : Int32) (9 : Int32) r1 e2) (va_cwS 3 hts gX12_places_X12_in rfl rfl rfl (by decide +kernel) ⟨Nat.le_of_ble_eq_true rfl, Nat.le_of_ble_eq_true rfl⟩) rfl hl.1 rfl (Nat.le_of_ble_eq_true rfl) dX12_places_4 ⟨Nat.zero_le _, Nat.zero_le _⟩ ?_
  refine lv_if_eq (tgt := 18) hx hb dX12_places_7 (by decide) (fun c3 => ?_) (fun c3 => ?_)
  · have h := jx_t h c3
    refine lv_iconst (v := (-1 : Int32)) hx hb dX12_places_18 (by decide) ?_
    cases h
    exact hret 19 ls _ _ hP hD hS rfl dX12_places_19
  · have h := jx_f h c3
    refine lv_aload_n hx hb dX12_places_10 rfl (lv_at hl 0 rfl) ?_
    refine lv_iload_n hx hb dX12_places_11 rfl (lv_at hl 1 rfl) ?_
    obtain ⟨r4, t_players_5, e6, h⟩ := jx_b2_of h
    refine jx_cW (o := some (.int r4)) (As := [.int p1]) (rest := []) (b := a_t) (wr := []) (wd' := [(a_t, .inr (12, [.long t_trace, .ref a_t_text, .int t_typed, .ref a_t_told, .ref a_t_draft, .ref a_t_s, .ref a_t_images, .ref a_t_kept, .ref a_t_notes, .int t_noted, .int t_at, .int t_sort, .int t_start, .int t_value, .ref a_t_players, .ref a_t_answers, .ref a_t_room, .ref a_t_inRest])), (a_t_told, .inl (cI, 36, .inl t_told)), (a_t_s, .inl (cI, 56, .inl t_s)), (a_t_notes, .inl (cI, 8, .inl t_notes)), (a_t_players, .inl (cI, 1100, .inl t_players_5))]) ⟨hx, hb, hml, hown, hts⟩ (ct_X12_placesBy l D cI cZ cO a_t a_t_text a_t_told a_t_draft a_t_s a_t_images a_t_kept a_t_notes a_t_players a_t_answers a_t_room a_t_inRest s.heap.size t_trace t_typed t_noted t_at t_sort t_start t_value t_told t_s t_notes t_players p1 r4 t_players_5 e6) (cwV 1 hts gX12_places_X12_placesBy rfl rfl rfl (by decide +kernel) ⟨Nat.le_of_ble_eq_true rfl, Nat.le_of_ble_eq_true rfl⟩) hK hN hP hD hS hA [0, 1, 2, 3, 4] [] (by decide) rfl rfl (by decide) (by decide) rfl (va_recv hK hP (ci := 12) (q0 := 0) rfl rfl) rfl hl.1 rfl (Nat.le_of_ble_eq_true rfl) dX12_places_12 ⟨Nat.zero_le _, Nat.zero_le _⟩ [0, 1, 2, 3, 4] (by decide) rfl (fun H locs hP hD hS => ?_)
    refine lv_goto (tgt := 19) hx hb dX12_places_15 (by decide) ?_
    cases h
    exact hret 19 ls _ _ hP hD hS rfl dX12_places_19
def mi_X12_listen_b158 (k_l22 : Int32 → Int32 → Int32 → Int32 → Int32 → (Nat → Int32) → (Nat → Int32) → Option (Int32 × (Nat → Int32) × (Nat → Int32))) (x1 : Int32) (x2 : Int32) (x4 : Int32) (x5 : Int32) (k0 : Int32) (t_players : Nat → Int32) (t_answers : Nat → Int32) : Option (Int32 × (Nat → Int32) × (Nat → Int32)) := k_l22 x1 x2 k0 x4 (x5 + 1) t_players t_answers
def mi_X12_listen_b145 (k_l22 : Int32 → Int32 → Int32 → Int32 → Int32 → (Nat → Int32) → (Nat → Int32) → Option (Int32 × (Nat → Int32) × (Nat → Int32))) (x1 : Int32) (x3 : Int32) (x4 : Int32) (x5 : Int32) (x6 : Int32) (k0 : Int32) (t_players : Nat → Int32) (t_answers : Nat → Int32) : Option (Int32 × (Nat → Int32) × (Nat → Int32)) := if x3 ≤ x6 then (mi_X12_listen_b158 k_l22 x1 k0 x4 x5 x3 t_players t_answers) else (mi_X12_listen_b158 k_l22 x1 k0 x4 x5 x6 t_players t_answers)
def mi_X12_listen_b127 (k_l62 : Int32 → Int32 → Int32 → Int32 → Int32 → Int32 → Int32 → (Nat → Int32) → (Nat → Int32) → Option (Int32 × (Nat → Int32) × (Nat → Int32))) (x1 : Int32) (x2 : Int32) (x3 : Int32) (x4 : Int32) (x5 : Int32) (x6 : Int32) (x7 : Int32) (t_players : Nat → Int32) (t_answers : Nat → Int32) : Option (Int32 × (Nat → Int32) × (Nat → Int32)) := k_l62 x1 x2 x3 x4 x5 x6 (x7 + 1) t_players t_answers
def mi_X12_listen_b125 (k_l62 : Int32 → Int32 → Int32 → Int32 → Int32 → Int32 → Int32 → (Nat → Int32) → (Nat → Int32) → Option (Int32 × (Nat → Int32) × (Nat → Int32))) (x1 : Int32) (x2 : Int32) (x3 : Int32) (x4 : Int32) (x5 : Int32) (x7 : Int32) (k0 : Int32) (t_players : Nat → Int32) (t_answers : Nat → Int32) : Option (Int32 × (Nat → Int32) × (Nat → Int32)) := mi_X12_listen_b127 k_l62 x1 x2 x3 x4 x5 k0 x7 t_players t_answers
def mi_X12_listen_l62 (t_noted : Int32) (t_notes : Nat → Int32) (k_l22 : Int32 → Int32 → Int32 → Int32 → Int32 → (Nat → Int32) → (Nat → Int32) → Option (Int32 × (Nat → Int32) × (Nat → Int32))) : Nat → Int32 → Int32 → Int32 → Int32 → Int32 → Int32 → Int32 → (Nat → Int32) → (Nat → Int32) → Option (Int32 × (Nat → Int32) × (Nat → Int32))
  | 0, _, _, _, _, _, _, _, _, _ => none
  | n + 1, x1, x2, x3, x4, x5, x6, x7, t_players, t_answers => if x4 ≤ x7 then (if x3 ≤ x6 then (mi_X12_listen_b145 k_l22 x1 x3 x4 x5 x6 x2 t_players t_answers) else (mi_X12_listen_b145 k_l22 x1 x3 x4 x5 x6 x5 t_players t_answers)) else (jx_b1 (mi_X12_isSo t_noted t_notes t_players x7) fun r7 => (if r7 = 0 then (mi_X12_listen_b127 (mi_X12_listen_l62 t_noted t_notes k_l22 n) x1 x2 x3 x4 x5 x6 x7 t_players t_answers) else (jx_g (jx_in (x7 + x5) 1100) (jx_g (jx_in (t_players (Int32.toNatClampNeg (x7 + x5))) 5) (jx_g (jx_in (t_players (Int32.toNatClampNeg (x7 + x5))) 5) (jx_g (jx_in (t_players (Int32.toNatClampNeg (x7 + x5))) 5) (if ((upd t_answers (Int32.toNatClampNeg (t_players (Int32.toNatClampNeg (x7 + x5)))) ((t_answers (Int32.toNatClampNeg (t_players (Int32.toNatClampNeg (x7 + x5))))) + (1 : Int32))) (Int32.toNatClampNeg (t_players (Int32.toNatClampNeg (x7 + x5))))) ≤ x6 then (mi_X12_listen_b125 (mi_X12_listen_l62 t_noted t_notes k_l22 n) x1 x2 x3 x4 x5 x7 x6 t_players (upd t_answers (Int32.toNatClampNeg (t_players (Int32.toNatClampNeg (x7 + x5)))) ((t_answers (Int32.toNatClampNeg (t_players (Int32.toNatClampNeg (x7 + x5))))) + (1 : Int32)))) else (jx_g (jx_in (t_players (Int32.toNatClampNeg (x7 + x5))) 5) (mi_X12_listen_b125 (mi_X12_listen_l62 t_noted t_notes k_l22 n) x1 x2 x3 x4 x5 x7 ((upd t_answers (Int32.toNatClampNeg (t_players (Int32.toNatClampNeg (x7 + x5)))) ((t_answers (Int32.toNatClampNeg (t_players (Int32.toNatClampNeg (x7 + x5))))) + (1 : Int32))) (Int32.toNatClampNeg (t_players (Int32.toNatClampNeg (x7 + x5))))) t_players (upd t_answers (Int32.toNatClampNeg (t_players (Int32.toNatClampNeg (x7 + x5)))) ((t_answers (Int32.toNatClampNeg (t_players (Int32.toNatClampNeg (x7 + x5))))) + (1 : Int32))))))))))))
def mi_X12_listen_l36 (t_noted : Int32) (t_notes : Nat → Int32) (k_l22 : Int32 → Int32 → Int32 → Int32 → Int32 → (Nat → Int32) → (Nat → Int32) → Option (Int32 × (Nat → Int32) × (Nat → Int32))) : Nat → Int32 → Int32 → Int32 → Int32 → Int32 → Int32 → (Nat → Int32) → (Nat → Int32) → Option (Int32 × (Nat → Int32) × (Nat → Int32))
  | 0, _, _, _, _, _, _, _, _ => none
  | n + 1, x1, x2, x3, x4, x5, x6, t_players, t_answers => if (5 : Int32) ≤ x6 then (mi_X12_listen_l62 t_noted t_notes k_l22 jx_F x1 x2 x3 x4 x5 (0 : Int32) (0 : Int32) t_players t_answers) else (jx_g (jx_in x6 5) (mi_X12_listen_l36 t_noted t_notes k_l22 n x1 x2 x3 x4 x5 (x6 + 1) t_players (upd t_answers (Int32.toNatClampNeg x6) (0 : Int32))))
def mi_X12_listen_l22 (t_noted : Int32) (t_notes : Nat → Int32) : Nat → Int32 → Int32 → Int32 → Int32 → Int32 → (Nat → Int32) → (Nat → Int32) → Option (Int32 × (Nat → Int32) × (Nat → Int32))
  | 0, _, _, _, _, _, _, _ => none
  | n + 1, x1, x2, x3, x4, x5, t_players, t_answers => if (60 : Int32) < x5 then (some (x2, t_players, t_answers)) else (if x1 ≤ 0 then (some (x2, t_players, t_answers)) else (mi_X12_listen_l36 t_noted t_notes (mi_X12_listen_l22 t_noted t_notes n) jx_F x1 x2 x3 x4 x5 (0 : Int32) t_players t_answers))
def mi_X12_listen (t_noted : Int32) (t_told : Nat → Int32) (t_s : Nat → Int32) (t_notes : Nat → Int32) (t_players : Nat → Int32) (t_answers : Nat → Int32) : Option (Int32 × (Nat → Int32) × (Nat → Int32)) := jx_b2 (mi_X12_placesBy t_noted t_told t_s t_notes t_players (-1 : Int32)) fun r17 t_players_18 => (jx_b1 (mi_X12_length t_told t_s) fun r20 => (mi_X12_listen_l22 t_noted t_notes jx_F r17 (-9 : Int32) (r17 + (1 : Int32)) r20 (0 : Int32) t_players_18 t_answers))
abbrev rm_X12_listen : Room := { frames := 4, cells := 0, slots := 0, locals := 90 }
set_option maxRecDepth 100000 in
set_option maxHeartbeats 4000000 in
theorem ct_X12_listen (l : Launch) (D : va_G) (cI cZ cO : ClassId) (a_t a_t_text a_t_told a_t_draft a_t_s a_t_images a_t_kept a_t_notes a_t_players a_t_answers a_t_room a_t_inRest : Nat) (sz : Nat) (t_trace : Int64) (t_typed : Int32) (t_noted : Int32) (t_at : Int32) (t_sort : Int32) (t_start : Int32) (t_value : Int32) (t_told : Nat → Int32) (t_s : Nat → Int32) (t_notes : Nat → Int32) (t_players : Nat → Int32) (t_answers : Nat → Int32) (r : Int32) (z_t_players : Nat → Int32) (z_t_answers : Nat → Int32) (hm : mi_X12_listen t_noted t_told t_s t_notes t_players t_answers = some (r, z_t_players, z_t_answers)) : Met l yX12_listen wsX12_listen rm_X12_listen (va_Pc [.ref a_t] (jx_W D (jx_T cI cZ cO) sz [(a_t, .inr (12, [.long t_trace, .ref a_t_text, .int t_typed, .ref a_t_told, .ref a_t_draft, .ref a_t_s, .ref a_t_images, .ref a_t_kept, .ref a_t_notes, .int t_noted, .int t_at, .int t_sort, .int t_start, .int t_value, .ref a_t_players, .ref a_t_answers, .ref a_t_room, .ref a_t_inRest])), (a_t_told, .inl (cI, 36, .inl t_told)), (a_t_s, .inl (cI, 56, .inl t_s)), (a_t_notes, .inl (cI, 8, .inl t_notes)), (a_t_players, .inl (cI, 1100, .inl t_players)), (a_t_answers, .inl (cI, 5, .inl t_answers))])) (jx_Q (some (.int r)) D [(a_t, .inr (12, [.long t_trace, .ref a_t_text, .int t_typed, .ref a_t_told, .ref a_t_draft, .ref a_t_s, .ref a_t_images, .ref a_t_kept, .ref a_t_notes, .int t_noted, .int t_at, .int t_sort, .int t_start, .int t_value, .ref a_t_players, .ref a_t_answers, .ref a_t_room, .ref a_t_inRest])), (a_t_told, .inl (cI, 36, .inl t_told)), (a_t_s, .inl (cI, 56, .inl t_s)), (a_t_notes, .inl (cI, 8, .inl t_notes)), (a_t_players, .inl (cI, 1100, .inl z_t_players)), (a_t_answers, .inl (cI, 5, .inl z_t_answers))] (va_A [(a_t, .inr (12, [.long t_trace, .ref a_t_text, .int t_typed, .ref a_t_told, .ref a_t_draft, .ref a_t_s, .ref a_t_images, .ref a_t_kept, .ref a_t_notes, .int t_noted, .int t_at, .int t_sort, .int t_start, .int t_value, .ref a_t_players, .ref a_t_answers, .ref a_t_room, .ref a_t_inRest])), (a_t_told, .inl (cI, 36, .inl t_told)), (a_t_s, .inl (cI, 56, .inl t_s)), (a_t_notes, .inl (cI, 8, .inl t_notes)), (a_t_players, .inl (cI, 1100, .inl t_players)), (a_t_answers, .inl (cI, 5, .inl t_answers))] sz)) 0 0 (va_A [(a_t, .inr (12, [.long t_trace, .ref a_t_text, .int t_typed, .ref a_t_told, .ref a_t_draft, .ref a_t_s, .ref a_t_images, .ref a_t_kept, .ref a_t_notes, .int t_noted, .int t_at, .int t_sort, .int t_start, .int t_value, .ref a_t_players, .ref a_t_answers, .ref a_t_room, .ref a_t_inRest])), (a_t_told, .inl (cI, 36, .inl t_told)), (a_t_s, .inl (cI, 56, .inl t_s)), (a_t_notes, .inl (cI, 8, .inl t_notes)), (a_t_players, .inl (cI, 1100, .inl t_players)), (a_t_answers, .inl (cI, 5, .inl t_answers))] sz) := by
  refine jx_metW (ty := .int) (own := RX12) (cc := cX12_listen) (maxL := 9) (by decide) rfl rfl (Nat.le_of_ble_eq_true rfl) ?_
  intro p e s m args below meth c Q ls A hx hb hml hown hts hK hN hA hP hD hS hl hret
  have hi_X12 : ∀ w ∈ u_ws RX12 TX12 18, w ∈ wsX12_listen := by decide +kernel
  have hl : lv_has ls 9 [(0, .ref a_t)] := hl
  have bl_l22 : ∀ (n : Nat) (x1 : Int32) (x2 : Int32) (x3 : Int32) (x4 : Int32) (x5 : Int32) (t_players : Nat → Int32) (t_answers : Nat → Int32) (H : Heap) (locs : List Loc) (ls : Array Slot), va_P D vwCl [(a_t, .inr (12, [.long t_trace, .ref a_t_text, .int t_typed, .ref a_t_told, .ref a_t_draft, .ref a_t_s, .ref a_t_images, .ref a_t_kept, .ref a_t_notes, .int t_noted, .int t_at, .int t_sort, .int t_start, .int t_value, .ref a_t_players, .ref a_t_answers, .ref a_t_room, .ref a_t_inRest])), (a_t_told, .inl (cI, 36, .inl t_told)), (a_t_s, .inl (cI, 56, .inl t_s)), (a_t_notes, .inl (cI, 8, .inl t_notes)), (a_t_players, .inl (cI, 1100, .inl t_players)), (a_t_answers, .inl (cI, 5, .inl t_answers))] H → va_D A [(a_t, .inr (12, [.long t_trace, .ref a_t_text, .int t_typed, .ref a_t_told, .ref a_t_draft, .ref a_t_s, .ref a_t_images, .ref a_t_kept, .ref a_t_notes, .int t_noted, .int t_at, .int t_sort, .int t_start, .int t_value, .ref a_t_players, .ref a_t_answers, .ref a_t_room, .ref a_t_inRest])), (a_t_told, .inl (cI, 36, .inl t_told)), (a_t_s, .inl (cI, 56, .inl t_s)), (a_t_notes, .inl (cI, 8, .inl t_notes)), (a_t_players, .inl (cI, 1100, .inl t_players)), (a_t_answers, .inl (cI, 5, .inl t_answers))] → va_S A s.heap H locs → lv_has ls 9 [(0, .ref a_t), (1, .int x1), (2, .int x2), (3, .int x3), (4, .int x4), (5, .int x5)] → mi_X12_listen_l22 t_noted t_notes n x1 x2 x3 x4 x5 t_players t_answers = some (r, z_t_players, z_t_answers) → W p l e (headSpec wsX12_listen rm_X12_listen).room s m args below meth c H locs 0 0 Q (F0 m 22 ls []) := by
    intro n
    induction n with
    | zero =>
      intro x1 x2 x3 x4 x5 t_players t_answers H locs ls hP hD hS hl h
      rw [mi_X12_listen_l22] at h
      cases h
    | succ n_l22 ih_l22 =>
      have bl_b158 : ∀ (x1 : Int32) (x2 : Int32) (x4 : Int32) (x5 : Int32) (k0 : Int32) (t_players : Nat → Int32) (t_answers : Nat → Int32) (H : Heap) (locs : List Loc) (ls : Array Slot), va_P D vwCl [(a_t, .inr (12, [.long t_trace, .ref a_t_text, .int t_typed, .ref a_t_told, .ref a_t_draft, .ref a_t_s, .ref a_t_images, .ref a_t_kept, .ref a_t_notes, .int t_noted, .int t_at, .int t_sort, .int t_start, .int t_value, .ref a_t_players, .ref a_t_answers, .ref a_t_room, .ref a_t_inRest])), (a_t_told, .inl (cI, 36, .inl t_told)), (a_t_s, .inl (cI, 56, .inl t_s)), (a_t_notes, .inl (cI, 8, .inl t_notes)), (a_t_players, .inl (cI, 1100, .inl t_players)), (a_t_answers, .inl (cI, 5, .inl t_answers))] H → va_D A [(a_t, .inr (12, [.long t_trace, .ref a_t_text, .int t_typed, .ref a_t_told, .ref a_t_draft, .ref a_t_s, .ref a_t_images, .ref a_t_kept, .ref a_t_notes, .int t_noted, .int t_at, .int t_sort, .int t_start, .int t_value, .ref a_t_players, .ref a_t_answers, .ref a_t_room, .ref a_t_inRest])), (a_t_told, .inl (cI, 36, .inl t_told)), (a_t_s, .inl (cI, 56, .inl t_s)), (a_t_notes, .inl (cI, 8, .inl t_notes)), (a_t_players, .inl (cI, 1100, .inl t_players)), (a_t_answers, .inl (cI, 5, .inl t_answers))] → va_S A s.heap H locs → lv_has ls 9 [(0, .ref a_t), (1, .int x1), (2, .int x2), (4, .int x4), (5, .int x5)] → mi_X12_listen_b158 (mi_X12_listen_l22 t_noted t_notes n_l22) x1 x2 x4 x5 k0 t_players t_answers = some (r, z_t_players, z_t_answers) → W p l e (headSpec wsX12_listen rm_X12_listen).room s m args below meth c H locs 0 0 Q (F0 m 158 ls [.int k0]) := by
        intro x1 x2 x4 x5 k0 t_players t_answers H locs ls hP hD hS hl h
        unfold mi_X12_listen_b158 at h
        refine lv_istore_n (lv' := [(3, .int k0), (0, .ref a_t), (1, .int x1), (2, .int x2), (4, .int x4), (5, .int x5)]) hx hb dX12_listen_158 rfl hl (by decide) rfl (fun ls hl => ?_)
        refine lv_iinc (v := (x5 + 1)) (lv' := [(5, .int (x5 + 1)), (3, .int k0), (0, .ref a_t), (1, .int x1), (2, .int x2), (4, .int x4)]) hx hb dX12_listen_159 hl (k := 5) rfl rfl (by decide) rfl (fun ls hl => ?_)
        refine lv_goto (tgt := 22) hx hb dX12_listen_162 (by decide) ?_
        exact ih_l22 x1 x2 k0 x4 (x5 + 1) t_players t_answers _ _ _ hP hD hS (lv_sub hl [2, 3, 4, 1, 5, 0] rfl) h
      have bl_b145 : ∀ (x1 : Int32) (x3 : Int32) (x4 : Int32) (x5 : Int32) (x6 : Int32) (k0 : Int32) (t_players : Nat → Int32) (t_answers : Nat → Int32) (H : Heap) (locs : List Loc) (ls : Array Slot), va_P D vwCl [(a_t, .inr (12, [.long t_trace, .ref a_t_text, .int t_typed, .ref a_t_told, .ref a_t_draft, .ref a_t_s, .ref a_t_images, .ref a_t_kept, .ref a_t_notes, .int t_noted, .int t_at, .int t_sort, .int t_start, .int t_value, .ref a_t_players, .ref a_t_answers, .ref a_t_room, .ref a_t_inRest])), (a_t_told, .inl (cI, 36, .inl t_told)), (a_t_s, .inl (cI, 56, .inl t_s)), (a_t_notes, .inl (cI, 8, .inl t_notes)), (a_t_players, .inl (cI, 1100, .inl t_players)), (a_t_answers, .inl (cI, 5, .inl t_answers))] H → va_D A [(a_t, .inr (12, [.long t_trace, .ref a_t_text, .int t_typed, .ref a_t_told, .ref a_t_draft, .ref a_t_s, .ref a_t_images, .ref a_t_kept, .ref a_t_notes, .int t_noted, .int t_at, .int t_sort, .int t_start, .int t_value, .ref a_t_players, .ref a_t_answers, .ref a_t_room, .ref a_t_inRest])), (a_t_told, .inl (cI, 36, .inl t_told)), (a_t_s, .inl (cI, 56, .inl t_s)), (a_t_notes, .inl (cI, 8, .inl t_notes)), (a_t_players, .inl (cI, 1100, .inl t_players)), (a_t_answers, .inl (cI, 5, .inl t_answers))] → va_S A s.heap H locs → lv_has ls 9 [(0, .ref a_t), (1, .int x1), (3, .int x3), (4, .int x4), (5, .int x5), (6, .int x6)] → mi_X12_listen_b145 (mi_X12_listen_l22 t_noted t_notes n_l22) x1 x3 x4 x5 x6 k0 t_players t_answers = some (r, z_t_players, z_t_answers) → W p l e (headSpec wsX12_listen rm_X12_listen).room s m args below meth c H locs 0 0 Q (F0 m 145 ls [.int k0]) := by
        intro x1 x3 x4 x5 x6 k0 t_players t_answers H locs ls hP hD hS hl h
        unfold mi_X12_listen_b145 at h
        refine lv_istore_n (lv' := [(2, .int k0), (0, .ref a_t), (1, .int x1), (3, .int x3), (4, .int x4), (5, .int x5), (6, .int x6)]) hx hb dX12_listen_145 rfl hl (by decide) rfl (fun ls hl => ?_)
        refine lv_iload hx hb dX12_listen_146 (lv_at hl 6 rfl) ?_
        refine lv_iload_n hx hb dX12_listen_148 rfl (lv_at hl 3 rfl) ?_
        refine lv_icmp_ge (tgt := 157) hx hb dX12_listen_149 (by decide) (fun c16 => ?_) (fun c16 => ?_)
        · have h := jx_t h c16
          refine lv_iload_n hx hb dX12_listen_157 rfl (lv_at hl 3 rfl) ?_
          exact bl_b158 x1 k0 x4 x5 x3 t_players t_answers _ _ _ hP hD hS (lv_sub hl [1, 2, 0, 4, 5] rfl) h
        · have h := jx_f h c16
          refine lv_iload hx hb dX12_listen_152 (lv_at hl 6 rfl) ?_
          refine lv_goto (tgt := 158) hx hb dX12_listen_154 (by decide) ?_
          exact bl_b158 x1 k0 x4 x5 x6 t_players t_answers _ _ _ hP hD hS (lv_sub hl [1, 2, 0, 4, 5] rfl) h
      have bl_l62 : ∀ (n : Nat) (x1 : Int32) (x2 : Int32) (x3 : Int32) (x4 : Int32) (x5 : Int32) (x6 : Int32) (x7 : Int32) (t_players : Nat → Int32) (t_answers : Nat → Int32) (H : Heap) (locs : List Loc) (ls : Array Slot), va_P D vwCl [(a_t, .inr (12, [.long t_trace, .ref a_t_text, .int t_typed, .ref a_t_told, .ref a_t_draft, .ref a_t_s, .ref a_t_images, .ref a_t_kept, .ref a_t_notes, .int t_noted, .int t_at, .int t_sort, .int t_start, .int t_value, .ref a_t_players, .ref a_t_answers, .ref a_t_room, .ref a_t_inRest])), (a_t_told, .inl (cI, 36, .inl t_told)), (a_t_s, .inl (cI, 56, .inl t_s)), (a_t_notes, .inl (cI, 8, .inl t_notes)), (a_t_players, .inl (cI, 1100, .inl t_players)), (a_t_answers, .inl (cI, 5, .inl t_answers))] H → va_D A [(a_t, .inr (12, [.long t_trace, .ref a_t_text, .int t_typed, .ref a_t_told, .ref a_t_draft, .ref a_t_s, .ref a_t_images, .ref a_t_kept, .ref a_t_notes, .int t_noted, .int t_at, .int t_sort, .int t_start, .int t_value, .ref a_t_players, .ref a_t_answers, .ref a_t_room, .ref a_t_inRest])), (a_t_told, .inl (cI, 36, .inl t_told)), (a_t_s, .inl (cI, 56, .inl t_s)), (a_t_notes, .inl (cI, 8, .inl t_notes)), (a_t_players, .inl (cI, 1100, .inl t_players)), (a_t_answers, .inl (cI, 5, .inl t_answers))] → va_S A s.heap H locs → lv_has ls 9 [(0, .ref a_t), (1, .int x1), (2, .int x2), (3, .int x3), (4, .int x4), (5, .int x5), (6, .int x6), (7, .int x7)] → mi_X12_listen_l62 t_noted t_notes (mi_X12_listen_l22 t_noted t_notes n_l22) n x1 x2 x3 x4 x5 x6 x7 t_players t_answers = some (r, z_t_players, z_t_answers) → W p l e (headSpec wsX12_listen rm_X12_listen).room s m args below meth c H locs 0 0 Q (F0 m 62 ls []) := by
        intro n
        induction n with
        | zero =>
          intro x1 x2 x3 x4 x5 x6 x7 t_players t_answers H locs ls hP hD hS hl h
          rw [mi_X12_listen_l62] at h
          cases h
        | succ n_l62 ih_l62 =>
          have bl_b127 : ∀ (x1 : Int32) (x2 : Int32) (x3 : Int32) (x4 : Int32) (x5 : Int32) (x6 : Int32) (x7 : Int32) (t_players : Nat → Int32) (t_answers : Nat → Int32) (H : Heap) (locs : List Loc) (ls : Array Slot), va_P D vwCl [(a_t, .inr (12, [.long t_trace, .ref a_t_text, .int t_typed, .ref a_t_told, .ref a_t_draft, .ref a_t_s, .ref a_t_images, .ref a_t_kept, .ref a_t_notes, .int t_noted, .int t_at, .int t_sort, .int t_start, .int t_value, .ref a_t_players, .ref a_t_answers, .ref a_t_room, .ref a_t_inRest])), (a_t_told, .inl (cI, 36, .inl t_told)), (a_t_s, .inl (cI, 56, .inl t_s)), (a_t_notes, .inl (cI, 8, .inl t_notes)), (a_t_players, .inl (cI, 1100, .inl t_players)), (a_t_answers, .inl (cI, 5, .inl t_answers))] H → va_D A [(a_t, .inr (12, [.long t_trace, .ref a_t_text, .int t_typed, .ref a_t_told, .ref a_t_draft, .ref a_t_s, .ref a_t_images, .ref a_t_kept, .ref a_t_notes, .int t_noted, .int t_at, .int t_sort, .int t_start, .int t_value, .ref a_t_players, .ref a_t_answers, .ref a_t_room, .ref a_t_inRest])), (a_t_told, .inl (cI, 36, .inl t_told)), (a_t_s, .inl (cI, 56, .inl t_s)), (a_t_notes, .inl (cI, 8, .inl t_notes)), (a_t_players, .inl (cI, 1100, .inl t_players)), (a_t_answers, .inl (cI, 5, .inl t_answers))] → va_S A s.heap H locs → lv_has ls 9 [(0, .ref a_t), (1, .int x1), (2, .int x2), (3, .int x3), (4, .int x4), (5, .int x5), (6, .int x6), (7, .int x7)] → mi_X12_listen_b127 (mi_X12_listen_l62 t_noted t_notes (mi_X12_listen_l22 t_noted t_notes n_l22) n_l62) x1 x2 x3 x4 x5 x6 x7 t_players t_answers = some (r, z_t_players, z_t_answers) → W p l e (headSpec wsX12_listen rm_X12_listen).room s m args below meth c H locs 0 0 Q (F0 m 127 ls []) := by
            intro x1 x2 x3 x4 x5 x6 x7 t_players t_answers H locs ls hP hD hS hl h
            unfold mi_X12_listen_b127 at h
            refine lv_iinc (v := (x7 + 1)) (lv' := [(7, .int (x7 + 1)), (0, .ref a_t), (1, .int x1), (2, .int x2), (3, .int x3), (4, .int x4), (5, .int x5), (6, .int x6)]) hx hb dX12_listen_127 hl (k := 7) rfl rfl (by decide) rfl (fun ls hl => ?_)
            refine lv_goto (tgt := 62) hx hb dX12_listen_130 (by decide) ?_
            exact ih_l62 x1 x2 x3 x4 x5 x6 (x7 + 1) t_players t_answers _ _ _ hP hD hS (lv_sub hl [1, 2, 3, 4, 5, 6, 7, 0] rfl) h
          have bl_b125 : ∀ (x1 : Int32) (x2 : Int32) (x3 : Int32) (x4 : Int32) (x5 : Int32) (x7 : Int32) (k0 : Int32) (t_players : Nat → Int32) (t_answers : Nat → Int32) (H : Heap) (locs : List Loc) (ls : Array Slot), va_P D vwCl [(a_t, .inr (12, [.long t_trace, .ref a_t_text, .int t_typed, .ref a_t_told, .ref a_t_draft, .ref a_t_s, .ref a_t_images, .ref a_t_kept, .ref a_t_notes, .int t_noted, .int t_at, .int t_sort, .int t_start, .int t_value, .ref a_t_players, .ref a_t_answers, .ref a_t_room, .ref a_t_inRest])), (a_t_told, .inl (cI, 36, .inl t_told)), (a_t_s, .inl (cI, 56, .inl t_s)), (a_t_notes, .inl (cI, 8, .inl t_notes)), (a_t_players, .inl (cI, 1100, .inl t_players)), (a_t_answers, .inl (cI, 5, .inl t_answers))] H → va_D A [(a_t, .inr (12, [.long t_trace, .ref a_t_text, .int t_typed, .ref a_t_told, .ref a_t_draft, .ref a_t_s, .ref a_t_images, .ref a_t_kept, .ref a_t_notes, .int t_noted, .int t_at, .int t_sort, .int t_start, .int t_value, .ref a_t_players, .ref a_t_answers, .ref a_t_room, .ref a_t_inRest])), (a_t_told, .inl (cI, 36, .inl t_told)), (a_t_s, .inl (cI, 56, .inl t_s)), (a_t_notes, .inl (cI, 8, .inl t_notes)), (a_t_players, .inl (cI, 1100, .inl t_players)), (a_t_answers, .inl (cI, 5, .inl t_answers))] → va_S A s.heap H locs → lv_has ls 9 [(0, .ref a_t), (1, .int x1), (2, .int x2), (3, .int x3), (4, .int x4), (5, .int x5), (7, .int x7)] → mi_X12_listen_b125 (mi_X12_listen_l62 t_noted t_notes (mi_X12_listen_l22 t_noted t_notes n_l22) n_l62) x1 x2 x3 x4 x5 x7 k0 t_players t_answers = some (r, z_t_players, z_t_answers) → W p l e (headSpec wsX12_listen rm_X12_listen).room s m args below meth c H locs 0 0 Q (F0 m 125 ls [.int k0]) := by
            intro x1 x2 x3 x4 x5 x7 k0 t_players t_answers H locs ls hP hD hS hl h
            unfold mi_X12_listen_b125 at h
            refine lv_istore (lv' := [(6, .int k0), (0, .ref a_t), (1, .int x1), (2, .int x2), (3, .int x3), (4, .int x4), (5, .int x5), (7, .int x7)]) hx hb dX12_listen_125 hl (by decide) rfl (fun ls hl => ?_)
            exact bl_b127 x1 x2 x3 x4 x5 k0 x7 t_players t_answers _ _ _ hP hD hS (lv_sub hl [1, 2, 3, 4, 5, 6, 0, 7] rfl) h
          intro x1 x2 x3 x4 x5 x6 x7 t_players t_answers H locs ls hP hD hS hl h
          rw [mi_X12_listen_l62] at h
          refine lv_iload hx hb dX12_listen_62 (lv_at hl 7 rfl) ?_
          refine lv_iload hx hb dX12_listen_64 (lv_at hl 4 rfl) ?_
          refine lv_icmp_ge (tgt := 133) hx hb dX12_listen_66 (by decide) (fun c5 => ?_) (fun c5 => ?_)
          · have h := jx_t h c5
            refine lv_iload hx hb dX12_listen_133 (lv_at hl 6 rfl) ?_
            refine lv_iload_n hx hb dX12_listen_135 rfl (lv_at hl 3 rfl) ?_
            refine lv_icmp_ge (tgt := 144) hx hb dX12_listen_136 (by decide) (fun c6 => ?_) (fun c6 => ?_)
            · have h := jx_t h c6
              refine lv_iload_n hx hb dX12_listen_144 rfl (lv_at hl 2 rfl) ?_
              exact bl_b145 x1 x3 x4 x5 x6 x2 t_players t_answers _ _ _ hP hD hS (lv_sub hl [0, 1, 3, 4, 5, 6] rfl) h
            · have h := jx_f h c6
              refine lv_iload hx hb dX12_listen_139 (lv_at hl 5 rfl) ?_
              refine lv_goto (tgt := 145) hx hb dX12_listen_141 (by decide) ?_
              exact bl_b145 x1 x3 x4 x5 x6 x5 t_players t_answers _ _ _ hP hD hS (lv_sub hl [0, 1, 3, 4, 5, 6] rfl) h
          · have h := jx_f h c5
            refine lv_aload_n hx hb dX12_listen_69 rfl (lv_at hl 0 rfl) ?_
            refine lv_iload hx hb dX12_listen_70 (lv_at hl 7 rfl) ?_
            obtain ⟨r7, e8, h⟩ := jx_b1_of h
            refine jx_cV (o := some (.int r7)) (As := [.int x7]) (rest := []) (b := a_t) ⟨hx, hb, hml, hown, hts⟩ (ct_X12_isSo l D cI cZ cO a_t a_t_text a_t_told a_t_draft a_t_s a_t_images a_t_kept a_t_notes a_t_players a_t_answers a_t_room a_t_inRest t_trace t_typed t_noted t_at t_sort t_start t_value t_notes t_players x7 r7 e8) (cwV 1 hts gX12_listen_X12_isSo rfl rfl rfl (by decide +kernel) ⟨Nat.le_of_ble_eq_true rfl, Nat.le_of_ble_eq_true rfl⟩) hK hN hP [0, 3, 4] rfl (va_recv hK hP (ci := 12) (q0 := 0) rfl rfl) rfl hl.1 rfl (Nat.le_of_ble_eq_true rfl) dX12_listen_72 ⟨Nat.zero_le _, Nat.zero_le _⟩ ?_
            refine lv_if_eq (tgt := 127) hx hb dX12_listen_75 (by decide) (fun c9 => ?_) (fun c9 => ?_)
            · have h := jx_t h c9
              exact bl_b127 x1 x2 x3 x4 x5 x6 x7 t_players t_answers _ _ _ hP hD hS (lv_sub hl [0, 1, 2, 3, 4, 5, 6, 7] rfl) h
            · have h := jx_f h c9
              refine lv_aload_n hx hb dX12_listen_78 rfl (lv_at hl 0 rfl) ?_
              refine va_get (D := D) (ci := 12) (v := .ref a_t_players) (C := RX12) (T := TX12) (N := 18) hx hb hts hi_X12 hown hK hP 0 rfl rfl 14 (by decide) (hts (.fieldLink RX12 32 "TriangleRestModel" "players" "[I") (List.mem_of_getElem? (i := 2) rfl)) (fun _ h9 => h9) rfl dX12_listen_79 ?_
              refine lv_iload hx hb dX12_listen_82 (lv_at hl 7 rfl) ?_
              refine lv_iload hx hb dX12_listen_84 (lv_at hl 5 rfl) ?_
              refine lv_iadd hx hb dX12_listen_86 ?_
              obtain ⟨g10, h⟩ := jx_g_of h
              refine va_iald hx hb hK hP 4 0 rfl rfl (jx_in_of g10) dX12_listen_87 ?_
              refine lv_istore (lv' := [(8, .int (t_players (Int32.toNatClampNeg (x7 + x5)))), (0, .ref a_t), (1, .int x1), (2, .int x2), (3, .int x3), (4, .int x4), (5, .int x5), (6, .int x6), (7, .int x7)]) hx hb dX12_listen_88 hl (by decide) rfl (fun ls hl => ?_)
              refine lv_aload_n hx hb dX12_listen_90 rfl (lv_at hl 1 rfl) ?_
              refine va_get (D := D) (ci := 12) (v := .ref a_t_answers) (C := RX12) (T := TX12) (N := 18) hx hb hts hi_X12 hown hK hP 0 rfl rfl 15 (by decide) (hts (.fieldLink RX12 35 "TriangleRestModel" "answers" "[I") (List.mem_of_getElem? (i := 1) rfl)) (fun _ h9 => h9) rfl dX12_listen_91 ?_
              refine lv_iload hx hb dX12_listen_94 (lv_at hl 0 rfl) ?_
              refine lv_dup2_11 hx hb dX12_listen_96 rfl rfl ?_
              obtain ⟨g11, h⟩ := jx_g_of h
              refine va_iald hx hb hK hP 5 0 rfl rfl (jx_in_of g11) dX12_listen_97 ?_
              refine lv_iconst (v := (1 : Int32)) hx hb dX12_listen_98 (by decide) ?_
              refine lv_iadd hx hb dX12_listen_99 ?_
              obtain ⟨g12, h⟩ := jx_g_of h
              refine va_iast hx hb hK hP hD hS 5 0 rfl rfl (jx_in_of g12) dX12_listen_100 (fun H locs hP hD hS => ?_)
              have hP : va_P D vwCl [(a_t, .inr (12, [.long t_trace, .ref a_t_text, .int t_typed, .ref a_t_told, .ref a_t_draft, .ref a_t_s, .ref a_t_images, .ref a_t_kept, .ref a_t_notes, .int t_noted, .int t_at, .int t_sort, .int t_start, .int t_value, .ref a_t_players, .ref a_t_answers, .ref a_t_room, .ref a_t_inRest])), (a_t_told, .inl (cI, 36, .inl t_told)), (a_t_s, .inl (cI, 56, .inl t_s)), (a_t_notes, .inl (cI, 8, .inl t_notes)), (a_t_players, .inl (cI, 1100, .inl t_players)), (a_t_answers, .inl (cI, 5, .inl (upd t_answers (Int32.toNatClampNeg (t_players (Int32.toNatClampNeg (x7 + x5)))) ((t_answers (Int32.toNatClampNeg (t_players (Int32.toNatClampNeg (x7 + x5))))) + (1 : Int32)))))] H := hP
              have hD : va_D A [(a_t, .inr (12, [.long t_trace, .ref a_t_text, .int t_typed, .ref a_t_told, .ref a_t_draft, .ref a_t_s, .ref a_t_images, .ref a_t_kept, .ref a_t_notes, .int t_noted, .int t_at, .int t_sort, .int t_start, .int t_value, .ref a_t_players, .ref a_t_answers, .ref a_t_room, .ref a_t_inRest])), (a_t_told, .inl (cI, 36, .inl t_told)), (a_t_s, .inl (cI, 56, .inl t_s)), (a_t_notes, .inl (cI, 8, .inl t_notes)), (a_t_players, .inl (cI, 1100, .inl t_players)), (a_t_answers, .inl (cI, 5, .inl (upd t_answers (Int32.toNatClampNeg (t_players (Int32.toNatClampNeg (x7 + x5)))) ((t_answers (Int32.toNatClampNeg (t_players (Int32.toNatClampNeg (x7 + x5))))) + (1 : Int32)))))] := hD
              refine lv_aload_n hx hb dX12_listen_101 rfl (lv_at hl 1 rfl) ?_
              refine va_get (D := D) (ci := 12) (v := .ref a_t_answers) (C := RX12) (T := TX12) (N := 18) hx hb hts hi_X12 hown hK hP 0 rfl rfl 15 (by decide) (hts (.fieldLink RX12 35 "TriangleRestModel" "answers" "[I") (List.mem_of_getElem? (i := 1) rfl)) (fun _ h9 => h9) rfl dX12_listen_102 ?_
              refine lv_iload hx hb dX12_listen_105 (lv_at hl 0 rfl) ?_
              obtain ⟨g13, h⟩ := jx_g_of h
              refine va_iald hx hb hK hP 5 0 rfl rfl (jx_in_of g13) dX12_listen_107 ?_
              refine lv_iload hx hb dX12_listen_108 (lv_at hl 7 rfl) ?_
              refine lv_icmp_le (tgt := 123) hx hb dX12_listen_110 (by decide) (fun c14 => ?_) (fun c14 => ?_)
              · have h := jx_t h c14
                refine lv_iload hx hb dX12_listen_123 (lv_at hl 7 rfl) ?_
                exact bl_b125 x1 x2 x3 x4 x5 x7 x6 t_players (upd t_answers (Int32.toNatClampNeg (t_players (Int32.toNatClampNeg (x7 + x5)))) ((t_answers (Int32.toNatClampNeg (t_players (Int32.toNatClampNeg (x7 + x5))))) + (1 : Int32))) _ _ _ hP hD hS (lv_sub hl [1, 2, 3, 4, 5, 6, 8] rfl) h
              · have h := jx_f h c14
                refine lv_aload_n hx hb dX12_listen_113 rfl (lv_at hl 1 rfl) ?_
                refine va_get (D := D) (ci := 12) (v := .ref a_t_answers) (C := RX12) (T := TX12) (N := 18) hx hb hts hi_X12 hown hK hP 0 rfl rfl 15 (by decide) (hts (.fieldLink RX12 35 "TriangleRestModel" "answers" "[I") (List.mem_of_getElem? (i := 1) rfl)) (fun _ h9 => h9) rfl dX12_listen_114 ?_
                refine lv_iload hx hb dX12_listen_117 (lv_at hl 0 rfl) ?_
                obtain ⟨g15, h⟩ := jx_g_of h
                refine va_iald hx hb hK hP 5 0 rfl rfl (jx_in_of g15) dX12_listen_119 ?_
                refine lv_goto (tgt := 125) hx hb dX12_listen_120 (by decide) ?_
                exact bl_b125 x1 x2 x3 x4 x5 x7 ((upd t_answers (Int32.toNatClampNeg (t_players (Int32.toNatClampNeg (x7 + x5)))) ((t_answers (Int32.toNatClampNeg (t_players (Int32.toNatClampNeg (x7 + x5))))) + (1 : Int32))) (Int32.toNatClampNeg (t_players (Int32.toNatClampNeg (x7 + x5))))) t_players (upd t_answers (Int32.toNatClampNeg (t_players (Int32.toNatClampNeg (x7 + x5)))) ((t_answers (Int32.toNatClampNeg (t_players (Int32.toNatClampNeg (x7 + x5))))) + (1 : Int32))) _ _ _ hP hD hS (lv_sub hl [1, 2, 3, 4, 5, 6, 8] rfl) h
      have bl_l36 : ∀ (n : Nat) (x1 : Int32) (x2 : Int32) (x3 : Int32) (x4 : Int32) (x5 : Int32) (x6 : Int32) (t_players : Nat → Int32) (t_answers : Nat → Int32) (H : Heap) (locs : List Loc) (ls : Array Slot), va_P D vwCl [(a_t, .inr (12, [.long t_trace, .ref a_t_text, .int t_typed, .ref a_t_told, .ref a_t_draft, .ref a_t_s, .ref a_t_images, .ref a_t_kept, .ref a_t_notes, .int t_noted, .int t_at, .int t_sort, .int t_start, .int t_value, .ref a_t_players, .ref a_t_answers, .ref a_t_room, .ref a_t_inRest])), (a_t_told, .inl (cI, 36, .inl t_told)), (a_t_s, .inl (cI, 56, .inl t_s)), (a_t_notes, .inl (cI, 8, .inl t_notes)), (a_t_players, .inl (cI, 1100, .inl t_players)), (a_t_answers, .inl (cI, 5, .inl t_answers))] H → va_D A [(a_t, .inr (12, [.long t_trace, .ref a_t_text, .int t_typed, .ref a_t_told, .ref a_t_draft, .ref a_t_s, .ref a_t_images, .ref a_t_kept, .ref a_t_notes, .int t_noted, .int t_at, .int t_sort, .int t_start, .int t_value, .ref a_t_players, .ref a_t_answers, .ref a_t_room, .ref a_t_inRest])), (a_t_told, .inl (cI, 36, .inl t_told)), (a_t_s, .inl (cI, 56, .inl t_s)), (a_t_notes, .inl (cI, 8, .inl t_notes)), (a_t_players, .inl (cI, 1100, .inl t_players)), (a_t_answers, .inl (cI, 5, .inl t_answers))] → va_S A s.heap H locs → lv_has ls 9 [(0, .ref a_t), (1, .int x1), (2, .int x2), (3, .int x3), (4, .int x4), (5, .int x5), (6, .int x6)] → mi_X12_listen_l36 t_noted t_notes (mi_X12_listen_l22 t_noted t_notes n_l22) n x1 x2 x3 x4 x5 x6 t_players t_answers = some (r, z_t_players, z_t_answers) → W p l e (headSpec wsX12_listen rm_X12_listen).room s m args below meth c H locs 0 0 Q (F0 m 36 ls []) := by
        intro n
        induction n with
        | zero =>
          intro x1 x2 x3 x4 x5 x6 t_players t_answers H locs ls hP hD hS hl h
          rw [mi_X12_listen_l36] at h
          cases h
        | succ n_l36 ih_l36 =>
          intro x1 x2 x3 x4 x5 x6 t_players t_answers H locs ls hP hD hS hl h
          rw [mi_X12_listen_l36] at h
          refine lv_iload hx hb dX12_listen_36 (lv_at hl 6 rfl) ?_
          refine lv_iconst (v := (5 : Int32)) hx hb dX12_listen_38 (by decide) ?_
          refine lv_icmp_ge (tgt := 56) hx hb dX12_listen_39 (by decide) (fun c3 => ?_) (fun c3 => ?_)
          · have h := jx_t h c3
            refine lv_iconst (v := (0 : Int32)) hx hb dX12_listen_56 (by decide) ?_
            refine lv_istore (lv' := [(6, .int (0 : Int32)), (0, .ref a_t), (1, .int x1), (2, .int x2), (3, .int x3), (4, .int x4), (5, .int x5)]) hx hb dX12_listen_57 hl (by decide) rfl (fun ls hl => ?_)
            refine lv_iconst (v := (0 : Int32)) hx hb dX12_listen_59 (by decide) ?_
            refine lv_istore (lv' := [(7, .int (0 : Int32)), (6, .int (0 : Int32)), (0, .ref a_t), (1, .int x1), (2, .int x2), (3, .int x3), (4, .int x4), (5, .int x5)]) hx hb dX12_listen_60 hl (by decide) rfl (fun ls hl => ?_)
            exact bl_l62 jx_F x1 x2 x3 x4 x5 (0 : Int32) (0 : Int32) t_players t_answers _ _ _ hP hD hS (lv_sub hl [2, 3, 4, 5, 6, 7, 1, 0] rfl) h
          · have h := jx_f h c3
            refine lv_aload_n hx hb dX12_listen_42 rfl (lv_at hl 0 rfl) ?_
            refine va_get (D := D) (ci := 12) (v := .ref a_t_answers) (C := RX12) (T := TX12) (N := 18) hx hb hts hi_X12 hown hK hP 0 rfl rfl 15 (by decide) (hts (.fieldLink RX12 35 "TriangleRestModel" "answers" "[I") (List.mem_of_getElem? (i := 1) rfl)) (fun _ h9 => h9) rfl dX12_listen_43 ?_
            refine lv_iload hx hb dX12_listen_46 (lv_at hl 6 rfl) ?_
            refine lv_iconst (v := (0 : Int32)) hx hb dX12_listen_48 (by decide) ?_
            obtain ⟨g4, h⟩ := jx_g_of h
            refine va_iast hx hb hK hP hD hS 5 0 rfl rfl (jx_in_of g4) dX12_listen_49 (fun H locs hP hD hS => ?_)
            have hP : va_P D vwCl [(a_t, .inr (12, [.long t_trace, .ref a_t_text, .int t_typed, .ref a_t_told, .ref a_t_draft, .ref a_t_s, .ref a_t_images, .ref a_t_kept, .ref a_t_notes, .int t_noted, .int t_at, .int t_sort, .int t_start, .int t_value, .ref a_t_players, .ref a_t_answers, .ref a_t_room, .ref a_t_inRest])), (a_t_told, .inl (cI, 36, .inl t_told)), (a_t_s, .inl (cI, 56, .inl t_s)), (a_t_notes, .inl (cI, 8, .inl t_notes)), (a_t_players, .inl (cI, 1100, .inl t_players)), (a_t_answers, .inl (cI, 5, .inl (upd t_answers (Int32.toNatClampNeg x6) (0 : Int32))))] H := hP
            have hD : va_D A [(a_t, .inr (12, [.long t_trace, .ref a_t_text, .int t_typed, .ref a_t_told, .ref a_t_draft, .ref a_t_s, .ref a_t_images, .ref a_t_kept, .ref a_t_notes, .int t_noted, .int t_at, .int t_sort, .int t_start, .int t_value, .ref a_t_players, .ref a_t_answers, .ref a_t_room, .ref a_t_inRest])), (a_t_told, .inl (cI, 36, .inl t_told)), (a_t_s, .inl (cI, 56, .inl t_s)), (a_t_notes, .inl (cI, 8, .inl t_notes)), (a_t_players, .inl (cI, 1100, .inl t_players)), (a_t_answers, .inl (cI, 5, .inl (upd t_answers (Int32.toNatClampNeg x6) (0 : Int32))))] := hD
            refine lv_iinc (v := (x6 + 1)) (lv' := [(6, .int (x6 + 1)), (0, .ref a_t), (1, .int x1), (2, .int x2), (3, .int x3), (4, .int x4), (5, .int x5)]) hx hb dX12_listen_50 hl (k := 6) rfl rfl (by decide) rfl (fun ls hl => ?_)
            refine lv_goto (tgt := 36) hx hb dX12_listen_53 (by decide) ?_
            exact ih_l36 x1 x2 x3 x4 x5 (x6 + 1) t_players (upd t_answers (Int32.toNatClampNeg x6) (0 : Int32)) _ _ _ hP hD hS (lv_sub hl [1, 2, 3, 4, 5, 6, 0] rfl) h
      intro x1 x2 x3 x4 x5 t_players t_answers H locs ls hP hD hS hl h
      rw [mi_X12_listen_l22] at h
      refine lv_iload hx hb dX12_listen_22 (lv_at hl 5 rfl) ?_
      refine lv_bipush (v := (60 : Int32)) hx hb dX12_listen_24 (by decide) ?_
      refine lv_icmp_gt (tgt := 165) hx hb dX12_listen_26 (by decide) (fun c1 => ?_) (fun c1 => ?_)
      · have h := jx_t h c1
        refine lv_iload_n hx hb dX12_listen_165 rfl (lv_at hl 2 rfl) ?_
        cases h
        exact hret 166 ls _ _ hP hD hS rfl dX12_listen_166
      · have h := jx_f h c1
        refine lv_iload_n hx hb dX12_listen_29 rfl (lv_at hl 1 rfl) ?_
        refine lv_if_le (tgt := 165) hx hb dX12_listen_30 (by decide) (fun c2 => ?_) (fun c2 => ?_)
        · have h := jx_t h c2
          refine lv_iload_n hx hb dX12_listen_165 rfl (lv_at hl 2 rfl) ?_
          cases h
          exact hret 166 ls _ _ hP hD hS rfl dX12_listen_166
        · have h := jx_f h c2
          refine lv_iconst (v := (0 : Int32)) hx hb dX12_listen_33 (by decide) ?_
          refine lv_istore (lv' := [(6, .int (0 : Int32)), (0, .ref a_t), (1, .int x1), (2, .int x2), (3, .int x3), (4, .int x4), (5, .int x5)]) hx hb dX12_listen_34 hl (by decide) rfl (fun ls hl => ?_)
          exact bl_l36 jx_F x1 x2 x3 x4 x5 (0 : Int32) t_players t_answers _ _ _ hP hD hS (lv_sub hl [1, 2, 3, 4, 5, 6, 0] rfl) h
  have h := hm
  unfold mi_X12_listen at h
  refine lv_aload_n hx hb dX12_listen_0 rfl (lv_at hl 0 rfl) ?_
  refine lv_iconst (v := (-1 : Int32)) hx hb dX12_listen_1 (by decide) ?_
  obtain ⟨r17, t_players_18, e19, h⟩ := jx_b2_of h
  refine jx_cW (o := some (.int r17)) (As := [.int (-1 : Int32)]) (rest := []) (b := a_t) (wr := [(a_t_answers, .inl (cI, 5, .inl t_answers))]) (wd' := [(a_t, .inr (12, [.long t_trace, .ref a_t_text, .int t_typed, .ref a_t_told, .ref a_t_draft, .ref a_t_s, .ref a_t_images, .ref a_t_kept, .ref a_t_notes, .int t_noted, .int t_at, .int t_sort, .int t_start, .int t_value, .ref a_t_players, .ref a_t_answers, .ref a_t_room, .ref a_t_inRest])), (a_t_told, .inl (cI, 36, .inl t_told)), (a_t_s, .inl (cI, 56, .inl t_s)), (a_t_notes, .inl (cI, 8, .inl t_notes)), (a_t_players, .inl (cI, 1100, .inl t_players_18)), (a_t_answers, .inl (cI, 5, .inl t_answers))]) ⟨hx, hb, hml, hown, hts⟩ (ct_X12_placesBy l D cI cZ cO a_t a_t_text a_t_told a_t_draft a_t_s a_t_images a_t_kept a_t_notes a_t_players a_t_answers a_t_room a_t_inRest s.heap.size t_trace t_typed t_noted t_at t_sort t_start t_value t_told t_s t_notes t_players (-1 : Int32) r17 t_players_18 e19) (cwV 1 hts gX12_listen_X12_placesBy rfl rfl rfl (by decide +kernel) ⟨Nat.le_of_ble_eq_true rfl, Nat.le_of_ble_eq_true rfl⟩) hK hN hP hD hS hA [0, 1, 2, 3, 4] [5] (by decide) rfl rfl (by decide) (by decide) rfl (va_recv hK hP (ci := 12) (q0 := 0) rfl rfl) rfl hl.1 rfl (Nat.le_of_ble_eq_true rfl) dX12_listen_2 ⟨Nat.zero_le _, Nat.zero_le _⟩ [1, 2, 3, 4, 5, 0] (by decide) rfl (fun H locs hP hD hS => ?_)
  refine lv_istore_n (lv' := [(1, .int r17), (0, .ref a_t)]) hx hb dX12_listen_5 rfl hl (by decide) rfl (fun ls hl => ?_)
  refine lv_bipush (v := (-9 : Int32)) hx hb dX12_listen_6 (by decide) ?_
  refine lv_istore_n (lv' := [(2, .int (-9 : Int32)), (1, .int r17), (0, .ref a_t)]) hx hb dX12_listen_8 rfl hl (by decide) rfl (fun ls hl => ?_)
  refine lv_iload_n hx hb dX12_listen_9 rfl (lv_at hl 1 rfl) ?_
  refine lv_iconst (v := (1 : Int32)) hx hb dX12_listen_10 (by decide) ?_
  refine lv_iadd hx hb dX12_listen_11 ?_
  refine lv_istore_n (lv' := [(3, .int (r17 + (1 : Int32))), (2, .int (-9 : Int32)), (1, .int r17), (0, .ref a_t)]) hx hb dX12_listen_12 rfl hl (by decide) rfl (fun ls hl => ?_)
  refine lv_aload_n hx hb dX12_listen_13 rfl (lv_at hl 3 rfl) ?_
  obtain ⟨r20, e21, h⟩ := jx_b1_of h
  refine jx_cV (o := some (.int r20)) (As := []) (rest := []) (b := a_t) ⟨hx, hb, hml, hown, hts⟩ (ct_X12_length l D cI cZ cO a_t a_t_text a_t_told a_t_draft a_t_s a_t_images a_t_kept a_t_notes a_t_players a_t_answers a_t_room a_t_inRest t_trace t_typed t_noted t_at t_sort t_start t_value t_told t_s r20 e21) (cwV 0 hts gX12_listen_X12_length rfl rfl rfl (by decide +kernel) ⟨Nat.le_of_ble_eq_true rfl, Nat.le_of_ble_eq_true rfl⟩) hK hN hP [0, 1, 2] rfl (va_recv hK hP (ci := 12) (q0 := 0) rfl rfl) rfl hl.1 rfl (Nat.le_of_ble_eq_true rfl) dX12_listen_14 ⟨Nat.zero_le _, Nat.zero_le _⟩ ?_
  refine lv_istore (lv' := [(4, .int r20), (3, .int (r17 + (1 : Int32))), (2, .int (-9 : Int32)), (1, .int r17), (0, .ref a_t)]) hx hb dX12_listen_17 hl (by decide) rfl (fun ls hl => ?_)
  refine lv_iconst (v := (0 : Int32)) hx hb dX12_listen_19 (by decide) ?_
  refine lv_istore (lv' := [(5, .int (0 : Int32)), (4, .int r20), (3, .int (r17 + (1 : Int32))), (2, .int (-9 : Int32)), (1, .int r17), (0, .ref a_t)]) hx hb dX12_listen_20 hl (by decide) rfl (fun ls hl => ?_)
  exact bl_l22 jx_F r17 (-9 : Int32) (r17 + (1 : Int32)) r20 (0 : Int32) t_players_18 t_answers _ _ _ hP hD hS (lv_sub hl [5, 4, 3, 2, 1, 0] rfl) h
def mi_X12_isRest (t_told : Nat → Int32) (t_s : Nat → Int32) (p1 : Int32) : Option (Int32) := jx_b1 (mi_X12_has (t_s (Int32.toNatClampNeg (3 : Int32))) p1) fun r1 => (if r1 = 0 then (jx_g (jx_in ((22 : Int32) + p1) 36) (if (t_told (Int32.toNatClampNeg ((22 : Int32) + p1))) = (2 : Int32) then (some ((0 : Int32))) else (some ((1 : Int32))))) else (some ((0 : Int32))))
abbrev rm_X12_isRest : Room := { frames := 1, cells := 0, slots := 0, locals := 21 }
set_option maxRecDepth 100000 in
set_option maxHeartbeats 4000000 in
theorem ct_X12_isRest (l : Launch) (D : va_G) (cI cZ cO : ClassId) (a_t a_t_text a_t_told a_t_draft a_t_s a_t_images a_t_kept a_t_notes a_t_players a_t_answers a_t_room a_t_inRest : Nat) (t_trace : Int64) (t_typed : Int32) (t_noted : Int32) (t_at : Int32) (t_sort : Int32) (t_start : Int32) (t_value : Int32) (t_told : Nat → Int32) (t_s : Nat → Int32) (p1 : Int32) (r : Int32) (hm : mi_X12_isRest t_told t_s p1 = some r) : Met l yX12_isRest wsX12_isRest rm_X12_isRest (va_Pc [.ref a_t, .int p1] (jx_R D (jx_T cI cZ cO) [(a_t, .inr (12, [.long t_trace, .ref a_t_text, .int t_typed, .ref a_t_told, .ref a_t_draft, .ref a_t_s, .ref a_t_images, .ref a_t_kept, .ref a_t_notes, .int t_noted, .int t_at, .int t_sort, .int t_start, .int t_value, .ref a_t_players, .ref a_t_answers, .ref a_t_room, .ref a_t_inRest])), (a_t_told, .inl (cI, 36, .inl t_told)), (a_t_s, .inl (cI, 56, .inl t_s))])) (jx_S (some (.int r))) 0 0 (fun _ => False) := by
  refine jx_metR (ty := .boolean) (own := RX12) (cc := cX12_isRest) (maxL := 2) (by decide) rfl rfl (Nat.le_of_ble_eq_true rfl) ?_
  intro p e s m args below meth c Q ls hx hb hml hown hts hK hN hP hl hret
  have hi_X12 : ∀ w ∈ u_ws RX12 TX12 18, w ∈ wsX12_isRest := by decide +kernel
  have hl : lv_has ls 2 [(0, .ref a_t), (1, .int p1)] := hl
  have h := hm
  unfold mi_X12_isRest at h
  refine lv_aload_n hx hb dX12_isRest_0 rfl (lv_at hl 0 rfl) ?_
  refine va_get (D := D) (ci := 12) (v := .ref a_t_s) (C := RX12) (T := TX12) (N := 18) hx hb hts hi_X12 hown hK hP 0 rfl rfl 5 (by decide) (hts (.fieldLink RX12 19 "TriangleRestModel" "s" "[I") (List.mem_of_getElem? (i := 1) rfl)) (fun _ h9 => h9) rfl dX12_isRest_1 ?_
  refine lv_iconst (v := (3 : Int32)) hx hb dX12_isRest_4 (by decide) ?_
  refine va_iald hx hb hK hP 2 0 rfl rfl (jx_in_of (by decide +kernel)) dX12_isRest_5 ?_
  refine lv_iload_n hx hb dX12_isRest_6 rfl (lv_at hl 1 rfl) ?_
  obtain ⟨r1, e2, h⟩ := jx_b1_of h
  refine jx_cS (o := some (.int r1)) (As := [.int (t_s (Int32.toNatClampNeg (3 : Int32))), .int p1]) (rest := []) ⟨hx, hb, hml, hown, hts⟩ (ct_X12_has l (t_s (Int32.toNatClampNeg (3 : Int32))) p1 r1 e2) (va_cwS 2 hts gX12_isRest_X12_has rfl rfl rfl (by decide +kernel) ⟨Nat.le_of_ble_eq_true rfl, Nat.le_of_ble_eq_true rfl⟩) rfl hl.1 rfl (Nat.le_of_ble_eq_true rfl) dX12_isRest_7 ⟨Nat.zero_le _, Nat.zero_le _⟩ ?_
  refine lv_if_ne (tgt := 30) hx hb dX12_isRest_10 (by decide) (fun c3 => ?_) (fun c3 => ?_)
  · have h := jx_f h c3
    refine lv_iconst (v := (0 : Int32)) hx hb dX12_isRest_30 (by decide) ?_
    cases h
    exact hret 31 ls rfl dX12_isRest_31
  · have h := jx_t h c3
    refine lv_aload_n hx hb dX12_isRest_13 rfl (lv_at hl 0 rfl) ?_
    refine va_get (D := D) (ci := 12) (v := .ref a_t_told) (C := RX12) (T := TX12) (N := 18) hx hb hts hi_X12 hown hK hP 0 rfl rfl 3 (by decide) (hts (.fieldLink RX12 13 "TriangleRestModel" "told" "[I") (List.mem_of_getElem? (i := 2) rfl)) (fun _ h9 => h9) rfl dX12_isRest_14 ?_
    refine lv_bipush (v := (22 : Int32)) hx hb dX12_isRest_17 (by decide) ?_
    refine lv_iload_n hx hb dX12_isRest_19 rfl (lv_at hl 1 rfl) ?_
    refine lv_iadd hx hb dX12_isRest_20 ?_
    obtain ⟨g4, h⟩ := jx_g_of h
    refine va_iald hx hb hK hP 1 0 rfl rfl (jx_in_of g4) dX12_isRest_21 ?_
    refine lv_iconst (v := (2 : Int32)) hx hb dX12_isRest_22 (by decide) ?_
    refine lv_icmp_eq (tgt := 30) hx hb dX12_isRest_23 (by decide) (fun c5 => ?_) (fun c5 => ?_)
    · have h := jx_t h c5
      refine lv_iconst (v := (0 : Int32)) hx hb dX12_isRest_30 (by decide) ?_
      cases h
      exact hret 31 ls rfl dX12_isRest_31
    · have h := jx_f h c5
      refine lv_iconst (v := (1 : Int32)) hx hb dX12_isRest_26 (by decide) ?_
      refine lv_goto (tgt := 31) hx hb dX12_isRest_27 (by decide) ?_
      cases h
      exact hret 31 ls rfl dX12_isRest_31
def mi_X12_fits_b269 (x2 : Int32) (t_room : Nat → Int32) (t_inRest : Nat → Int32) : Option (Int32 × (Nat → Int32) × (Nat → Int32)) := if x2 < 0 then (some ((0 : Int32), t_room, t_inRest)) else (some ((1 : Int32), t_room, t_inRest))
def mi_X12_fits_b266 (k_l50 : Int32 → (Nat → Int32) → (Nat → Int32) → Option (Int32 × (Nat → Int32) × (Nat → Int32))) (x2 : Int32) (t_room : Nat → Int32) (t_inRest : Nat → Int32) : Option (Int32 × (Nat → Int32) × (Nat → Int32)) := k_l50 x2 t_room t_inRest
def mi_X12_fits_b242 (t_told : Nat → Int32) (k_l50 : Int32 → (Nat → Int32) → (Nat → Int32) → Option (Int32 × (Nat → Int32) × (Nat → Int32))) (x5 : Int32) (k0 : Int32) (k1 : Int32) (t_room : Nat → Int32) (t_inRest : Nat → Int32) : Option (Int32 × (Nat → Int32) × (Nat → Int32)) := if x5 = 0 then (mi_X12_fits_b266 k_l50 (k0 + k1) t_room t_inRest) else (if (t_told (Int32.toNatClampNeg (1 : Int32))) ≤ (k0 + k1) then (mi_X12_fits_b266 k_l50 (k0 + k1) t_room t_inRest) else (jx_g (jx_in (k0 + k1) 6) (mi_X12_fits_b266 k_l50 (k0 + k1) t_room (upd t_inRest (Int32.toNatClampNeg (k0 + k1)) (-1 : Int32)))))
def mi_X12_fits_b231 (t_told : Nat → Int32) (k_l50 : Int32 → (Nat → Int32) → (Nat → Int32) → Option (Int32 × (Nat → Int32) × (Nat → Int32))) (x2 : Int32) (x5 : Int32) (t_room : Nat → Int32) (t_inRest : Nat → Int32) : Option (Int32 × (Nat → Int32) × (Nat → Int32)) := if x5 = 0 then (mi_X12_fits_b242 t_told k_l50 x5 x2 (-1 : Int32) t_room t_inRest) else (mi_X12_fits_b242 t_told k_l50 x5 x2 (1 : Int32) t_room t_inRest)
def mi_X12_fits_b193 (t_told : Nat → Int32) (k_l50 : Int32 → (Nat → Int32) → (Nat → Int32) → Option (Int32 × (Nat → Int32) × (Nat → Int32))) (x2 : Int32) (x3 : Int32) (x4 : Int32) (k0 : Int32) (t_room : Nat → Int32) (t_inRest : Nat → Int32) : Option (Int32 × (Nat → Int32) × (Nat → Int32)) := jx_g (jx_in x2 6) (if k0 = 0 then (mi_X12_fits_b231 t_told k_l50 x2 k0 t_room (upd t_inRest (Int32.toNatClampNeg x2) x4)) else (if x3 = 0 then (mi_X12_fits_b231 t_told k_l50 x2 k0 t_room (upd t_inRest (Int32.toNatClampNeg x2) x4)) else (jx_g (jx_in x4 8) (jx_g (jx_in ((30 : Int32) + x2) 36) (jx_g (jx_in x4 8) (mi_X12_fits_b231 t_told k_l50 x2 k0 (upd t_room (Int32.toNatClampNeg x4) ((t_room (Int32.toNatClampNeg x4)) - (t_told (Int32.toNatClampNeg ((30 : Int32) + x2))))) (upd t_inRest (Int32.toNatClampNeg x2) x4)))))))
def mi_X12_fits_b156 (t_told : Nat → Int32) (k_l50 : Int32 → (Nat → Int32) → (Nat → Int32) → Option (Int32 × (Nat → Int32) × (Nat → Int32))) (x2 : Int32) (x3 : Int32) (x4 : Int32) (t_room : Nat → Int32) (t_inRest : Nat → Int32) : Option (Int32 × (Nat → Int32) × (Nat → Int32)) := if x3 = 0 then (jx_g (jx_in x2 6) (if 0 ≤ (t_inRest (Int32.toNatClampNeg x2)) then (mi_X12_fits_b193 t_told k_l50 x2 x3 x4 (0 : Int32) t_room t_inRest) else (mi_X12_fits_b193 t_told k_l50 x2 x3 x4 (1 : Int32) t_room t_inRest))) else (if (t_told (Int32.toNatClampNeg (0 : Int32))) ≤ x4 then (mi_X12_fits_b193 t_told k_l50 x2 x3 x4 (0 : Int32) t_room t_inRest) else (mi_X12_fits_b193 t_told k_l50 x2 x3 x4 (1 : Int32) t_room t_inRest))
def mi_X12_fits_l116 (t_told : Nat → Int32) (k_l50 : Int32 → (Nat → Int32) → (Nat → Int32) → Option (Int32 × (Nat → Int32) × (Nat → Int32))) : Nat → Int32 → Int32 → Int32 → (Nat → Int32) → (Nat → Int32) → Option (Int32 × (Nat → Int32) × (Nat → Int32))
  | 0, _, _, _, _, _ => none
  | n + 1, x2, x3, x4, t_room, t_inRest => if x3 = 0 then (mi_X12_fits_b156 t_told k_l50 x2 x3 x4 t_room t_inRest) else (if (t_told (Int32.toNatClampNeg (0 : Int32))) ≤ x4 then (mi_X12_fits_b156 t_told k_l50 x2 x3 x4 t_room t_inRest) else (jx_g (jx_in x4 8) (jx_g (jx_in ((30 : Int32) + x2) 36) (if (t_told (Int32.toNatClampNeg ((30 : Int32) + x2))) ≤ (t_room (Int32.toNatClampNeg x4)) then (mi_X12_fits_b156 t_told k_l50 x2 x3 x4 t_room t_inRest) else (mi_X12_fits_l116 t_told k_l50 n x2 x3 (x4 + 1) t_room t_inRest)))))
def mi_X12_fits_b106 (t_told : Nat → Int32) (k_l50 : Int32 → (Nat → Int32) → (Nat → Int32) → Option (Int32 × (Nat → Int32) × (Nat → Int32))) (x2 : Int32) (x3 : Int32) (t_room : Nat → Int32) (t_inRest : Nat → Int32) : Option (Int32 × (Nat → Int32) × (Nat → Int32)) := jx_g (jx_in x2 6) (mi_X12_fits_l116 t_told k_l50 jx_F x2 x3 ((t_inRest (Int32.toNatClampNeg x2)) + (1 : Int32)) t_room t_inRest)
def mi_X12_fits_l50 (t_told : Nat → Int32) (p1 : Int32) : Nat → Int32 → (Nat → Int32) → (Nat → Int32) → Option (Int32 × (Nat → Int32) × (Nat → Int32))
  | 0, _, _, _ => none
  | n + 1, x2, t_room, t_inRest => if x2 < 0 then (mi_X12_fits_b269 x2 t_room t_inRest) else (if (t_told (Int32.toNatClampNeg (1 : Int32))) ≤ x2 then (mi_X12_fits_b269 x2 t_room t_inRest) else (jx_b1 (mi_X12_has p1 x2) fun r10 => (if r10 = 0 then (mi_X12_fits_b106 t_told (mi_X12_fits_l50 t_told p1 n) x2 r10 t_room t_inRest) else (jx_g (jx_in x2 6) (if (t_inRest (Int32.toNatClampNeg x2)) < 0 then (mi_X12_fits_b106 t_told (mi_X12_fits_l50 t_told p1 n) x2 r10 t_room t_inRest) else (jx_g (jx_in x2 6) (jx_g (jx_in (t_inRest (Int32.toNatClampNeg x2)) 8) (jx_g (jx_in ((30 : Int32) + x2) 36) (jx_g (jx_in (t_inRest (Int32.toNatClampNeg x2)) 8) (mi_X12_fits_b106 t_told (mi_X12_fits_l50 t_told p1 n) x2 r10 (upd t_room (Int32.toNatClampNeg (t_inRest (Int32.toNatClampNeg x2))) ((t_room (Int32.toNatClampNeg (t_inRest (Int32.toNatClampNeg x2)))) + (t_told (Int32.toNatClampNeg ((30 : Int32) + x2))))) t_inRest))))))))))
def mi_X12_fits_b34 (k_l2 : Int32 → (Nat → Int32) → (Nat → Int32) → Option (Int32 × (Nat → Int32) × (Nat → Int32))) (x2 : Int32) (k1 : Int32) (k2 : Int32) (t_room : Nat → Int32) (t_inRest : Nat → Int32) : Option (Int32 × (Nat → Int32) × (Nat → Int32)) := jx_g (jx_in k1 8) (k_l2 (x2 + 1) (upd t_room (Int32.toNatClampNeg k1) k2) t_inRest)
def mi_X12_fits_l2 (t_told : Nat → Int32) (t_s : Nat → Int32) (p1 : Int32) : Nat → Int32 → (Nat → Int32) → (Nat → Int32) → Option (Int32 × (Nat → Int32) × (Nat → Int32))
  | 0, _, _, _ => none
  | n + 1, x2, t_room, t_inRest => if (t_told (Int32.toNatClampNeg (0 : Int32))) ≤ x2 then (mi_X12_fits_l50 t_told p1 jx_F (0 : Int32) t_room (upd t_inRest (Int32.toNatClampNeg (0 : Int32)) (-1 : Int32))) else (jx_b1 (mi_X12_isRest t_told t_s x2) fun r2 => (if r2 = 0 then (mi_X12_fits_b34 (mi_X12_fits_l2 t_told t_s p1 n) x2 x2 (0 : Int32) t_room t_inRest) else (jx_b1 (mi_X12_minutes t_told x2) fun r5 => (mi_X12_fits_b34 (mi_X12_fits_l2 t_told t_s p1 n) x2 x2 r5 t_room t_inRest))))
def mi_X12_fits (t_told : Nat → Int32) (t_s : Nat → Int32) (t_room : Nat → Int32) (t_inRest : Nat → Int32) (p1 : Int32) : Option (Int32 × (Nat → Int32) × (Nat → Int32)) := mi_X12_fits_l2 t_told t_s p1 jx_F (0 : Int32) t_room t_inRest
abbrev rm_X12_fits : Room := { frames := 2, cells := 0, slots := 0, locals := 42 }
set_option maxRecDepth 100000 in
set_option maxHeartbeats 4000000 in
theorem ct_X12_fits (l : Launch) (D : va_G) (cI cZ cO : ClassId) (a_t a_t_text a_t_told a_t_draft a_t_s a_t_images a_t_kept a_t_notes a_t_players a_t_answers a_t_room a_t_inRest : Nat) (sz : Nat) (t_trace : Int64) (t_typed : Int32) (t_noted : Int32) (t_at : Int32) (t_sort : Int32) (t_start : Int32) (t_value : Int32) (t_told : Nat → Int32) (t_s : Nat → Int32) (t_room : Nat → Int32) (t_inRest : Nat → Int32) (p1 : Int32) (r : Int32) (z_t_room : Nat → Int32) (z_t_inRest : Nat → Int32) (hm : mi_X12_fits t_told t_s t_room t_inRest p1 = some (r, z_t_room, z_t_inRest)) : Met l yX12_fits wsX12_fits rm_X12_fits (va_Pc [.ref a_t, .int p1] (jx_W D (jx_T cI cZ cO) sz [(a_t, .inr (12, [.long t_trace, .ref a_t_text, .int t_typed, .ref a_t_told, .ref a_t_draft, .ref a_t_s, .ref a_t_images, .ref a_t_kept, .ref a_t_notes, .int t_noted, .int t_at, .int t_sort, .int t_start, .int t_value, .ref a_t_players, .ref a_t_answers, .ref a_t_room, .ref a_t_inRest])), (a_t_told, .inl (cI, 36, .inl t_told)), (a_t_s, .inl (cI, 56, .inl t_s)), (a_t_room, .inl (cI, 8, .inl t_room)), (a_t_inRest, .inl (cI, 6, .inl t_inRest))])) (jx_Q (some (.int r)) D [(a_t, .inr (12, [.long t_trace, .ref a_t_text, .int t_typed, .ref a_t_told, .ref a_t_draft, .ref a_t_s, .ref a_t_images, .ref a_t_kept, .ref a_t_notes, .int t_noted, .int t_at, .int t_sort, .int t_start, .int t_value, .ref a_t_players, .ref a_t_answers, .ref a_t_room, .ref a_t_inRest])), (a_t_told, .inl (cI, 36, .inl t_told)), (a_t_s, .inl (cI, 56, .inl t_s)), (a_t_room, .inl (cI, 8, .inl z_t_room)), (a_t_inRest, .inl (cI, 6, .inl z_t_inRest))] (va_A [(a_t, .inr (12, [.long t_trace, .ref a_t_text, .int t_typed, .ref a_t_told, .ref a_t_draft, .ref a_t_s, .ref a_t_images, .ref a_t_kept, .ref a_t_notes, .int t_noted, .int t_at, .int t_sort, .int t_start, .int t_value, .ref a_t_players, .ref a_t_answers, .ref a_t_room, .ref a_t_inRest])), (a_t_told, .inl (cI, 36, .inl t_told)), (a_t_s, .inl (cI, 56, .inl t_s)), (a_t_room, .inl (cI, 8, .inl t_room)), (a_t_inRest, .inl (cI, 6, .inl t_inRest))] sz)) 0 0 (va_A [(a_t, .inr (12, [.long t_trace, .ref a_t_text, .int t_typed, .ref a_t_told, .ref a_t_draft, .ref a_t_s, .ref a_t_images, .ref a_t_kept, .ref a_t_notes, .int t_noted, .int t_at, .int t_sort, .int t_start, .int t_value, .ref a_t_players, .ref a_t_answers, .ref a_t_room, .ref a_t_inRest])), (a_t_told, .inl (cI, 36, .inl t_told)), (a_t_s, .inl (cI, 56, .inl t_s)), (a_t_room, .inl (cI, 8, .inl t_room)), (a_t_inRest, .inl (cI, 6, .inl t_inRest))] sz) := by
  refine jx_metW (ty := .boolean) (own := RX12) (cc := cX12_fits) (maxL := 6) (by decide) rfl rfl (Nat.le_of_ble_eq_true rfl) ?_
  intro p e s m args below meth c Q ls A hx hb hml hown hts hK hN hA hP hD hS hl hret
  have hi_X12 : ∀ w ∈ u_ws RX12 TX12 18, w ∈ wsX12_fits := by decide +kernel
  have hl : lv_has ls 6 [(0, .ref a_t), (1, .int p1)] := hl
  have bl_b269 : ∀ (x2 : Int32) (t_room : Nat → Int32) (t_inRest : Nat → Int32) (H : Heap) (locs : List Loc) (ls : Array Slot), va_P D vwCl [(a_t, .inr (12, [.long t_trace, .ref a_t_text, .int t_typed, .ref a_t_told, .ref a_t_draft, .ref a_t_s, .ref a_t_images, .ref a_t_kept, .ref a_t_notes, .int t_noted, .int t_at, .int t_sort, .int t_start, .int t_value, .ref a_t_players, .ref a_t_answers, .ref a_t_room, .ref a_t_inRest])), (a_t_told, .inl (cI, 36, .inl t_told)), (a_t_s, .inl (cI, 56, .inl t_s)), (a_t_room, .inl (cI, 8, .inl t_room)), (a_t_inRest, .inl (cI, 6, .inl t_inRest))] H → va_D A [(a_t, .inr (12, [.long t_trace, .ref a_t_text, .int t_typed, .ref a_t_told, .ref a_t_draft, .ref a_t_s, .ref a_t_images, .ref a_t_kept, .ref a_t_notes, .int t_noted, .int t_at, .int t_sort, .int t_start, .int t_value, .ref a_t_players, .ref a_t_answers, .ref a_t_room, .ref a_t_inRest])), (a_t_told, .inl (cI, 36, .inl t_told)), (a_t_s, .inl (cI, 56, .inl t_s)), (a_t_room, .inl (cI, 8, .inl t_room)), (a_t_inRest, .inl (cI, 6, .inl t_inRest))] → va_S A s.heap H locs → lv_has ls 6 [(2, .int x2)] → mi_X12_fits_b269 x2 t_room t_inRest = some (r, z_t_room, z_t_inRest) → W p l e (headSpec wsX12_fits rm_X12_fits).room s m args below meth c H locs 0 0 Q (F0 m 269 ls []) := by
    intro x2 t_room t_inRest H locs ls hP hD hS hl h
    unfold mi_X12_fits_b269 at h
    refine lv_iload_n hx hb dX12_fits_269 rfl (lv_at hl 0 rfl) ?_
    refine lv_if_lt (tgt := 277) hx hb dX12_fits_270 (by decide) (fun c39 => ?_) (fun c39 => ?_)
    · have h := jx_t h c39
      refine lv_iconst (v := (0 : Int32)) hx hb dX12_fits_277 (by decide) ?_
      cases h
      exact hret 278 ls _ _ hP hD hS rfl dX12_fits_278
    · have h := jx_f h c39
      refine lv_iconst (v := (1 : Int32)) hx hb dX12_fits_273 (by decide) ?_
      refine lv_goto (tgt := 278) hx hb dX12_fits_274 (by decide) ?_
      cases h
      exact hret 278 ls _ _ hP hD hS rfl dX12_fits_278
  have bl_l50 : ∀ (n : Nat) (x2 : Int32) (t_room : Nat → Int32) (t_inRest : Nat → Int32) (H : Heap) (locs : List Loc) (ls : Array Slot), va_P D vwCl [(a_t, .inr (12, [.long t_trace, .ref a_t_text, .int t_typed, .ref a_t_told, .ref a_t_draft, .ref a_t_s, .ref a_t_images, .ref a_t_kept, .ref a_t_notes, .int t_noted, .int t_at, .int t_sort, .int t_start, .int t_value, .ref a_t_players, .ref a_t_answers, .ref a_t_room, .ref a_t_inRest])), (a_t_told, .inl (cI, 36, .inl t_told)), (a_t_s, .inl (cI, 56, .inl t_s)), (a_t_room, .inl (cI, 8, .inl t_room)), (a_t_inRest, .inl (cI, 6, .inl t_inRest))] H → va_D A [(a_t, .inr (12, [.long t_trace, .ref a_t_text, .int t_typed, .ref a_t_told, .ref a_t_draft, .ref a_t_s, .ref a_t_images, .ref a_t_kept, .ref a_t_notes, .int t_noted, .int t_at, .int t_sort, .int t_start, .int t_value, .ref a_t_players, .ref a_t_answers, .ref a_t_room, .ref a_t_inRest])), (a_t_told, .inl (cI, 36, .inl t_told)), (a_t_s, .inl (cI, 56, .inl t_s)), (a_t_room, .inl (cI, 8, .inl t_room)), (a_t_inRest, .inl (cI, 6, .inl t_inRest))] → va_S A s.heap H locs → lv_has ls 6 [(0, .ref a_t), (1, .int p1), (2, .int x2)] → mi_X12_fits_l50 t_told p1 n x2 t_room t_inRest = some (r, z_t_room, z_t_inRest) → W p l e (headSpec wsX12_fits rm_X12_fits).room s m args below meth c H locs 0 0 Q (F0 m 50 ls []) := by
    intro n
    induction n with
    | zero =>
      intro x2 t_room t_inRest H locs ls hP hD hS hl h
      rw [mi_X12_fits_l50] at h
      cases h
    | succ n_l50 ih_l50 =>
      have bl_b266 : ∀ (x2 : Int32) (t_room : Nat → Int32) (t_inRest : Nat → Int32) (H : Heap) (locs : List Loc) (ls : Array Slot), va_P D vwCl [(a_t, .inr (12, [.long t_trace, .ref a_t_text, .int t_typed, .ref a_t_told, .ref a_t_draft, .ref a_t_s, .ref a_t_images, .ref a_t_kept, .ref a_t_notes, .int t_noted, .int t_at, .int t_sort, .int t_start, .int t_value, .ref a_t_players, .ref a_t_answers, .ref a_t_room, .ref a_t_inRest])), (a_t_told, .inl (cI, 36, .inl t_told)), (a_t_s, .inl (cI, 56, .inl t_s)), (a_t_room, .inl (cI, 8, .inl t_room)), (a_t_inRest, .inl (cI, 6, .inl t_inRest))] H → va_D A [(a_t, .inr (12, [.long t_trace, .ref a_t_text, .int t_typed, .ref a_t_told, .ref a_t_draft, .ref a_t_s, .ref a_t_images, .ref a_t_kept, .ref a_t_notes, .int t_noted, .int t_at, .int t_sort, .int t_start, .int t_value, .ref a_t_players, .ref a_t_answers, .ref a_t_room, .ref a_t_inRest])), (a_t_told, .inl (cI, 36, .inl t_told)), (a_t_s, .inl (cI, 56, .inl t_s)), (a_t_room, .inl (cI, 8, .inl t_room)), (a_t_inRest, .inl (cI, 6, .inl t_inRest))] → va_S A s.heap H locs → lv_has ls 6 [(0, .ref a_t), (1, .int p1), (2, .int x2)] → mi_X12_fits_b266 (mi_X12_fits_l50 t_told p1 n_l50) x2 t_room t_inRest = some (r, z_t_room, z_t_inRest) → W p l e (headSpec wsX12_fits rm_X12_fits).room s m args below meth c H locs 0 0 Q (F0 m 266 ls []) := by
        intro x2 t_room t_inRest H locs ls hP hD hS hl h
        unfold mi_X12_fits_b266 at h
        refine lv_goto (tgt := 50) hx hb dX12_fits_266 (by decide) ?_
        exact ih_l50 x2 t_room t_inRest _ _ _ hP hD hS (lv_sub hl [0, 1, 2] rfl) h
      have bl_b242 : ∀ (x5 : Int32) (k0 : Int32) (k1 : Int32) (t_room : Nat → Int32) (t_inRest : Nat → Int32) (H : Heap) (locs : List Loc) (ls : Array Slot), va_P D vwCl [(a_t, .inr (12, [.long t_trace, .ref a_t_text, .int t_typed, .ref a_t_told, .ref a_t_draft, .ref a_t_s, .ref a_t_images, .ref a_t_kept, .ref a_t_notes, .int t_noted, .int t_at, .int t_sort, .int t_start, .int t_value, .ref a_t_players, .ref a_t_answers, .ref a_t_room, .ref a_t_inRest])), (a_t_told, .inl (cI, 36, .inl t_told)), (a_t_s, .inl (cI, 56, .inl t_s)), (a_t_room, .inl (cI, 8, .inl t_room)), (a_t_inRest, .inl (cI, 6, .inl t_inRest))] H → va_D A [(a_t, .inr (12, [.long t_trace, .ref a_t_text, .int t_typed, .ref a_t_told, .ref a_t_draft, .ref a_t_s, .ref a_t_images, .ref a_t_kept, .ref a_t_notes, .int t_noted, .int t_at, .int t_sort, .int t_start, .int t_value, .ref a_t_players, .ref a_t_answers, .ref a_t_room, .ref a_t_inRest])), (a_t_told, .inl (cI, 36, .inl t_told)), (a_t_s, .inl (cI, 56, .inl t_s)), (a_t_room, .inl (cI, 8, .inl t_room)), (a_t_inRest, .inl (cI, 6, .inl t_inRest))] → va_S A s.heap H locs → lv_has ls 6 [(0, .ref a_t), (1, .int p1), (5, .int x5)] → mi_X12_fits_b242 t_told (mi_X12_fits_l50 t_told p1 n_l50) x5 k0 k1 t_room t_inRest = some (r, z_t_room, z_t_inRest) → W p l e (headSpec wsX12_fits rm_X12_fits).room s m args below meth c H locs 0 0 Q (F0 m 242 ls [.int k1, .int k0]) := by
        intro x5 k0 k1 t_room t_inRest H locs ls hP hD hS hl h
        unfold mi_X12_fits_b242 at h
        refine lv_iadd hx hb dX12_fits_242 ?_
        refine lv_istore_n (lv' := [(2, .int (k0 + k1)), (0, .ref a_t), (1, .int p1), (5, .int x5)]) hx hb dX12_fits_243 rfl hl (by decide) rfl (fun ls hl => ?_)
        refine lv_iload hx hb dX12_fits_244 (lv_at hl 3 rfl) ?_
        refine lv_if_eq (tgt := 266) hx hb dX12_fits_246 (by decide) (fun c36 => ?_) (fun c36 => ?_)
        · have h := jx_t h c36
          exact bl_b266 (k0 + k1) t_room t_inRest _ _ _ hP hD hS (lv_sub hl [1, 2, 0] rfl) h
        · have h := jx_f h c36
          refine lv_iload_n hx hb dX12_fits_249 rfl (lv_at hl 0 rfl) ?_
          refine lv_aload_n hx hb dX12_fits_250 rfl (lv_at hl 1 rfl) ?_
          refine va_get (D := D) (ci := 12) (v := .ref a_t_told) (C := RX12) (T := TX12) (N := 18) hx hb hts hi_X12 hown hK hP 0 rfl rfl 3 (by decide) (hts (.fieldLink RX12 13 "TriangleRestModel" "told" "[I") (List.mem_of_getElem? (i := 1) rfl)) (fun _ h9 => h9) rfl dX12_fits_251 ?_
          refine lv_iconst (v := (1 : Int32)) hx hb dX12_fits_254 (by decide) ?_
          refine va_iald hx hb hK hP 1 0 rfl rfl (jx_in_of (by decide +kernel)) dX12_fits_255 ?_
          refine lv_icmp_ge (tgt := 266) hx hb dX12_fits_256 (by decide) (fun c37 => ?_) (fun c37 => ?_)
          · have h := jx_t h c37
            exact bl_b266 (k0 + k1) t_room t_inRest _ _ _ hP hD hS (lv_sub hl [1, 2, 0] rfl) h
          · have h := jx_f h c37
            refine lv_aload_n hx hb dX12_fits_259 rfl (lv_at hl 1 rfl) ?_
            refine va_get (D := D) (ci := 12) (v := .ref a_t_inRest) (C := RX12) (T := TX12) (N := 18) hx hb hts hi_X12 hown hK hP 0 rfl rfl 17 (by decide) (hts (.fieldLink RX12 41 "TriangleRestModel" "inRest" "[I") (List.mem_of_getElem? (i := 3) rfl)) (fun _ h9 => h9) rfl dX12_fits_260 ?_
            refine lv_iload_n hx hb dX12_fits_263 rfl (lv_at hl 0 rfl) ?_
            refine lv_iconst (v := (-1 : Int32)) hx hb dX12_fits_264 (by decide) ?_
            obtain ⟨g38, h⟩ := jx_g_of h
            refine va_iast hx hb hK hP hD hS 4 0 rfl rfl (jx_in_of g38) dX12_fits_265 (fun H locs hP hD hS => ?_)
            have hP : va_P D vwCl [(a_t, .inr (12, [.long t_trace, .ref a_t_text, .int t_typed, .ref a_t_told, .ref a_t_draft, .ref a_t_s, .ref a_t_images, .ref a_t_kept, .ref a_t_notes, .int t_noted, .int t_at, .int t_sort, .int t_start, .int t_value, .ref a_t_players, .ref a_t_answers, .ref a_t_room, .ref a_t_inRest])), (a_t_told, .inl (cI, 36, .inl t_told)), (a_t_s, .inl (cI, 56, .inl t_s)), (a_t_room, .inl (cI, 8, .inl t_room)), (a_t_inRest, .inl (cI, 6, .inl (upd t_inRest (Int32.toNatClampNeg (k0 + k1)) (-1 : Int32))))] H := hP
            have hD : va_D A [(a_t, .inr (12, [.long t_trace, .ref a_t_text, .int t_typed, .ref a_t_told, .ref a_t_draft, .ref a_t_s, .ref a_t_images, .ref a_t_kept, .ref a_t_notes, .int t_noted, .int t_at, .int t_sort, .int t_start, .int t_value, .ref a_t_players, .ref a_t_answers, .ref a_t_room, .ref a_t_inRest])), (a_t_told, .inl (cI, 36, .inl t_told)), (a_t_s, .inl (cI, 56, .inl t_s)), (a_t_room, .inl (cI, 8, .inl t_room)), (a_t_inRest, .inl (cI, 6, .inl (upd t_inRest (Int32.toNatClampNeg (k0 + k1)) (-1 : Int32))))] := hD
            exact bl_b266 (k0 + k1) t_room (upd t_inRest (Int32.toNatClampNeg (k0 + k1)) (-1 : Int32)) _ _ _ hP hD hS (lv_sub hl [1, 2, 0] rfl) h
      have bl_b231 : ∀ (x2 : Int32) (x5 : Int32) (t_room : Nat → Int32) (t_inRest : Nat → Int32) (H : Heap) (locs : List Loc) (ls : Array Slot), va_P D vwCl [(a_t, .inr (12, [.long t_trace, .ref a_t_text, .int t_typed, .ref a_t_told, .ref a_t_draft, .ref a_t_s, .ref a_t_images, .ref a_t_kept, .ref a_t_notes, .int t_noted, .int t_at, .int t_sort, .int t_start, .int t_value, .ref a_t_players, .ref a_t_answers, .ref a_t_room, .ref a_t_inRest])), (a_t_told, .inl (cI, 36, .inl t_told)), (a_t_s, .inl (cI, 56, .inl t_s)), (a_t_room, .inl (cI, 8, .inl t_room)), (a_t_inRest, .inl (cI, 6, .inl t_inRest))] H → va_D A [(a_t, .inr (12, [.long t_trace, .ref a_t_text, .int t_typed, .ref a_t_told, .ref a_t_draft, .ref a_t_s, .ref a_t_images, .ref a_t_kept, .ref a_t_notes, .int t_noted, .int t_at, .int t_sort, .int t_start, .int t_value, .ref a_t_players, .ref a_t_answers, .ref a_t_room, .ref a_t_inRest])), (a_t_told, .inl (cI, 36, .inl t_told)), (a_t_s, .inl (cI, 56, .inl t_s)), (a_t_room, .inl (cI, 8, .inl t_room)), (a_t_inRest, .inl (cI, 6, .inl t_inRest))] → va_S A s.heap H locs → lv_has ls 6 [(0, .ref a_t), (1, .int p1), (2, .int x2), (5, .int x5)] → mi_X12_fits_b231 t_told (mi_X12_fits_l50 t_told p1 n_l50) x2 x5 t_room t_inRest = some (r, z_t_room, z_t_inRest) → W p l e (headSpec wsX12_fits rm_X12_fits).room s m args below meth c H locs 0 0 Q (F0 m 231 ls []) := by
        intro x2 x5 t_room t_inRest H locs ls hP hD hS hl h
        unfold mi_X12_fits_b231 at h
        refine lv_iload_n hx hb dX12_fits_231 rfl (lv_at hl 2 rfl) ?_
        refine lv_iload hx hb dX12_fits_232 (lv_at hl 3 rfl) ?_
        refine lv_if_eq (tgt := 241) hx hb dX12_fits_234 (by decide) (fun c35 => ?_) (fun c35 => ?_)
        · have h := jx_t h c35
          refine lv_iconst (v := (-1 : Int32)) hx hb dX12_fits_241 (by decide) ?_
          exact bl_b242 x5 x2 (-1 : Int32) t_room t_inRest _ _ _ hP hD hS (lv_sub hl [0, 1, 3] rfl) h
        · have h := jx_f h c35
          refine lv_iconst (v := (1 : Int32)) hx hb dX12_fits_237 (by decide) ?_
          refine lv_goto (tgt := 242) hx hb dX12_fits_238 (by decide) ?_
          exact bl_b242 x5 x2 (1 : Int32) t_room t_inRest _ _ _ hP hD hS (lv_sub hl [0, 1, 3] rfl) h
      have bl_b193 : ∀ (x2 : Int32) (x3 : Int32) (x4 : Int32) (k0 : Int32) (t_room : Nat → Int32) (t_inRest : Nat → Int32) (H : Heap) (locs : List Loc) (ls : Array Slot), va_P D vwCl [(a_t, .inr (12, [.long t_trace, .ref a_t_text, .int t_typed, .ref a_t_told, .ref a_t_draft, .ref a_t_s, .ref a_t_images, .ref a_t_kept, .ref a_t_notes, .int t_noted, .int t_at, .int t_sort, .int t_start, .int t_value, .ref a_t_players, .ref a_t_answers, .ref a_t_room, .ref a_t_inRest])), (a_t_told, .inl (cI, 36, .inl t_told)), (a_t_s, .inl (cI, 56, .inl t_s)), (a_t_room, .inl (cI, 8, .inl t_room)), (a_t_inRest, .inl (cI, 6, .inl t_inRest))] H → va_D A [(a_t, .inr (12, [.long t_trace, .ref a_t_text, .int t_typed, .ref a_t_told, .ref a_t_draft, .ref a_t_s, .ref a_t_images, .ref a_t_kept, .ref a_t_notes, .int t_noted, .int t_at, .int t_sort, .int t_start, .int t_value, .ref a_t_players, .ref a_t_answers, .ref a_t_room, .ref a_t_inRest])), (a_t_told, .inl (cI, 36, .inl t_told)), (a_t_s, .inl (cI, 56, .inl t_s)), (a_t_room, .inl (cI, 8, .inl t_room)), (a_t_inRest, .inl (cI, 6, .inl t_inRest))] → va_S A s.heap H locs → lv_has ls 6 [(0, .ref a_t), (1, .int p1), (2, .int x2), (3, .int x3), (4, .int x4)] → mi_X12_fits_b193 t_told (mi_X12_fits_l50 t_told p1 n_l50) x2 x3 x4 k0 t_room t_inRest = some (r, z_t_room, z_t_inRest) → W p l e (headSpec wsX12_fits rm_X12_fits).room s m args below meth c H locs 0 0 Q (F0 m 193 ls [.int k0]) := by
        intro x2 x3 x4 k0 t_room t_inRest H locs ls hP hD hS hl h
        unfold mi_X12_fits_b193 at h
        refine lv_istore (lv' := [(5, .int k0), (0, .ref a_t), (1, .int p1), (2, .int x2), (3, .int x3), (4, .int x4)]) hx hb dX12_fits_193 hl (by decide) rfl (fun ls hl => ?_)
        refine lv_aload_n hx hb dX12_fits_195 rfl (lv_at hl 1 rfl) ?_
        refine va_get (D := D) (ci := 12) (v := .ref a_t_inRest) (C := RX12) (T := TX12) (N := 18) hx hb hts hi_X12 hown hK hP 0 rfl rfl 17 (by decide) (hts (.fieldLink RX12 41 "TriangleRestModel" "inRest" "[I") (List.mem_of_getElem? (i := 3) rfl)) (fun _ h9 => h9) rfl dX12_fits_196 ?_
        refine lv_iload_n hx hb dX12_fits_199 rfl (lv_at hl 3 rfl) ?_
        refine lv_iload hx hb dX12_fits_200 (lv_at hl 5 rfl) ?_
        obtain ⟨g29, h⟩ := jx_g_of h
        refine va_iast hx hb hK hP hD hS 4 0 rfl rfl (jx_in_of g29) dX12_fits_202 (fun H locs hP hD hS => ?_)
        have hP : va_P D vwCl [(a_t, .inr (12, [.long t_trace, .ref a_t_text, .int t_typed, .ref a_t_told, .ref a_t_draft, .ref a_t_s, .ref a_t_images, .ref a_t_kept, .ref a_t_notes, .int t_noted, .int t_at, .int t_sort, .int t_start, .int t_value, .ref a_t_players, .ref a_t_answers, .ref a_t_room, .ref a_t_inRest])), (a_t_told, .inl (cI, 36, .inl t_told)), (a_t_s, .inl (cI, 56, .inl t_s)), (a_t_room, .inl (cI, 8, .inl t_room)), (a_t_inRest, .inl (cI, 6, .inl (upd t_inRest (Int32.toNatClampNeg x2) x4)))] H := hP
        have hD : va_D A [(a_t, .inr (12, [.long t_trace, .ref a_t_text, .int t_typed, .ref a_t_told, .ref a_t_draft, .ref a_t_s, .ref a_t_images, .ref a_t_kept, .ref a_t_notes, .int t_noted, .int t_at, .int t_sort, .int t_start, .int t_value, .ref a_t_players, .ref a_t_answers, .ref a_t_room, .ref a_t_inRest])), (a_t_told, .inl (cI, 36, .inl t_told)), (a_t_s, .inl (cI, 56, .inl t_s)), (a_t_room, .inl (cI, 8, .inl t_room)), (a_t_inRest, .inl (cI, 6, .inl (upd t_inRest (Int32.toNatClampNeg x2) x4)))] := hD
        refine lv_iload hx hb dX12_fits_203 (lv_at hl 0 rfl) ?_
        refine lv_if_eq (tgt := 231) hx hb dX12_fits_205 (by decide) (fun c30 => ?_) (fun c30 => ?_)
        · have h := jx_t h c30
          exact bl_b231 x2 k0 t_room (upd t_inRest (Int32.toNatClampNeg x2) x4) _ _ _ hP hD hS (lv_sub hl [1, 2, 3, 0] rfl) h
        · have h := jx_f h c30
          refine lv_iload_n hx hb dX12_fits_208 rfl (lv_at hl 4 rfl) ?_
          refine lv_if_eq (tgt := 231) hx hb dX12_fits_209 (by decide) (fun c31 => ?_) (fun c31 => ?_)
          · have h := jx_t h c31
            exact bl_b231 x2 k0 t_room (upd t_inRest (Int32.toNatClampNeg x2) x4) _ _ _ hP hD hS (lv_sub hl [1, 2, 3, 0] rfl) h
          · have h := jx_f h c31
            refine lv_aload_n hx hb dX12_fits_212 rfl (lv_at hl 1 rfl) ?_
            refine va_get (D := D) (ci := 12) (v := .ref a_t_room) (C := RX12) (T := TX12) (N := 18) hx hb hts hi_X12 hown hK hP 0 rfl rfl 16 (by decide) (hts (.fieldLink RX12 38 "TriangleRestModel" "room" "[I") (List.mem_of_getElem? (i := 2) rfl)) (fun _ h9 => h9) rfl dX12_fits_213 ?_
            refine lv_iload hx hb dX12_fits_216 (lv_at hl 5 rfl) ?_
            refine lv_dup2_11 hx hb dX12_fits_218 rfl rfl ?_
            obtain ⟨g32, h⟩ := jx_g_of h
            refine va_iald hx hb hK hP 3 0 rfl rfl (jx_in_of g32) dX12_fits_219 ?_
            refine lv_aload_n hx hb dX12_fits_220 rfl (lv_at hl 1 rfl) ?_
            refine va_get (D := D) (ci := 12) (v := .ref a_t_told) (C := RX12) (T := TX12) (N := 18) hx hb hts hi_X12 hown hK hP 0 rfl rfl 3 (by decide) (hts (.fieldLink RX12 13 "TriangleRestModel" "told" "[I") (List.mem_of_getElem? (i := 1) rfl)) (fun _ h9 => h9) rfl dX12_fits_221 ?_
            refine lv_bipush (v := (30 : Int32)) hx hb dX12_fits_224 (by decide) ?_
            refine lv_iload_n hx hb dX12_fits_226 rfl (lv_at hl 3 rfl) ?_
            refine lv_iadd hx hb dX12_fits_227 ?_
            obtain ⟨g33, h⟩ := jx_g_of h
            refine va_iald hx hb hK hP 1 0 rfl rfl (jx_in_of g33) dX12_fits_228 ?_
            refine lv_isub hx hb dX12_fits_229 ?_
            obtain ⟨g34, h⟩ := jx_g_of h
            refine va_iast hx hb hK hP hD hS 3 0 rfl rfl (jx_in_of g34) dX12_fits_230 (fun H locs hP hD hS => ?_)
            have hP : va_P D vwCl [(a_t, .inr (12, [.long t_trace, .ref a_t_text, .int t_typed, .ref a_t_told, .ref a_t_draft, .ref a_t_s, .ref a_t_images, .ref a_t_kept, .ref a_t_notes, .int t_noted, .int t_at, .int t_sort, .int t_start, .int t_value, .ref a_t_players, .ref a_t_answers, .ref a_t_room, .ref a_t_inRest])), (a_t_told, .inl (cI, 36, .inl t_told)), (a_t_s, .inl (cI, 56, .inl t_s)), (a_t_room, .inl (cI, 8, .inl (upd t_room (Int32.toNatClampNeg x4) ((t_room (Int32.toNatClampNeg x4)) - (t_told (Int32.toNatClampNeg ((30 : Int32) + x2))))))), (a_t_inRest, .inl (cI, 6, .inl (upd t_inRest (Int32.toNatClampNeg x2) x4)))] H := hP
            have hD : va_D A [(a_t, .inr (12, [.long t_trace, .ref a_t_text, .int t_typed, .ref a_t_told, .ref a_t_draft, .ref a_t_s, .ref a_t_images, .ref a_t_kept, .ref a_t_notes, .int t_noted, .int t_at, .int t_sort, .int t_start, .int t_value, .ref a_t_players, .ref a_t_answers, .ref a_t_room, .ref a_t_inRest])), (a_t_told, .inl (cI, 36, .inl t_told)), (a_t_s, .inl (cI, 56, .inl t_s)), (a_t_room, .inl (cI, 8, .inl (upd t_room (Int32.toNatClampNeg x4) ((t_room (Int32.toNatClampNeg x4)) - (t_told (Int32.toNatClampNeg ((30 : Int32) + x2))))))), (a_t_inRest, .inl (cI, 6, .inl (upd t_inRest (Int32.toNatClampNeg x2) x4)))] := hD
            exact bl_b231 x2 k0 (upd t_room (Int32.toNatClampNeg x4) ((t_room (Int32.toNatClampNeg x4)) - (t_told (Int32.toNatClampNeg ((30 : Int32) + x2))))) (upd t_inRest (Int32.toNatClampNeg x2) x4) _ _ _ hP hD hS (lv_sub hl [1, 2, 3, 0] rfl) h
      have bl_b156 : ∀ (x2 : Int32) (x3 : Int32) (x4 : Int32) (t_room : Nat → Int32) (t_inRest : Nat → Int32) (H : Heap) (locs : List Loc) (ls : Array Slot), va_P D vwCl [(a_t, .inr (12, [.long t_trace, .ref a_t_text, .int t_typed, .ref a_t_told, .ref a_t_draft, .ref a_t_s, .ref a_t_images, .ref a_t_kept, .ref a_t_notes, .int t_noted, .int t_at, .int t_sort, .int t_start, .int t_value, .ref a_t_players, .ref a_t_answers, .ref a_t_room, .ref a_t_inRest])), (a_t_told, .inl (cI, 36, .inl t_told)), (a_t_s, .inl (cI, 56, .inl t_s)), (a_t_room, .inl (cI, 8, .inl t_room)), (a_t_inRest, .inl (cI, 6, .inl t_inRest))] H → va_D A [(a_t, .inr (12, [.long t_trace, .ref a_t_text, .int t_typed, .ref a_t_told, .ref a_t_draft, .ref a_t_s, .ref a_t_images, .ref a_t_kept, .ref a_t_notes, .int t_noted, .int t_at, .int t_sort, .int t_start, .int t_value, .ref a_t_players, .ref a_t_answers, .ref a_t_room, .ref a_t_inRest])), (a_t_told, .inl (cI, 36, .inl t_told)), (a_t_s, .inl (cI, 56, .inl t_s)), (a_t_room, .inl (cI, 8, .inl t_room)), (a_t_inRest, .inl (cI, 6, .inl t_inRest))] → va_S A s.heap H locs → lv_has ls 6 [(0, .ref a_t), (1, .int p1), (2, .int x2), (3, .int x3), (4, .int x4)] → mi_X12_fits_b156 t_told (mi_X12_fits_l50 t_told p1 n_l50) x2 x3 x4 t_room t_inRest = some (r, z_t_room, z_t_inRest) → W p l e (headSpec wsX12_fits rm_X12_fits).room s m args below meth c H locs 0 0 Q (F0 m 156 ls []) := by
        intro x2 x3 x4 t_room t_inRest H locs ls hP hD hS hl h
        unfold mi_X12_fits_b156 at h
        refine lv_iload_n hx hb dX12_fits_156 rfl (lv_at hl 3 rfl) ?_
        refine lv_if_eq (tgt := 179) hx hb dX12_fits_157 (by decide) (fun c25 => ?_) (fun c25 => ?_)
        · have h := jx_t h c25
          refine lv_aload_n hx hb dX12_fits_179 rfl (lv_at hl 0 rfl) ?_
          refine va_get (D := D) (ci := 12) (v := .ref a_t_inRest) (C := RX12) (T := TX12) (N := 18) hx hb hts hi_X12 hown hK hP 0 rfl rfl 17 (by decide) (hts (.fieldLink RX12 41 "TriangleRestModel" "inRest" "[I") (List.mem_of_getElem? (i := 3) rfl)) (fun _ h9 => h9) rfl dX12_fits_180 ?_
          refine lv_iload_n hx hb dX12_fits_183 rfl (lv_at hl 2 rfl) ?_
          obtain ⟨g26, h⟩ := jx_g_of h
          refine va_iald hx hb hK hP 4 0 rfl rfl (jx_in_of g26) dX12_fits_184 ?_
          refine lv_if_ge (tgt := 192) hx hb dX12_fits_185 (by decide) (fun c27 => ?_) (fun c27 => ?_)
          · have h := jx_t h c27
            refine lv_iconst (v := (0 : Int32)) hx hb dX12_fits_192 (by decide) ?_
            exact bl_b193 x2 x3 x4 (0 : Int32) t_room t_inRest _ _ _ hP hD hS (lv_sub hl [0, 1, 2, 3, 4] rfl) h
          · have h := jx_f h c27
            refine lv_iconst (v := (1 : Int32)) hx hb dX12_fits_188 (by decide) ?_
            refine lv_goto (tgt := 193) hx hb dX12_fits_189 (by decide) ?_
            exact bl_b193 x2 x3 x4 (1 : Int32) t_room t_inRest _ _ _ hP hD hS (lv_sub hl [0, 1, 2, 3, 4] rfl) h
        · have h := jx_f h c25
          refine lv_iload hx hb dX12_fits_160 (lv_at hl 4 rfl) ?_
          refine lv_aload_n hx hb dX12_fits_162 rfl (lv_at hl 0 rfl) ?_
          refine va_get (D := D) (ci := 12) (v := .ref a_t_told) (C := RX12) (T := TX12) (N := 18) hx hb hts hi_X12 hown hK hP 0 rfl rfl 3 (by decide) (hts (.fieldLink RX12 13 "TriangleRestModel" "told" "[I") (List.mem_of_getElem? (i := 1) rfl)) (fun _ h9 => h9) rfl dX12_fits_163 ?_
          refine lv_iconst (v := (0 : Int32)) hx hb dX12_fits_166 (by decide) ?_
          refine va_iald hx hb hK hP 1 0 rfl rfl (jx_in_of (by decide +kernel)) dX12_fits_167 ?_
          refine lv_icmp_ge (tgt := 175) hx hb dX12_fits_168 (by decide) (fun c28 => ?_) (fun c28 => ?_)
          · have h := jx_t h c28
            refine lv_iconst (v := (0 : Int32)) hx hb dX12_fits_175 (by decide) ?_
            refine lv_goto (tgt := 193) hx hb dX12_fits_176 (by decide) ?_
            exact bl_b193 x2 x3 x4 (0 : Int32) t_room t_inRest _ _ _ hP hD hS (lv_sub hl [0, 1, 2, 3, 4] rfl) h
          · have h := jx_f h c28
            refine lv_iconst (v := (1 : Int32)) hx hb dX12_fits_171 (by decide) ?_
            refine lv_goto (tgt := 193) hx hb dX12_fits_172 (by decide) ?_
            exact bl_b193 x2 x3 x4 (1 : Int32) t_room t_inRest _ _ _ hP hD hS (lv_sub hl [0, 1, 2, 3, 4] rfl) h
      have bl_l116 : ∀ (n : Nat) (x2 : Int32) (x3 : Int32) (x4 : Int32) (t_room : Nat → Int32) (t_inRest : Nat → Int32) (H : Heap) (locs : List Loc) (ls : Array Slot), va_P D vwCl [(a_t, .inr (12, [.long t_trace, .ref a_t_text, .int t_typed, .ref a_t_told, .ref a_t_draft, .ref a_t_s, .ref a_t_images, .ref a_t_kept, .ref a_t_notes, .int t_noted, .int t_at, .int t_sort, .int t_start, .int t_value, .ref a_t_players, .ref a_t_answers, .ref a_t_room, .ref a_t_inRest])), (a_t_told, .inl (cI, 36, .inl t_told)), (a_t_s, .inl (cI, 56, .inl t_s)), (a_t_room, .inl (cI, 8, .inl t_room)), (a_t_inRest, .inl (cI, 6, .inl t_inRest))] H → va_D A [(a_t, .inr (12, [.long t_trace, .ref a_t_text, .int t_typed, .ref a_t_told, .ref a_t_draft, .ref a_t_s, .ref a_t_images, .ref a_t_kept, .ref a_t_notes, .int t_noted, .int t_at, .int t_sort, .int t_start, .int t_value, .ref a_t_players, .ref a_t_answers, .ref a_t_room, .ref a_t_inRest])), (a_t_told, .inl (cI, 36, .inl t_told)), (a_t_s, .inl (cI, 56, .inl t_s)), (a_t_room, .inl (cI, 8, .inl t_room)), (a_t_inRest, .inl (cI, 6, .inl t_inRest))] → va_S A s.heap H locs → lv_has ls 6 [(0, .ref a_t), (1, .int p1), (2, .int x2), (3, .int x3), (4, .int x4)] → mi_X12_fits_l116 t_told (mi_X12_fits_l50 t_told p1 n_l50) n x2 x3 x4 t_room t_inRest = some (r, z_t_room, z_t_inRest) → W p l e (headSpec wsX12_fits rm_X12_fits).room s m args below meth c H locs 0 0 Q (F0 m 116 ls []) := by
        intro n
        induction n with
        | zero =>
          intro x2 x3 x4 t_room t_inRest H locs ls hP hD hS hl h
          rw [mi_X12_fits_l116] at h
          cases h
        | succ n_l116 ih_l116 =>
          intro x2 x3 x4 t_room t_inRest H locs ls hP hD hS hl h
          rw [mi_X12_fits_l116] at h
          refine lv_iload_n hx hb dX12_fits_116 rfl (lv_at hl 3 rfl) ?_
          refine lv_if_eq (tgt := 156) hx hb dX12_fits_117 (by decide) (fun c20 => ?_) (fun c20 => ?_)
          · have h := jx_t h c20
            exact bl_b156 x2 x3 x4 t_room t_inRest _ _ _ hP hD hS (lv_sub hl [0, 1, 2, 3, 4] rfl) h
          · have h := jx_f h c20
            refine lv_iload hx hb dX12_fits_120 (lv_at hl 4 rfl) ?_
            refine lv_aload_n hx hb dX12_fits_122 rfl (lv_at hl 0 rfl) ?_
            refine va_get (D := D) (ci := 12) (v := .ref a_t_told) (C := RX12) (T := TX12) (N := 18) hx hb hts hi_X12 hown hK hP 0 rfl rfl 3 (by decide) (hts (.fieldLink RX12 13 "TriangleRestModel" "told" "[I") (List.mem_of_getElem? (i := 1) rfl)) (fun _ h9 => h9) rfl dX12_fits_123 ?_
            refine lv_iconst (v := (0 : Int32)) hx hb dX12_fits_126 (by decide) ?_
            refine va_iald hx hb hK hP 1 0 rfl rfl (jx_in_of (by decide +kernel)) dX12_fits_127 ?_
            refine lv_icmp_ge (tgt := 156) hx hb dX12_fits_128 (by decide) (fun c21 => ?_) (fun c21 => ?_)
            · have h := jx_t h c21
              exact bl_b156 x2 x3 x4 t_room t_inRest _ _ _ hP hD hS (lv_sub hl [0, 1, 2, 3, 4] rfl) h
            · have h := jx_f h c21
              refine lv_aload_n hx hb dX12_fits_131 rfl (lv_at hl 0 rfl) ?_
              refine va_get (D := D) (ci := 12) (v := .ref a_t_room) (C := RX12) (T := TX12) (N := 18) hx hb hts hi_X12 hown hK hP 0 rfl rfl 16 (by decide) (hts (.fieldLink RX12 38 "TriangleRestModel" "room" "[I") (List.mem_of_getElem? (i := 2) rfl)) (fun _ h9 => h9) rfl dX12_fits_132 ?_
              refine lv_iload hx hb dX12_fits_135 (lv_at hl 4 rfl) ?_
              obtain ⟨g22, h⟩ := jx_g_of h
              refine va_iald hx hb hK hP 3 0 rfl rfl (jx_in_of g22) dX12_fits_137 ?_
              refine lv_aload_n hx hb dX12_fits_138 rfl (lv_at hl 0 rfl) ?_
              refine va_get (D := D) (ci := 12) (v := .ref a_t_told) (C := RX12) (T := TX12) (N := 18) hx hb hts hi_X12 hown hK hP 0 rfl rfl 3 (by decide) (hts (.fieldLink RX12 13 "TriangleRestModel" "told" "[I") (List.mem_of_getElem? (i := 1) rfl)) (fun _ h9 => h9) rfl dX12_fits_139 ?_
              refine lv_bipush (v := (30 : Int32)) hx hb dX12_fits_142 (by decide) ?_
              refine lv_iload_n hx hb dX12_fits_144 rfl (lv_at hl 2 rfl) ?_
              refine lv_iadd hx hb dX12_fits_145 ?_
              obtain ⟨g23, h⟩ := jx_g_of h
              refine va_iald hx hb hK hP 1 0 rfl rfl (jx_in_of g23) dX12_fits_146 ?_
              refine lv_icmp_ge (tgt := 156) hx hb dX12_fits_147 (by decide) (fun c24 => ?_) (fun c24 => ?_)
              · have h := jx_t h c24
                exact bl_b156 x2 x3 x4 t_room t_inRest _ _ _ hP hD hS (lv_sub hl [0, 1, 2, 3, 4] rfl) h
              · have h := jx_f h c24
                refine lv_iinc (v := (x4 + 1)) (lv' := [(4, .int (x4 + 1)), (0, .ref a_t), (1, .int p1), (2, .int x2), (3, .int x3)]) hx hb dX12_fits_150 hl (k := 4) rfl rfl (by decide) rfl (fun ls hl => ?_)
                refine lv_goto (tgt := 116) hx hb dX12_fits_153 (by decide) ?_
                exact ih_l116 x2 x3 (x4 + 1) t_room t_inRest _ _ _ hP hD hS (lv_sub hl [1, 2, 3, 4, 0] rfl) h
      have bl_b106 : ∀ (x2 : Int32) (x3 : Int32) (t_room : Nat → Int32) (t_inRest : Nat → Int32) (H : Heap) (locs : List Loc) (ls : Array Slot), va_P D vwCl [(a_t, .inr (12, [.long t_trace, .ref a_t_text, .int t_typed, .ref a_t_told, .ref a_t_draft, .ref a_t_s, .ref a_t_images, .ref a_t_kept, .ref a_t_notes, .int t_noted, .int t_at, .int t_sort, .int t_start, .int t_value, .ref a_t_players, .ref a_t_answers, .ref a_t_room, .ref a_t_inRest])), (a_t_told, .inl (cI, 36, .inl t_told)), (a_t_s, .inl (cI, 56, .inl t_s)), (a_t_room, .inl (cI, 8, .inl t_room)), (a_t_inRest, .inl (cI, 6, .inl t_inRest))] H → va_D A [(a_t, .inr (12, [.long t_trace, .ref a_t_text, .int t_typed, .ref a_t_told, .ref a_t_draft, .ref a_t_s, .ref a_t_images, .ref a_t_kept, .ref a_t_notes, .int t_noted, .int t_at, .int t_sort, .int t_start, .int t_value, .ref a_t_players, .ref a_t_answers, .ref a_t_room, .ref a_t_inRest])), (a_t_told, .inl (cI, 36, .inl t_told)), (a_t_s, .inl (cI, 56, .inl t_s)), (a_t_room, .inl (cI, 8, .inl t_room)), (a_t_inRest, .inl (cI, 6, .inl t_inRest))] → va_S A s.heap H locs → lv_has ls 6 [(0, .ref a_t), (1, .int p1), (2, .int x2), (3, .int x3)] → mi_X12_fits_b106 t_told (mi_X12_fits_l50 t_told p1 n_l50) x2 x3 t_room t_inRest = some (r, z_t_room, z_t_inRest) → W p l e (headSpec wsX12_fits rm_X12_fits).room s m args below meth c H locs 0 0 Q (F0 m 106 ls []) := by
        intro x2 x3 t_room t_inRest H locs ls hP hD hS hl h
        unfold mi_X12_fits_b106 at h
        refine lv_aload_n hx hb dX12_fits_106 rfl (lv_at hl 0 rfl) ?_
        refine va_get (D := D) (ci := 12) (v := .ref a_t_inRest) (C := RX12) (T := TX12) (N := 18) hx hb hts hi_X12 hown hK hP 0 rfl rfl 17 (by decide) (hts (.fieldLink RX12 41 "TriangleRestModel" "inRest" "[I") (List.mem_of_getElem? (i := 3) rfl)) (fun _ h9 => h9) rfl dX12_fits_107 ?_
        refine lv_iload_n hx hb dX12_fits_110 rfl (lv_at hl 2 rfl) ?_
        obtain ⟨g19, h⟩ := jx_g_of h
        refine va_iald hx hb hK hP 4 0 rfl rfl (jx_in_of g19) dX12_fits_111 ?_
        refine lv_iconst (v := (1 : Int32)) hx hb dX12_fits_112 (by decide) ?_
        refine lv_iadd hx hb dX12_fits_113 ?_
        refine lv_istore (lv' := [(4, .int ((t_inRest (Int32.toNatClampNeg x2)) + (1 : Int32))), (0, .ref a_t), (1, .int p1), (2, .int x2), (3, .int x3)]) hx hb dX12_fits_114 hl (by decide) rfl (fun ls hl => ?_)
        exact bl_l116 jx_F x2 x3 ((t_inRest (Int32.toNatClampNeg x2)) + (1 : Int32)) t_room t_inRest _ _ _ hP hD hS (lv_sub hl [1, 2, 3, 4, 0] rfl) h
      intro x2 t_room t_inRest H locs ls hP hD hS hl h
      rw [mi_X12_fits_l50] at h
      refine lv_iload_n hx hb dX12_fits_50 rfl (lv_at hl 2 rfl) ?_
      refine lv_if_lt (tgt := 269) hx hb dX12_fits_51 (by decide) (fun c8 => ?_) (fun c8 => ?_)
      · have h := jx_t h c8
        exact bl_b269 x2 t_room t_inRest _ _ _ hP hD hS (lv_sub hl [2] rfl) h
      · have h := jx_f h c8
        refine lv_iload_n hx hb dX12_fits_54 rfl (lv_at hl 2 rfl) ?_
        refine lv_aload_n hx hb dX12_fits_55 rfl (lv_at hl 0 rfl) ?_
        refine va_get (D := D) (ci := 12) (v := .ref a_t_told) (C := RX12) (T := TX12) (N := 18) hx hb hts hi_X12 hown hK hP 0 rfl rfl 3 (by decide) (hts (.fieldLink RX12 13 "TriangleRestModel" "told" "[I") (List.mem_of_getElem? (i := 1) rfl)) (fun _ h9 => h9) rfl dX12_fits_56 ?_
        refine lv_iconst (v := (1 : Int32)) hx hb dX12_fits_59 (by decide) ?_
        refine va_iald hx hb hK hP 1 0 rfl rfl (jx_in_of (by decide +kernel)) dX12_fits_60 ?_
        refine lv_icmp_ge (tgt := 269) hx hb dX12_fits_61 (by decide) (fun c9 => ?_) (fun c9 => ?_)
        · have h := jx_t h c9
          exact bl_b269 x2 t_room t_inRest _ _ _ hP hD hS (lv_sub hl [2] rfl) h
        · have h := jx_f h c9
          refine lv_iload_n hx hb dX12_fits_64 rfl (lv_at hl 1 rfl) ?_
          refine lv_iload_n hx hb dX12_fits_65 rfl (lv_at hl 2 rfl) ?_
          obtain ⟨r10, e11, h⟩ := jx_b1_of h
          refine jx_cS (o := some (.int r10)) (As := [.int p1, .int x2]) (rest := []) ⟨hx, hb, hml, hown, hts⟩ (ct_X12_has l p1 x2 r10 e11) (va_cwS 2 hts gX12_fits_X12_has rfl rfl rfl (by decide +kernel) ⟨Nat.le_of_ble_eq_true rfl, Nat.le_of_ble_eq_true rfl⟩) rfl hl.1 rfl (Nat.le_of_ble_eq_true rfl) dX12_fits_66 ⟨Nat.zero_le _, Nat.zero_le _⟩ ?_
          refine lv_istore_n (lv' := [(3, .int r10), (0, .ref a_t), (1, .int p1), (2, .int x2)]) hx hb dX12_fits_69 rfl hl (by decide) rfl (fun ls hl => ?_)
          refine lv_iload_n hx hb dX12_fits_70 rfl (lv_at hl 0 rfl) ?_
          refine lv_if_eq (tgt := 106) hx hb dX12_fits_71 (by decide) (fun c12 => ?_) (fun c12 => ?_)
          · have h := jx_t h c12
            exact bl_b106 x2 r10 t_room t_inRest _ _ _ hP hD hS (lv_sub hl [1, 2, 3, 0] rfl) h
          · have h := jx_f h c12
            refine lv_aload_n hx hb dX12_fits_74 rfl (lv_at hl 1 rfl) ?_
            refine va_get (D := D) (ci := 12) (v := .ref a_t_inRest) (C := RX12) (T := TX12) (N := 18) hx hb hts hi_X12 hown hK hP 0 rfl rfl 17 (by decide) (hts (.fieldLink RX12 41 "TriangleRestModel" "inRest" "[I") (List.mem_of_getElem? (i := 3) rfl)) (fun _ h9 => h9) rfl dX12_fits_75 ?_
            refine lv_iload_n hx hb dX12_fits_78 rfl (lv_at hl 3 rfl) ?_
            obtain ⟨g13, h⟩ := jx_g_of h
            refine va_iald hx hb hK hP 4 0 rfl rfl (jx_in_of g13) dX12_fits_79 ?_
            refine lv_if_lt (tgt := 106) hx hb dX12_fits_80 (by decide) (fun c14 => ?_) (fun c14 => ?_)
            · have h := jx_t h c14
              exact bl_b106 x2 r10 t_room t_inRest _ _ _ hP hD hS (lv_sub hl [1, 2, 3, 0] rfl) h
            · have h := jx_f h c14
              refine lv_aload_n hx hb dX12_fits_83 rfl (lv_at hl 1 rfl) ?_
              refine va_get (D := D) (ci := 12) (v := .ref a_t_room) (C := RX12) (T := TX12) (N := 18) hx hb hts hi_X12 hown hK hP 0 rfl rfl 16 (by decide) (hts (.fieldLink RX12 38 "TriangleRestModel" "room" "[I") (List.mem_of_getElem? (i := 2) rfl)) (fun _ h9 => h9) rfl dX12_fits_84 ?_
              refine lv_aload_n hx hb dX12_fits_87 rfl (lv_at hl 1 rfl) ?_
              refine va_get (D := D) (ci := 12) (v := .ref a_t_inRest) (C := RX12) (T := TX12) (N := 18) hx hb hts hi_X12 hown hK hP 0 rfl rfl 17 (by decide) (hts (.fieldLink RX12 41 "TriangleRestModel" "inRest" "[I") (List.mem_of_getElem? (i := 3) rfl)) (fun _ h9 => h9) rfl dX12_fits_88 ?_
              refine lv_iload_n hx hb dX12_fits_91 rfl (lv_at hl 3 rfl) ?_
              obtain ⟨g15, h⟩ := jx_g_of h
              refine va_iald hx hb hK hP 4 0 rfl rfl (jx_in_of g15) dX12_fits_92 ?_
              refine lv_dup2_11 hx hb dX12_fits_93 rfl rfl ?_
              obtain ⟨g16, h⟩ := jx_g_of h
              refine va_iald hx hb hK hP 3 0 rfl rfl (jx_in_of g16) dX12_fits_94 ?_
              refine lv_aload_n hx hb dX12_fits_95 rfl (lv_at hl 1 rfl) ?_
              refine va_get (D := D) (ci := 12) (v := .ref a_t_told) (C := RX12) (T := TX12) (N := 18) hx hb hts hi_X12 hown hK hP 0 rfl rfl 3 (by decide) (hts (.fieldLink RX12 13 "TriangleRestModel" "told" "[I") (List.mem_of_getElem? (i := 1) rfl)) (fun _ h9 => h9) rfl dX12_fits_96 ?_
              refine lv_bipush (v := (30 : Int32)) hx hb dX12_fits_99 (by decide) ?_
              refine lv_iload_n hx hb dX12_fits_101 rfl (lv_at hl 3 rfl) ?_
              refine lv_iadd hx hb dX12_fits_102 ?_
              obtain ⟨g17, h⟩ := jx_g_of h
              refine va_iald hx hb hK hP 1 0 rfl rfl (jx_in_of g17) dX12_fits_103 ?_
              refine lv_iadd hx hb dX12_fits_104 ?_
              obtain ⟨g18, h⟩ := jx_g_of h
              refine va_iast hx hb hK hP hD hS 3 0 rfl rfl (jx_in_of g18) dX12_fits_105 (fun H locs hP hD hS => ?_)
              have hP : va_P D vwCl [(a_t, .inr (12, [.long t_trace, .ref a_t_text, .int t_typed, .ref a_t_told, .ref a_t_draft, .ref a_t_s, .ref a_t_images, .ref a_t_kept, .ref a_t_notes, .int t_noted, .int t_at, .int t_sort, .int t_start, .int t_value, .ref a_t_players, .ref a_t_answers, .ref a_t_room, .ref a_t_inRest])), (a_t_told, .inl (cI, 36, .inl t_told)), (a_t_s, .inl (cI, 56, .inl t_s)), (a_t_room, .inl (cI, 8, .inl (upd t_room (Int32.toNatClampNeg (t_inRest (Int32.toNatClampNeg x2))) ((t_room (Int32.toNatClampNeg (t_inRest (Int32.toNatClampNeg x2)))) + (t_told (Int32.toNatClampNeg ((30 : Int32) + x2))))))), (a_t_inRest, .inl (cI, 6, .inl t_inRest))] H := hP
              have hD : va_D A [(a_t, .inr (12, [.long t_trace, .ref a_t_text, .int t_typed, .ref a_t_told, .ref a_t_draft, .ref a_t_s, .ref a_t_images, .ref a_t_kept, .ref a_t_notes, .int t_noted, .int t_at, .int t_sort, .int t_start, .int t_value, .ref a_t_players, .ref a_t_answers, .ref a_t_room, .ref a_t_inRest])), (a_t_told, .inl (cI, 36, .inl t_told)), (a_t_s, .inl (cI, 56, .inl t_s)), (a_t_room, .inl (cI, 8, .inl (upd t_room (Int32.toNatClampNeg (t_inRest (Int32.toNatClampNeg x2))) ((t_room (Int32.toNatClampNeg (t_inRest (Int32.toNatClampNeg x2)))) + (t_told (Int32.toNatClampNeg ((30 : Int32) + x2))))))), (a_t_inRest, .inl (cI, 6, .inl t_inRest))] := hD
              exact bl_b106 x2 r10 (upd t_room (Int32.toNatClampNeg (t_inRest (Int32.toNatClampNeg x2))) ((t_room (Int32.toNatClampNeg (t_inRest (Int32.toNatClampNeg x2)))) + (t_told (Int32.toNatClampNeg ((30 : Int32) + x2))))) t_inRest _ _ _ hP hD hS (lv_sub hl [1, 2, 3, 0] rfl) h
  have bl_l2 : ∀ (n : Nat) (x2 : Int32) (t_room : Nat → Int32) (t_inRest : Nat → Int32) (H : Heap) (locs : List Loc) (ls : Array Slot), va_P D vwCl [(a_t, .inr (12, [.long t_trace, .ref a_t_text, .int t_typed, .ref a_t_told, .ref a_t_draft, .ref a_t_s, .ref a_t_images, .ref a_t_kept, .ref a_t_notes, .int t_noted, .int t_at, .int t_sort, .int t_start, .int t_value, .ref a_t_players, .ref a_t_answers, .ref a_t_room, .ref a_t_inRest])), (a_t_told, .inl (cI, 36, .inl t_told)), (a_t_s, .inl (cI, 56, .inl t_s)), (a_t_room, .inl (cI, 8, .inl t_room)), (a_t_inRest, .inl (cI, 6, .inl t_inRest))] H → va_D A [(a_t, .inr (12, [.long t_trace, .ref a_t_text, .int t_typed, .ref a_t_told, .ref a_t_draft, .ref a_t_s, .ref a_t_images, .ref a_t_kept, .ref a_t_notes, .int t_noted, .int t_at, .int t_sort, .int t_start, .int t_value, .ref a_t_players, .ref a_t_answers, .ref a_t_room, .ref a_t_inRest])), (a_t_told, .inl (cI, 36, .inl t_told)), (a_t_s, .inl (cI, 56, .inl t_s)), (a_t_room, .inl (cI, 8, .inl t_room)), (a_t_inRest, .inl (cI, 6, .inl t_inRest))] → va_S A s.heap H locs → lv_has ls 6 [(0, .ref a_t), (1, .int p1), (2, .int x2)] → mi_X12_fits_l2 t_told t_s p1 n x2 t_room t_inRest = some (r, z_t_room, z_t_inRest) → W p l e (headSpec wsX12_fits rm_X12_fits).room s m args below meth c H locs 0 0 Q (F0 m 2 ls []) := by
    intro n
    induction n with
    | zero =>
      intro x2 t_room t_inRest H locs ls hP hD hS hl h
      rw [mi_X12_fits_l2] at h
      cases h
    | succ n_l2 ih_l2 =>
      have bl_b34 : ∀ (x2 : Int32) (k1 : Int32) (k2 : Int32) (t_room : Nat → Int32) (t_inRest : Nat → Int32) (H : Heap) (locs : List Loc) (ls : Array Slot), va_P D vwCl [(a_t, .inr (12, [.long t_trace, .ref a_t_text, .int t_typed, .ref a_t_told, .ref a_t_draft, .ref a_t_s, .ref a_t_images, .ref a_t_kept, .ref a_t_notes, .int t_noted, .int t_at, .int t_sort, .int t_start, .int t_value, .ref a_t_players, .ref a_t_answers, .ref a_t_room, .ref a_t_inRest])), (a_t_told, .inl (cI, 36, .inl t_told)), (a_t_s, .inl (cI, 56, .inl t_s)), (a_t_room, .inl (cI, 8, .inl t_room)), (a_t_inRest, .inl (cI, 6, .inl t_inRest))] H → va_D A [(a_t, .inr (12, [.long t_trace, .ref a_t_text, .int t_typed, .ref a_t_told, .ref a_t_draft, .ref a_t_s, .ref a_t_images, .ref a_t_kept, .ref a_t_notes, .int t_noted, .int t_at, .int t_sort, .int t_start, .int t_value, .ref a_t_players, .ref a_t_answers, .ref a_t_room, .ref a_t_inRest])), (a_t_told, .inl (cI, 36, .inl t_told)), (a_t_s, .inl (cI, 56, .inl t_s)), (a_t_room, .inl (cI, 8, .inl t_room)), (a_t_inRest, .inl (cI, 6, .inl t_inRest))] → va_S A s.heap H locs → lv_has ls 6 [(0, .ref a_t), (1, .int p1), (2, .int x2)] → mi_X12_fits_b34 (mi_X12_fits_l2 t_told t_s p1 n_l2) x2 k1 k2 t_room t_inRest = some (r, z_t_room, z_t_inRest) → W p l e (headSpec wsX12_fits rm_X12_fits).room s m args below meth c H locs 0 0 Q (F0 m 34 ls [.int k2, .int k1, .ref a_t_room]) := by
        intro x2 k1 k2 t_room t_inRest H locs ls hP hD hS hl h
        unfold mi_X12_fits_b34 at h
        obtain ⟨g7, h⟩ := jx_g_of h
        refine va_iast hx hb hK hP hD hS 3 0 rfl rfl (jx_in_of g7) dX12_fits_34 (fun H locs hP hD hS => ?_)
        have hP : va_P D vwCl [(a_t, .inr (12, [.long t_trace, .ref a_t_text, .int t_typed, .ref a_t_told, .ref a_t_draft, .ref a_t_s, .ref a_t_images, .ref a_t_kept, .ref a_t_notes, .int t_noted, .int t_at, .int t_sort, .int t_start, .int t_value, .ref a_t_players, .ref a_t_answers, .ref a_t_room, .ref a_t_inRest])), (a_t_told, .inl (cI, 36, .inl t_told)), (a_t_s, .inl (cI, 56, .inl t_s)), (a_t_room, .inl (cI, 8, .inl (upd t_room (Int32.toNatClampNeg k1) k2))), (a_t_inRest, .inl (cI, 6, .inl t_inRest))] H := hP
        have hD : va_D A [(a_t, .inr (12, [.long t_trace, .ref a_t_text, .int t_typed, .ref a_t_told, .ref a_t_draft, .ref a_t_s, .ref a_t_images, .ref a_t_kept, .ref a_t_notes, .int t_noted, .int t_at, .int t_sort, .int t_start, .int t_value, .ref a_t_players, .ref a_t_answers, .ref a_t_room, .ref a_t_inRest])), (a_t_told, .inl (cI, 36, .inl t_told)), (a_t_s, .inl (cI, 56, .inl t_s)), (a_t_room, .inl (cI, 8, .inl (upd t_room (Int32.toNatClampNeg k1) k2))), (a_t_inRest, .inl (cI, 6, .inl t_inRest))] := hD
        refine lv_iinc (v := (x2 + 1)) (lv' := [(2, .int (x2 + 1)), (0, .ref a_t), (1, .int p1)]) hx hb dX12_fits_35 hl (k := 2) rfl rfl (by decide) rfl (fun ls hl => ?_)
        refine lv_goto (tgt := 2) hx hb dX12_fits_38 (by decide) ?_
        exact ih_l2 (x2 + 1) (upd t_room (Int32.toNatClampNeg k1) k2) t_inRest _ _ _ hP hD hS (lv_sub hl [1, 2, 0] rfl) h
      intro x2 t_room t_inRest H locs ls hP hD hS hl h
      rw [mi_X12_fits_l2] at h
      refine lv_iload_n hx hb dX12_fits_2 rfl (lv_at hl 2 rfl) ?_
      refine lv_aload_n hx hb dX12_fits_3 rfl (lv_at hl 0 rfl) ?_
      refine va_get (D := D) (ci := 12) (v := .ref a_t_told) (C := RX12) (T := TX12) (N := 18) hx hb hts hi_X12 hown hK hP 0 rfl rfl 3 (by decide) (hts (.fieldLink RX12 13 "TriangleRestModel" "told" "[I") (List.mem_of_getElem? (i := 1) rfl)) (fun _ h9 => h9) rfl dX12_fits_4 ?_
      refine lv_iconst (v := (0 : Int32)) hx hb dX12_fits_7 (by decide) ?_
      refine va_iald hx hb hK hP 1 0 rfl rfl (jx_in_of (by decide +kernel)) dX12_fits_8 ?_
      refine lv_icmp_ge (tgt := 41) hx hb dX12_fits_9 (by decide) (fun c1 => ?_) (fun c1 => ?_)
      · have h := jx_t h c1
        refine lv_iconst (v := (0 : Int32)) hx hb dX12_fits_41 (by decide) ?_
        refine lv_istore_n (lv' := [(2, .int (0 : Int32)), (0, .ref a_t), (1, .int p1)]) hx hb dX12_fits_42 rfl hl (by decide) rfl (fun ls hl => ?_)
        refine lv_aload_n hx hb dX12_fits_43 rfl (lv_at hl 1 rfl) ?_
        refine va_get (D := D) (ci := 12) (v := .ref a_t_inRest) (C := RX12) (T := TX12) (N := 18) hx hb hts hi_X12 hown hK hP 0 rfl rfl 17 (by decide) (hts (.fieldLink RX12 41 "TriangleRestModel" "inRest" "[I") (List.mem_of_getElem? (i := 3) rfl)) (fun _ h9 => h9) rfl dX12_fits_44 ?_
        refine lv_iconst (v := (0 : Int32)) hx hb dX12_fits_47 (by decide) ?_
        refine lv_iconst (v := (-1 : Int32)) hx hb dX12_fits_48 (by decide) ?_
        refine va_iast hx hb hK hP hD hS 4 0 rfl rfl (jx_in_of (by decide +kernel)) dX12_fits_49 (fun H locs hP hD hS => ?_)
        have hP : va_P D vwCl [(a_t, .inr (12, [.long t_trace, .ref a_t_text, .int t_typed, .ref a_t_told, .ref a_t_draft, .ref a_t_s, .ref a_t_images, .ref a_t_kept, .ref a_t_notes, .int t_noted, .int t_at, .int t_sort, .int t_start, .int t_value, .ref a_t_players, .ref a_t_answers, .ref a_t_room, .ref a_t_inRest])), (a_t_told, .inl (cI, 36, .inl t_told)), (a_t_s, .inl (cI, 56, .inl t_s)), (a_t_room, .inl (cI, 8, .inl t_room)), (a_t_inRest, .inl (cI, 6, .inl (upd t_inRest (Int32.toNatClampNeg (0 : Int32)) (-1 : Int32))))] H := hP
        have hD : va_D A [(a_t, .inr (12, [.long t_trace, .ref a_t_text, .int t_typed, .ref a_t_told, .ref a_t_draft, .ref a_t_s, .ref a_t_images, .ref a_t_kept, .ref a_t_notes, .int t_noted, .int t_at, .int t_sort, .int t_start, .int t_value, .ref a_t_players, .ref a_t_answers, .ref a_t_room, .ref a_t_inRest])), (a_t_told, .inl (cI, 36, .inl t_told)), (a_t_s, .inl (cI, 56, .inl t_s)), (a_t_room, .inl (cI, 8, .inl t_room)), (a_t_inRest, .inl (cI, 6, .inl (upd t_inRest (Int32.toNatClampNeg (0 : Int32)) (-1 : Int32))))] := hD
        exact bl_l50 jx_F (0 : Int32) t_room (upd t_inRest (Int32.toNatClampNeg (0 : Int32)) (-1 : Int32)) _ _ _ hP hD hS (lv_sub hl [1, 2, 0] rfl) h
      · have h := jx_f h c1
        refine lv_aload_n hx hb dX12_fits_12 rfl (lv_at hl 0 rfl) ?_
        refine va_get (D := D) (ci := 12) (v := .ref a_t_room) (C := RX12) (T := TX12) (N := 18) hx hb hts hi_X12 hown hK hP 0 rfl rfl 16 (by decide) (hts (.fieldLink RX12 38 "TriangleRestModel" "room" "[I") (List.mem_of_getElem? (i := 2) rfl)) (fun _ h9 => h9) rfl dX12_fits_13 ?_
        refine lv_iload_n hx hb dX12_fits_16 rfl (lv_at hl 2 rfl) ?_
        refine lv_aload_n hx hb dX12_fits_17 rfl (lv_at hl 0 rfl) ?_
        refine lv_iload_n hx hb dX12_fits_18 rfl (lv_at hl 2 rfl) ?_
        obtain ⟨r2, e3, h⟩ := jx_b1_of h
        refine jx_cV (o := some (.int r2)) (As := [.int x2]) (rest := [.int x2, .ref a_t_room]) (b := a_t) ⟨hx, hb, hml, hown, hts⟩ (ct_X12_isRest l D cI cZ cO a_t a_t_text a_t_told a_t_draft a_t_s a_t_images a_t_kept a_t_notes a_t_players a_t_answers a_t_room a_t_inRest t_trace t_typed t_noted t_at t_sort t_start t_value t_told t_s x2 r2 e3) (cwV 1 hts gX12_fits_X12_isRest rfl rfl rfl (by decide +kernel) ⟨Nat.le_of_ble_eq_true rfl, Nat.le_of_ble_eq_true rfl⟩) hK hN hP [0, 1, 2] rfl (va_recv hK hP (ci := 12) (q0 := 0) rfl rfl) rfl hl.1 rfl (Nat.le_of_ble_eq_true rfl) dX12_fits_19 ⟨Nat.zero_le _, Nat.zero_le _⟩ ?_
        refine lv_if_eq (tgt := 33) hx hb dX12_fits_22 (by decide) (fun c4 => ?_) (fun c4 => ?_)
        · have h := jx_t h c4
          refine lv_iconst (v := (0 : Int32)) hx hb dX12_fits_33 (by decide) ?_
          exact bl_b34 x2 x2 (0 : Int32) t_room t_inRest _ _ _ hP hD hS (lv_sub hl [0, 1, 2] rfl) h
        · have h := jx_f h c4
          refine lv_aload_n hx hb dX12_fits_25 rfl (lv_at hl 0 rfl) ?_
          refine lv_iload_n hx hb dX12_fits_26 rfl (lv_at hl 2 rfl) ?_
          obtain ⟨r5, e6, h⟩ := jx_b1_of h
          refine jx_cV (o := some (.int r5)) (As := [.int x2]) (rest := [.int x2, .ref a_t_room]) (b := a_t) ⟨hx, hb, hml, hown, hts⟩ (ct_X12_minutes l D cI cZ cO a_t a_t_text a_t_told a_t_draft a_t_s a_t_images a_t_kept a_t_notes a_t_players a_t_answers a_t_room a_t_inRest t_trace t_typed t_noted t_at t_sort t_start t_value t_told x2 r5 e6) (cwV 1 hts gX12_fits_X12_minutes rfl rfl rfl (by decide +kernel) ⟨Nat.le_of_ble_eq_true rfl, Nat.le_of_ble_eq_true rfl⟩) hK hN hP [0, 1] rfl (va_recv hK hP (ci := 12) (q0 := 0) rfl rfl) rfl hl.1 rfl (Nat.le_of_ble_eq_true rfl) dX12_fits_27 ⟨Nat.zero_le _, Nat.zero_le _⟩ ?_
          refine lv_goto (tgt := 34) hx hb dX12_fits_30 (by decide) ?_
          exact bl_b34 x2 x2 r5 t_room t_inRest _ _ _ hP hD hS (lv_sub hl [0, 1, 2] rfl) h
  have h := hm
  unfold mi_X12_fits at h
  refine lv_iconst (v := (0 : Int32)) hx hb dX12_fits_0 (by decide) ?_
  refine lv_istore_n (lv' := [(2, .int (0 : Int32)), (0, .ref a_t), (1, .int p1)]) hx hb dX12_fits_1 rfl hl (by decide) rfl (fun ls hl => ?_)
  exact bl_l2 jx_F (0 : Int32) t_room t_inRest _ _ _ hP hD hS (lv_sub hl [1, 2, 0] rfl) h
def mi_X12_pack_b59 (k_l23 : Int32 → Int32 → (Nat → Int32) → (Nat → Int32) → Option (Int32 × (Nat → Int32) × (Nat → Int32))) (x3 : Int32) (k0 : Int32) (t_room : Nat → Int32) (t_inRest : Nat → Int32) : Option (Int32 × (Nat → Int32) × (Nat → Int32)) := k_l23 k0 (x3 + 1) t_room t_inRest
def mi_X12_pack_b58 (k_l23 : Int32 → Int32 → (Nat → Int32) → (Nat → Int32) → Option (Int32 × (Nat → Int32) × (Nat → Int32))) (x2 : Int32) (x3 : Int32) (t_room : Nat → Int32) (t_inRest : Nat → Int32) : Option (Int32 × (Nat → Int32) × (Nat → Int32)) := mi_X12_pack_b59 k_l23 x3 x2 t_room t_inRest
def mi_X12_pack_l23 (t_told : Nat → Int32) (t_s : Nat → Int32) (p1 : Int32) : Nat → Int32 → Int32 → (Nat → Int32) → (Nat → Int32) → Option (Int32 × (Nat → Int32) × (Nat → Int32))
  | 0, _, _, _, _ => none
  | n + 1, x2, x3, t_room, t_inRest => if ((1 : Int32) <<< ((t_told (Int32.toNatClampNeg (1 : Int32))) &&& 31)) ≤ x3 then (if 0 ≤ p1 then (jx_b3 (mi_X12_fits t_told t_s t_room t_inRest x2) fun r3 t_room_4 t_inRest_5 => (if r3 = 0 then (some ((-9 : Int32), t_room_4, t_inRest_5)) else (jx_b1 (mi_X12_has x2 p1) fun r8 => (if r8 = 0 then (some ((-9 : Int32), t_room_4, t_inRest_5)) else (jx_g (jx_in p1 6) (some ((t_inRest_5 (Int32.toNatClampNeg p1)), t_room_4, t_inRest_5))))))) else (if p1 = (-1 : Int32) then (jx_b1 (mi_X12_ones x2) fun r13 => (some (r13, t_room, t_inRest))) else (some (x2, t_room, t_inRest)))) else (jx_b1 (mi_X12_ones x3) fun r15 => (jx_b1 (mi_X12_ones x2) fun r17 => (if r15 ≤ r17 then (mi_X12_pack_b58 (mi_X12_pack_l23 t_told t_s p1 n) x2 x3 t_room t_inRest) else (jx_b3 (mi_X12_fits t_told t_s t_room t_inRest x3) fun r20 t_room_21 t_inRest_22 => (if r20 = 0 then (mi_X12_pack_b58 (mi_X12_pack_l23 t_told t_s p1 n) x2 x3 t_room_21 t_inRest_22) else (mi_X12_pack_b59 (mi_X12_pack_l23 t_told t_s p1 n) x3 x3 t_room_21 t_inRest_22))))))
def mi_X12_pack (t_told : Nat → Int32) (t_s : Nat → Int32) (t_room : Nat → Int32) (t_inRest : Nat → Int32) (p1 : Int32) : Option (Int32 × (Nat → Int32) × (Nat → Int32)) := jx_b1 (mi_X12_in p1 (-2 : Int32) ((t_told (Int32.toNatClampNeg (1 : Int32))) - (1 : Int32))) fun r25 => (if r25 = 0 then (some ((-1 : Int32), t_room, t_inRest)) else (mi_X12_pack_l23 t_told t_s p1 jx_F (0 : Int32) (1 : Int32) t_room t_inRest))
abbrev rm_X12_pack : Room := { frames := 3, cells := 0, slots := 0, locals := 67 }
set_option maxRecDepth 100000 in
set_option maxHeartbeats 4000000 in
theorem ct_X12_pack (l : Launch) (D : va_G) (cI cZ cO : ClassId) (a_t a_t_text a_t_told a_t_draft a_t_s a_t_images a_t_kept a_t_notes a_t_players a_t_answers a_t_room a_t_inRest : Nat) (sz : Nat) (t_trace : Int64) (t_typed : Int32) (t_noted : Int32) (t_at : Int32) (t_sort : Int32) (t_start : Int32) (t_value : Int32) (t_told : Nat → Int32) (t_s : Nat → Int32) (t_room : Nat → Int32) (t_inRest : Nat → Int32) (p1 : Int32) (r : Int32) (z_t_room : Nat → Int32) (z_t_inRest : Nat → Int32) (hm : mi_X12_pack t_told t_s t_room t_inRest p1 = some (r, z_t_room, z_t_inRest)) : Met l yX12_pack wsX12_pack rm_X12_pack (va_Pc [.ref a_t, .int p1] (jx_W D (jx_T cI cZ cO) sz [(a_t, .inr (12, [.long t_trace, .ref a_t_text, .int t_typed, .ref a_t_told, .ref a_t_draft, .ref a_t_s, .ref a_t_images, .ref a_t_kept, .ref a_t_notes, .int t_noted, .int t_at, .int t_sort, .int t_start, .int t_value, .ref a_t_players, .ref a_t_answers, .ref a_t_room, .ref a_t_inRest])), (a_t_told, .inl (cI, 36, .inl t_told)), (a_t_s, .inl (cI, 56, .inl t_s)), (a_t_room, .inl (cI, 8, .inl t_room)), (a_t_inRest, .inl (cI, 6, .inl t_inRest))])) (jx_Q (some (.int r)) D [(a_t, .inr (12, [.long t_trace, .ref a_t_text, .int t_typed, .ref a_t_told, .ref a_t_draft, .ref a_t_s, .ref a_t_images, .ref a_t_kept, .ref a_t_notes, .int t_noted, .int t_at, .int t_sort, .int t_start, .int t_value, .ref a_t_players, .ref a_t_answers, .ref a_t_room, .ref a_t_inRest])), (a_t_told, .inl (cI, 36, .inl t_told)), (a_t_s, .inl (cI, 56, .inl t_s)), (a_t_room, .inl (cI, 8, .inl z_t_room)), (a_t_inRest, .inl (cI, 6, .inl z_t_inRest))] (va_A [(a_t, .inr (12, [.long t_trace, .ref a_t_text, .int t_typed, .ref a_t_told, .ref a_t_draft, .ref a_t_s, .ref a_t_images, .ref a_t_kept, .ref a_t_notes, .int t_noted, .int t_at, .int t_sort, .int t_start, .int t_value, .ref a_t_players, .ref a_t_answers, .ref a_t_room, .ref a_t_inRest])), (a_t_told, .inl (cI, 36, .inl t_told)), (a_t_s, .inl (cI, 56, .inl t_s)), (a_t_room, .inl (cI, 8, .inl t_room)), (a_t_inRest, .inl (cI, 6, .inl t_inRest))] sz)) 0 0 (va_A [(a_t, .inr (12, [.long t_trace, .ref a_t_text, .int t_typed, .ref a_t_told, .ref a_t_draft, .ref a_t_s, .ref a_t_images, .ref a_t_kept, .ref a_t_notes, .int t_noted, .int t_at, .int t_sort, .int t_start, .int t_value, .ref a_t_players, .ref a_t_answers, .ref a_t_room, .ref a_t_inRest])), (a_t_told, .inl (cI, 36, .inl t_told)), (a_t_s, .inl (cI, 56, .inl t_s)), (a_t_room, .inl (cI, 8, .inl t_room)), (a_t_inRest, .inl (cI, 6, .inl t_inRest))] sz) := by
  refine jx_metW (ty := .int) (own := RX12) (cc := cX12_pack) (maxL := 4) (by decide) rfl rfl (Nat.le_of_ble_eq_true rfl) ?_
  intro p e s m args below meth c Q ls A hx hb hml hown hts hK hN hA hP hD hS hl hret
  have hi_X12 : ∀ w ∈ u_ws RX12 TX12 18, w ∈ wsX12_pack := by decide +kernel
  have hl : lv_has ls 4 [(0, .ref a_t), (1, .int p1)] := hl
  have bl_l23 : ∀ (n : Nat) (x2 : Int32) (x3 : Int32) (t_room : Nat → Int32) (t_inRest : Nat → Int32) (H : Heap) (locs : List Loc) (ls : Array Slot), va_P D vwCl [(a_t, .inr (12, [.long t_trace, .ref a_t_text, .int t_typed, .ref a_t_told, .ref a_t_draft, .ref a_t_s, .ref a_t_images, .ref a_t_kept, .ref a_t_notes, .int t_noted, .int t_at, .int t_sort, .int t_start, .int t_value, .ref a_t_players, .ref a_t_answers, .ref a_t_room, .ref a_t_inRest])), (a_t_told, .inl (cI, 36, .inl t_told)), (a_t_s, .inl (cI, 56, .inl t_s)), (a_t_room, .inl (cI, 8, .inl t_room)), (a_t_inRest, .inl (cI, 6, .inl t_inRest))] H → va_D A [(a_t, .inr (12, [.long t_trace, .ref a_t_text, .int t_typed, .ref a_t_told, .ref a_t_draft, .ref a_t_s, .ref a_t_images, .ref a_t_kept, .ref a_t_notes, .int t_noted, .int t_at, .int t_sort, .int t_start, .int t_value, .ref a_t_players, .ref a_t_answers, .ref a_t_room, .ref a_t_inRest])), (a_t_told, .inl (cI, 36, .inl t_told)), (a_t_s, .inl (cI, 56, .inl t_s)), (a_t_room, .inl (cI, 8, .inl t_room)), (a_t_inRest, .inl (cI, 6, .inl t_inRest))] → va_S A s.heap H locs → lv_has ls 4 [(0, .ref a_t), (1, .int p1), (2, .int x2), (3, .int x3)] → mi_X12_pack_l23 t_told t_s p1 n x2 x3 t_room t_inRest = some (r, z_t_room, z_t_inRest) → W p l e (headSpec wsX12_pack rm_X12_pack).room s m args below meth c H locs 0 0 Q (F0 m 23 ls []) := by
    intro n
    induction n with
    | zero =>
      intro x2 x3 t_room t_inRest H locs ls hP hD hS hl h
      rw [mi_X12_pack_l23] at h
      cases h
    | succ n_l23 ih_l23 =>
      have bl_b59 : ∀ (x3 : Int32) (k0 : Int32) (t_room : Nat → Int32) (t_inRest : Nat → Int32) (H : Heap) (locs : List Loc) (ls : Array Slot), va_P D vwCl [(a_t, .inr (12, [.long t_trace, .ref a_t_text, .int t_typed, .ref a_t_told, .ref a_t_draft, .ref a_t_s, .ref a_t_images, .ref a_t_kept, .ref a_t_notes, .int t_noted, .int t_at, .int t_sort, .int t_start, .int t_value, .ref a_t_players, .ref a_t_answers, .ref a_t_room, .ref a_t_inRest])), (a_t_told, .inl (cI, 36, .inl t_told)), (a_t_s, .inl (cI, 56, .inl t_s)), (a_t_room, .inl (cI, 8, .inl t_room)), (a_t_inRest, .inl (cI, 6, .inl t_inRest))] H → va_D A [(a_t, .inr (12, [.long t_trace, .ref a_t_text, .int t_typed, .ref a_t_told, .ref a_t_draft, .ref a_t_s, .ref a_t_images, .ref a_t_kept, .ref a_t_notes, .int t_noted, .int t_at, .int t_sort, .int t_start, .int t_value, .ref a_t_players, .ref a_t_answers, .ref a_t_room, .ref a_t_inRest])), (a_t_told, .inl (cI, 36, .inl t_told)), (a_t_s, .inl (cI, 56, .inl t_s)), (a_t_room, .inl (cI, 8, .inl t_room)), (a_t_inRest, .inl (cI, 6, .inl t_inRest))] → va_S A s.heap H locs → lv_has ls 4 [(0, .ref a_t), (1, .int p1), (3, .int x3)] → mi_X12_pack_b59 (mi_X12_pack_l23 t_told t_s p1 n_l23) x3 k0 t_room t_inRest = some (r, z_t_room, z_t_inRest) → W p l e (headSpec wsX12_pack rm_X12_pack).room s m args below meth c H locs 0 0 Q (F0 m 59 ls [.int k0]) := by
        intro x3 k0 t_room t_inRest H locs ls hP hD hS hl h
        unfold mi_X12_pack_b59 at h
        refine lv_istore_n (lv' := [(2, .int k0), (0, .ref a_t), (1, .int p1), (3, .int x3)]) hx hb dX12_pack_59 rfl hl (by decide) rfl (fun ls hl => ?_)
        refine lv_iinc (v := (x3 + 1)) (lv' := [(3, .int (x3 + 1)), (2, .int k0), (0, .ref a_t), (1, .int p1)]) hx hb dX12_pack_60 hl (k := 3) rfl rfl (by decide) rfl (fun ls hl => ?_)
        refine lv_goto (tgt := 23) hx hb dX12_pack_63 (by decide) ?_
        exact ih_l23 k0 (x3 + 1) t_room t_inRest _ _ _ hP hD hS (lv_sub hl [2, 3, 1, 0] rfl) h
      have bl_b58 : ∀ (x2 : Int32) (x3 : Int32) (t_room : Nat → Int32) (t_inRest : Nat → Int32) (H : Heap) (locs : List Loc) (ls : Array Slot), va_P D vwCl [(a_t, .inr (12, [.long t_trace, .ref a_t_text, .int t_typed, .ref a_t_told, .ref a_t_draft, .ref a_t_s, .ref a_t_images, .ref a_t_kept, .ref a_t_notes, .int t_noted, .int t_at, .int t_sort, .int t_start, .int t_value, .ref a_t_players, .ref a_t_answers, .ref a_t_room, .ref a_t_inRest])), (a_t_told, .inl (cI, 36, .inl t_told)), (a_t_s, .inl (cI, 56, .inl t_s)), (a_t_room, .inl (cI, 8, .inl t_room)), (a_t_inRest, .inl (cI, 6, .inl t_inRest))] H → va_D A [(a_t, .inr (12, [.long t_trace, .ref a_t_text, .int t_typed, .ref a_t_told, .ref a_t_draft, .ref a_t_s, .ref a_t_images, .ref a_t_kept, .ref a_t_notes, .int t_noted, .int t_at, .int t_sort, .int t_start, .int t_value, .ref a_t_players, .ref a_t_answers, .ref a_t_room, .ref a_t_inRest])), (a_t_told, .inl (cI, 36, .inl t_told)), (a_t_s, .inl (cI, 56, .inl t_s)), (a_t_room, .inl (cI, 8, .inl t_room)), (a_t_inRest, .inl (cI, 6, .inl t_inRest))] → va_S A s.heap H locs → lv_has ls 4 [(0, .ref a_t), (1, .int p1), (2, .int x2), (3, .int x3)] → mi_X12_pack_b58 (mi_X12_pack_l23 t_told t_s p1 n_l23) x2 x3 t_room t_inRest = some (r, z_t_room, z_t_inRest) → W p l e (headSpec wsX12_pack rm_X12_pack).room s m args below meth c H locs 0 0 Q (F0 m 58 ls []) := by
        intro x2 x3 t_room t_inRest H locs ls hP hD hS hl h
        unfold mi_X12_pack_b58 at h
        refine lv_iload_n hx hb dX12_pack_58 rfl (lv_at hl 2 rfl) ?_
        exact bl_b59 x3 x2 t_room t_inRest _ _ _ hP hD hS (lv_sub hl [0, 1, 3] rfl) h
      intro x2 x3 t_room t_inRest H locs ls hP hD hS hl h
      rw [mi_X12_pack_l23] at h
      refine lv_iload_n hx hb dX12_pack_23 rfl (lv_at hl 3 rfl) ?_
      refine lv_iconst (v := (1 : Int32)) hx hb dX12_pack_24 (by decide) ?_
      refine lv_aload_n hx hb dX12_pack_25 rfl (lv_at hl 0 rfl) ?_
      refine va_get (D := D) (ci := 12) (v := .ref a_t_told) (C := RX12) (T := TX12) (N := 18) hx hb hts hi_X12 hown hK hP 0 rfl rfl 3 (by decide) (hts (.fieldLink RX12 13 "TriangleRestModel" "told" "[I") (List.mem_of_getElem? (i := 1) rfl)) (fun _ h9 => h9) rfl dX12_pack_26 ?_
      refine lv_iconst (v := (1 : Int32)) hx hb dX12_pack_29 (by decide) ?_
      refine va_iald hx hb hK hP 1 0 rfl rfl (jx_in_of (by decide +kernel)) dX12_pack_30 ?_
      refine lv_ishl hx hb dX12_pack_31 ?_
      refine lv_icmp_ge (tgt := 66) hx hb dX12_pack_32 (by decide) (fun c1 => ?_) (fun c1 => ?_)
      · have h := jx_t h c1
        refine lv_iload_n hx hb dX12_pack_66 rfl (lv_at hl 1 rfl) ?_
        refine lv_if_ge (tgt := 84) hx hb dX12_pack_67 (by decide) (fun c2 => ?_) (fun c2 => ?_)
        · have h := jx_t h c2
          refine lv_aload_n hx hb dX12_pack_84 rfl (lv_at hl 0 rfl) ?_
          refine lv_iload_n hx hb dX12_pack_85 rfl (lv_at hl 2 rfl) ?_
          obtain ⟨r3, t_room_4, t_inRest_5, e6, h⟩ := jx_b3_of h
          refine jx_cW (o := some (.int r3)) (As := [.int x2]) (rest := []) (b := a_t) (wr := []) (wd' := [(a_t, .inr (12, [.long t_trace, .ref a_t_text, .int t_typed, .ref a_t_told, .ref a_t_draft, .ref a_t_s, .ref a_t_images, .ref a_t_kept, .ref a_t_notes, .int t_noted, .int t_at, .int t_sort, .int t_start, .int t_value, .ref a_t_players, .ref a_t_answers, .ref a_t_room, .ref a_t_inRest])), (a_t_told, .inl (cI, 36, .inl t_told)), (a_t_s, .inl (cI, 56, .inl t_s)), (a_t_room, .inl (cI, 8, .inl t_room_4)), (a_t_inRest, .inl (cI, 6, .inl t_inRest_5))]) ⟨hx, hb, hml, hown, hts⟩ (ct_X12_fits l D cI cZ cO a_t a_t_text a_t_told a_t_draft a_t_s a_t_images a_t_kept a_t_notes a_t_players a_t_answers a_t_room a_t_inRest H.size t_trace t_typed t_noted t_at t_sort t_start t_value t_told t_s t_room t_inRest x2 r3 t_room_4 t_inRest_5 e6) (cwV 1 hts gX12_pack_X12_fits rfl rfl rfl (by decide +kernel) ⟨Nat.le_of_ble_eq_true rfl, Nat.le_of_ble_eq_true rfl⟩) hK hN hP hD hS hA [0, 1, 2, 3, 4] [] (by decide) rfl rfl (by decide) (by decide) rfl (va_recv hK hP (ci := 12) (q0 := 0) rfl rfl) rfl hl.1 rfl (Nat.le_of_ble_eq_true rfl) dX12_pack_86 ⟨Nat.zero_le _, Nat.zero_le _⟩ [0, 1, 2, 3, 4] (by decide) rfl (fun H locs hP hD hS => ?_)
          refine lv_if_eq (tgt := 109) hx hb dX12_pack_89 (by decide) (fun c7 => ?_) (fun c7 => ?_)
          · have h := jx_t h c7
            refine lv_bipush (v := (-9 : Int32)) hx hb dX12_pack_109 (by decide) ?_
            cases h
            exact hret 111 ls _ _ hP hD hS rfl dX12_pack_111
          · have h := jx_f h c7
            refine lv_iload_n hx hb dX12_pack_92 rfl (lv_at hl 2 rfl) ?_
            refine lv_iload_n hx hb dX12_pack_93 rfl (lv_at hl 1 rfl) ?_
            obtain ⟨r8, e9, h⟩ := jx_b1_of h
            refine jx_cS (o := some (.int r8)) (As := [.int x2, .int p1]) (rest := []) ⟨hx, hb, hml, hown, hts⟩ (ct_X12_has l x2 p1 r8 e9) (va_cwS 2 hts gX12_pack_X12_has rfl rfl rfl (by decide +kernel) ⟨Nat.le_of_ble_eq_true rfl, Nat.le_of_ble_eq_true rfl⟩) rfl hl.1 rfl (Nat.le_of_ble_eq_true rfl) dX12_pack_94 ⟨Nat.zero_le _, Nat.zero_le _⟩ ?_
            refine lv_if_eq (tgt := 109) hx hb dX12_pack_97 (by decide) (fun c10 => ?_) (fun c10 => ?_)
            · have h := jx_t h c10
              refine lv_bipush (v := (-9 : Int32)) hx hb dX12_pack_109 (by decide) ?_
              cases h
              exact hret 111 ls _ _ hP hD hS rfl dX12_pack_111
            · have h := jx_f h c10
              refine lv_aload_n hx hb dX12_pack_100 rfl (lv_at hl 0 rfl) ?_
              refine va_get (D := D) (ci := 12) (v := .ref a_t_inRest) (C := RX12) (T := TX12) (N := 18) hx hb hts hi_X12 hown hK hP 0 rfl rfl 17 (by decide) (hts (.fieldLink RX12 41 "TriangleRestModel" "inRest" "[I") (List.mem_of_getElem? (i := 2) rfl)) (fun _ h9 => h9) rfl dX12_pack_101 ?_
              refine lv_iload_n hx hb dX12_pack_104 rfl (lv_at hl 1 rfl) ?_
              obtain ⟨g11, h⟩ := jx_g_of h
              refine va_iald hx hb hK hP 4 0 rfl rfl (jx_in_of g11) dX12_pack_105 ?_
              refine lv_goto (tgt := 111) hx hb dX12_pack_106 (by decide) ?_
              cases h
              exact hret 111 ls _ _ hP hD hS rfl dX12_pack_111
        · have h := jx_f h c2
          refine lv_iload_n hx hb dX12_pack_70 rfl (lv_at hl 1 rfl) ?_
          refine lv_iconst (v := (-1 : Int32)) hx hb dX12_pack_71 (by decide) ?_
          refine lv_icmp_ne (tgt := 82) hx hb dX12_pack_72 (by decide) (fun c12 => ?_) (fun c12 => ?_)
          · have h := jx_f h c12
            refine lv_iload_n hx hb dX12_pack_82 rfl (lv_at hl 2 rfl) ?_
            cases h
            exact hret 83 ls _ _ hP hD hS rfl dX12_pack_83
          · have h := jx_t h c12
            refine lv_iload_n hx hb dX12_pack_75 rfl (lv_at hl 2 rfl) ?_
            obtain ⟨r13, e14, h⟩ := jx_b1_of h
            refine jx_cS (o := some (.int r13)) (As := [.int x2]) (rest := []) ⟨hx, hb, hml, hown, hts⟩ (ct_X12_ones l x2 r13 e14) (va_cwS 1 hts gX12_pack_X12_ones rfl rfl rfl (by decide +kernel) ⟨Nat.le_of_ble_eq_true rfl, Nat.le_of_ble_eq_true rfl⟩) rfl hl.1 rfl (Nat.le_of_ble_eq_true rfl) dX12_pack_76 ⟨Nat.zero_le _, Nat.zero_le _⟩ ?_
            refine lv_goto (tgt := 83) hx hb dX12_pack_79 (by decide) ?_
            cases h
            exact hret 83 ls _ _ hP hD hS rfl dX12_pack_83
      · have h := jx_f h c1
        refine lv_iload_n hx hb dX12_pack_35 rfl (lv_at hl 3 rfl) ?_
        obtain ⟨r15, e16, h⟩ := jx_b1_of h
        refine jx_cS (o := some (.int r15)) (As := [.int x3]) (rest := []) ⟨hx, hb, hml, hown, hts⟩ (ct_X12_ones l x3 r15 e16) (va_cwS 1 hts gX12_pack_X12_ones rfl rfl rfl (by decide +kernel) ⟨Nat.le_of_ble_eq_true rfl, Nat.le_of_ble_eq_true rfl⟩) rfl hl.1 rfl (Nat.le_of_ble_eq_true rfl) dX12_pack_36 ⟨Nat.zero_le _, Nat.zero_le _⟩ ?_
        refine lv_iload_n hx hb dX12_pack_39 rfl (lv_at hl 2 rfl) ?_
        obtain ⟨r17, e18, h⟩ := jx_b1_of h
        refine jx_cS (o := some (.int r17)) (As := [.int x2]) (rest := [.int r15]) ⟨hx, hb, hml, hown, hts⟩ (ct_X12_ones l x2 r17 e18) (va_cwS 1 hts gX12_pack_X12_ones rfl rfl rfl (by decide +kernel) ⟨Nat.le_of_ble_eq_true rfl, Nat.le_of_ble_eq_true rfl⟩) rfl hl.1 rfl (Nat.le_of_ble_eq_true rfl) dX12_pack_40 ⟨Nat.zero_le _, Nat.zero_le _⟩ ?_
        refine lv_icmp_le (tgt := 58) hx hb dX12_pack_43 (by decide) (fun c19 => ?_) (fun c19 => ?_)
        · have h := jx_t h c19
          exact bl_b58 x2 x3 t_room t_inRest _ _ _ hP hD hS (lv_sub hl [0, 1, 2, 3] rfl) h
        · have h := jx_f h c19
          refine lv_aload_n hx hb dX12_pack_46 rfl (lv_at hl 0 rfl) ?_
          refine lv_iload_n hx hb dX12_pack_47 rfl (lv_at hl 3 rfl) ?_
          obtain ⟨r20, t_room_21, t_inRest_22, e23, h⟩ := jx_b3_of h
          refine jx_cW (o := some (.int r20)) (As := [.int x3]) (rest := []) (b := a_t) (wr := []) (wd' := [(a_t, .inr (12, [.long t_trace, .ref a_t_text, .int t_typed, .ref a_t_told, .ref a_t_draft, .ref a_t_s, .ref a_t_images, .ref a_t_kept, .ref a_t_notes, .int t_noted, .int t_at, .int t_sort, .int t_start, .int t_value, .ref a_t_players, .ref a_t_answers, .ref a_t_room, .ref a_t_inRest])), (a_t_told, .inl (cI, 36, .inl t_told)), (a_t_s, .inl (cI, 56, .inl t_s)), (a_t_room, .inl (cI, 8, .inl t_room_21)), (a_t_inRest, .inl (cI, 6, .inl t_inRest_22))]) ⟨hx, hb, hml, hown, hts⟩ (ct_X12_fits l D cI cZ cO a_t a_t_text a_t_told a_t_draft a_t_s a_t_images a_t_kept a_t_notes a_t_players a_t_answers a_t_room a_t_inRest H.size t_trace t_typed t_noted t_at t_sort t_start t_value t_told t_s t_room t_inRest x3 r20 t_room_21 t_inRest_22 e23) (cwV 1 hts gX12_pack_X12_fits rfl rfl rfl (by decide +kernel) ⟨Nat.le_of_ble_eq_true rfl, Nat.le_of_ble_eq_true rfl⟩) hK hN hP hD hS hA [0, 1, 2, 3, 4] [] (by decide) rfl rfl (by decide) (by decide) rfl (va_recv hK hP (ci := 12) (q0 := 0) rfl rfl) rfl hl.1 rfl (Nat.le_of_ble_eq_true rfl) dX12_pack_48 ⟨Nat.zero_le _, Nat.zero_le _⟩ [0, 1, 2, 3, 4] (by decide) rfl (fun H locs hP hD hS => ?_)
          refine lv_if_eq (tgt := 58) hx hb dX12_pack_51 (by decide) (fun c24 => ?_) (fun c24 => ?_)
          · have h := jx_t h c24
            exact bl_b58 x2 x3 t_room_21 t_inRest_22 _ _ _ hP hD hS (lv_sub hl [0, 1, 2, 3] rfl) h
          · have h := jx_f h c24
            refine lv_iload_n hx hb dX12_pack_54 rfl (lv_at hl 3 rfl) ?_
            refine lv_goto (tgt := 59) hx hb dX12_pack_55 (by decide) ?_
            exact bl_b59 x3 x3 t_room_21 t_inRest_22 _ _ _ hP hD hS (lv_sub hl [0, 1, 3] rfl) h
  have h := hm
  unfold mi_X12_pack at h
  refine lv_iload_n hx hb dX12_pack_0 rfl (lv_at hl 1 rfl) ?_
  refine lv_bipush (v := (-2 : Int32)) hx hb dX12_pack_1 (by decide) ?_
  refine lv_aload_n hx hb dX12_pack_3 rfl (lv_at hl 0 rfl) ?_
  refine va_get (D := D) (ci := 12) (v := .ref a_t_told) (C := RX12) (T := TX12) (N := 18) hx hb hts hi_X12 hown hK hP 0 rfl rfl 3 (by decide) (hts (.fieldLink RX12 13 "TriangleRestModel" "told" "[I") (List.mem_of_getElem? (i := 1) rfl)) (fun _ h9 => h9) rfl dX12_pack_4 ?_
  refine lv_iconst (v := (1 : Int32)) hx hb dX12_pack_7 (by decide) ?_
  refine va_iald hx hb hK hP 1 0 rfl rfl (jx_in_of (by decide +kernel)) dX12_pack_8 ?_
  refine lv_iconst (v := (1 : Int32)) hx hb dX12_pack_9 (by decide) ?_
  refine lv_isub hx hb dX12_pack_10 ?_
  obtain ⟨r25, e26, h⟩ := jx_b1_of h
  refine jx_cS (o := some (.int r25)) (As := [.int p1, .int (-2 : Int32), .int ((t_told (Int32.toNatClampNeg (1 : Int32))) - (1 : Int32))]) (rest := []) ⟨hx, hb, hml, hown, hts⟩ (ct_X12_in l p1 (-2 : Int32) ((t_told (Int32.toNatClampNeg (1 : Int32))) - (1 : Int32)) r25 e26) (va_cwS 3 hts gX12_pack_X12_in rfl rfl rfl (by decide +kernel) ⟨Nat.le_of_ble_eq_true rfl, Nat.le_of_ble_eq_true rfl⟩) rfl hl.1 rfl (Nat.le_of_ble_eq_true rfl) dX12_pack_11 ⟨Nat.zero_le _, Nat.zero_le _⟩ ?_
  refine lv_if_ne (tgt := 19) hx hb dX12_pack_14 (by decide) (fun c27 => ?_) (fun c27 => ?_)
  · have h := jx_f h c27
    refine lv_iconst (v := (0 : Int32)) hx hb dX12_pack_19 (by decide) ?_
    refine lv_istore_n (lv' := [(2, .int (0 : Int32)), (0, .ref a_t), (1, .int p1)]) hx hb dX12_pack_20 rfl hl (by decide) rfl (fun ls hl => ?_)
    refine lv_iconst (v := (1 : Int32)) hx hb dX12_pack_21 (by decide) ?_
    refine lv_istore_n (lv' := [(3, .int (1 : Int32)), (2, .int (0 : Int32)), (0, .ref a_t), (1, .int p1)]) hx hb dX12_pack_22 rfl hl (by decide) rfl (fun ls hl => ?_)
    exact bl_l23 jx_F (0 : Int32) (1 : Int32) t_room t_inRest _ _ _ hP hD hS (lv_sub hl [2, 3, 1, 0] rfl) h
  · have h := jx_t h c27
    refine lv_iconst (v := (-1 : Int32)) hx hb dX12_pack_17 (by decide) ?_
    cases h
    exact hret 18 ls _ _ hP hD hS rfl dX12_pack_18
def mi_X12_mark_b80 (t_told : Nat → Int32) (t_s : Nat → Int32) (p1 : Int32) (p2 : Int32) (k1 : Int64) (k2 : Int64) (t_trace : Int64) : Option (Int32 × Int64) := jx_g (jx_in ((6 : Int32) + p2) 36) (jx_g (jx_in ((14 : Int32) + p2) 36) (jx_g (jx_in ((6 : Int32) + p2) 36) (jx_g (jx_in ((22 : Int32) + p2) 36) (if p1 = 0 then (jx_g (jx_in ((6 : Int32) + p2) 36) (some ((t_told (Int32.toNatClampNeg ((6 : Int32) + p2))), (k1 + k2)))) else (if p1 = (1 : Int32) then (some (((t_told (Int32.toNatClampNeg ((6 : Int32) + p2))) + (t_told (Int32.toNatClampNeg ((14 : Int32) + p2)))), (k1 + k2))) else (if p1 = (2 : Int32) then (some (((t_told (Int32.toNatClampNeg ((6 : Int32) + p2))) - (t_told (Int32.toNatClampNeg ((22 : Int32) + p2)))), (k1 + k2))) else (if p1 = (3 : Int32) then (some (((2 : Int32) * ((t_told (Int32.toNatClampNeg ((6 : Int32) + p2))) + (t_told (Int32.toNatClampNeg ((14 : Int32) + p2))))), (k1 + k2))) else (if p1 = (4 : Int32) then (some ((((t_told (Int32.toNatClampNeg ((6 : Int32) + p2))) - (t_told (Int32.toNatClampNeg ((22 : Int32) + p2)))) + p2), (k1 + k2))) else (jx_g (jx_in ((6 : Int32) + p2) 36) (some (((t_told (Int32.toNatClampNeg ((6 : Int32) + p2))) + (t_s (Int32.toNatClampNeg (0 : Int32)))), (k1 + k2))))))))))))
def mi_X12_mark (t_trace : Int64) (t_told : Nat → Int32) (t_s : Nat → Int32) (p1 : Int32) (p2 : Int32) : Option (Int32 × Int64) := jx_b1 (mi_X12_in p1 (0 : Int32) (5 : Int32)) fun r12 => (if r12 = 0 then (some ((-1000000 : Int32), t_trace)) else (jx_b1 (mi_X12_isSection t_told p2) fun r15 => (if r15 = 0 then (some ((-1000000 : Int32), t_trace)) else (if p1 = 0 then (mi_X12_mark_b80 t_told t_s p1 p2 t_trace (1 : Int64) t_trace) else (if p1 = (1 : Int32) then (mi_X12_mark_b80 t_told t_s p1 p2 t_trace (11 : Int64) t_trace) else (if p1 = (2 : Int32) then (mi_X12_mark_b80 t_told t_s p1 p2 t_trace (101 : Int64) t_trace) else (if p1 = (3 : Int32) then (mi_X12_mark_b80 t_told t_s p1 p2 t_trace (1011 : Int64) t_trace) else (if p1 = (4 : Int32) then (mi_X12_mark_b80 t_told t_s p1 p2 t_trace (10101 : Int64) t_trace) else (mi_X12_mark_b80 t_told t_s p1 p2 t_trace (100001 : Int64) t_trace)))))))))
abbrev rm_X12_mark : Room := { frames := 2, cells := 0, slots := 0, locals := 43 }
set_option maxRecDepth 100000 in
set_option maxHeartbeats 4000000 in
theorem ct_X12_mark (l : Launch) (D : va_G) (cI cZ cO : ClassId) (a_t a_t_text a_t_told a_t_draft a_t_s a_t_images a_t_kept a_t_notes a_t_players a_t_answers a_t_room a_t_inRest : Nat) (sz : Nat) (t_trace : Int64) (t_typed : Int32) (t_noted : Int32) (t_at : Int32) (t_sort : Int32) (t_start : Int32) (t_value : Int32) (t_told : Nat → Int32) (t_s : Nat → Int32) (p1 : Int32) (p2 : Int32) (r : Int32) (z_t_trace : Int64) (hm : mi_X12_mark t_trace t_told t_s p1 p2 = some (r, z_t_trace)) : Met l yX12_mark wsX12_mark rm_X12_mark (va_Pc [.ref a_t, .int p1, .int p2] (jx_W D (jx_T cI cZ cO) sz [(a_t, .inr (12, [.long t_trace, .ref a_t_text, .int t_typed, .ref a_t_told, .ref a_t_draft, .ref a_t_s, .ref a_t_images, .ref a_t_kept, .ref a_t_notes, .int t_noted, .int t_at, .int t_sort, .int t_start, .int t_value, .ref a_t_players, .ref a_t_answers, .ref a_t_room, .ref a_t_inRest])), (a_t_told, .inl (cI, 36, .inl t_told)), (a_t_s, .inl (cI, 56, .inl t_s))])) (jx_Q (some (.int r)) D [(a_t, .inr (12, [.long z_t_trace, .ref a_t_text, .int t_typed, .ref a_t_told, .ref a_t_draft, .ref a_t_s, .ref a_t_images, .ref a_t_kept, .ref a_t_notes, .int t_noted, .int t_at, .int t_sort, .int t_start, .int t_value, .ref a_t_players, .ref a_t_answers, .ref a_t_room, .ref a_t_inRest])), (a_t_told, .inl (cI, 36, .inl t_told)), (a_t_s, .inl (cI, 56, .inl t_s))] (va_A [(a_t, .inr (12, [.long t_trace, .ref a_t_text, .int t_typed, .ref a_t_told, .ref a_t_draft, .ref a_t_s, .ref a_t_images, .ref a_t_kept, .ref a_t_notes, .int t_noted, .int t_at, .int t_sort, .int t_start, .int t_value, .ref a_t_players, .ref a_t_answers, .ref a_t_room, .ref a_t_inRest])), (a_t_told, .inl (cI, 36, .inl t_told)), (a_t_s, .inl (cI, 56, .inl t_s))] sz)) 0 0 (va_A [(a_t, .inr (12, [.long t_trace, .ref a_t_text, .int t_typed, .ref a_t_told, .ref a_t_draft, .ref a_t_s, .ref a_t_images, .ref a_t_kept, .ref a_t_notes, .int t_noted, .int t_at, .int t_sort, .int t_start, .int t_value, .ref a_t_players, .ref a_t_answers, .ref a_t_room, .ref a_t_inRest])), (a_t_told, .inl (cI, 36, .inl t_told)), (a_t_s, .inl (cI, 56, .inl t_s))] sz) := by
  refine jx_metW (ty := .int) (own := RX12) (cc := cX12_mark) (maxL := 5) (by decide) rfl rfl (Nat.le_of_ble_eq_true rfl) ?_
  intro p e s m args below meth c Q ls A hx hb hml hown hts hK hN hA hP hD hS hl hret
  have hi_X12 : ∀ w ∈ u_ws RX12 TX12 18, w ∈ wsX12_mark := by decide +kernel
  have hl : lv_has ls 5 [(0, .ref a_t), (1, .int p1), (2, .int p2)] := hl
  have bl_b80 : ∀ (k1 : Int64) (k2 : Int64) (t_trace : Int64) (H : Heap) (locs : List Loc) (ls : Array Slot), va_P D vwCl [(a_t, .inr (12, [.long t_trace, .ref a_t_text, .int t_typed, .ref a_t_told, .ref a_t_draft, .ref a_t_s, .ref a_t_images, .ref a_t_kept, .ref a_t_notes, .int t_noted, .int t_at, .int t_sort, .int t_start, .int t_value, .ref a_t_players, .ref a_t_answers, .ref a_t_room, .ref a_t_inRest])), (a_t_told, .inl (cI, 36, .inl t_told)), (a_t_s, .inl (cI, 56, .inl t_s))] H → va_D A [(a_t, .inr (12, [.long t_trace, .ref a_t_text, .int t_typed, .ref a_t_told, .ref a_t_draft, .ref a_t_s, .ref a_t_images, .ref a_t_kept, .ref a_t_notes, .int t_noted, .int t_at, .int t_sort, .int t_start, .int t_value, .ref a_t_players, .ref a_t_answers, .ref a_t_room, .ref a_t_inRest])), (a_t_told, .inl (cI, 36, .inl t_told)), (a_t_s, .inl (cI, 56, .inl t_s))] → va_S A s.heap H locs → lv_has ls 5 [(0, .ref a_t), (1, .int p1), (2, .int p2)] → mi_X12_mark_b80 t_told t_s p1 p2 k1 k2 t_trace = some (r, z_t_trace) → W p l e (headSpec wsX12_mark rm_X12_mark).room s m args below meth c H locs 0 0 Q (F0 m 80 ls [.long k2, .long k1, .ref a_t]) := by
    intro k1 k2 t_trace H locs ls hP hD hS hl h
    unfold mi_X12_mark_b80 at h
    refine lv_ladd hx hb dX12_mark_80 ?_
    refine va_put (D := D) (ci := 12) (v := .long (k1 + k2)) (ty := .long) (C := RX12) (T := TX12) (N := 18) hx hb hts hi_X12 tyX12 tyX12_ok nmX12 hown hK hP hD hS 0 rfl rfl 0 (by decide) (hts (.fieldLink RX12 152 "TriangleRestModel" "trace" "J") (List.mem_of_getElem? (i := 2) rfl)) (fun _ h9 => h9) rfl (by decide +kernel) rfl rfl (Nat.le_of_ble_eq_true rfl) dX12_mark_81 (fun H locs hP hD hS => ?_)
    have hP : va_P D vwCl [(a_t, .inr (12, [.long (k1 + k2), .ref a_t_text, .int t_typed, .ref a_t_told, .ref a_t_draft, .ref a_t_s, .ref a_t_images, .ref a_t_kept, .ref a_t_notes, .int t_noted, .int t_at, .int t_sort, .int t_start, .int t_value, .ref a_t_players, .ref a_t_answers, .ref a_t_room, .ref a_t_inRest])), (a_t_told, .inl (cI, 36, .inl t_told)), (a_t_s, .inl (cI, 56, .inl t_s))] H := hP
    have hD : va_D A [(a_t, .inr (12, [.long (k1 + k2), .ref a_t_text, .int t_typed, .ref a_t_told, .ref a_t_draft, .ref a_t_s, .ref a_t_images, .ref a_t_kept, .ref a_t_notes, .int t_noted, .int t_at, .int t_sort, .int t_start, .int t_value, .ref a_t_players, .ref a_t_answers, .ref a_t_room, .ref a_t_inRest])), (a_t_told, .inl (cI, 36, .inl t_told)), (a_t_s, .inl (cI, 56, .inl t_s))] := hD
    refine lv_aload_n hx hb dX12_mark_84 rfl (lv_at hl 0 rfl) ?_
    refine va_get (D := D) (ci := 12) (v := .ref a_t_told) (C := RX12) (T := TX12) (N := 18) hx hb hts hi_X12 hown hK hP 0 rfl rfl 3 (by decide) (hts (.fieldLink RX12 13 "TriangleRestModel" "told" "[I") (List.mem_of_getElem? (i := 8) rfl)) (fun _ h9 => h9) rfl dX12_mark_85 ?_
    refine lv_bipush (v := (6 : Int32)) hx hb dX12_mark_88 (by decide) ?_
    refine lv_iload_n hx hb dX12_mark_90 rfl (lv_at hl 2 rfl) ?_
    refine lv_iadd hx hb dX12_mark_91 ?_
    obtain ⟨g1, h⟩ := jx_g_of h
    refine va_iald hx hb hK hP 1 0 rfl rfl (jx_in_of g1) dX12_mark_92 ?_
    refine lv_aload_n hx hb dX12_mark_93 rfl (lv_at hl 0 rfl) ?_
    refine va_get (D := D) (ci := 12) (v := .ref a_t_told) (C := RX12) (T := TX12) (N := 18) hx hb hts hi_X12 hown hK hP 0 rfl rfl 3 (by decide) (hts (.fieldLink RX12 13 "TriangleRestModel" "told" "[I") (List.mem_of_getElem? (i := 8) rfl)) (fun _ h9 => h9) rfl dX12_mark_94 ?_
    refine lv_bipush (v := (14 : Int32)) hx hb dX12_mark_97 (by decide) ?_
    refine lv_iload_n hx hb dX12_mark_99 rfl (lv_at hl 2 rfl) ?_
    refine lv_iadd hx hb dX12_mark_100 ?_
    obtain ⟨g2, h⟩ := jx_g_of h
    refine va_iald hx hb hK hP 1 0 rfl rfl (jx_in_of g2) dX12_mark_101 ?_
    refine lv_iadd hx hb dX12_mark_102 ?_
    refine lv_istore_n (lv' := [(3, .int ((t_told (Int32.toNatClampNeg ((6 : Int32) + p2))) + (t_told (Int32.toNatClampNeg ((14 : Int32) + p2))))), (0, .ref a_t), (1, .int p1), (2, .int p2)]) hx hb dX12_mark_103 rfl hl (by decide) rfl (fun ls hl => ?_)
    refine lv_aload_n hx hb dX12_mark_104 rfl (lv_at hl 1 rfl) ?_
    refine va_get (D := D) (ci := 12) (v := .ref a_t_told) (C := RX12) (T := TX12) (N := 18) hx hb hts hi_X12 hown hK hP 0 rfl rfl 3 (by decide) (hts (.fieldLink RX12 13 "TriangleRestModel" "told" "[I") (List.mem_of_getElem? (i := 8) rfl)) (fun _ h9 => h9) rfl dX12_mark_105 ?_
    refine lv_bipush (v := (6 : Int32)) hx hb dX12_mark_108 (by decide) ?_
    refine lv_iload_n hx hb dX12_mark_110 rfl (lv_at hl 3 rfl) ?_
    refine lv_iadd hx hb dX12_mark_111 ?_
    obtain ⟨g3, h⟩ := jx_g_of h
    refine va_iald hx hb hK hP 1 0 rfl rfl (jx_in_of g3) dX12_mark_112 ?_
    refine lv_aload_n hx hb dX12_mark_113 rfl (lv_at hl 1 rfl) ?_
    refine va_get (D := D) (ci := 12) (v := .ref a_t_told) (C := RX12) (T := TX12) (N := 18) hx hb hts hi_X12 hown hK hP 0 rfl rfl 3 (by decide) (hts (.fieldLink RX12 13 "TriangleRestModel" "told" "[I") (List.mem_of_getElem? (i := 8) rfl)) (fun _ h9 => h9) rfl dX12_mark_114 ?_
    refine lv_bipush (v := (22 : Int32)) hx hb dX12_mark_117 (by decide) ?_
    refine lv_iload_n hx hb dX12_mark_119 rfl (lv_at hl 3 rfl) ?_
    refine lv_iadd hx hb dX12_mark_120 ?_
    obtain ⟨g4, h⟩ := jx_g_of h
    refine va_iald hx hb hK hP 1 0 rfl rfl (jx_in_of g4) dX12_mark_121 ?_
    refine lv_isub hx hb dX12_mark_122 ?_
    refine lv_istore (lv' := [(4, .int ((t_told (Int32.toNatClampNeg ((6 : Int32) + p2))) - (t_told (Int32.toNatClampNeg ((22 : Int32) + p2))))), (3, .int ((t_told (Int32.toNatClampNeg ((6 : Int32) + p2))) + (t_told (Int32.toNatClampNeg ((14 : Int32) + p2))))), (0, .ref a_t), (1, .int p1), (2, .int p2)]) hx hb dX12_mark_123 hl (by decide) rfl (fun ls hl => ?_)
    refine lv_iload_n hx hb dX12_mark_125 rfl (lv_at hl 3 rfl) ?_
    refine lv_if_ne (tgt := 141) hx hb dX12_mark_126 (by decide) (fun c5 => ?_) (fun c5 => ?_)
    · have h := jx_f h c5
      refine lv_iload_n hx hb dX12_mark_141 rfl (lv_at hl 3 rfl) ?_
      refine lv_iconst (v := (1 : Int32)) hx hb dX12_mark_142 (by decide) ?_
      refine lv_icmp_ne (tgt := 150) hx hb dX12_mark_143 (by decide) (fun c6 => ?_) (fun c6 => ?_)
      · have h := jx_f h c6
        refine lv_iload_n hx hb dX12_mark_150 rfl (lv_at hl 3 rfl) ?_
        refine lv_iconst (v := (2 : Int32)) hx hb dX12_mark_151 (by decide) ?_
        refine lv_icmp_ne (tgt := 160) hx hb dX12_mark_152 (by decide) (fun c7 => ?_) (fun c7 => ?_)
        · have h := jx_f h c7
          refine lv_iload_n hx hb dX12_mark_160 rfl (lv_at hl 3 rfl) ?_
          refine lv_iconst (v := (3 : Int32)) hx hb dX12_mark_161 (by decide) ?_
          refine lv_icmp_ne (tgt := 171) hx hb dX12_mark_162 (by decide) (fun c8 => ?_) (fun c8 => ?_)
          · have h := jx_f h c8
            refine lv_iload_n hx hb dX12_mark_171 rfl (lv_at hl 3 rfl) ?_
            refine lv_iconst (v := (4 : Int32)) hx hb dX12_mark_172 (by decide) ?_
            refine lv_icmp_ne (tgt := 183) hx hb dX12_mark_173 (by decide) (fun c9 => ?_) (fun c9 => ?_)
            · have h := jx_f h c9
              refine lv_aload_n hx hb dX12_mark_183 rfl (lv_at hl 2 rfl) ?_
              refine va_get (D := D) (ci := 12) (v := .ref a_t_told) (C := RX12) (T := TX12) (N := 18) hx hb hts hi_X12 hown hK hP 0 rfl rfl 3 (by decide) (hts (.fieldLink RX12 13 "TriangleRestModel" "told" "[I") (List.mem_of_getElem? (i := 8) rfl)) (fun _ h9 => h9) rfl dX12_mark_184 ?_
              refine lv_bipush (v := (6 : Int32)) hx hb dX12_mark_187 (by decide) ?_
              refine lv_iload_n hx hb dX12_mark_189 rfl (lv_at hl 4 rfl) ?_
              refine lv_iadd hx hb dX12_mark_190 ?_
              obtain ⟨g10, h⟩ := jx_g_of h
              refine va_iald hx hb hK hP 1 0 rfl rfl (jx_in_of g10) dX12_mark_191 ?_
              refine lv_aload_n hx hb dX12_mark_192 rfl (lv_at hl 2 rfl) ?_
              refine va_get (D := D) (ci := 12) (v := .ref a_t_s) (C := RX12) (T := TX12) (N := 18) hx hb hts hi_X12 hown hK hP 0 rfl rfl 5 (by decide) (hts (.fieldLink RX12 19 "TriangleRestModel" "s" "[I") (List.mem_of_getElem? (i := 9) rfl)) (fun _ h9 => h9) rfl dX12_mark_193 ?_
              refine lv_iconst (v := (0 : Int32)) hx hb dX12_mark_196 (by decide) ?_
              refine va_iald hx hb hK hP 2 0 rfl rfl (jx_in_of (by decide +kernel)) dX12_mark_197 ?_
              refine lv_iadd hx hb dX12_mark_198 ?_
              cases h
              exact hret 199 ls _ _ hP hD hS rfl dX12_mark_199
            · have h := jx_t h c9
              refine lv_iload hx hb dX12_mark_176 (lv_at hl 0 rfl) ?_
              refine lv_iload_n hx hb dX12_mark_178 rfl (lv_at hl 4 rfl) ?_
              refine lv_iadd hx hb dX12_mark_179 ?_
              refine lv_goto (tgt := 199) hx hb dX12_mark_180 (by decide) ?_
              cases h
              exact hret 199 ls _ _ hP hD hS rfl dX12_mark_199
          · have h := jx_t h c8
            refine lv_iconst (v := (2 : Int32)) hx hb dX12_mark_165 (by decide) ?_
            refine lv_iload_n hx hb dX12_mark_166 rfl (lv_at hl 1 rfl) ?_
            refine lv_imul hx hb dX12_mark_167 ?_
            refine lv_goto (tgt := 199) hx hb dX12_mark_168 (by decide) ?_
            cases h
            exact hret 199 ls _ _ hP hD hS rfl dX12_mark_199
        · have h := jx_t h c7
          refine lv_iload hx hb dX12_mark_155 (lv_at hl 0 rfl) ?_
          refine lv_goto (tgt := 199) hx hb dX12_mark_157 (by decide) ?_
          cases h
          exact hret 199 ls _ _ hP hD hS rfl dX12_mark_199
      · have h := jx_t h c6
        refine lv_iload_n hx hb dX12_mark_146 rfl (lv_at hl 1 rfl) ?_
        refine lv_goto (tgt := 199) hx hb dX12_mark_147 (by decide) ?_
        cases h
        exact hret 199 ls _ _ hP hD hS rfl dX12_mark_199
    · have h := jx_t h c5
      refine lv_aload_n hx hb dX12_mark_129 rfl (lv_at hl 2 rfl) ?_
      refine va_get (D := D) (ci := 12) (v := .ref a_t_told) (C := RX12) (T := TX12) (N := 18) hx hb hts hi_X12 hown hK hP 0 rfl rfl 3 (by decide) (hts (.fieldLink RX12 13 "TriangleRestModel" "told" "[I") (List.mem_of_getElem? (i := 8) rfl)) (fun _ h9 => h9) rfl dX12_mark_130 ?_
      refine lv_bipush (v := (6 : Int32)) hx hb dX12_mark_133 (by decide) ?_
      refine lv_iload_n hx hb dX12_mark_135 rfl (lv_at hl 4 rfl) ?_
      refine lv_iadd hx hb dX12_mark_136 ?_
      obtain ⟨g11, h⟩ := jx_g_of h
      refine va_iald hx hb hK hP 1 0 rfl rfl (jx_in_of g11) dX12_mark_137 ?_
      refine lv_goto (tgt := 199) hx hb dX12_mark_138 (by decide) ?_
      cases h
      exact hret 199 ls _ _ hP hD hS rfl dX12_mark_199
  have h := hm
  unfold mi_X12_mark at h
  refine lv_iload_n hx hb dX12_mark_0 rfl (lv_at hl 1 rfl) ?_
  refine lv_iconst (v := (0 : Int32)) hx hb dX12_mark_1 (by decide) ?_
  refine lv_iconst (v := (5 : Int32)) hx hb dX12_mark_2 (by decide) ?_
  obtain ⟨r12, e13, h⟩ := jx_b1_of h
  refine jx_cS (o := some (.int r12)) (As := [.int p1, .int (0 : Int32), .int (5 : Int32)]) (rest := []) ⟨hx, hb, hml, hown, hts⟩ (ct_X12_in l p1 (0 : Int32) (5 : Int32) r12 e13) (va_cwS 3 hts gX12_mark_X12_in rfl rfl rfl (by decide +kernel) ⟨Nat.le_of_ble_eq_true rfl, Nat.le_of_ble_eq_true rfl⟩) rfl hl.1 rfl (Nat.le_of_ble_eq_true rfl) dX12_mark_3 ⟨Nat.zero_le _, Nat.zero_le _⟩ ?_
  refine lv_if_eq (tgt := 17) hx hb dX12_mark_6 (by decide) (fun c14 => ?_) (fun c14 => ?_)
  · have h := jx_t h c14
    refine lv_ldc (v := (-1000000 : Int32)) hx hb hown (hts (.constant RX12 127 (-1000000)) (List.mem_of_getElem? (i := 1) rfl)) dX12_mark_17 ?_
    cases h
    exact hret 19 ls _ _ hP hD hS rfl dX12_mark_19
  · have h := jx_f h c14
    refine lv_aload_n hx hb dX12_mark_9 rfl (lv_at hl 0 rfl) ?_
    refine lv_iload_n hx hb dX12_mark_10 rfl (lv_at hl 2 rfl) ?_
    obtain ⟨r15, e16, h⟩ := jx_b1_of h
    refine jx_cV (o := some (.int r15)) (As := [.int p2]) (rest := []) (b := a_t) ⟨hx, hb, hml, hown, hts⟩ (ct_X12_isSection l D cI cZ cO a_t a_t_text a_t_told a_t_draft a_t_s a_t_images a_t_kept a_t_notes a_t_players a_t_answers a_t_room a_t_inRest t_trace t_typed t_noted t_at t_sort t_start t_value t_told p2 r15 e16) (cwV 1 hts gX12_mark_X12_isSection rfl rfl rfl (by decide +kernel) ⟨Nat.le_of_ble_eq_true rfl, Nat.le_of_ble_eq_true rfl⟩) hK hN hP [0, 1] rfl (va_recv hK hP (ci := 12) (q0 := 0) rfl rfl) rfl hl.1 rfl (Nat.le_of_ble_eq_true rfl) dX12_mark_11 ⟨Nat.zero_le _, Nat.zero_le _⟩ ?_
    refine lv_if_ne (tgt := 20) hx hb dX12_mark_14 (by decide) (fun c17 => ?_) (fun c17 => ?_)
    · have h := jx_f h c17
      refine lv_aload_n hx hb dX12_mark_20 rfl (lv_at hl 0 rfl) ?_
      refine lv_dup hx hb dX12_mark_21 rfl ?_
      refine va_get (D := D) (ci := 12) (v := .long t_trace) (C := RX12) (T := TX12) (N := 18) hx hb hts hi_X12 hown hK hP 0 rfl rfl 0 (by decide) (hts (.fieldLink RX12 152 "TriangleRestModel" "trace" "J") (List.mem_of_getElem? (i := 2) rfl)) (fun _ h9 => h9) rfl dX12_mark_22 ?_
      refine lv_iload_n hx hb dX12_mark_25 rfl (lv_at hl 1 rfl) ?_
      refine lv_if_ne (tgt := 33) hx hb dX12_mark_26 (by decide) (fun c18 => ?_) (fun c18 => ?_)
      · have h := jx_f h c18
        refine lv_iload_n hx hb dX12_mark_33 rfl (lv_at hl 1 rfl) ?_
        refine lv_iconst (v := (1 : Int32)) hx hb dX12_mark_34 (by decide) ?_
        refine lv_icmp_ne (tgt := 44) hx hb dX12_mark_35 (by decide) (fun c19 => ?_) (fun c19 => ?_)
        · have h := jx_f h c19
          refine lv_iload_n hx hb dX12_mark_44 rfl (lv_at hl 1 rfl) ?_
          refine lv_iconst (v := (2 : Int32)) hx hb dX12_mark_45 (by decide) ?_
          refine lv_icmp_ne (tgt := 55) hx hb dX12_mark_46 (by decide) (fun c20 => ?_) (fun c20 => ?_)
          · have h := jx_f h c20
            refine lv_iload_n hx hb dX12_mark_55 rfl (lv_at hl 1 rfl) ?_
            refine lv_iconst (v := (3 : Int32)) hx hb dX12_mark_56 (by decide) ?_
            refine lv_icmp_ne (tgt := 66) hx hb dX12_mark_57 (by decide) (fun c21 => ?_) (fun c21 => ?_)
            · have h := jx_f h c21
              refine lv_iload_n hx hb dX12_mark_66 rfl (lv_at hl 1 rfl) ?_
              refine lv_iconst (v := (4 : Int32)) hx hb dX12_mark_67 (by decide) ?_
              refine lv_icmp_ne (tgt := 77) hx hb dX12_mark_68 (by decide) (fun c22 => ?_) (fun c22 => ?_)
              · have h := jx_f h c22
                refine lv_ldc2 (v := (100001 : Int64)) hx hb hown (hts (.constantLong RX12 164 (100001)) (List.mem_of_getElem? (i := 7) rfl)) dX12_mark_77 ?_
                exact bl_b80 t_trace (100001 : Int64) t_trace _ _ _ hP hD hS (lv_sub hl [0, 1, 2] rfl) h
              · have h := jx_t h c22
                refine lv_ldc2 (v := (10101 : Int64)) hx hb hown (hts (.constantLong RX12 162 (10101)) (List.mem_of_getElem? (i := 6) rfl)) dX12_mark_71 ?_
                refine lv_goto (tgt := 80) hx hb dX12_mark_74 (by decide) ?_
                exact bl_b80 t_trace (10101 : Int64) t_trace _ _ _ hP hD hS (lv_sub hl [0, 1, 2] rfl) h
            · have h := jx_t h c21
              refine lv_ldc2 (v := (1011 : Int64)) hx hb hown (hts (.constantLong RX12 160 (1011)) (List.mem_of_getElem? (i := 5) rfl)) dX12_mark_60 ?_
              refine lv_goto (tgt := 80) hx hb dX12_mark_63 (by decide) ?_
              exact bl_b80 t_trace (1011 : Int64) t_trace _ _ _ hP hD hS (lv_sub hl [0, 1, 2] rfl) h
          · have h := jx_t h c20
            refine lv_ldc2 (v := (101 : Int64)) hx hb hown (hts (.constantLong RX12 158 (101)) (List.mem_of_getElem? (i := 4) rfl)) dX12_mark_49 ?_
            refine lv_goto (tgt := 80) hx hb dX12_mark_52 (by decide) ?_
            exact bl_b80 t_trace (101 : Int64) t_trace _ _ _ hP hD hS (lv_sub hl [0, 1, 2] rfl) h
        · have h := jx_t h c19
          refine lv_ldc2 (v := (11 : Int64)) hx hb hown (hts (.constantLong RX12 156 (11)) (List.mem_of_getElem? (i := 3) rfl)) dX12_mark_38 ?_
          refine lv_goto (tgt := 80) hx hb dX12_mark_41 (by decide) ?_
          exact bl_b80 t_trace (11 : Int64) t_trace _ _ _ hP hD hS (lv_sub hl [0, 1, 2] rfl) h
      · have h := jx_t h c18
        refine lv_lconst (v := (1 : Int64)) hx hb dX12_mark_29 (by decide) ?_
        refine lv_goto (tgt := 80) hx hb dX12_mark_30 (by decide) ?_
        exact bl_b80 t_trace (1 : Int64) t_trace _ _ _ hP hD hS (lv_sub hl [0, 1, 2] rfl) h
    · have h := jx_t h c17
      refine lv_ldc (v := (-1000000 : Int32)) hx hb hown (hts (.constant RX12 127 (-1000000)) (List.mem_of_getElem? (i := 1) rfl)) dX12_mark_17 ?_
      cases h
      exact hret 19 ls _ _ hP hD hS rfl dX12_mark_19
def mi_X12_keep_l13 (t_s : Nat → Int32) (p1 : Int32) : Nat → Int32 → (Nat → Int32) → (Nat → Int32) → Option (Int32 × (Nat → Int32) × (Nat → Int32))
  | 0, _, _, _ => none
  | n + 1, x2, t_images, t_kept => if (56 : Int32) ≤ x2 then (jx_g (jx_in p1 2) (some ((t_s (Int32.toNatClampNeg (0 : Int32))), t_images, (upd t_kept (Int32.toNatClampNeg p1) (vp_nar .boolean (1 : Int32)))))) else (jx_g (jx_in x2 56) (jx_g (jx_in (((56 : Int32) * p1) + x2) 112) (mi_X12_keep_l13 t_s p1 n (x2 + 1) (upd t_images (Int32.toNatClampNeg (((56 : Int32) * p1) + x2)) (t_s (Int32.toNatClampNeg x2))) t_kept)))
def mi_X12_keep (t_s : Nat → Int32) (t_images : Nat → Int32) (t_kept : Nat → Int32) (p1 : Int32) : Option (Int32 × (Nat → Int32) × (Nat → Int32)) := jx_b1 (mi_X12_in p1 (0 : Int32) (1 : Int32)) fun r5 => (if r5 = 0 then (some ((-1 : Int32), t_images, t_kept)) else (mi_X12_keep_l13 t_s p1 jx_F (0 : Int32) t_images t_kept))
abbrev rm_X12_keep : Room := { frames := 1, cells := 0, slots := 0, locals := 22 }
set_option maxRecDepth 100000 in
set_option maxHeartbeats 4000000 in
theorem ct_X12_keep (l : Launch) (D : va_G) (cI cZ cO : ClassId) (a_t a_t_text a_t_told a_t_draft a_t_s a_t_images a_t_kept a_t_notes a_t_players a_t_answers a_t_room a_t_inRest : Nat) (sz : Nat) (t_trace : Int64) (t_typed : Int32) (t_noted : Int32) (t_at : Int32) (t_sort : Int32) (t_start : Int32) (t_value : Int32) (t_s : Nat → Int32) (t_images : Nat → Int32) (t_kept : Nat → Int32) (p1 : Int32) (r : Int32) (z_t_images : Nat → Int32) (z_t_kept : Nat → Int32) (hm : mi_X12_keep t_s t_images t_kept p1 = some (r, z_t_images, z_t_kept)) : Met l yX12_keep wsX12_keep rm_X12_keep (va_Pc [.ref a_t, .int p1] (jx_W D (jx_T cI cZ cO) sz [(a_t, .inr (12, [.long t_trace, .ref a_t_text, .int t_typed, .ref a_t_told, .ref a_t_draft, .ref a_t_s, .ref a_t_images, .ref a_t_kept, .ref a_t_notes, .int t_noted, .int t_at, .int t_sort, .int t_start, .int t_value, .ref a_t_players, .ref a_t_answers, .ref a_t_room, .ref a_t_inRest])), (a_t_s, .inl (cI, 56, .inl t_s)), (a_t_images, .inl (cI, 112, .inl t_images)), (a_t_kept, .inl (cZ, 2, .inl t_kept))])) (jx_Q (some (.int r)) D [(a_t, .inr (12, [.long t_trace, .ref a_t_text, .int t_typed, .ref a_t_told, .ref a_t_draft, .ref a_t_s, .ref a_t_images, .ref a_t_kept, .ref a_t_notes, .int t_noted, .int t_at, .int t_sort, .int t_start, .int t_value, .ref a_t_players, .ref a_t_answers, .ref a_t_room, .ref a_t_inRest])), (a_t_s, .inl (cI, 56, .inl t_s)), (a_t_images, .inl (cI, 112, .inl z_t_images)), (a_t_kept, .inl (cZ, 2, .inl z_t_kept))] (va_A [(a_t, .inr (12, [.long t_trace, .ref a_t_text, .int t_typed, .ref a_t_told, .ref a_t_draft, .ref a_t_s, .ref a_t_images, .ref a_t_kept, .ref a_t_notes, .int t_noted, .int t_at, .int t_sort, .int t_start, .int t_value, .ref a_t_players, .ref a_t_answers, .ref a_t_room, .ref a_t_inRest])), (a_t_s, .inl (cI, 56, .inl t_s)), (a_t_images, .inl (cI, 112, .inl t_images)), (a_t_kept, .inl (cZ, 2, .inl t_kept))] sz)) 0 0 (va_A [(a_t, .inr (12, [.long t_trace, .ref a_t_text, .int t_typed, .ref a_t_told, .ref a_t_draft, .ref a_t_s, .ref a_t_images, .ref a_t_kept, .ref a_t_notes, .int t_noted, .int t_at, .int t_sort, .int t_start, .int t_value, .ref a_t_players, .ref a_t_answers, .ref a_t_room, .ref a_t_inRest])), (a_t_s, .inl (cI, 56, .inl t_s)), (a_t_images, .inl (cI, 112, .inl t_images)), (a_t_kept, .inl (cZ, 2, .inl t_kept))] sz) := by
  refine jx_metW (ty := .int) (own := RX12) (cc := cX12_keep) (maxL := 3) (by decide) rfl rfl (Nat.le_of_ble_eq_true rfl) ?_
  intro p e s m args below meth c Q ls A hx hb hml hown hts hK hN hA hP hD hS hl hret
  have hi_X12 : ∀ w ∈ u_ws RX12 TX12 18, w ∈ wsX12_keep := by decide +kernel
  have hl : lv_has ls 3 [(0, .ref a_t), (1, .int p1)] := hl
  have bl_l13 : ∀ (n : Nat) (x2 : Int32) (t_images : Nat → Int32) (t_kept : Nat → Int32) (H : Heap) (locs : List Loc) (ls : Array Slot), va_P D vwCl [(a_t, .inr (12, [.long t_trace, .ref a_t_text, .int t_typed, .ref a_t_told, .ref a_t_draft, .ref a_t_s, .ref a_t_images, .ref a_t_kept, .ref a_t_notes, .int t_noted, .int t_at, .int t_sort, .int t_start, .int t_value, .ref a_t_players, .ref a_t_answers, .ref a_t_room, .ref a_t_inRest])), (a_t_s, .inl (cI, 56, .inl t_s)), (a_t_images, .inl (cI, 112, .inl t_images)), (a_t_kept, .inl (cZ, 2, .inl t_kept))] H → va_D A [(a_t, .inr (12, [.long t_trace, .ref a_t_text, .int t_typed, .ref a_t_told, .ref a_t_draft, .ref a_t_s, .ref a_t_images, .ref a_t_kept, .ref a_t_notes, .int t_noted, .int t_at, .int t_sort, .int t_start, .int t_value, .ref a_t_players, .ref a_t_answers, .ref a_t_room, .ref a_t_inRest])), (a_t_s, .inl (cI, 56, .inl t_s)), (a_t_images, .inl (cI, 112, .inl t_images)), (a_t_kept, .inl (cZ, 2, .inl t_kept))] → va_S A s.heap H locs → lv_has ls 3 [(0, .ref a_t), (1, .int p1), (2, .int x2)] → mi_X12_keep_l13 t_s p1 n x2 t_images t_kept = some (r, z_t_images, z_t_kept) → W p l e (headSpec wsX12_keep rm_X12_keep).room s m args below meth c H locs 0 0 Q (F0 m 13 ls []) := by
    intro n
    induction n with
    | zero =>
      intro x2 t_images t_kept H locs ls hP hD hS hl h
      rw [mi_X12_keep_l13] at h
      cases h
    | succ n_l13 ih_l13 =>
      intro x2 t_images t_kept H locs ls hP hD hS hl h
      rw [mi_X12_keep_l13] at h
      refine lv_iload_n hx hb dX12_keep_13 rfl (lv_at hl 2 rfl) ?_
      refine lv_bipush (v := (56 : Int32)) hx hb dX12_keep_14 (by decide) ?_
      refine lv_icmp_ge (tgt := 42) hx hb dX12_keep_16 (by decide) (fun c1 => ?_) (fun c1 => ?_)
      · have h := jx_t h c1
        refine lv_aload_n hx hb dX12_keep_42 rfl (lv_at hl 0 rfl) ?_
        refine va_get (D := D) (ci := 12) (v := .ref a_t_kept) (C := RX12) (T := TX12) (N := 18) hx hb hts hi_X12 hown hK hP 0 rfl rfl 7 (by decide) (hts (.fieldLink RX12 25 "TriangleRestModel" "kept" "[Z") (List.mem_of_getElem? (i := 3) rfl)) (fun _ h9 => h9) rfl dX12_keep_43 ?_
        refine lv_iload_n hx hb dX12_keep_46 rfl (lv_at hl 1 rfl) ?_
        refine lv_iconst (v := (1 : Int32)) hx hb dX12_keep_47 (by decide) ?_
        obtain ⟨g2, h⟩ := jx_g_of h
        refine va_zast hx hb hK hP hD hS 3 1 rfl rfl (jx_in_of g2) dX12_keep_48 (fun H locs hP hD hS => ?_)
        have hP : va_P D vwCl [(a_t, .inr (12, [.long t_trace, .ref a_t_text, .int t_typed, .ref a_t_told, .ref a_t_draft, .ref a_t_s, .ref a_t_images, .ref a_t_kept, .ref a_t_notes, .int t_noted, .int t_at, .int t_sort, .int t_start, .int t_value, .ref a_t_players, .ref a_t_answers, .ref a_t_room, .ref a_t_inRest])), (a_t_s, .inl (cI, 56, .inl t_s)), (a_t_images, .inl (cI, 112, .inl t_images)), (a_t_kept, .inl (cZ, 2, .inl (upd t_kept (Int32.toNatClampNeg p1) (vp_nar .boolean (1 : Int32)))))] H := hP
        have hD : va_D A [(a_t, .inr (12, [.long t_trace, .ref a_t_text, .int t_typed, .ref a_t_told, .ref a_t_draft, .ref a_t_s, .ref a_t_images, .ref a_t_kept, .ref a_t_notes, .int t_noted, .int t_at, .int t_sort, .int t_start, .int t_value, .ref a_t_players, .ref a_t_answers, .ref a_t_room, .ref a_t_inRest])), (a_t_s, .inl (cI, 56, .inl t_s)), (a_t_images, .inl (cI, 112, .inl t_images)), (a_t_kept, .inl (cZ, 2, .inl (upd t_kept (Int32.toNatClampNeg p1) (vp_nar .boolean (1 : Int32)))))] := hD
        refine lv_aload_n hx hb dX12_keep_49 rfl (lv_at hl 0 rfl) ?_
        refine va_get (D := D) (ci := 12) (v := .ref a_t_s) (C := RX12) (T := TX12) (N := 18) hx hb hts hi_X12 hown hK hP 0 rfl rfl 5 (by decide) (hts (.fieldLink RX12 19 "TriangleRestModel" "s" "[I") (List.mem_of_getElem? (i := 2) rfl)) (fun _ h9 => h9) rfl dX12_keep_50 ?_
        refine lv_iconst (v := (0 : Int32)) hx hb dX12_keep_53 (by decide) ?_
        refine va_iald hx hb hK hP 1 0 rfl rfl (jx_in_of (by decide +kernel)) dX12_keep_54 ?_
        cases h
        exact hret 55 ls _ _ hP hD hS rfl dX12_keep_55
      · have h := jx_f h c1
        refine lv_aload_n hx hb dX12_keep_19 rfl (lv_at hl 0 rfl) ?_
        refine va_get (D := D) (ci := 12) (v := .ref a_t_images) (C := RX12) (T := TX12) (N := 18) hx hb hts hi_X12 hown hK hP 0 rfl rfl 6 (by decide) (hts (.fieldLink RX12 22 "TriangleRestModel" "images" "[I") (List.mem_of_getElem? (i := 1) rfl)) (fun _ h9 => h9) rfl dX12_keep_20 ?_
        refine lv_bipush (v := (56 : Int32)) hx hb dX12_keep_23 (by decide) ?_
        refine lv_iload_n hx hb dX12_keep_25 rfl (lv_at hl 1 rfl) ?_
        refine lv_imul hx hb dX12_keep_26 ?_
        refine lv_iload_n hx hb dX12_keep_27 rfl (lv_at hl 2 rfl) ?_
        refine lv_iadd hx hb dX12_keep_28 ?_
        refine lv_aload_n hx hb dX12_keep_29 rfl (lv_at hl 0 rfl) ?_
        refine va_get (D := D) (ci := 12) (v := .ref a_t_s) (C := RX12) (T := TX12) (N := 18) hx hb hts hi_X12 hown hK hP 0 rfl rfl 5 (by decide) (hts (.fieldLink RX12 19 "TriangleRestModel" "s" "[I") (List.mem_of_getElem? (i := 2) rfl)) (fun _ h9 => h9) rfl dX12_keep_30 ?_
        refine lv_iload_n hx hb dX12_keep_33 rfl (lv_at hl 2 rfl) ?_
        obtain ⟨g3, h⟩ := jx_g_of h
        refine va_iald hx hb hK hP 1 0 rfl rfl (jx_in_of g3) dX12_keep_34 ?_
        obtain ⟨g4, h⟩ := jx_g_of h
        refine va_iast hx hb hK hP hD hS 2 0 rfl rfl (jx_in_of g4) dX12_keep_35 (fun H locs hP hD hS => ?_)
        have hP : va_P D vwCl [(a_t, .inr (12, [.long t_trace, .ref a_t_text, .int t_typed, .ref a_t_told, .ref a_t_draft, .ref a_t_s, .ref a_t_images, .ref a_t_kept, .ref a_t_notes, .int t_noted, .int t_at, .int t_sort, .int t_start, .int t_value, .ref a_t_players, .ref a_t_answers, .ref a_t_room, .ref a_t_inRest])), (a_t_s, .inl (cI, 56, .inl t_s)), (a_t_images, .inl (cI, 112, .inl (upd t_images (Int32.toNatClampNeg (((56 : Int32) * p1) + x2)) (t_s (Int32.toNatClampNeg x2))))), (a_t_kept, .inl (cZ, 2, .inl t_kept))] H := hP
        have hD : va_D A [(a_t, .inr (12, [.long t_trace, .ref a_t_text, .int t_typed, .ref a_t_told, .ref a_t_draft, .ref a_t_s, .ref a_t_images, .ref a_t_kept, .ref a_t_notes, .int t_noted, .int t_at, .int t_sort, .int t_start, .int t_value, .ref a_t_players, .ref a_t_answers, .ref a_t_room, .ref a_t_inRest])), (a_t_s, .inl (cI, 56, .inl t_s)), (a_t_images, .inl (cI, 112, .inl (upd t_images (Int32.toNatClampNeg (((56 : Int32) * p1) + x2)) (t_s (Int32.toNatClampNeg x2))))), (a_t_kept, .inl (cZ, 2, .inl t_kept))] := hD
        refine lv_iinc (v := (x2 + 1)) (lv' := [(2, .int (x2 + 1)), (0, .ref a_t), (1, .int p1)]) hx hb dX12_keep_36 hl (k := 2) rfl rfl (by decide) rfl (fun ls hl => ?_)
        refine lv_goto (tgt := 13) hx hb dX12_keep_39 (by decide) ?_
        exact ih_l13 (x2 + 1) (upd t_images (Int32.toNatClampNeg (((56 : Int32) * p1) + x2)) (t_s (Int32.toNatClampNeg x2))) t_kept _ _ _ hP hD hS (lv_sub hl [1, 2, 0] rfl) h
  have h := hm
  unfold mi_X12_keep at h
  refine lv_iload_n hx hb dX12_keep_0 rfl (lv_at hl 1 rfl) ?_
  refine lv_iconst (v := (0 : Int32)) hx hb dX12_keep_1 (by decide) ?_
  refine lv_iconst (v := (1 : Int32)) hx hb dX12_keep_2 (by decide) ?_
  obtain ⟨r5, e6, h⟩ := jx_b1_of h
  refine jx_cS (o := some (.int r5)) (As := [.int p1, .int (0 : Int32), .int (1 : Int32)]) (rest := []) ⟨hx, hb, hml, hown, hts⟩ (ct_X12_in l p1 (0 : Int32) (1 : Int32) r5 e6) (va_cwS 3 hts gX12_keep_X12_in rfl rfl rfl (by decide +kernel) ⟨Nat.le_of_ble_eq_true rfl, Nat.le_of_ble_eq_true rfl⟩) rfl hl.1 rfl (Nat.le_of_ble_eq_true rfl) dX12_keep_3 ⟨Nat.zero_le _, Nat.zero_le _⟩ ?_
  refine lv_if_ne (tgt := 11) hx hb dX12_keep_6 (by decide) (fun c7 => ?_) (fun c7 => ?_)
  · have h := jx_f h c7
    refine lv_iconst (v := (0 : Int32)) hx hb dX12_keep_11 (by decide) ?_
    refine lv_istore_n (lv' := [(2, .int (0 : Int32)), (0, .ref a_t), (1, .int p1)]) hx hb dX12_keep_12 rfl hl (by decide) rfl (fun ls hl => ?_)
    exact bl_l13 jx_F (0 : Int32) t_images t_kept _ _ _ hP hD hS (lv_sub hl [1, 2, 0] rfl) h
  · have h := jx_t h c7
    refine lv_iconst (v := (-1 : Int32)) hx hb dX12_keep_9 (by decide) ?_
    cases h
    exact hret 10 ls _ _ hP hD hS rfl dX12_keep_10
def mi_X12_back_l25 (t_images : Nat → Int32) (p1 : Int32) : Nat → Int32 → (Nat → Int32) → Option (Int32 × (Nat → Int32))
  | 0, _, _ => none
  | n + 1, x2, t_s => if (56 : Int32) ≤ x2 then (some ((t_s (Int32.toNatClampNeg (0 : Int32))), t_s)) else (jx_g (jx_in (((56 : Int32) * p1) + x2) 112) (jx_g (jx_in x2 56) (mi_X12_back_l25 t_images p1 n (x2 + 1) (upd t_s (Int32.toNatClampNeg x2) (t_images (Int32.toNatClampNeg (((56 : Int32) * p1) + x2)))))))
def mi_X12_back (t_s : Nat → Int32) (t_images : Nat → Int32) (t_kept : Nat → Int32) (p1 : Int32) : Option (Int32 × (Nat → Int32)) := jx_b1 (mi_X12_in p1 (0 : Int32) (1 : Int32)) fun r4 => (if r4 = 0 then (some ((-1 : Int32), t_s)) else (jx_g (jx_in p1 2) (if (t_kept (Int32.toNatClampNeg p1)) = 0 then (some ((-2 : Int32), t_s)) else (mi_X12_back_l25 t_images p1 jx_F (0 : Int32) t_s))))
abbrev rm_X12_back : Room := { frames := 1, cells := 0, slots := 0, locals := 22 }
set_option maxRecDepth 100000 in
set_option maxHeartbeats 4000000 in
theorem ct_X12_back (l : Launch) (D : va_G) (cI cZ cO : ClassId) (a_t a_t_text a_t_told a_t_draft a_t_s a_t_images a_t_kept a_t_notes a_t_players a_t_answers a_t_room a_t_inRest : Nat) (sz : Nat) (t_trace : Int64) (t_typed : Int32) (t_noted : Int32) (t_at : Int32) (t_sort : Int32) (t_start : Int32) (t_value : Int32) (t_s : Nat → Int32) (t_images : Nat → Int32) (t_kept : Nat → Int32) (p1 : Int32) (r : Int32) (z_t_s : Nat → Int32) (hm : mi_X12_back t_s t_images t_kept p1 = some (r, z_t_s)) : Met l yX12_back wsX12_back rm_X12_back (va_Pc [.ref a_t, .int p1] (jx_W D (jx_T cI cZ cO) sz [(a_t, .inr (12, [.long t_trace, .ref a_t_text, .int t_typed, .ref a_t_told, .ref a_t_draft, .ref a_t_s, .ref a_t_images, .ref a_t_kept, .ref a_t_notes, .int t_noted, .int t_at, .int t_sort, .int t_start, .int t_value, .ref a_t_players, .ref a_t_answers, .ref a_t_room, .ref a_t_inRest])), (a_t_s, .inl (cI, 56, .inl t_s)), (a_t_images, .inl (cI, 112, .inl t_images)), (a_t_kept, .inl (cZ, 2, .inl t_kept))])) (jx_Q (some (.int r)) D [(a_t, .inr (12, [.long t_trace, .ref a_t_text, .int t_typed, .ref a_t_told, .ref a_t_draft, .ref a_t_s, .ref a_t_images, .ref a_t_kept, .ref a_t_notes, .int t_noted, .int t_at, .int t_sort, .int t_start, .int t_value, .ref a_t_players, .ref a_t_answers, .ref a_t_room, .ref a_t_inRest])), (a_t_s, .inl (cI, 56, .inl z_t_s)), (a_t_images, .inl (cI, 112, .inl t_images)), (a_t_kept, .inl (cZ, 2, .inl t_kept))] (va_A [(a_t, .inr (12, [.long t_trace, .ref a_t_text, .int t_typed, .ref a_t_told, .ref a_t_draft, .ref a_t_s, .ref a_t_images, .ref a_t_kept, .ref a_t_notes, .int t_noted, .int t_at, .int t_sort, .int t_start, .int t_value, .ref a_t_players, .ref a_t_answers, .ref a_t_room, .ref a_t_inRest])), (a_t_s, .inl (cI, 56, .inl t_s)), (a_t_images, .inl (cI, 112, .inl t_images)), (a_t_kept, .inl (cZ, 2, .inl t_kept))] sz)) 0 0 (va_A [(a_t, .inr (12, [.long t_trace, .ref a_t_text, .int t_typed, .ref a_t_told, .ref a_t_draft, .ref a_t_s, .ref a_t_images, .ref a_t_kept, .ref a_t_notes, .int t_noted, .int t_at, .int t_sort, .int t_start, .int t_value, .ref a_t_players, .ref a_t_answers, .ref a_t_room, .ref a_t_inRest])), (a_t_s, .inl (cI, 56, .inl t_s)), (a_t_images, .inl (cI, 112, .inl t_images)), (a_t_kept, .inl (cZ, 2, .inl t_kept))] sz) := by
  refine jx_metW (ty := .int) (own := RX12) (cc := cX12_back) (maxL := 3) (by decide) rfl rfl (Nat.le_of_ble_eq_true rfl) ?_
  intro p e s m args below meth c Q ls A hx hb hml hown hts hK hN hA hP hD hS hl hret
  have hi_X12 : ∀ w ∈ u_ws RX12 TX12 18, w ∈ wsX12_back := by decide +kernel
  have hl : lv_has ls 3 [(0, .ref a_t), (1, .int p1)] := hl
  have bl_l25 : ∀ (n : Nat) (x2 : Int32) (t_s : Nat → Int32) (H : Heap) (locs : List Loc) (ls : Array Slot), va_P D vwCl [(a_t, .inr (12, [.long t_trace, .ref a_t_text, .int t_typed, .ref a_t_told, .ref a_t_draft, .ref a_t_s, .ref a_t_images, .ref a_t_kept, .ref a_t_notes, .int t_noted, .int t_at, .int t_sort, .int t_start, .int t_value, .ref a_t_players, .ref a_t_answers, .ref a_t_room, .ref a_t_inRest])), (a_t_s, .inl (cI, 56, .inl t_s)), (a_t_images, .inl (cI, 112, .inl t_images)), (a_t_kept, .inl (cZ, 2, .inl t_kept))] H → va_D A [(a_t, .inr (12, [.long t_trace, .ref a_t_text, .int t_typed, .ref a_t_told, .ref a_t_draft, .ref a_t_s, .ref a_t_images, .ref a_t_kept, .ref a_t_notes, .int t_noted, .int t_at, .int t_sort, .int t_start, .int t_value, .ref a_t_players, .ref a_t_answers, .ref a_t_room, .ref a_t_inRest])), (a_t_s, .inl (cI, 56, .inl t_s)), (a_t_images, .inl (cI, 112, .inl t_images)), (a_t_kept, .inl (cZ, 2, .inl t_kept))] → va_S A s.heap H locs → lv_has ls 3 [(0, .ref a_t), (1, .int p1), (2, .int x2)] → mi_X12_back_l25 t_images p1 n x2 t_s = some (r, z_t_s) → W p l e (headSpec wsX12_back rm_X12_back).room s m args below meth c H locs 0 0 Q (F0 m 25 ls []) := by
    intro n
    induction n with
    | zero =>
      intro x2 t_s H locs ls hP hD hS hl h
      rw [mi_X12_back_l25] at h
      cases h
    | succ n_l25 ih_l25 =>
      intro x2 t_s H locs ls hP hD hS hl h
      rw [mi_X12_back_l25] at h
      refine lv_iload_n hx hb dX12_back_25 rfl (lv_at hl 2 rfl) ?_
      refine lv_bipush (v := (56 : Int32)) hx hb dX12_back_26 (by decide) ?_
      refine lv_icmp_ge (tgt := 54) hx hb dX12_back_28 (by decide) (fun c1 => ?_) (fun c1 => ?_)
      · have h := jx_t h c1
        refine lv_aload_n hx hb dX12_back_54 rfl (lv_at hl 0 rfl) ?_
        refine va_get (D := D) (ci := 12) (v := .ref a_t_s) (C := RX12) (T := TX12) (N := 18) hx hb hts hi_X12 hown hK hP 0 rfl rfl 5 (by decide) (hts (.fieldLink RX12 19 "TriangleRestModel" "s" "[I") (List.mem_of_getElem? (i := 2) rfl)) (fun _ h9 => h9) rfl dX12_back_55 ?_
        refine lv_iconst (v := (0 : Int32)) hx hb dX12_back_58 (by decide) ?_
        refine va_iald hx hb hK hP 1 0 rfl rfl (jx_in_of (by decide +kernel)) dX12_back_59 ?_
        cases h
        exact hret 60 ls _ _ hP hD hS rfl dX12_back_60
      · have h := jx_f h c1
        refine lv_aload_n hx hb dX12_back_31 rfl (lv_at hl 0 rfl) ?_
        refine va_get (D := D) (ci := 12) (v := .ref a_t_s) (C := RX12) (T := TX12) (N := 18) hx hb hts hi_X12 hown hK hP 0 rfl rfl 5 (by decide) (hts (.fieldLink RX12 19 "TriangleRestModel" "s" "[I") (List.mem_of_getElem? (i := 2) rfl)) (fun _ h9 => h9) rfl dX12_back_32 ?_
        refine lv_iload_n hx hb dX12_back_35 rfl (lv_at hl 2 rfl) ?_
        refine lv_aload_n hx hb dX12_back_36 rfl (lv_at hl 0 rfl) ?_
        refine va_get (D := D) (ci := 12) (v := .ref a_t_images) (C := RX12) (T := TX12) (N := 18) hx hb hts hi_X12 hown hK hP 0 rfl rfl 6 (by decide) (hts (.fieldLink RX12 22 "TriangleRestModel" "images" "[I") (List.mem_of_getElem? (i := 3) rfl)) (fun _ h9 => h9) rfl dX12_back_37 ?_
        refine lv_bipush (v := (56 : Int32)) hx hb dX12_back_40 (by decide) ?_
        refine lv_iload_n hx hb dX12_back_42 rfl (lv_at hl 1 rfl) ?_
        refine lv_imul hx hb dX12_back_43 ?_
        refine lv_iload_n hx hb dX12_back_44 rfl (lv_at hl 2 rfl) ?_
        refine lv_iadd hx hb dX12_back_45 ?_
        obtain ⟨g2, h⟩ := jx_g_of h
        refine va_iald hx hb hK hP 2 0 rfl rfl (jx_in_of g2) dX12_back_46 ?_
        obtain ⟨g3, h⟩ := jx_g_of h
        refine va_iast hx hb hK hP hD hS 1 0 rfl rfl (jx_in_of g3) dX12_back_47 (fun H locs hP hD hS => ?_)
        have hP : va_P D vwCl [(a_t, .inr (12, [.long t_trace, .ref a_t_text, .int t_typed, .ref a_t_told, .ref a_t_draft, .ref a_t_s, .ref a_t_images, .ref a_t_kept, .ref a_t_notes, .int t_noted, .int t_at, .int t_sort, .int t_start, .int t_value, .ref a_t_players, .ref a_t_answers, .ref a_t_room, .ref a_t_inRest])), (a_t_s, .inl (cI, 56, .inl (upd t_s (Int32.toNatClampNeg x2) (t_images (Int32.toNatClampNeg (((56 : Int32) * p1) + x2)))))), (a_t_images, .inl (cI, 112, .inl t_images)), (a_t_kept, .inl (cZ, 2, .inl t_kept))] H := hP
        have hD : va_D A [(a_t, .inr (12, [.long t_trace, .ref a_t_text, .int t_typed, .ref a_t_told, .ref a_t_draft, .ref a_t_s, .ref a_t_images, .ref a_t_kept, .ref a_t_notes, .int t_noted, .int t_at, .int t_sort, .int t_start, .int t_value, .ref a_t_players, .ref a_t_answers, .ref a_t_room, .ref a_t_inRest])), (a_t_s, .inl (cI, 56, .inl (upd t_s (Int32.toNatClampNeg x2) (t_images (Int32.toNatClampNeg (((56 : Int32) * p1) + x2)))))), (a_t_images, .inl (cI, 112, .inl t_images)), (a_t_kept, .inl (cZ, 2, .inl t_kept))] := hD
        refine lv_iinc (v := (x2 + 1)) (lv' := [(2, .int (x2 + 1)), (0, .ref a_t), (1, .int p1)]) hx hb dX12_back_48 hl (k := 2) rfl rfl (by decide) rfl (fun ls hl => ?_)
        refine lv_goto (tgt := 25) hx hb dX12_back_51 (by decide) ?_
        exact ih_l25 (x2 + 1) (upd t_s (Int32.toNatClampNeg x2) (t_images (Int32.toNatClampNeg (((56 : Int32) * p1) + x2)))) _ _ _ hP hD hS (lv_sub hl [1, 2, 0] rfl) h
  have h := hm
  unfold mi_X12_back at h
  refine lv_iload_n hx hb dX12_back_0 rfl (lv_at hl 1 rfl) ?_
  refine lv_iconst (v := (0 : Int32)) hx hb dX12_back_1 (by decide) ?_
  refine lv_iconst (v := (1 : Int32)) hx hb dX12_back_2 (by decide) ?_
  obtain ⟨r4, e5, h⟩ := jx_b1_of h
  refine jx_cS (o := some (.int r4)) (As := [.int p1, .int (0 : Int32), .int (1 : Int32)]) (rest := []) ⟨hx, hb, hml, hown, hts⟩ (ct_X12_in l p1 (0 : Int32) (1 : Int32) r4 e5) (va_cwS 3 hts gX12_back_X12_in rfl rfl rfl (by decide +kernel) ⟨Nat.le_of_ble_eq_true rfl, Nat.le_of_ble_eq_true rfl⟩) rfl hl.1 rfl (Nat.le_of_ble_eq_true rfl) dX12_back_3 ⟨Nat.zero_le _, Nat.zero_le _⟩ ?_
  refine lv_if_ne (tgt := 11) hx hb dX12_back_6 (by decide) (fun c6 => ?_) (fun c6 => ?_)
  · have h := jx_f h c6
    refine lv_aload_n hx hb dX12_back_11 rfl (lv_at hl 0 rfl) ?_
    refine va_get (D := D) (ci := 12) (v := .ref a_t_kept) (C := RX12) (T := TX12) (N := 18) hx hb hts hi_X12 hown hK hP 0 rfl rfl 7 (by decide) (hts (.fieldLink RX12 25 "TriangleRestModel" "kept" "[Z") (List.mem_of_getElem? (i := 1) rfl)) (fun _ h9 => h9) rfl dX12_back_12 ?_
    refine lv_iload_n hx hb dX12_back_15 rfl (lv_at hl 1 rfl) ?_
    obtain ⟨g7, h⟩ := jx_g_of h
    refine va_zald hx hb hK hP 3 1 rfl rfl (jx_in_of g7) dX12_back_16 ?_
    refine lv_if_ne (tgt := 23) hx hb dX12_back_17 (by decide) (fun c8 => ?_) (fun c8 => ?_)
    · have h := jx_f h c8
      refine lv_iconst (v := (0 : Int32)) hx hb dX12_back_23 (by decide) ?_
      refine lv_istore_n (lv' := [(2, .int (0 : Int32)), (0, .ref a_t), (1, .int p1)]) hx hb dX12_back_24 rfl hl (by decide) rfl (fun ls hl => ?_)
      exact bl_l25 jx_F (0 : Int32) t_s _ _ _ hP hD hS (lv_sub hl [1, 2, 0] rfl) h
    · have h := jx_t h c8
      refine lv_bipush (v := (-2 : Int32)) hx hb dX12_back_20 (by decide) ?_
      cases h
      exact hret 22 ls _ _ hP hD hS rfl dX12_back_22
  · have h := jx_t h c6
    refine lv_iconst (v := (-1 : Int32)) hx hb dX12_back_9 (by decide) ?_
    cases h
    exact hret 10 ls _ _ hP hD hS rfl dX12_back_10
def mi_X12_count (t_typed : Int32) (t_noted : Int32) (t_told : Nat → Int32) (t_s : Nat → Int32) (p1 : Int32) : Option (Int32) := if p1 = (0 : Int32) then (some ((t_told (Int32.toNatClampNeg (0 : Int32))))) else (if p1 = (1 : Int32) then (some ((t_told (Int32.toNatClampNeg (1 : Int32))))) else (if p1 = (2 : Int32) then (some (t_noted)) else (if p1 = (3 : Int32) then (some ((t_s (Int32.toNatClampNeg (5 : Int32))))) else (if p1 = (4 : Int32) then (some (t_typed)) else (some ((-1 : Int32)))))))
abbrev rm_X12_count : Room := { frames := 0, cells := 0, slots := 0, locals := 0 }
set_option maxRecDepth 100000 in
set_option maxHeartbeats 4000000 in
theorem ct_X12_count (l : Launch) (D : va_G) (cI cZ cO : ClassId) (a_t a_t_text a_t_told a_t_draft a_t_s a_t_images a_t_kept a_t_notes a_t_players a_t_answers a_t_room a_t_inRest : Nat) (t_trace : Int64) (t_typed : Int32) (t_noted : Int32) (t_at : Int32) (t_sort : Int32) (t_start : Int32) (t_value : Int32) (t_told : Nat → Int32) (t_s : Nat → Int32) (p1 : Int32) (r : Int32) (hm : mi_X12_count t_typed t_noted t_told t_s p1 = some r) : Met l yX12_count wsX12_count rm_X12_count (va_Pc [.ref a_t, .int p1] (jx_R D (jx_T cI cZ cO) [(a_t, .inr (12, [.long t_trace, .ref a_t_text, .int t_typed, .ref a_t_told, .ref a_t_draft, .ref a_t_s, .ref a_t_images, .ref a_t_kept, .ref a_t_notes, .int t_noted, .int t_at, .int t_sort, .int t_start, .int t_value, .ref a_t_players, .ref a_t_answers, .ref a_t_room, .ref a_t_inRest])), (a_t_told, .inl (cI, 36, .inl t_told)), (a_t_s, .inl (cI, 56, .inl t_s))])) (jx_S (some (.int r))) 0 0 (fun _ => False) := by
  refine jx_metR (ty := .int) (own := RX12) (cc := cX12_count) (maxL := 2) (by decide) rfl rfl (Nat.le_of_ble_eq_true rfl) ?_
  intro p e s m args below meth c Q ls hx hb hml hown hts hK hN hP hl hret
  have hi_X12 : ∀ w ∈ u_ws RX12 TX12 18, w ∈ wsX12_count := by decide +kernel
  have hl : lv_has ls 2 [(0, .ref a_t), (1, .int p1)] := hl
  have h := hm
  unfold mi_X12_count at h
  refine lv_iload_n hx hb dX12_count_0 rfl (lv_at hl 1 rfl) ?_
  by_cases s1 : p1 = (0 : Int32)
  · have h := jx_t h s1
    refine lv_tableIn (off := 35) (tgt := 36) hx hb dX12_count_1 (by rw [s1]; decide) (by rw [s1]; decide) (by rw [s1]; rfl) (by decide) ?_
    refine lv_aload_n hx hb dX12_count_36 rfl (lv_at hl 0 rfl) ?_
    refine va_get (D := D) (ci := 12) (v := .ref a_t_told) (C := RX12) (T := TX12) (N := 18) hx hb hts hi_X12 hown hK hP 0 rfl rfl 3 (by decide) (hts (.fieldLink RX12 13 "TriangleRestModel" "told" "[I") (List.mem_of_getElem? (i := 1) rfl)) (fun _ h9 => h9) rfl dX12_count_37 ?_
    refine lv_iconst (v := (0 : Int32)) hx hb dX12_count_40 (by decide) ?_
    refine va_iald hx hb hK hP 1 0 rfl rfl (jx_in_of (by decide +kernel)) dX12_count_41 ?_
    cases h
    exact hret 42 ls rfl dX12_count_42
  have h := jx_f h s1
  by_cases s2 : p1 = (1 : Int32)
  · have h := jx_t h s2
    refine lv_tableIn (off := 42) (tgt := 43) hx hb dX12_count_1 (by rw [s2]; decide) (by rw [s2]; decide) (by rw [s2]; rfl) (by decide) ?_
    refine lv_aload_n hx hb dX12_count_43 rfl (lv_at hl 0 rfl) ?_
    refine va_get (D := D) (ci := 12) (v := .ref a_t_told) (C := RX12) (T := TX12) (N := 18) hx hb hts hi_X12 hown hK hP 0 rfl rfl 3 (by decide) (hts (.fieldLink RX12 13 "TriangleRestModel" "told" "[I") (List.mem_of_getElem? (i := 1) rfl)) (fun _ h9 => h9) rfl dX12_count_44 ?_
    refine lv_iconst (v := (1 : Int32)) hx hb dX12_count_47 (by decide) ?_
    refine va_iald hx hb hK hP 1 0 rfl rfl (jx_in_of (by decide +kernel)) dX12_count_48 ?_
    cases h
    exact hret 49 ls rfl dX12_count_49
  have h := jx_f h s2
  by_cases s3 : p1 = (2 : Int32)
  · have h := jx_t h s3
    refine lv_tableIn (off := 49) (tgt := 50) hx hb dX12_count_1 (by rw [s3]; decide) (by rw [s3]; decide) (by rw [s3]; rfl) (by decide) ?_
    refine lv_aload_n hx hb dX12_count_50 rfl (lv_at hl 0 rfl) ?_
    refine va_get (D := D) (ci := 12) (v := .int t_noted) (C := RX12) (T := TX12) (N := 18) hx hb hts hi_X12 hown hK hP 0 rfl rfl 9 (by decide) (hts (.fieldLink RX12 91 "TriangleRestModel" "noted" "I") (List.mem_of_getElem? (i := 2) rfl)) (fun _ h9 => h9) rfl dX12_count_51 ?_
    cases h
    exact hret 54 ls rfl dX12_count_54
  have h := jx_f h s3
  by_cases s4 : p1 = (3 : Int32)
  · have h := jx_t h s4
    refine lv_tableIn (off := 54) (tgt := 55) hx hb dX12_count_1 (by rw [s4]; decide) (by rw [s4]; decide) (by rw [s4]; rfl) (by decide) ?_
    refine lv_aload_n hx hb dX12_count_55 rfl (lv_at hl 0 rfl) ?_
    refine va_get (D := D) (ci := 12) (v := .ref a_t_s) (C := RX12) (T := TX12) (N := 18) hx hb hts hi_X12 hown hK hP 0 rfl rfl 5 (by decide) (hts (.fieldLink RX12 19 "TriangleRestModel" "s" "[I") (List.mem_of_getElem? (i := 3) rfl)) (fun _ h9 => h9) rfl dX12_count_56 ?_
    refine lv_iconst (v := (5 : Int32)) hx hb dX12_count_59 (by decide) ?_
    refine va_iald hx hb hK hP 2 0 rfl rfl (jx_in_of (by decide +kernel)) dX12_count_60 ?_
    cases h
    exact hret 61 ls rfl dX12_count_61
  have h := jx_f h s4
  by_cases s5 : p1 = (4 : Int32)
  · have h := jx_t h s5
    refine lv_tableIn (off := 61) (tgt := 62) hx hb dX12_count_1 (by rw [s5]; decide) (by rw [s5]; decide) (by rw [s5]; rfl) (by decide) ?_
    refine lv_aload_n hx hb dX12_count_62 rfl (lv_at hl 0 rfl) ?_
    refine va_get (D := D) (ci := 12) (v := .int t_typed) (C := RX12) (T := TX12) (N := 18) hx hb hts hi_X12 hown hK hP 0 rfl rfl 2 (by decide) (hts (.fieldLink RX12 55 "TriangleRestModel" "typed" "I") (List.mem_of_getElem? (i := 4) rfl)) (fun _ h9 => h9) rfl dX12_count_63 ?_
    cases h
    exact hret 66 ls rfl dX12_count_66
  have h := jx_f h s5
  refine lv_tableOut (tgt := 67) hx hb dX12_count_1 (by have e_s1 := jx_ne s1 (k := 0) (by decide); have e_s2 := jx_ne s2 (k := 1) (by decide); have e_s3 := jx_ne s3 (k := 2) (by decide); have e_s4 := jx_ne s4 (k := 3) (by decide); have e_s5 := jx_ne s5 (k := 4) (by decide); omega) (by decide) ?_
  refine lv_iconst (v := (-1 : Int32)) hx hb dX12_count_67 (by decide) ?_
  cases h
  exact hret 68 ls rfl dX12_count_68
def mi_X12_trace (t_trace : Int64) : Option (Int64) := some (t_trace)
abbrev rm_X12_trace : Room := { frames := 0, cells := 0, slots := 0, locals := 0 }
set_option maxRecDepth 100000 in
set_option maxHeartbeats 4000000 in
theorem ct_X12_trace (l : Launch) (D : va_G) (cI cZ cO : ClassId) (a_t a_t_text a_t_told a_t_draft a_t_s a_t_images a_t_kept a_t_notes a_t_players a_t_answers a_t_room a_t_inRest : Nat) (t_trace : Int64) (t_typed : Int32) (t_noted : Int32) (t_at : Int32) (t_sort : Int32) (t_start : Int32) (t_value : Int32) (r : Int64) (hm : mi_X12_trace t_trace = some r) : Met l yX12_trace wsX12_trace rm_X12_trace (va_Pc [.ref a_t] (jx_R D (jx_T cI cZ cO) [(a_t, .inr (12, [.long t_trace, .ref a_t_text, .int t_typed, .ref a_t_told, .ref a_t_draft, .ref a_t_s, .ref a_t_images, .ref a_t_kept, .ref a_t_notes, .int t_noted, .int t_at, .int t_sort, .int t_start, .int t_value, .ref a_t_players, .ref a_t_answers, .ref a_t_room, .ref a_t_inRest]))])) (jx_S (some (.long r))) 0 0 (fun _ => False) := by
  refine jx_metL (own := RX12) (cc := cX12_trace) (maxL := 1) (by decide) rfl rfl (Nat.le_of_ble_eq_true rfl) ?_
  intro p e s m args below meth c Q ls hx hb hml hown hts hK hN hP hl hret
  have hi_X12 : ∀ w ∈ u_ws RX12 TX12 18, w ∈ wsX12_trace := by decide +kernel
  have hl : lv_has ls 1 [(0, .ref a_t)] := hl
  have h := hm
  unfold mi_X12_trace at h
  refine lv_aload_n hx hb dX12_trace_0 rfl (lv_at hl 0 rfl) ?_
  refine va_get (D := D) (ci := 12) (v := .long t_trace) (C := RX12) (T := TX12) (N := 18) hx hb hts hi_X12 hown hK hP 0 rfl rfl 0 (by decide) (hts (.fieldLink RX12 152 "TriangleRestModel" "trace" "J") (List.mem_of_getElem? (i := 1) rfl)) (fun _ h9 => h9) rfl dX12_trace_1 ?_
  cases h
  exact hret 4 ls dX12_trace_4
