/-! written by program (wip/whole/gen.py) out of the printed names: each method as a pure function, and its contract -/
def mi_X3_takes (t_heard : Int32) (t_laters : Nat → Int32) (t_players : Nat → Int32) (p1 : Int32) (p2 : Int32) : Option (Int32 × Int32 × (Nat → Int32) × (Nat → Int32)) := if t_heard < (4 : Int32) then (jx_g (jx_in t_heard 4) (jx_g (jx_in t_heard 4) (some ((1 : Int32), (t_heard + (1 : Int32)), (upd t_laters (Int32.toNatClampNeg t_heard) p1), (upd t_players (Int32.toNatClampNeg t_heard) p2))))) else (some ((0 : Int32), t_heard, t_laters, t_players))
abbrev rm_X3_takes : Room := { frames := 0, cells := 0, slots := 0, locals := 0 }
set_option maxRecDepth 100000 in
set_option maxHeartbeats 4000000 in
theorem ct_X3_takes (l : Launch) (D : va_G) (cI cZ cO : ClassId) (a_t a_t_laters a_t_players a_t_playing a_t_placesAhead a_t_answers : Nat) (sz : Nat) (t_heard : Int32) (t_bars : Int32) (t_laters : Nat → Int32) (t_players : Nat → Int32) (p1 : Int32) (p2 : Int32) (r : Int32) (z_t_heard : Int32) (z_t_laters : Nat → Int32) (z_t_players : Nat → Int32) (hm : mi_X3_takes t_heard t_laters t_players p1 p2 = some (r, z_t_heard, z_t_laters, z_t_players)) : Met l yX3_takes wsX3_takes rm_X3_takes (va_Pc [.ref a_t, .int p1, .int p2] (jx_W D (jx_T cI cZ cO) sz [(a_t, .inr (3, [.ref a_t_laters, .ref a_t_players, .int t_heard, .ref a_t_playing, .ref a_t_placesAhead, .ref a_t_answers, .int t_bars])), (a_t_laters, .inl (cI, 4, .inl t_laters)), (a_t_players, .inl (cI, 4, .inl t_players))])) (jx_Q (some (.int r)) D [(a_t, .inr (3, [.ref a_t_laters, .ref a_t_players, .int z_t_heard, .ref a_t_playing, .ref a_t_placesAhead, .ref a_t_answers, .int t_bars])), (a_t_laters, .inl (cI, 4, .inl z_t_laters)), (a_t_players, .inl (cI, 4, .inl z_t_players))] (va_A [(a_t, .inr (3, [.ref a_t_laters, .ref a_t_players, .int t_heard, .ref a_t_playing, .ref a_t_placesAhead, .ref a_t_answers, .int t_bars])), (a_t_laters, .inl (cI, 4, .inl t_laters)), (a_t_players, .inl (cI, 4, .inl t_players))] sz)) 0 0 (va_A [(a_t, .inr (3, [.ref a_t_laters, .ref a_t_players, .int t_heard, .ref a_t_playing, .ref a_t_placesAhead, .ref a_t_answers, .int t_bars])), (a_t_laters, .inl (cI, 4, .inl t_laters)), (a_t_players, .inl (cI, 4, .inl t_players))] sz) := by
  refine jx_metW (ty := .boolean) (own := RX3) (cc := cX3_takes) (maxL := 3) (by decide) rfl rfl (Nat.le_of_ble_eq_true rfl) ?_
  intro p e s m args below meth c Q ls A hx hb hml hown hts hK hN hA hP hD hS hl hret
  have hi_X3 : ∀ w ∈ u_ws RX3 TX3 7, w ∈ wsX3_takes := by decide +kernel
  have hl : lv_has ls 3 [(0, .ref a_t), (1, .int p1), (2, .int p2)] := hl
  have h := hm
  unfold mi_X3_takes at h
  refine lv_aload_n hx hb dX3_takes_0 rfl (lv_at hl 0 rfl) ?_
  refine va_get (D := D) (ci := 3) (v := .int t_heard) (C := RX3) (T := TX3) (N := 7) hx hb hts hi_X3 hown hK hP 0 rfl rfl 2 (by decide) (hts (.fieldLink RX3 27 "TriangleRest$Ear" "heard" "I") (List.mem_of_getElem? (i := 1) rfl)) (fun _ h9 => h9) rfl dX3_takes_1 ?_
  refine lv_iconst (v := (4 : Int32)) hx hb dX3_takes_4 (by decide) ?_
  refine lv_icmp_lt (tgt := 10) hx hb dX3_takes_5 (by decide) (fun c1 => ?_) (fun c1 => ?_)
  · have h := jx_t h c1
    refine lv_aload_n hx hb dX3_takes_10 rfl (lv_at hl 0 rfl) ?_
    refine va_get (D := D) (ci := 3) (v := .ref a_t_laters) (C := RX3) (T := TX3) (N := 7) hx hb hts hi_X3 hown hK hP 0 rfl rfl 0 (by decide) (hts (.fieldLink RX3 11 "TriangleRest$Ear" "laters" "[I") (List.mem_of_getElem? (i := 2) rfl)) (fun _ h9 => h9) rfl dX3_takes_11 ?_
    refine lv_aload_n hx hb dX3_takes_14 rfl (lv_at hl 0 rfl) ?_
    refine va_get (D := D) (ci := 3) (v := .int t_heard) (C := RX3) (T := TX3) (N := 7) hx hb hts hi_X3 hown hK hP 0 rfl rfl 2 (by decide) (hts (.fieldLink RX3 27 "TriangleRest$Ear" "heard" "I") (List.mem_of_getElem? (i := 1) rfl)) (fun _ h9 => h9) rfl dX3_takes_15 ?_
    refine lv_iload_n hx hb dX3_takes_18 rfl (lv_at hl 1 rfl) ?_
    obtain ⟨g2, h⟩ := jx_g_of h
    refine va_iast hx hb hK hP hD hS 1 0 rfl rfl (jx_in_of g2) dX3_takes_19 (fun H locs hP hD hS => ?_)
    have hP : va_P D vwCl [(a_t, .inr (3, [.ref a_t_laters, .ref a_t_players, .int t_heard, .ref a_t_playing, .ref a_t_placesAhead, .ref a_t_answers, .int t_bars])), (a_t_laters, .inl (cI, 4, .inl (upd t_laters (Int32.toNatClampNeg t_heard) p1))), (a_t_players, .inl (cI, 4, .inl t_players))] H := hP
    have hD : va_D A [(a_t, .inr (3, [.ref a_t_laters, .ref a_t_players, .int t_heard, .ref a_t_playing, .ref a_t_placesAhead, .ref a_t_answers, .int t_bars])), (a_t_laters, .inl (cI, 4, .inl (upd t_laters (Int32.toNatClampNeg t_heard) p1))), (a_t_players, .inl (cI, 4, .inl t_players))] := hD
    refine lv_aload_n hx hb dX3_takes_20 rfl (lv_at hl 0 rfl) ?_
    refine va_get (D := D) (ci := 3) (v := .ref a_t_players) (C := RX3) (T := TX3) (N := 7) hx hb hts hi_X3 hown hK hP 0 rfl rfl 1 (by decide) (hts (.fieldLink RX3 15 "TriangleRest$Ear" "players" "[I") (List.mem_of_getElem? (i := 3) rfl)) (fun _ h9 => h9) rfl dX3_takes_21 ?_
    refine lv_aload_n hx hb dX3_takes_24 rfl (lv_at hl 0 rfl) ?_
    refine va_get (D := D) (ci := 3) (v := .int t_heard) (C := RX3) (T := TX3) (N := 7) hx hb hts hi_X3 hown hK hP 0 rfl rfl 2 (by decide) (hts (.fieldLink RX3 27 "TriangleRest$Ear" "heard" "I") (List.mem_of_getElem? (i := 1) rfl)) (fun _ h9 => h9) rfl dX3_takes_25 ?_
    refine lv_iload_n hx hb dX3_takes_28 rfl (lv_at hl 2 rfl) ?_
    obtain ⟨g3, h⟩ := jx_g_of h
    refine va_iast hx hb hK hP hD hS 2 0 rfl rfl (jx_in_of g3) dX3_takes_29 (fun H locs hP hD hS => ?_)
    have hP : va_P D vwCl [(a_t, .inr (3, [.ref a_t_laters, .ref a_t_players, .int t_heard, .ref a_t_playing, .ref a_t_placesAhead, .ref a_t_answers, .int t_bars])), (a_t_laters, .inl (cI, 4, .inl (upd t_laters (Int32.toNatClampNeg t_heard) p1))), (a_t_players, .inl (cI, 4, .inl (upd t_players (Int32.toNatClampNeg t_heard) p2)))] H := hP
    have hD : va_D A [(a_t, .inr (3, [.ref a_t_laters, .ref a_t_players, .int t_heard, .ref a_t_playing, .ref a_t_placesAhead, .ref a_t_answers, .int t_bars])), (a_t_laters, .inl (cI, 4, .inl (upd t_laters (Int32.toNatClampNeg t_heard) p1))), (a_t_players, .inl (cI, 4, .inl (upd t_players (Int32.toNatClampNeg t_heard) p2)))] := hD
    refine lv_aload_n hx hb dX3_takes_30 rfl (lv_at hl 0 rfl) ?_
    refine lv_dup hx hb dX3_takes_31 rfl ?_
    refine va_get (D := D) (ci := 3) (v := .int t_heard) (C := RX3) (T := TX3) (N := 7) hx hb hts hi_X3 hown hK hP 0 rfl rfl 2 (by decide) (hts (.fieldLink RX3 27 "TriangleRest$Ear" "heard" "I") (List.mem_of_getElem? (i := 1) rfl)) (fun _ h9 => h9) rfl dX3_takes_32 ?_
    refine lv_iconst (v := (1 : Int32)) hx hb dX3_takes_35 (by decide) ?_
    refine lv_iadd hx hb dX3_takes_36 ?_
    refine va_put (D := D) (ci := 3) (v := .int (t_heard + (1 : Int32))) (ty := .int) (C := RX3) (T := TX3) (N := 7) hx hb hts hi_X3 tyX3 tyX3_ok nmX3 hown hK hP hD hS 0 rfl rfl 2 (by decide) (hts (.fieldLink RX3 27 "TriangleRest$Ear" "heard" "I") (List.mem_of_getElem? (i := 1) rfl)) (fun _ h9 => h9) rfl (by decide +kernel) rfl rfl (Nat.le_of_ble_eq_true rfl) dX3_takes_37 (fun H locs hP hD hS => ?_)
    have hP : va_P D vwCl [(a_t, .inr (3, [.ref a_t_laters, .ref a_t_players, .int (t_heard + (1 : Int32)), .ref a_t_playing, .ref a_t_placesAhead, .ref a_t_answers, .int t_bars])), (a_t_laters, .inl (cI, 4, .inl (upd t_laters (Int32.toNatClampNeg t_heard) p1))), (a_t_players, .inl (cI, 4, .inl (upd t_players (Int32.toNatClampNeg t_heard) p2)))] H := hP
    have hD : va_D A [(a_t, .inr (3, [.ref a_t_laters, .ref a_t_players, .int (t_heard + (1 : Int32)), .ref a_t_playing, .ref a_t_placesAhead, .ref a_t_answers, .int t_bars])), (a_t_laters, .inl (cI, 4, .inl (upd t_laters (Int32.toNatClampNeg t_heard) p1))), (a_t_players, .inl (cI, 4, .inl (upd t_players (Int32.toNatClampNeg t_heard) p2)))] := hD
    refine lv_iconst (v := (1 : Int32)) hx hb dX3_takes_40 (by decide) ?_
    cases h
    exact hret 41 ls _ _ hP hD hS rfl dX3_takes_41
  · have h := jx_f h c1
    refine lv_iconst (v := (0 : Int32)) hx hb dX3_takes_8 (by decide) ?_
    cases h
    exact hret 9 ls _ _ hP hD hS rfl dX3_takes_9
def mi_X3_layOut_b84 (k_l7 : Int32 → Int32 → (Nat → Int32) → Option (Int32 × (Nat → Int32))) (x3 : Int32) (t_bars : Int32) (t_playing : Nat → Int32) : Option (Int32 × (Nat → Int32)) := k_l7 (x3 + 1) t_bars t_playing
def mi_X3_layOut_l37 (o1_sections : Int32) (o1_players : Nat → Int32) (k_l7 : Int32 → Int32 → (Nat → Int32) → Option (Int32 × (Nat → Int32))) : Nat → Int32 → Int32 → Int32 → Int32 → (Nat → Int32) → Option (Int32 × (Nat → Int32))
  | 0, _, _, _, _, _ => none
  | n + 1, x3, x4, x5, t_bars, t_playing => if x4 ≤ x5 then (mi_X3_layOut_b84 k_l7 x3 t_bars t_playing) else (if (960 : Int32) ≤ t_bars then (mi_X3_layOut_b84 k_l7 x3 t_bars t_playing) else (jx_b1 (mi_X6_whoOf o1_sections o1_players x3) fun r9 => (jx_g (jx_in t_bars 960) (mi_X3_layOut_l37 o1_sections o1_players k_l7 n x3 x4 (x5 + 1) (t_bars + (1 : Int32)) (upd t_playing (Int32.toNatClampNeg t_bars) r9)))))
def mi_X3_layOut_b32 (o1_sections : Int32) (o1_players : Nat → Int32) (k_l7 : Int32 → Int32 → (Nat → Int32) → Option (Int32 × (Nat → Int32))) (x3 : Int32) (k0 : Int32) (t_bars : Int32) (t_playing : Nat → Int32) : Option (Int32 × (Nat → Int32)) := mi_X3_layOut_l37 o1_sections o1_players k_l7 jx_F x3 k0 (0 : Int32) t_bars t_playing
def mi_X3_layOut_l7 (o1_sections : Int32) (o1_lengths : Nat → Int32) (o1_times : Nat → Int32) (o1_players : Nat → Int32) (p2 : Int32) : Nat → Int32 → Int32 → (Nat → Int32) → Option (Int32 × (Nat → Int32))
  | 0, _, _, _ => none
  | n + 1, x3, t_bars, t_playing => if o1_sections ≤ x3 then (some (t_bars, t_playing)) else (jx_b1 (mi_X11_isIn p2 x3) fun r2 => (if r2 = 0 then (jx_b1 (mi_X6_barsOf o1_sections o1_lengths o1_times x3) fun r5 => (mi_X3_layOut_b32 o1_sections o1_players (mi_X3_layOut_l7 o1_sections o1_lengths o1_times o1_players p2 n) x3 r5 t_bars t_playing)) else (mi_X3_layOut_b32 o1_sections o1_players (mi_X3_layOut_l7 o1_sections o1_lengths o1_times o1_players p2 n) x3 (0 : Int32) t_bars t_playing)))
def mi_X3_layOut (t_playing : Nat → Int32) (o1_sections : Int32) (o1_lengths : Nat → Int32) (o1_times : Nat → Int32) (o1_players : Nat → Int32) (p2 : Int32) : Option (Int32 × (Nat → Int32)) := mi_X3_layOut_l7 o1_sections o1_lengths o1_times o1_players p2 jx_F (0 : Int32) (0 : Int32) t_playing
abbrev rm_X3_layOut : Room := { frames := 2, cells := 0, slots := 0, locals := 42 }
set_option maxRecDepth 100000 in
set_option maxHeartbeats 4000000 in
theorem ct_X3_layOut (l : Launch) (D : va_G) (cI cZ cO : ClassId) (a_t a_o1 a_t_laters a_t_players a_t_playing a_t_placesAhead a_t_answers a_o1_lengths a_o1_times a_o1_players a_o1_minutes : Nat) (sz : Nat) (t_heard : Int32) (t_bars : Int32) (t_playing : Nat → Int32) (o1_sections : Int32) (o1_things : Int32) (o1_noteTold : Int32) (o1_toldSection : Int32) (o1_toldBar : Int32) (o1_lengths : Nat → Int32) (o1_times : Nat → Int32) (o1_players : Nat → Int32) (p2 : Int32) (z_t_bars : Int32) (z_t_playing : Nat → Int32) (hm : mi_X3_layOut t_playing o1_sections o1_lengths o1_times o1_players p2 = some (z_t_bars, z_t_playing)) : Met l yX3_layOut wsX3_layOut rm_X3_layOut (va_Pc [.ref a_t, .ref a_o1, .int p2] (jx_W D (jx_T cI cZ cO) sz [(a_t, .inr (3, [.ref a_t_laters, .ref a_t_players, .int t_heard, .ref a_t_playing, .ref a_t_placesAhead, .ref a_t_answers, .int t_bars])), (a_t_playing, .inl (cI, 960, .inl t_playing)), (a_o1, .inr (6, [.ref a_o1_lengths, .ref a_o1_times, .ref a_o1_players, .ref a_o1_minutes, .int o1_sections, .int o1_things, .int o1_noteTold, .int o1_toldSection, .int o1_toldBar])), (a_o1_lengths, .inl (cI, 8, .inl o1_lengths)), (a_o1_times, .inl (cI, 8, .inl o1_times)), (a_o1_players, .inl (cI, 8, .inl o1_players))])) (jx_Q none D [(a_t, .inr (3, [.ref a_t_laters, .ref a_t_players, .int t_heard, .ref a_t_playing, .ref a_t_placesAhead, .ref a_t_answers, .int z_t_bars])), (a_t_playing, .inl (cI, 960, .inl z_t_playing)), (a_o1, .inr (6, [.ref a_o1_lengths, .ref a_o1_times, .ref a_o1_players, .ref a_o1_minutes, .int o1_sections, .int o1_things, .int o1_noteTold, .int o1_toldSection, .int o1_toldBar])), (a_o1_lengths, .inl (cI, 8, .inl o1_lengths)), (a_o1_times, .inl (cI, 8, .inl o1_times)), (a_o1_players, .inl (cI, 8, .inl o1_players))] (va_A [(a_t, .inr (3, [.ref a_t_laters, .ref a_t_players, .int t_heard, .ref a_t_playing, .ref a_t_placesAhead, .ref a_t_answers, .int t_bars])), (a_t_playing, .inl (cI, 960, .inl t_playing)), (a_o1, .inr (6, [.ref a_o1_lengths, .ref a_o1_times, .ref a_o1_players, .ref a_o1_minutes, .int o1_sections, .int o1_things, .int o1_noteTold, .int o1_toldSection, .int o1_toldBar])), (a_o1_lengths, .inl (cI, 8, .inl o1_lengths)), (a_o1_times, .inl (cI, 8, .inl o1_times)), (a_o1_players, .inl (cI, 8, .inl o1_players))] sz)) 0 0 (va_A [(a_t, .inr (3, [.ref a_t_laters, .ref a_t_players, .int t_heard, .ref a_t_playing, .ref a_t_placesAhead, .ref a_t_answers, .int t_bars])), (a_t_playing, .inl (cI, 960, .inl t_playing)), (a_o1, .inr (6, [.ref a_o1_lengths, .ref a_o1_times, .ref a_o1_players, .ref a_o1_minutes, .int o1_sections, .int o1_things, .int o1_noteTold, .int o1_toldSection, .int o1_toldBar])), (a_o1_lengths, .inl (cI, 8, .inl o1_lengths)), (a_o1_times, .inl (cI, 8, .inl o1_times)), (a_o1_players, .inl (cI, 8, .inl o1_players))] sz) := by
  refine jx_metV (own := RX3) (cc := cX3_layOut) (maxL := 6) (by decide) rfl rfl (Nat.le_of_ble_eq_true rfl) ?_
  intro p e s m args below meth c Q ls A hx hb hml hown hts hK hN hA hP hD hS hl hret
  have hi_X3 : ∀ w ∈ u_ws RX3 TX3 7, w ∈ wsX3_layOut := by decide +kernel
  have hi_X6 : ∀ w ∈ u_ws RX6 TX6 9, w ∈ wsX3_layOut := by decide +kernel
  have hl : lv_has ls 6 [(0, .ref a_t), (1, .ref a_o1), (2, .int p2)] := hl
  have bl_l7 : ∀ (n : Nat) (x3 : Int32) (t_bars : Int32) (t_playing : Nat → Int32) (H : Heap) (locs : List Loc) (ls : Array Slot), va_P D vwCl [(a_t, .inr (3, [.ref a_t_laters, .ref a_t_players, .int t_heard, .ref a_t_playing, .ref a_t_placesAhead, .ref a_t_answers, .int t_bars])), (a_t_playing, .inl (cI, 960, .inl t_playing)), (a_o1, .inr (6, [.ref a_o1_lengths, .ref a_o1_times, .ref a_o1_players, .ref a_o1_minutes, .int o1_sections, .int o1_things, .int o1_noteTold, .int o1_toldSection, .int o1_toldBar])), (a_o1_lengths, .inl (cI, 8, .inl o1_lengths)), (a_o1_times, .inl (cI, 8, .inl o1_times)), (a_o1_players, .inl (cI, 8, .inl o1_players))] H → va_D A [(a_t, .inr (3, [.ref a_t_laters, .ref a_t_players, .int t_heard, .ref a_t_playing, .ref a_t_placesAhead, .ref a_t_answers, .int t_bars])), (a_t_playing, .inl (cI, 960, .inl t_playing)), (a_o1, .inr (6, [.ref a_o1_lengths, .ref a_o1_times, .ref a_o1_players, .ref a_o1_minutes, .int o1_sections, .int o1_things, .int o1_noteTold, .int o1_toldSection, .int o1_toldBar])), (a_o1_lengths, .inl (cI, 8, .inl o1_lengths)), (a_o1_times, .inl (cI, 8, .inl o1_times)), (a_o1_players, .inl (cI, 8, .inl o1_players))] → va_S A s.heap H locs → lv_has ls 6 [(0, .ref a_t), (1, .ref a_o1), (2, .int p2), (3, .int x3)] → mi_X3_layOut_l7 o1_sections o1_lengths o1_times o1_players p2 n x3 t_bars t_playing = some (z_t_bars, z_t_playing) → W p l e (headSpec wsX3_layOut rm_X3_layOut).room s m args below meth c H locs 0 0 Q (F0 m 7 ls []) := by
    intro n
    induction n with
    | zero =>
      intro x3 t_bars t_playing H locs ls hP hD hS hl h
      rw [mi_X3_layOut_l7] at h
      cases h
    | succ n_l7 ih_l7 =>
      have bl_b84 : ∀ (x3 : Int32) (t_bars : Int32) (t_playing : Nat → Int32) (H : Heap) (locs : List Loc) (ls : Array Slot), va_P D vwCl [(a_t, .inr (3, [.ref a_t_laters, .ref a_t_players, .int t_heard, .ref a_t_playing, .ref a_t_placesAhead, .ref a_t_answers, .int t_bars])), (a_t_playing, .inl (cI, 960, .inl t_playing)), (a_o1, .inr (6, [.ref a_o1_lengths, .ref a_o1_times, .ref a_o1_players, .ref a_o1_minutes, .int o1_sections, .int o1_things, .int o1_noteTold, .int o1_toldSection, .int o1_toldBar])), (a_o1_lengths, .inl (cI, 8, .inl o1_lengths)), (a_o1_times, .inl (cI, 8, .inl o1_times)), (a_o1_players, .inl (cI, 8, .inl o1_players))] H → va_D A [(a_t, .inr (3, [.ref a_t_laters, .ref a_t_players, .int t_heard, .ref a_t_playing, .ref a_t_placesAhead, .ref a_t_answers, .int t_bars])), (a_t_playing, .inl (cI, 960, .inl t_playing)), (a_o1, .inr (6, [.ref a_o1_lengths, .ref a_o1_times, .ref a_o1_players, .ref a_o1_minutes, .int o1_sections, .int o1_things, .int o1_noteTold, .int o1_toldSection, .int o1_toldBar])), (a_o1_lengths, .inl (cI, 8, .inl o1_lengths)), (a_o1_times, .inl (cI, 8, .inl o1_times)), (a_o1_players, .inl (cI, 8, .inl o1_players))] → va_S A s.heap H locs → lv_has ls 6 [(0, .ref a_t), (1, .ref a_o1), (2, .int p2), (3, .int x3)] → mi_X3_layOut_b84 (mi_X3_layOut_l7 o1_sections o1_lengths o1_times o1_players p2 n_l7) x3 t_bars t_playing = some (z_t_bars, z_t_playing) → W p l e (headSpec wsX3_layOut rm_X3_layOut).room s m args below meth c H locs 0 0 Q (F0 m 84 ls []) := by
        intro x3 t_bars t_playing H locs ls hP hD hS hl h
        unfold mi_X3_layOut_b84 at h
        refine lv_iinc (v := (x3 + 1)) (lv' := [(3, .int (x3 + 1)), (0, .ref a_t), (1, .ref a_o1), (2, .int p2)]) hx hb dX3_layOut_84 hl (k := 3) rfl rfl (by decide) rfl (fun ls hl => ?_)
        refine lv_goto (tgt := 7) hx hb dX3_layOut_87 (by decide) ?_
        exact ih_l7 (x3 + 1) t_bars t_playing _ _ _ hP hD hS (lv_sub hl [1, 2, 3, 0] rfl) h
      have bl_l37 : ∀ (n : Nat) (x3 : Int32) (x4 : Int32) (x5 : Int32) (t_bars : Int32) (t_playing : Nat → Int32) (H : Heap) (locs : List Loc) (ls : Array Slot), va_P D vwCl [(a_t, .inr (3, [.ref a_t_laters, .ref a_t_players, .int t_heard, .ref a_t_playing, .ref a_t_placesAhead, .ref a_t_answers, .int t_bars])), (a_t_playing, .inl (cI, 960, .inl t_playing)), (a_o1, .inr (6, [.ref a_o1_lengths, .ref a_o1_times, .ref a_o1_players, .ref a_o1_minutes, .int o1_sections, .int o1_things, .int o1_noteTold, .int o1_toldSection, .int o1_toldBar])), (a_o1_lengths, .inl (cI, 8, .inl o1_lengths)), (a_o1_times, .inl (cI, 8, .inl o1_times)), (a_o1_players, .inl (cI, 8, .inl o1_players))] H → va_D A [(a_t, .inr (3, [.ref a_t_laters, .ref a_t_players, .int t_heard, .ref a_t_playing, .ref a_t_placesAhead, .ref a_t_answers, .int t_bars])), (a_t_playing, .inl (cI, 960, .inl t_playing)), (a_o1, .inr (6, [.ref a_o1_lengths, .ref a_o1_times, .ref a_o1_players, .ref a_o1_minutes, .int o1_sections, .int o1_things, .int o1_noteTold, .int o1_toldSection, .int o1_toldBar])), (a_o1_lengths, .inl (cI, 8, .inl o1_lengths)), (a_o1_times, .inl (cI, 8, .inl o1_times)), (a_o1_players, .inl (cI, 8, .inl o1_players))] → va_S A s.heap H locs → lv_has ls 6 [(0, .ref a_t), (1, .ref a_o1), (2, .int p2), (3, .int x3), (4, .int x4), (5, .int x5)] → mi_X3_layOut_l37 o1_sections o1_players (mi_X3_layOut_l7 o1_sections o1_lengths o1_times o1_players p2 n_l7) n x3 x4 x5 t_bars t_playing = some (z_t_bars, z_t_playing) → W p l e (headSpec wsX3_layOut rm_X3_layOut).room s m args below meth c H locs 0 0 Q (F0 m 37 ls []) := by
        intro n
        induction n with
        | zero =>
          intro x3 x4 x5 t_bars t_playing H locs ls hP hD hS hl h
          rw [mi_X3_layOut_l37] at h
          cases h
        | succ n_l37 ih_l37 =>
          intro x3 x4 x5 t_bars t_playing H locs ls hP hD hS hl h
          rw [mi_X3_layOut_l37] at h
          refine lv_iload hx hb dX3_layOut_37 (lv_at hl 5 rfl) ?_
          refine lv_iload hx hb dX3_layOut_39 (lv_at hl 4 rfl) ?_
          refine lv_icmp_ge (tgt := 84) hx hb dX3_layOut_41 (by decide) (fun c7 => ?_) (fun c7 => ?_)
          · have h := jx_t h c7
            exact bl_b84 x3 t_bars t_playing _ _ _ hP hD hS (lv_sub hl [0, 1, 2, 3] rfl) h
          · have h := jx_f h c7
            refine lv_aload_n hx hb dX3_layOut_44 rfl (lv_at hl 0 rfl) ?_
            refine va_get (D := D) (ci := 3) (v := .int t_bars) (C := RX3) (T := TX3) (N := 7) hx hb hts hi_X3 hown hK hP 0 rfl rfl 6 (by decide) (hts (.fieldLink RX3 35 "TriangleRest$Ear" "bars" "I") (List.mem_of_getElem? (i := 1) rfl)) (fun _ h9 => h9) rfl dX3_layOut_45 ?_
            refine lv_sipush (v := (960 : Int32)) hx hb dX3_layOut_48 (by decide) ?_
            refine lv_icmp_ge (tgt := 84) hx hb dX3_layOut_51 (by decide) (fun c8 => ?_) (fun c8 => ?_)
            · have h := jx_t h c8
              exact bl_b84 x3 t_bars t_playing _ _ _ hP hD hS (lv_sub hl [0, 1, 2, 3] rfl) h
            · have h := jx_f h c8
              refine lv_aload_n hx hb dX3_layOut_54 rfl (lv_at hl 0 rfl) ?_
              refine va_get (D := D) (ci := 3) (v := .ref a_t_playing) (C := RX3) (T := TX3) (N := 7) hx hb hts hi_X3 hown hK hP 0 rfl rfl 3 (by decide) (hts (.fieldLink RX3 18 "TriangleRest$Ear" "playing" "[I") (List.mem_of_getElem? (i := 3) rfl)) (fun _ h9 => h9) rfl dX3_layOut_55 ?_
              refine lv_aload_n hx hb dX3_layOut_58 rfl (lv_at hl 0 rfl) ?_
              refine va_get (D := D) (ci := 3) (v := .int t_bars) (C := RX3) (T := TX3) (N := 7) hx hb hts hi_X3 hown hK hP 0 rfl rfl 6 (by decide) (hts (.fieldLink RX3 35 "TriangleRest$Ear" "bars" "I") (List.mem_of_getElem? (i := 1) rfl)) (fun _ h9 => h9) rfl dX3_layOut_59 ?_
              refine lv_aload_n hx hb dX3_layOut_62 rfl (lv_at hl 1 rfl) ?_
              refine lv_iload_n hx hb dX3_layOut_63 rfl (lv_at hl 3 rfl) ?_
              obtain ⟨r9, e10, h⟩ := jx_b1_of h
              refine jx_cV (o := some (.int r9)) (As := [.int x3]) (rest := [.int t_bars, .ref a_t_playing]) (b := a_o1) ⟨hx, hb, hml, hown, hts⟩ (ct_X6_whoOf l D cI cZ cO a_o1 a_o1_lengths a_o1_times a_o1_players a_o1_minutes o1_sections o1_things o1_noteTold o1_toldSection o1_toldBar o1_players x3 r9 e10) (cwV 1 hts gX3_layOut_X6_whoOf rfl rfl rfl (by decide +kernel) ⟨Nat.le_of_ble_eq_true rfl, Nat.le_of_ble_eq_true rfl⟩) hK hN hP [2, 5] rfl (va_recv hK hP (ci := 6) (q0 := 2) rfl rfl) rfl hl.1 rfl (Nat.le_of_ble_eq_true rfl) dX3_layOut_64 ⟨Nat.zero_le _, Nat.zero_le _⟩ ?_
              obtain ⟨g11, h⟩ := jx_g_of h
              refine va_iast hx hb hK hP hD hS 1 0 rfl rfl (jx_in_of g11) dX3_layOut_67 (fun H locs hP hD hS => ?_)
              have hP : va_P D vwCl [(a_t, .inr (3, [.ref a_t_laters, .ref a_t_players, .int t_heard, .ref a_t_playing, .ref a_t_placesAhead, .ref a_t_answers, .int t_bars])), (a_t_playing, .inl (cI, 960, .inl (upd t_playing (Int32.toNatClampNeg t_bars) r9))), (a_o1, .inr (6, [.ref a_o1_lengths, .ref a_o1_times, .ref a_o1_players, .ref a_o1_minutes, .int o1_sections, .int o1_things, .int o1_noteTold, .int o1_toldSection, .int o1_toldBar])), (a_o1_lengths, .inl (cI, 8, .inl o1_lengths)), (a_o1_times, .inl (cI, 8, .inl o1_times)), (a_o1_players, .inl (cI, 8, .inl o1_players))] H := hP
              have hD : va_D A [(a_t, .inr (3, [.ref a_t_laters, .ref a_t_players, .int t_heard, .ref a_t_playing, .ref a_t_placesAhead, .ref a_t_answers, .int t_bars])), (a_t_playing, .inl (cI, 960, .inl (upd t_playing (Int32.toNatClampNeg t_bars) r9))), (a_o1, .inr (6, [.ref a_o1_lengths, .ref a_o1_times, .ref a_o1_players, .ref a_o1_minutes, .int o1_sections, .int o1_things, .int o1_noteTold, .int o1_toldSection, .int o1_toldBar])), (a_o1_lengths, .inl (cI, 8, .inl o1_lengths)), (a_o1_times, .inl (cI, 8, .inl o1_times)), (a_o1_players, .inl (cI, 8, .inl o1_players))] := hD
              refine lv_aload_n hx hb dX3_layOut_68 rfl (lv_at hl 0 rfl) ?_
              refine lv_dup hx hb dX3_layOut_69 rfl ?_
              refine va_get (D := D) (ci := 3) (v := .int t_bars) (C := RX3) (T := TX3) (N := 7) hx hb hts hi_X3 hown hK hP 0 rfl rfl 6 (by decide) (hts (.fieldLink RX3 35 "TriangleRest$Ear" "bars" "I") (List.mem_of_getElem? (i := 1) rfl)) (fun _ h9 => h9) rfl dX3_layOut_70 ?_
              refine lv_iconst (v := (1 : Int32)) hx hb dX3_layOut_73 (by decide) ?_
              refine lv_iadd hx hb dX3_layOut_74 ?_
              refine va_put (D := D) (ci := 3) (v := .int (t_bars + (1 : Int32))) (ty := .int) (C := RX3) (T := TX3) (N := 7) hx hb hts hi_X3 tyX3 tyX3_ok nmX3 hown hK hP hD hS 0 rfl rfl 6 (by decide) (hts (.fieldLink RX3 35 "TriangleRest$Ear" "bars" "I") (List.mem_of_getElem? (i := 1) rfl)) (fun _ h9 => h9) rfl (by decide +kernel) rfl rfl (Nat.le_of_ble_eq_true rfl) dX3_layOut_75 (fun H locs hP hD hS => ?_)
              have hP : va_P D vwCl [(a_t, .inr (3, [.ref a_t_laters, .ref a_t_players, .int t_heard, .ref a_t_playing, .ref a_t_placesAhead, .ref a_t_answers, .int (t_bars + (1 : Int32))])), (a_t_playing, .inl (cI, 960, .inl (upd t_playing (Int32.toNatClampNeg t_bars) r9))), (a_o1, .inr (6, [.ref a_o1_lengths, .ref a_o1_times, .ref a_o1_players, .ref a_o1_minutes, .int o1_sections, .int o1_things, .int o1_noteTold, .int o1_toldSection, .int o1_toldBar])), (a_o1_lengths, .inl (cI, 8, .inl o1_lengths)), (a_o1_times, .inl (cI, 8, .inl o1_times)), (a_o1_players, .inl (cI, 8, .inl o1_players))] H := hP
              have hD : va_D A [(a_t, .inr (3, [.ref a_t_laters, .ref a_t_players, .int t_heard, .ref a_t_playing, .ref a_t_placesAhead, .ref a_t_answers, .int (t_bars + (1 : Int32))])), (a_t_playing, .inl (cI, 960, .inl (upd t_playing (Int32.toNatClampNeg t_bars) r9))), (a_o1, .inr (6, [.ref a_o1_lengths, .ref a_o1_times, .ref a_o1_players, .ref a_o1_minutes, .int o1_sections, .int o1_things, .int o1_noteTold, .int o1_toldSection, .int o1_toldBar])), (a_o1_lengths, .inl (cI, 8, .inl o1_lengths)), (a_o1_times, .inl (cI, 8, .inl o1_times)), (a_o1_players, .inl (cI, 8, .inl o1_players))] := hD
              refine lv_iinc (v := (x5 + 1)) (lv' := [(5, .int (x5 + 1)), (0, .ref a_t), (1, .ref a_o1), (2, .int p2), (3, .int x3), (4, .int x4)]) hx hb dX3_layOut_78 hl (k := 5) rfl rfl (by decide) rfl (fun ls hl => ?_)
              refine lv_goto (tgt := 37) hx hb dX3_layOut_81 (by decide) ?_
              exact ih_l37 x3 x4 (x5 + 1) (t_bars + (1 : Int32)) (upd t_playing (Int32.toNatClampNeg t_bars) r9) _ _ _ hP hD hS (lv_sub hl [1, 2, 3, 4, 5, 0] rfl) h
      have bl_b32 : ∀ (x3 : Int32) (k0 : Int32) (t_bars : Int32) (t_playing : Nat → Int32) (H : Heap) (locs : List Loc) (ls : Array Slot), va_P D vwCl [(a_t, .inr (3, [.ref a_t_laters, .ref a_t_players, .int t_heard, .ref a_t_playing, .ref a_t_placesAhead, .ref a_t_answers, .int t_bars])), (a_t_playing, .inl (cI, 960, .inl t_playing)), (a_o1, .inr (6, [.ref a_o1_lengths, .ref a_o1_times, .ref a_o1_players, .ref a_o1_minutes, .int o1_sections, .int o1_things, .int o1_noteTold, .int o1_toldSection, .int o1_toldBar])), (a_o1_lengths, .inl (cI, 8, .inl o1_lengths)), (a_o1_times, .inl (cI, 8, .inl o1_times)), (a_o1_players, .inl (cI, 8, .inl o1_players))] H → va_D A [(a_t, .inr (3, [.ref a_t_laters, .ref a_t_players, .int t_heard, .ref a_t_playing, .ref a_t_placesAhead, .ref a_t_answers, .int t_bars])), (a_t_playing, .inl (cI, 960, .inl t_playing)), (a_o1, .inr (6, [.ref a_o1_lengths, .ref a_o1_times, .ref a_o1_players, .ref a_o1_minutes, .int o1_sections, .int o1_things, .int o1_noteTold, .int o1_toldSection, .int o1_toldBar])), (a_o1_lengths, .inl (cI, 8, .inl o1_lengths)), (a_o1_times, .inl (cI, 8, .inl o1_times)), (a_o1_players, .inl (cI, 8, .inl o1_players))] → va_S A s.heap H locs → lv_has ls 6 [(0, .ref a_t), (1, .ref a_o1), (2, .int p2), (3, .int x3)] → mi_X3_layOut_b32 o1_sections o1_players (mi_X3_layOut_l7 o1_sections o1_lengths o1_times o1_players p2 n_l7) x3 k0 t_bars t_playing = some (z_t_bars, z_t_playing) → W p l e (headSpec wsX3_layOut rm_X3_layOut).room s m args below meth c H locs 0 0 Q (F0 m 32 ls [.int k0]) := by
        intro x3 k0 t_bars t_playing H locs ls hP hD hS hl h
        unfold mi_X3_layOut_b32 at h
        refine lv_istore (lv' := [(4, .int k0), (0, .ref a_t), (1, .ref a_o1), (2, .int p2), (3, .int x3)]) hx hb dX3_layOut_32 hl (by decide) rfl (fun ls hl => ?_)
        refine lv_iconst (v := (0 : Int32)) hx hb dX3_layOut_34 (by decide) ?_
        refine lv_istore (lv' := [(5, .int (0 : Int32)), (4, .int k0), (0, .ref a_t), (1, .ref a_o1), (2, .int p2), (3, .int x3)]) hx hb dX3_layOut_35 hl (by decide) rfl (fun ls hl => ?_)
        exact bl_l37 jx_F x3 k0 (0 : Int32) t_bars t_playing _ _ _ hP hD hS (lv_sub hl [2, 3, 4, 5, 1, 0] rfl) h
      intro x3 t_bars t_playing H locs ls hP hD hS hl h
      rw [mi_X3_layOut_l7] at h
      refine lv_iload_n hx hb dX3_layOut_7 rfl (lv_at hl 3 rfl) ?_
      refine lv_aload_n hx hb dX3_layOut_8 rfl (lv_at hl 1 rfl) ?_
      refine va_get (D := D) (ci := 6) (v := .int o1_sections) (C := RX6) (T := TX6) (N := 9) hx hb hts hi_X6 hown hK hP 2 rfl rfl 4 (by decide) (hts (.fieldLink RX3 46 "TriangleRest$Score" "sections" "I") (List.mem_of_getElem? (i := 2) rfl)) (fun _ h9 => h9) rfl dX3_layOut_9 ?_
      refine lv_icmp_ge (tgt := 90) hx hb dX3_layOut_12 (by decide) (fun c1 => ?_) (fun c1 => ?_)
      · have h := jx_t h c1
        cases h
        exact hret 90 ls _ _ hP hD hS dX3_layOut_90
      · have h := jx_f h c1
        refine lv_iload_n hx hb dX3_layOut_15 rfl (lv_at hl 2 rfl) ?_
        refine lv_iload_n hx hb dX3_layOut_16 rfl (lv_at hl 3 rfl) ?_
        obtain ⟨r2, e3, h⟩ := jx_b1_of h
        refine jx_cSN (o := some (.int r2)) (As := [.int p2, .int x3]) (rest := []) ⟨hx, hb, hml, hown, hts⟩ (ct_X11_isIn l p2 x3 r2 e3) ⟨va_cnB 2 hts gX3_layOut_X11_isIn_n51 rfl rfl rfl (jx_Nm hN 19 rfl) (hts (.initialized RX11) (List.mem_of_getElem? (i := 5) rfl)) (by decide +kernel) ⟨Nat.le_of_ble_eq_true rfl, Nat.le_of_ble_eq_true rfl⟩, (hts (.static yX11_isIn) (List.mem_of_getElem? (i := 4) rfl)), trivial⟩ rfl hl.1 rfl (Nat.le_of_ble_eq_true rfl) dX3_layOut_17 ⟨Nat.zero_le _, Nat.zero_le _⟩ ?_
        refine lv_if_eq (tgt := 27) hx hb dX3_layOut_20 (by decide) (fun c4 => ?_) (fun c4 => ?_)
        · have h := jx_t h c4
          refine lv_aload_n hx hb dX3_layOut_27 rfl (lv_at hl 1 rfl) ?_
          refine lv_iload_n hx hb dX3_layOut_28 rfl (lv_at hl 3 rfl) ?_
          obtain ⟨r5, e6, h⟩ := jx_b1_of h
          refine jx_cV (o := some (.int r5)) (As := [.int x3]) (rest := []) (b := a_o1) ⟨hx, hb, hml, hown, hts⟩ (ct_X6_barsOf l D cI cZ cO a_o1 a_o1_lengths a_o1_times a_o1_players a_o1_minutes o1_sections o1_things o1_noteTold o1_toldSection o1_toldBar o1_lengths o1_times x3 r5 e6) (cwV 1 hts gX3_layOut_X6_barsOf rfl rfl rfl (by decide +kernel) ⟨Nat.le_of_ble_eq_true rfl, Nat.le_of_ble_eq_true rfl⟩) hK hN hP [2, 3, 4] rfl (va_recv hK hP (ci := 6) (q0 := 2) rfl rfl) rfl hl.1 rfl (Nat.le_of_ble_eq_true rfl) dX3_layOut_29 ⟨Nat.zero_le _, Nat.zero_le _⟩ ?_
          exact bl_b32 x3 r5 t_bars t_playing _ _ _ hP hD hS (lv_sub hl [0, 1, 2, 3] rfl) h
        · have h := jx_f h c4
          refine lv_iconst (v := (0 : Int32)) hx hb dX3_layOut_23 (by decide) ?_
          refine lv_goto (tgt := 32) hx hb dX3_layOut_24 (by decide) ?_
          exact bl_b32 x3 (0 : Int32) t_bars t_playing _ _ _ hP hD hS (lv_sub hl [0, 1, 2, 3] rfl) h
  have h := hm
  unfold mi_X3_layOut at h
  refine lv_aload_n hx hb dX3_layOut_0 rfl (lv_at hl 0 rfl) ?_
  refine lv_iconst (v := (0 : Int32)) hx hb dX3_layOut_1 (by decide) ?_
  refine va_put (D := D) (ci := 3) (v := .int (0 : Int32)) (ty := .int) (C := RX3) (T := TX3) (N := 7) hx hb hts hi_X3 tyX3 tyX3_ok nmX3 hown hK hP hD hS 0 rfl rfl 6 (by decide) (hts (.fieldLink RX3 35 "TriangleRest$Ear" "bars" "I") (List.mem_of_getElem? (i := 1) rfl)) (fun _ h9 => h9) rfl (by decide +kernel) rfl rfl (Nat.le_of_ble_eq_true rfl) dX3_layOut_2 (fun H locs hP hD hS => ?_)
  have hP : va_P D vwCl [(a_t, .inr (3, [.ref a_t_laters, .ref a_t_players, .int t_heard, .ref a_t_playing, .ref a_t_placesAhead, .ref a_t_answers, .int (0 : Int32)])), (a_t_playing, .inl (cI, 960, .inl t_playing)), (a_o1, .inr (6, [.ref a_o1_lengths, .ref a_o1_times, .ref a_o1_players, .ref a_o1_minutes, .int o1_sections, .int o1_things, .int o1_noteTold, .int o1_toldSection, .int o1_toldBar])), (a_o1_lengths, .inl (cI, 8, .inl o1_lengths)), (a_o1_times, .inl (cI, 8, .inl o1_times)), (a_o1_players, .inl (cI, 8, .inl o1_players))] H := hP
  have hD : va_D A [(a_t, .inr (3, [.ref a_t_laters, .ref a_t_players, .int t_heard, .ref a_t_playing, .ref a_t_placesAhead, .ref a_t_answers, .int (0 : Int32)])), (a_t_playing, .inl (cI, 960, .inl t_playing)), (a_o1, .inr (6, [.ref a_o1_lengths, .ref a_o1_times, .ref a_o1_players, .ref a_o1_minutes, .int o1_sections, .int o1_things, .int o1_noteTold, .int o1_toldSection, .int o1_toldBar])), (a_o1_lengths, .inl (cI, 8, .inl o1_lengths)), (a_o1_times, .inl (cI, 8, .inl o1_times)), (a_o1_players, .inl (cI, 8, .inl o1_players))] := hD
  refine lv_iconst (v := (0 : Int32)) hx hb dX3_layOut_5 (by decide) ?_
  refine lv_istore_n (lv' := [(3, .int (0 : Int32)), (0, .ref a_t), (1, .ref a_o1), (2, .int p2)]) hx hb dX3_layOut_6 rfl hl (by decide) rfl (fun ls hl => ?_)
  exact bl_l7 jx_F (0 : Int32) (0 : Int32) t_playing _ _ _ hP hD hS (lv_sub hl [1, 2, 3, 0] rfl) h
def mi_X3_isPlace_l2 (t_heard : Int32) (t_bars : Int32) (t_laters : Nat → Int32) (t_players : Nat → Int32) (t_playing : Nat → Int32) (p1 : Int32) : Nat → Int32 → Option (Int32)
  | 0, _ => none
  | n + 1, x2 => if t_heard ≤ x2 then (some ((1 : Int32))) else (if (4 : Int32) ≤ x2 then (some ((1 : Int32))) else (jx_g (jx_in x2 4) (if (p1 + (t_laters (Int32.toNatClampNeg x2))) < 0 then (some ((0 : Int32))) else (if t_bars ≤ (p1 + (t_laters (Int32.toNatClampNeg x2))) then (some ((0 : Int32))) else (jx_g (jx_in (p1 + (t_laters (Int32.toNatClampNeg x2))) 960) (jx_g (jx_in x2 4) (if (t_playing (Int32.toNatClampNeg (p1 + (t_laters (Int32.toNatClampNeg x2))))) = (t_players (Int32.toNatClampNeg x2)) then (mi_X3_isPlace_l2 t_heard t_bars t_laters t_players t_playing p1 n (x2 + 1)) else (some ((0 : Int32))))))))))
def mi_X3_isPlace (t_heard : Int32) (t_bars : Int32) (t_laters : Nat → Int32) (t_players : Nat → Int32) (t_playing : Nat → Int32) (p1 : Int32) : Option (Int32) := mi_X3_isPlace_l2 t_heard t_bars t_laters t_players t_playing p1 jx_F (0 : Int32)
abbrev rm_X3_isPlace : Room := { frames := 0, cells := 0, slots := 0, locals := 0 }
set_option maxRecDepth 100000 in
set_option maxHeartbeats 4000000 in
theorem ct_X3_isPlace (l : Launch) (D : va_G) (cI cZ cO : ClassId) (a_t a_t_laters a_t_players a_t_playing a_t_placesAhead a_t_answers : Nat) (t_heard : Int32) (t_bars : Int32) (t_laters : Nat → Int32) (t_players : Nat → Int32) (t_playing : Nat → Int32) (p1 : Int32) (r : Int32) (hm : mi_X3_isPlace t_heard t_bars t_laters t_players t_playing p1 = some r) : Met l yX3_isPlace wsX3_isPlace rm_X3_isPlace (va_Pc [.ref a_t, .int p1] (jx_R D (jx_T cI cZ cO) [(a_t, .inr (3, [.ref a_t_laters, .ref a_t_players, .int t_heard, .ref a_t_playing, .ref a_t_placesAhead, .ref a_t_answers, .int t_bars])), (a_t_laters, .inl (cI, 4, .inl t_laters)), (a_t_players, .inl (cI, 4, .inl t_players)), (a_t_playing, .inl (cI, 960, .inl t_playing))])) (jx_S (some (.int r))) 0 0 (fun _ => False) := by
  refine jx_metR (ty := .boolean) (own := RX3) (cc := cX3_isPlace) (maxL := 4) (by decide) rfl rfl (Nat.le_of_ble_eq_true rfl) ?_
  intro p e s m args below meth c Q ls hx hb hml hown hts hK hN hP hl hret
  have hi_X3 : ∀ w ∈ u_ws RX3 TX3 7, w ∈ wsX3_isPlace := by decide +kernel
  have hl : lv_has ls 4 [(0, .ref a_t), (1, .int p1)] := hl
  have bl_l2 : ∀ (n : Nat) (x2 : Int32) (ls : Array Slot), lv_has ls 4 [(0, .ref a_t), (1, .int p1), (2, .int x2)] → mi_X3_isPlace_l2 t_heard t_bars t_laters t_players t_playing p1 n x2 = some r → W p l e (headSpec wsX3_isPlace rm_X3_isPlace).room s m args below meth c s.heap [] 0 0 Q (F0 m 2 ls []) := by
    intro n
    induction n with
    | zero =>
      intro x2 ls hl h
      rw [mi_X3_isPlace_l2] at h
      cases h
    | succ n_l2 ih_l2 =>
      intro x2 ls hl h
      rw [mi_X3_isPlace_l2] at h
      refine lv_iload_n hx hb dX3_isPlace_2 rfl (lv_at hl 2 rfl) ?_
      refine lv_aload_n hx hb dX3_isPlace_3 rfl (lv_at hl 0 rfl) ?_
      refine va_get (D := D) (ci := 3) (v := .int t_heard) (C := RX3) (T := TX3) (N := 7) hx hb hts hi_X3 hown hK hP 0 rfl rfl 2 (by decide) (hts (.fieldLink RX3 27 "TriangleRest$Ear" "heard" "I") (List.mem_of_getElem? (i := 1) rfl)) (fun _ h9 => h9) rfl dX3_isPlace_4 ?_
      refine lv_icmp_ge (tgt := 59) hx hb dX3_isPlace_7 (by decide) (fun c1 => ?_) (fun c1 => ?_)
      · have h := jx_t h c1
        refine lv_iconst (v := (1 : Int32)) hx hb dX3_isPlace_59 (by decide) ?_
        cases h
        exact hret 60 ls rfl dX3_isPlace_60
      · have h := jx_f h c1
        refine lv_iload_n hx hb dX3_isPlace_10 rfl (lv_at hl 2 rfl) ?_
        refine lv_iconst (v := (4 : Int32)) hx hb dX3_isPlace_11 (by decide) ?_
        refine lv_icmp_ge (tgt := 59) hx hb dX3_isPlace_12 (by decide) (fun c2 => ?_) (fun c2 => ?_)
        · have h := jx_t h c2
          refine lv_iconst (v := (1 : Int32)) hx hb dX3_isPlace_59 (by decide) ?_
          cases h
          exact hret 60 ls rfl dX3_isPlace_60
        · have h := jx_f h c2
          refine lv_iload_n hx hb dX3_isPlace_15 rfl (lv_at hl 1 rfl) ?_
          refine lv_aload_n hx hb dX3_isPlace_16 rfl (lv_at hl 0 rfl) ?_
          refine va_get (D := D) (ci := 3) (v := .ref a_t_laters) (C := RX3) (T := TX3) (N := 7) hx hb hts hi_X3 hown hK hP 0 rfl rfl 0 (by decide) (hts (.fieldLink RX3 11 "TriangleRest$Ear" "laters" "[I") (List.mem_of_getElem? (i := 2) rfl)) (fun _ h9 => h9) rfl dX3_isPlace_17 ?_
          refine lv_iload_n hx hb dX3_isPlace_20 rfl (lv_at hl 2 rfl) ?_
          obtain ⟨g3, h⟩ := jx_g_of h
          refine va_iald hx hb hK hP 1 0 rfl rfl (jx_in_of g3) dX3_isPlace_21 ?_
          refine lv_iadd hx hb dX3_isPlace_22 ?_
          refine lv_istore_n (lv' := [(3, .int (p1 + (t_laters (Int32.toNatClampNeg x2)))), (0, .ref a_t), (1, .int p1), (2, .int x2)]) hx hb dX3_isPlace_23 rfl hl (by decide) rfl (fun ls hl => ?_)
          refine lv_iload_n hx hb dX3_isPlace_24 rfl (lv_at hl 0 rfl) ?_
          refine lv_if_lt (tgt := 51) hx hb dX3_isPlace_25 (by decide) (fun c4 => ?_) (fun c4 => ?_)
          · have h := jx_t h c4
            refine lv_iconst (v := (0 : Int32)) hx hb dX3_isPlace_51 (by decide) ?_
            cases h
            exact hret 52 ls rfl dX3_isPlace_52
          · have h := jx_f h c4
            refine lv_iload_n hx hb dX3_isPlace_28 rfl (lv_at hl 0 rfl) ?_
            refine lv_aload_n hx hb dX3_isPlace_29 rfl (lv_at hl 1 rfl) ?_
            refine va_get (D := D) (ci := 3) (v := .int t_bars) (C := RX3) (T := TX3) (N := 7) hx hb hts hi_X3 hown hK hP 0 rfl rfl 6 (by decide) (hts (.fieldLink RX3 35 "TriangleRest$Ear" "bars" "I") (List.mem_of_getElem? (i := 3) rfl)) (fun _ h9 => h9) rfl dX3_isPlace_30 ?_
            refine lv_icmp_ge (tgt := 51) hx hb dX3_isPlace_33 (by decide) (fun c5 => ?_) (fun c5 => ?_)
            · have h := jx_t h c5
              refine lv_iconst (v := (0 : Int32)) hx hb dX3_isPlace_51 (by decide) ?_
              cases h
              exact hret 52 ls rfl dX3_isPlace_52
            · have h := jx_f h c5
              refine lv_aload_n hx hb dX3_isPlace_36 rfl (lv_at hl 1 rfl) ?_
              refine va_get (D := D) (ci := 3) (v := .ref a_t_playing) (C := RX3) (T := TX3) (N := 7) hx hb hts hi_X3 hown hK hP 0 rfl rfl 3 (by decide) (hts (.fieldLink RX3 18 "TriangleRest$Ear" "playing" "[I") (List.mem_of_getElem? (i := 4) rfl)) (fun _ h9 => h9) rfl dX3_isPlace_37 ?_
              refine lv_iload_n hx hb dX3_isPlace_40 rfl (lv_at hl 0 rfl) ?_
              obtain ⟨g6, h⟩ := jx_g_of h
              refine va_iald hx hb hK hP 3 0 rfl rfl (jx_in_of g6) dX3_isPlace_41 ?_
              refine lv_aload_n hx hb dX3_isPlace_42 rfl (lv_at hl 1 rfl) ?_
              refine va_get (D := D) (ci := 3) (v := .ref a_t_players) (C := RX3) (T := TX3) (N := 7) hx hb hts hi_X3 hown hK hP 0 rfl rfl 1 (by decide) (hts (.fieldLink RX3 15 "TriangleRest$Ear" "players" "[I") (List.mem_of_getElem? (i := 5) rfl)) (fun _ h9 => h9) rfl dX3_isPlace_43 ?_
              refine lv_iload_n hx hb dX3_isPlace_46 rfl (lv_at hl 3 rfl) ?_
              obtain ⟨g7, h⟩ := jx_g_of h
              refine va_iald hx hb hK hP 2 0 rfl rfl (jx_in_of g7) dX3_isPlace_47 ?_
              refine lv_icmp_eq (tgt := 53) hx hb dX3_isPlace_48 (by decide) (fun c8 => ?_) (fun c8 => ?_)
              · have h := jx_t h c8
                refine lv_iinc (v := (x2 + 1)) (lv' := [(2, .int (x2 + 1)), (3, .int (p1 + (t_laters (Int32.toNatClampNeg x2)))), (0, .ref a_t), (1, .int p1)]) hx hb dX3_isPlace_53 hl (k := 3) rfl rfl (by decide) rfl (fun ls hl => ?_)
                refine lv_goto (tgt := 2) hx hb dX3_isPlace_56 (by decide) ?_
                exact ih_l2 (x2 + 1) _ (lv_sub hl [2, 3, 0] rfl) h
              · have h := jx_f h c8
                refine lv_iconst (v := (0 : Int32)) hx hb dX3_isPlace_51 (by decide) ?_
                cases h
                exact hret 52 ls rfl dX3_isPlace_52
  have h := hm
  unfold mi_X3_isPlace at h
  refine lv_iconst (v := (0 : Int32)) hx hb dX3_isPlace_0 (by decide) ?_
  refine lv_istore_n (lv' := [(2, .int (0 : Int32)), (0, .ref a_t), (1, .int p1)]) hx hb dX3_isPlace_1 rfl hl (by decide) rfl (fun ls hl => ?_)
  exact bl_l2 jx_F (0 : Int32) _ (lv_sub hl [1, 2, 0] rfl) h
def mi_X3_findPlaces_l15 (t_heard : Int32) (t_laters : Nat → Int32) (t_players : Nat → Int32) : Nat → Int32 → Int32 → (Nat → Int32) → (Nat → Int32) → Option (Int32 × (Nat → Int32) × (Nat → Int32))
  | 0, _, _, _, _ => none
  | n + 1, x3, t_bars, t_playing, t_placesAhead => if t_bars ≤ x3 then (some (t_bars, t_playing, t_placesAhead)) else (if (960 : Int32) ≤ x3 then (some (t_bars, t_playing, t_placesAhead)) else (jx_g (jx_in x3 961) (jx_b1 (mi_X3_isPlace t_heard t_bars t_laters t_players t_playing x3) fun r4 => (jx_b1 (mi_X11_oneIf r4) fun r6 => (jx_g (jx_in (x3 + (1 : Int32)) 961) (mi_X3_findPlaces_l15 t_heard t_laters t_players n (x3 + 1) t_bars t_playing (upd t_placesAhead (Int32.toNatClampNeg (x3 + (1 : Int32))) ((t_placesAhead (Int32.toNatClampNeg x3)) + r6))))))))
def mi_X3_findPlaces (t_heard : Int32) (t_laters : Nat → Int32) (t_players : Nat → Int32) (t_playing : Nat → Int32) (t_placesAhead : Nat → Int32) (o1_sections : Int32) (o1_lengths : Nat → Int32) (o1_times : Nat → Int32) (o1_players : Nat → Int32) (p2 : Int32) : Option (Int32 × (Nat → Int32) × (Nat → Int32)) := jx_b2 (mi_X3_layOut t_playing o1_sections o1_lengths o1_times o1_players p2) fun t_bars_9 t_playing_10 => (mi_X3_findPlaces_l15 t_heard t_laters t_players jx_F (0 : Int32) t_bars_9 t_playing_10 (upd t_placesAhead (Int32.toNatClampNeg (0 : Int32)) (0 : Int32)))
abbrev rm_X3_findPlaces : Room := { frames := 3, cells := 0, slots := 0, locals := 67 }
set_option maxRecDepth 100000 in
set_option maxHeartbeats 4000000 in
theorem ct_X3_findPlaces (l : Launch) (D : va_G) (cI cZ cO : ClassId) (a_t a_o1 a_t_laters a_t_players a_t_playing a_t_placesAhead a_t_answers a_o1_lengths a_o1_times a_o1_players a_o1_minutes : Nat) (sz : Nat) (t_heard : Int32) (t_bars : Int32) (t_laters : Nat → Int32) (t_players : Nat → Int32) (t_playing : Nat → Int32) (t_placesAhead : Nat → Int32) (o1_sections : Int32) (o1_things : Int32) (o1_noteTold : Int32) (o1_toldSection : Int32) (o1_toldBar : Int32) (o1_lengths : Nat → Int32) (o1_times : Nat → Int32) (o1_players : Nat → Int32) (p2 : Int32) (z_t_bars : Int32) (z_t_playing : Nat → Int32) (z_t_placesAhead : Nat → Int32) (hm : mi_X3_findPlaces t_heard t_laters t_players t_playing t_placesAhead o1_sections o1_lengths o1_times o1_players p2 = some (z_t_bars, z_t_playing, z_t_placesAhead)) : Met l yX3_findPlaces wsX3_findPlaces rm_X3_findPlaces (va_Pc [.ref a_t, .ref a_o1, .int p2] (jx_W D (jx_T cI cZ cO) sz [(a_t, .inr (3, [.ref a_t_laters, .ref a_t_players, .int t_heard, .ref a_t_playing, .ref a_t_placesAhead, .ref a_t_answers, .int t_bars])), (a_t_laters, .inl (cI, 4, .inl t_laters)), (a_t_players, .inl (cI, 4, .inl t_players)), (a_t_playing, .inl (cI, 960, .inl t_playing)), (a_t_placesAhead, .inl (cI, 961, .inl t_placesAhead)), (a_o1, .inr (6, [.ref a_o1_lengths, .ref a_o1_times, .ref a_o1_players, .ref a_o1_minutes, .int o1_sections, .int o1_things, .int o1_noteTold, .int o1_toldSection, .int o1_toldBar])), (a_o1_lengths, .inl (cI, 8, .inl o1_lengths)), (a_o1_times, .inl (cI, 8, .inl o1_times)), (a_o1_players, .inl (cI, 8, .inl o1_players))])) (jx_Q none D [(a_t, .inr (3, [.ref a_t_laters, .ref a_t_players, .int t_heard, .ref a_t_playing, .ref a_t_placesAhead, .ref a_t_answers, .int z_t_bars])), (a_t_laters, .inl (cI, 4, .inl t_laters)), (a_t_players, .inl (cI, 4, .inl t_players)), (a_t_playing, .inl (cI, 960, .inl z_t_playing)), (a_t_placesAhead, .inl (cI, 961, .inl z_t_placesAhead)), (a_o1, .inr (6, [.ref a_o1_lengths, .ref a_o1_times, .ref a_o1_players, .ref a_o1_minutes, .int o1_sections, .int o1_things, .int o1_noteTold, .int o1_toldSection, .int o1_toldBar])), (a_o1_lengths, .inl (cI, 8, .inl o1_lengths)), (a_o1_times, .inl (cI, 8, .inl o1_times)), (a_o1_players, .inl (cI, 8, .inl o1_players))] (va_A [(a_t, .inr (3, [.ref a_t_laters, .ref a_t_players, .int t_heard, .ref a_t_playing, .ref a_t_placesAhead, .ref a_t_answers, .int t_bars])), (a_t_laters, .inl (cI, 4, .inl t_laters)), (a_t_players, .inl (cI, 4, .inl t_players)), (a_t_playing, .inl (cI, 960, .inl t_playing)), (a_t_placesAhead, .inl (cI, 961, .inl t_placesAhead)), (a_o1, .inr (6, [.ref a_o1_lengths, .ref a_o1_times, .ref a_o1_players, .ref a_o1_minutes, .int o1_sections, .int o1_things, .int o1_noteTold, .int o1_toldSection, .int o1_toldBar])), (a_o1_lengths, .inl (cI, 8, .inl o1_lengths)), (a_o1_times, .inl (cI, 8, .inl o1_times)), (a_o1_players, .inl (cI, 8, .inl o1_players))] sz)) 0 0 (va_A [(a_t, .inr (3, [.ref a_t_laters, .ref a_t_players, .int t_heard, .ref a_t_playing, .ref a_t_placesAhead, .ref a_t_answers, .int t_bars])), (a_t_laters, .inl (cI, 4, .inl t_laters)), (a_t_players, .inl (cI, 4, .inl t_players)), (a_t_playing, .inl (cI, 960, .inl t_playing)), (a_t_placesAhead, .inl (cI, 961, .inl t_placesAhead)), (a_o1, .inr (6, [.ref a_o1_lengths, .ref a_o1_times, .ref a_o1_players, .ref a_o1_minutes, .int o1_sections, .int o1_things, .int o1_noteTold, .int o1_toldSection, .int o1_toldBar])), (a_o1_lengths, .inl (cI, 8, .inl o1_lengths)), (a_o1_times, .inl (cI, 8, .inl o1_times)), (a_o1_players, .inl (cI, 8, .inl o1_players))] sz) := by
  refine jx_metV (own := RX3) (cc := cX3_findPlaces) (maxL := 4) (by decide) rfl rfl (Nat.le_of_ble_eq_true rfl) ?_
  intro p e s m args below meth c Q ls A hx hb hml hown hts hK hN hA hP hD hS hl hret
  have hi_X3 : ∀ w ∈ u_ws RX3 TX3 7, w ∈ wsX3_findPlaces := by decide +kernel
  have hl : lv_has ls 4 [(0, .ref a_t), (1, .ref a_o1), (2, .int p2)] := hl
  have bl_l15 : ∀ (n : Nat) (x3 : Int32) (t_bars : Int32) (t_playing : Nat → Int32) (t_placesAhead : Nat → Int32) (H : Heap) (locs : List Loc) (ls : Array Slot), va_P D vwCl [(a_t, .inr (3, [.ref a_t_laters, .ref a_t_players, .int t_heard, .ref a_t_playing, .ref a_t_placesAhead, .ref a_t_answers, .int t_bars])), (a_t_laters, .inl (cI, 4, .inl t_laters)), (a_t_players, .inl (cI, 4, .inl t_players)), (a_t_playing, .inl (cI, 960, .inl t_playing)), (a_t_placesAhead, .inl (cI, 961, .inl t_placesAhead)), (a_o1, .inr (6, [.ref a_o1_lengths, .ref a_o1_times, .ref a_o1_players, .ref a_o1_minutes, .int o1_sections, .int o1_things, .int o1_noteTold, .int o1_toldSection, .int o1_toldBar])), (a_o1_lengths, .inl (cI, 8, .inl o1_lengths)), (a_o1_times, .inl (cI, 8, .inl o1_times)), (a_o1_players, .inl (cI, 8, .inl o1_players))] H → va_D A [(a_t, .inr (3, [.ref a_t_laters, .ref a_t_players, .int t_heard, .ref a_t_playing, .ref a_t_placesAhead, .ref a_t_answers, .int t_bars])), (a_t_laters, .inl (cI, 4, .inl t_laters)), (a_t_players, .inl (cI, 4, .inl t_players)), (a_t_playing, .inl (cI, 960, .inl t_playing)), (a_t_placesAhead, .inl (cI, 961, .inl t_placesAhead)), (a_o1, .inr (6, [.ref a_o1_lengths, .ref a_o1_times, .ref a_o1_players, .ref a_o1_minutes, .int o1_sections, .int o1_things, .int o1_noteTold, .int o1_toldSection, .int o1_toldBar])), (a_o1_lengths, .inl (cI, 8, .inl o1_lengths)), (a_o1_times, .inl (cI, 8, .inl o1_times)), (a_o1_players, .inl (cI, 8, .inl o1_players))] → va_S A s.heap H locs → lv_has ls 4 [(0, .ref a_t), (3, .int x3)] → mi_X3_findPlaces_l15 t_heard t_laters t_players n x3 t_bars t_playing t_placesAhead = some (z_t_bars, z_t_playing, z_t_placesAhead) → W p l e (headSpec wsX3_findPlaces rm_X3_findPlaces).room s m args below meth c H locs 0 0 Q (F0 m 15 ls []) := by
    intro n
    induction n with
    | zero =>
      intro x3 t_bars t_playing t_placesAhead H locs ls hP hD hS hl h
      rw [mi_X3_findPlaces_l15] at h
      cases h
    | succ n_l15 ih_l15 =>
      intro x3 t_bars t_playing t_placesAhead H locs ls hP hD hS hl h
      rw [mi_X3_findPlaces_l15] at h
      refine lv_iload_n hx hb dX3_findPlaces_15 rfl (lv_at hl 1 rfl) ?_
      refine lv_aload_n hx hb dX3_findPlaces_16 rfl (lv_at hl 0 rfl) ?_
      refine va_get (D := D) (ci := 3) (v := .int t_bars) (C := RX3) (T := TX3) (N := 7) hx hb hts hi_X3 hown hK hP 0 rfl rfl 6 (by decide) (hts (.fieldLink RX3 35 "TriangleRest$Ear" "bars" "I") (List.mem_of_getElem? (i := 2) rfl)) (fun _ h9 => h9) rfl dX3_findPlaces_17 ?_
      refine lv_icmp_ge (tgt := 59) hx hb dX3_findPlaces_20 (by decide) (fun c1 => ?_) (fun c1 => ?_)
      · have h := jx_t h c1
        cases h
        exact hret 59 ls _ _ hP hD hS dX3_findPlaces_59
      · have h := jx_f h c1
        refine lv_iload_n hx hb dX3_findPlaces_23 rfl (lv_at hl 1 rfl) ?_
        refine lv_sipush (v := (960 : Int32)) hx hb dX3_findPlaces_24 (by decide) ?_
        refine lv_icmp_ge (tgt := 59) hx hb dX3_findPlaces_27 (by decide) (fun c2 => ?_) (fun c2 => ?_)
        · have h := jx_t h c2
          cases h
          exact hret 59 ls _ _ hP hD hS dX3_findPlaces_59
        · have h := jx_f h c2
          refine lv_aload_n hx hb dX3_findPlaces_30 rfl (lv_at hl 0 rfl) ?_
          refine va_get (D := D) (ci := 3) (v := .ref a_t_placesAhead) (C := RX3) (T := TX3) (N := 7) hx hb hts hi_X3 hown hK hP 0 rfl rfl 4 (by decide) (hts (.fieldLink RX3 21 "TriangleRest$Ear" "placesAhead" "[I") (List.mem_of_getElem? (i := 1) rfl)) (fun _ h9 => h9) rfl dX3_findPlaces_31 ?_
          refine lv_iload_n hx hb dX3_findPlaces_34 rfl (lv_at hl 1 rfl) ?_
          refine lv_iconst (v := (1 : Int32)) hx hb dX3_findPlaces_35 (by decide) ?_
          refine lv_iadd hx hb dX3_findPlaces_36 ?_
          refine lv_aload_n hx hb dX3_findPlaces_37 rfl (lv_at hl 0 rfl) ?_
          refine va_get (D := D) (ci := 3) (v := .ref a_t_placesAhead) (C := RX3) (T := TX3) (N := 7) hx hb hts hi_X3 hown hK hP 0 rfl rfl 4 (by decide) (hts (.fieldLink RX3 21 "TriangleRest$Ear" "placesAhead" "[I") (List.mem_of_getElem? (i := 1) rfl)) (fun _ h9 => h9) rfl dX3_findPlaces_38 ?_
          refine lv_iload_n hx hb dX3_findPlaces_41 rfl (lv_at hl 1 rfl) ?_
          obtain ⟨g3, h⟩ := jx_g_of h
          refine va_iald hx hb hK hP 4 0 rfl rfl (jx_in_of g3) dX3_findPlaces_42 ?_
          refine lv_aload_n hx hb dX3_findPlaces_43 rfl (lv_at hl 0 rfl) ?_
          refine lv_iload_n hx hb dX3_findPlaces_44 rfl (lv_at hl 1 rfl) ?_
          obtain ⟨r4, e5, h⟩ := jx_b1_of h
          refine jx_cV (o := some (.int r4)) (As := [.int x3]) (rest := [.int (t_placesAhead (Int32.toNatClampNeg x3)), .int (x3 + (1 : Int32)), .ref a_t_placesAhead]) (b := a_t) ⟨hx, hb, hml, hown, hts⟩ (ct_X3_isPlace l D cI cZ cO a_t a_t_laters a_t_players a_t_playing a_t_placesAhead a_t_answers t_heard t_bars t_laters t_players t_playing x3 r4 e5) (cwV 1 hts gX3_findPlaces_X3_isPlace rfl rfl rfl (by decide +kernel) ⟨Nat.le_of_ble_eq_true rfl, Nat.le_of_ble_eq_true rfl⟩) hK hN hP [0, 1, 2, 3] rfl (va_recv hK hP (ci := 3) (q0 := 0) rfl rfl) rfl hl.1 rfl (Nat.le_of_ble_eq_true rfl) dX3_findPlaces_45 ⟨Nat.zero_le _, Nat.zero_le _⟩ ?_
          obtain ⟨r6, e7, h⟩ := jx_b1_of h
          refine jx_cSN (o := some (.int r6)) (As := [.int r4]) (rest := [.int (t_placesAhead (Int32.toNatClampNeg x3)), .int (x3 + (1 : Int32)), .ref a_t_placesAhead]) ⟨hx, hb, hml, hown, hts⟩ (ct_X11_oneIf l r4 r6 e7) ⟨va_cnB 1 hts gX3_findPlaces_X11_oneIf_n42 rfl rfl rfl (jx_Nm hN 20 rfl) (hts (.initialized RX11) (List.mem_of_getElem? (i := 11) rfl)) (by decide +kernel) ⟨Nat.le_of_ble_eq_true rfl, Nat.le_of_ble_eq_true rfl⟩, (hts (.static yX11_oneIf) (List.mem_of_getElem? (i := 37) rfl)), trivial⟩ rfl hl.1 rfl (Nat.le_of_ble_eq_true rfl) dX3_findPlaces_48 ⟨Nat.zero_le _, Nat.zero_le _⟩ ?_
          refine lv_iadd hx hb dX3_findPlaces_51 ?_
          obtain ⟨g8, h⟩ := jx_g_of h
          refine va_iast hx hb hK hP hD hS 4 0 rfl rfl (jx_in_of g8) dX3_findPlaces_52 (fun H locs hP hD hS => ?_)
          have hP : va_P D vwCl [(a_t, .inr (3, [.ref a_t_laters, .ref a_t_players, .int t_heard, .ref a_t_playing, .ref a_t_placesAhead, .ref a_t_answers, .int t_bars])), (a_t_laters, .inl (cI, 4, .inl t_laters)), (a_t_players, .inl (cI, 4, .inl t_players)), (a_t_playing, .inl (cI, 960, .inl t_playing)), (a_t_placesAhead, .inl (cI, 961, .inl (upd t_placesAhead (Int32.toNatClampNeg (x3 + (1 : Int32))) ((t_placesAhead (Int32.toNatClampNeg x3)) + r6)))), (a_o1, .inr (6, [.ref a_o1_lengths, .ref a_o1_times, .ref a_o1_players, .ref a_o1_minutes, .int o1_sections, .int o1_things, .int o1_noteTold, .int o1_toldSection, .int o1_toldBar])), (a_o1_lengths, .inl (cI, 8, .inl o1_lengths)), (a_o1_times, .inl (cI, 8, .inl o1_times)), (a_o1_players, .inl (cI, 8, .inl o1_players))] H := hP
          have hD : va_D A [(a_t, .inr (3, [.ref a_t_laters, .ref a_t_players, .int t_heard, .ref a_t_playing, .ref a_t_placesAhead, .ref a_t_answers, .int t_bars])), (a_t_laters, .inl (cI, 4, .inl t_laters)), (a_t_players, .inl (cI, 4, .inl t_players)), (a_t_playing, .inl (cI, 960, .inl t_playing)), (a_t_placesAhead, .inl (cI, 961, .inl (upd t_placesAhead (Int32.toNatClampNeg (x3 + (1 : Int32))) ((t_placesAhead (Int32.toNatClampNeg x3)) + r6)))), (a_o1, .inr (6, [.ref a_o1_lengths, .ref a_o1_times, .ref a_o1_players, .ref a_o1_minutes, .int o1_sections, .int o1_things, .int o1_noteTold, .int o1_toldSection, .int o1_toldBar])), (a_o1_lengths, .inl (cI, 8, .inl o1_lengths)), (a_o1_times, .inl (cI, 8, .inl o1_times)), (a_o1_players, .inl (cI, 8, .inl o1_players))] := hD
          refine lv_iinc (v := (x3 + 1)) (lv' := [(3, .int (x3 + 1)), (0, .ref a_t)]) hx hb dX3_findPlaces_53 hl (k := 1) rfl rfl (by decide) rfl (fun ls hl => ?_)
          refine lv_goto (tgt := 15) hx hb dX3_findPlaces_56 (by decide) ?_
          exact ih_l15 (x3 + 1) t_bars t_playing (upd t_placesAhead (Int32.toNatClampNeg (x3 + (1 : Int32))) ((t_placesAhead (Int32.toNatClampNeg x3)) + r6)) _ _ _ hP hD hS (lv_sub hl [1, 0] rfl) h
  have h := hm
  unfold mi_X3_findPlaces at h
  refine lv_aload_n hx hb dX3_findPlaces_0 rfl (lv_at hl 0 rfl) ?_
  refine lv_aload_n hx hb dX3_findPlaces_1 rfl (lv_at hl 1 rfl) ?_
  refine lv_iload_n hx hb dX3_findPlaces_2 rfl (lv_at hl 2 rfl) ?_
  obtain ⟨t_bars_9, t_playing_10, e11, h⟩ := jx_b2_of h
  refine jx_cW (o := none) (As := [.ref a_o1, .int p2]) (rest := []) (b := a_t) (wr := [(a_t_laters, .inl (cI, 4, .inl t_laters)), (a_t_players, .inl (cI, 4, .inl t_players)), (a_t_placesAhead, .inl (cI, 961, .inl t_placesAhead))]) (wd' := [(a_t, .inr (3, [.ref a_t_laters, .ref a_t_players, .int t_heard, .ref a_t_playing, .ref a_t_placesAhead, .ref a_t_answers, .int t_bars_9])), (a_t_laters, .inl (cI, 4, .inl t_laters)), (a_t_players, .inl (cI, 4, .inl t_players)), (a_t_playing, .inl (cI, 960, .inl t_playing_10)), (a_t_placesAhead, .inl (cI, 961, .inl t_placesAhead)), (a_o1, .inr (6, [.ref a_o1_lengths, .ref a_o1_times, .ref a_o1_players, .ref a_o1_minutes, .int o1_sections, .int o1_things, .int o1_noteTold, .int o1_toldSection, .int o1_toldBar])), (a_o1_lengths, .inl (cI, 8, .inl o1_lengths)), (a_o1_times, .inl (cI, 8, .inl o1_times)), (a_o1_players, .inl (cI, 8, .inl o1_players))]) ⟨hx, hb, hml, hown, hts⟩ (ct_X3_layOut l D cI cZ cO a_t a_o1 a_t_laters a_t_players a_t_playing a_t_placesAhead a_t_answers a_o1_lengths a_o1_times a_o1_players a_o1_minutes s.heap.size t_heard t_bars t_playing o1_sections o1_things o1_noteTold o1_toldSection o1_toldBar o1_lengths o1_times o1_players p2 t_bars_9 t_playing_10 e11) (cwV 2 hts gX3_findPlaces_X3_layOut rfl rfl rfl (by decide +kernel) ⟨Nat.le_of_ble_eq_true rfl, Nat.le_of_ble_eq_true rfl⟩) hK hN hP hD hS hA [0, 3, 5, 6, 7, 8] [1, 2, 4] (by decide) rfl rfl (by decide) (by decide) rfl (va_recv hK hP (ci := 3) (q0 := 0) rfl rfl) rfl hl.1 rfl (Nat.le_of_ble_eq_true rfl) dX3_findPlaces_3 ⟨Nat.zero_le _, Nat.zero_le _⟩ [3, 0, 1, 4, 2, 5, 6, 7, 8] (by decide) rfl (fun H locs hP hD hS => ?_)
  refine lv_aload_n hx hb dX3_findPlaces_6 rfl (lv_at hl 0 rfl) ?_
  refine va_get (D := D) (ci := 3) (v := .ref a_t_placesAhead) (C := RX3) (T := TX3) (N := 7) hx hb hts hi_X3 hown hK hP 0 rfl rfl 4 (by decide) (hts (.fieldLink RX3 21 "TriangleRest$Ear" "placesAhead" "[I") (List.mem_of_getElem? (i := 1) rfl)) (fun _ h9 => h9) rfl dX3_findPlaces_7 ?_
  refine lv_iconst (v := (0 : Int32)) hx hb dX3_findPlaces_10 (by decide) ?_
  refine lv_iconst (v := (0 : Int32)) hx hb dX3_findPlaces_11 (by decide) ?_
  refine va_iast hx hb hK hP hD hS 4 0 rfl rfl (jx_in_of (by decide +kernel)) dX3_findPlaces_12 (fun H locs hP hD hS => ?_)
  have hP : va_P D vwCl [(a_t, .inr (3, [.ref a_t_laters, .ref a_t_players, .int t_heard, .ref a_t_playing, .ref a_t_placesAhead, .ref a_t_answers, .int t_bars_9])), (a_t_laters, .inl (cI, 4, .inl t_laters)), (a_t_players, .inl (cI, 4, .inl t_players)), (a_t_playing, .inl (cI, 960, .inl t_playing_10)), (a_t_placesAhead, .inl (cI, 961, .inl (upd t_placesAhead (Int32.toNatClampNeg (0 : Int32)) (0 : Int32)))), (a_o1, .inr (6, [.ref a_o1_lengths, .ref a_o1_times, .ref a_o1_players, .ref a_o1_minutes, .int o1_sections, .int o1_things, .int o1_noteTold, .int o1_toldSection, .int o1_toldBar])), (a_o1_lengths, .inl (cI, 8, .inl o1_lengths)), (a_o1_times, .inl (cI, 8, .inl o1_times)), (a_o1_players, .inl (cI, 8, .inl o1_players))] H := hP
  have hD : va_D A [(a_t, .inr (3, [.ref a_t_laters, .ref a_t_players, .int t_heard, .ref a_t_playing, .ref a_t_placesAhead, .ref a_t_answers, .int t_bars_9])), (a_t_laters, .inl (cI, 4, .inl t_laters)), (a_t_players, .inl (cI, 4, .inl t_players)), (a_t_playing, .inl (cI, 960, .inl t_playing_10)), (a_t_placesAhead, .inl (cI, 961, .inl (upd t_placesAhead (Int32.toNatClampNeg (0 : Int32)) (0 : Int32)))), (a_o1, .inr (6, [.ref a_o1_lengths, .ref a_o1_times, .ref a_o1_players, .ref a_o1_minutes, .int o1_sections, .int o1_things, .int o1_noteTold, .int o1_toldSection, .int o1_toldBar])), (a_o1_lengths, .inl (cI, 8, .inl o1_lengths)), (a_o1_times, .inl (cI, 8, .inl o1_times)), (a_o1_players, .inl (cI, 8, .inl o1_players))] := hD
  refine lv_iconst (v := (0 : Int32)) hx hb dX3_findPlaces_13 (by decide) ?_
  refine lv_istore_n (lv' := [(3, .int (0 : Int32)), (0, .ref a_t), (1, .ref a_o1), (2, .int p2)]) hx hb dX3_findPlaces_14 rfl hl (by decide) rfl (fun ls hl => ?_)
  exact bl_l15 jx_F (0 : Int32) t_bars_9 t_playing_10 (upd t_placesAhead (Int32.toNatClampNeg (0 : Int32)) (0 : Int32)) _ _ _ hP hD hS (lv_sub hl [1, 0] rfl) h
def mi_X3_placesAheadOf (t_bars : Int32) (t_placesAhead : Nat → Int32) (p1 : Int32) : Option (Int32) := if (960 : Int32) < (if (0 : Int32) < (if t_bars < p1 then t_bars else p1) then (if t_bars < p1 then t_bars else p1) else (0 : Int32)) then (some ((0 : Int32))) else (jx_g (jx_in (if (0 : Int32) < (if t_bars < p1 then t_bars else p1) then (if t_bars < p1 then t_bars else p1) else (0 : Int32)) 961) (some ((t_placesAhead (Int32.toNatClampNeg (if (0 : Int32) < (if t_bars < p1 then t_bars else p1) then (if t_bars < p1 then t_bars else p1) else (0 : Int32)))))))
abbrev rm_X3_placesAheadOf : Room := { frames := 1, cells := 0, slots := 0, locals := 21 }
set_option maxRecDepth 100000 in
set_option maxHeartbeats 4000000 in
theorem ct_X3_placesAheadOf (l : Launch) (D : va_G) (cI cZ cO : ClassId) (a_t a_t_laters a_t_players a_t_playing a_t_placesAhead a_t_answers : Nat) (t_heard : Int32) (t_bars : Int32) (t_placesAhead : Nat → Int32) (p1 : Int32) (r : Int32) (hm : mi_X3_placesAheadOf t_bars t_placesAhead p1 = some r) : Met l yX3_placesAheadOf wsX3_placesAheadOf rm_X3_placesAheadOf (va_Pc [.ref a_t, .int p1] (jx_R D (jx_T cI cZ cO) [(a_t, .inr (3, [.ref a_t_laters, .ref a_t_players, .int t_heard, .ref a_t_playing, .ref a_t_placesAhead, .ref a_t_answers, .int t_bars])), (a_t_placesAhead, .inl (cI, 961, .inl t_placesAhead))])) (jx_S (some (.int r))) 0 0 (fun _ => False) := by
  refine jx_metR (ty := .int) (own := RX3) (cc := cX3_placesAheadOf) (maxL := 3) (by decide) rfl rfl (Nat.le_of_ble_eq_true rfl) ?_
  intro p e s m args below meth c Q ls hx hb hml hown hts hK hN hP hl hret
  have hi_X3 : ∀ w ∈ u_ws RX3 TX3 7, w ∈ wsX3_placesAheadOf := by decide +kernel
  have hl : lv_has ls 3 [(0, .ref a_t), (1, .int p1)] := hl
  have h := hm
  unfold mi_X3_placesAheadOf at h
  refine lv_iconst (v := (0 : Int32)) hx hb dX3_placesAheadOf_0 (by decide) ?_
  refine lv_iload_n hx hb dX3_placesAheadOf_1 rfl (lv_at hl 1 rfl) ?_
  refine lv_aload_n hx hb dX3_placesAheadOf_2 rfl (lv_at hl 0 rfl) ?_
  refine va_get (D := D) (ci := 3) (v := .int t_bars) (C := RX3) (T := TX3) (N := 7) hx hb hts hi_X3 hown hK hP 0 rfl rfl 6 (by decide) (hts (.fieldLink RX3 35 "TriangleRest$Ear" "bars" "I") (List.mem_of_getElem? (i := 1) rfl)) (fun _ h9 => h9) rfl dX3_placesAheadOf_3 ?_
  refine va_mmin hx hb (hml.trans hl.1.symm) hown (hts (.methodLink RX3 65 Lib.Math.min.name) (List.mem_of_getElem? (i := 2) rfl)) (hts (.static Lib.Math.min.name) (List.mem_of_getElem? (i := 3) rfl)) (hts (.initialized "java/lang/Math") (List.mem_of_getElem? (i := 4) rfl)) (hts (.code Lib.Math.min.name Lib.Math.min.code 2 (some .int)) (List.mem_of_getElem? (i := 5) rfl)) (Nat.le_of_ble_eq_true rfl) (Nat.le_of_ble_eq_true rfl) (Nat.zero_le _) (Nat.zero_le _) dX3_placesAheadOf_6 ?_
  refine va_mmax hx hb (hml.trans hl.1.symm) hown (hts (.methodLink RX3 71 Lib.Math.max.name) (List.mem_of_getElem? (i := 6) rfl)) (hts (.static Lib.Math.max.name) (List.mem_of_getElem? (i := 7) rfl)) (hts (.initialized "java/lang/Math") (List.mem_of_getElem? (i := 4) rfl)) (hts (.code Lib.Math.max.name Lib.Math.max.code 2 (some .int)) (List.mem_of_getElem? (i := 8) rfl)) (Nat.le_of_ble_eq_true rfl) (Nat.le_of_ble_eq_true rfl) (Nat.zero_le _) (Nat.zero_le _) dX3_placesAheadOf_9 ?_
  refine lv_istore_n (lv' := [(2, .int (if (0 : Int32) < (if t_bars < p1 then t_bars else p1) then (if t_bars < p1 then t_bars else p1) else (0 : Int32))), (0, .ref a_t), (1, .int p1)]) hx hb dX3_placesAheadOf_12 rfl hl (by decide) rfl (fun ls hl => ?_)
  refine lv_iload_n hx hb dX3_placesAheadOf_13 rfl (lv_at hl 0 rfl) ?_
  refine lv_sipush (v := (960 : Int32)) hx hb dX3_placesAheadOf_14 (by decide) ?_
  refine lv_icmp_gt (tgt := 29) hx hb dX3_placesAheadOf_17 (by decide) (fun c1 => ?_) (fun c1 => ?_)
  · have h := jx_t h c1
    refine lv_iconst (v := (0 : Int32)) hx hb dX3_placesAheadOf_29 (by decide) ?_
    cases h
    exact hret 30 ls rfl dX3_placesAheadOf_30
  · have h := jx_f h c1
    refine lv_aload_n hx hb dX3_placesAheadOf_20 rfl (lv_at hl 1 rfl) ?_
    refine va_get (D := D) (ci := 3) (v := .ref a_t_placesAhead) (C := RX3) (T := TX3) (N := 7) hx hb hts hi_X3 hown hK hP 0 rfl rfl 4 (by decide) (hts (.fieldLink RX3 21 "TriangleRest$Ear" "placesAhead" "[I") (List.mem_of_getElem? (i := 9) rfl)) (fun _ h9 => h9) rfl dX3_placesAheadOf_21 ?_
    refine lv_iload_n hx hb dX3_placesAheadOf_24 rfl (lv_at hl 0 rfl) ?_
    obtain ⟨g2, h⟩ := jx_g_of h
    refine va_iald hx hb hK hP 1 0 rfl rfl (jx_in_of g2) dX3_placesAheadOf_25 ?_
    refine lv_goto (tgt := 30) hx hb dX3_placesAheadOf_26 (by decide) ?_
    cases h
    exact hret 30 ls rfl dX3_placesAheadOf_30
def mi_X3_placesInAll (t_bars : Int32) (t_placesAhead : Nat → Int32) : Option (Int32) := jx_b1 (mi_X3_placesAheadOf t_bars t_placesAhead t_bars) fun r1 => (some (r1))
abbrev rm_X3_placesInAll : Room := { frames := 2, cells := 0, slots := 0, locals := 43 }
set_option maxRecDepth 100000 in
set_option maxHeartbeats 4000000 in
theorem ct_X3_placesInAll (l : Launch) (D : va_G) (cI cZ cO : ClassId) (a_t a_t_laters a_t_players a_t_playing a_t_placesAhead a_t_answers : Nat) (t_heard : Int32) (t_bars : Int32) (t_placesAhead : Nat → Int32) (r : Int32) (hm : mi_X3_placesInAll t_bars t_placesAhead = some r) : Met l yX3_placesInAll wsX3_placesInAll rm_X3_placesInAll (va_Pc [.ref a_t] (jx_R D (jx_T cI cZ cO) [(a_t, .inr (3, [.ref a_t_laters, .ref a_t_players, .int t_heard, .ref a_t_playing, .ref a_t_placesAhead, .ref a_t_answers, .int t_bars])), (a_t_placesAhead, .inl (cI, 961, .inl t_placesAhead))])) (jx_S (some (.int r))) 0 0 (fun _ => False) := by
  refine jx_metR (ty := .int) (own := RX3) (cc := cX3_placesInAll) (maxL := 1) (by decide) rfl rfl (Nat.le_of_ble_eq_true rfl) ?_
  intro p e s m args below meth c Q ls hx hb hml hown hts hK hN hP hl hret
  have hi_X3 : ∀ w ∈ u_ws RX3 TX3 7, w ∈ wsX3_placesInAll := by decide +kernel
  have hl : lv_has ls 1 [(0, .ref a_t)] := hl
  have h := hm
  unfold mi_X3_placesInAll at h
  refine lv_aload_n hx hb dX3_placesInAll_0 rfl (lv_at hl 0 rfl) ?_
  refine lv_aload_n hx hb dX3_placesInAll_1 rfl (lv_at hl 0 rfl) ?_
  refine va_get (D := D) (ci := 3) (v := .int t_bars) (C := RX3) (T := TX3) (N := 7) hx hb hts hi_X3 hown hK hP 0 rfl rfl 6 (by decide) (hts (.fieldLink RX3 35 "TriangleRest$Ear" "bars" "I") (List.mem_of_getElem? (i := 1) rfl)) (fun _ h9 => h9) rfl dX3_placesInAll_2 ?_
  obtain ⟨r1, e2, h⟩ := jx_b1_of h
  refine jx_cV (o := some (.int r1)) (As := [.int t_bars]) (rest := []) (b := a_t) ⟨hx, hb, hml, hown, hts⟩ (ct_X3_placesAheadOf l D cI cZ cO a_t a_t_laters a_t_players a_t_playing a_t_placesAhead a_t_answers t_heard t_bars t_placesAhead t_bars r1 e2) (cwV 1 hts gX3_placesInAll_X3_placesAheadOf rfl rfl rfl (by decide +kernel) ⟨Nat.le_of_ble_eq_true rfl, Nat.le_of_ble_eq_true rfl⟩) hK hN hP [0, 1] rfl (va_recv hK hP (ci := 3) (q0 := 0) rfl rfl) rfl hl.1 rfl (Nat.le_of_ble_eq_true rfl) dX3_placesInAll_5 ⟨Nat.zero_le _, Nat.zero_le _⟩ ?_
  cases h
  exact hret 8 ls rfl dX3_placesInAll_8
def mi_X3_placeOf_l2 (t_bars : Int32) (t_placesAhead : Nat → Int32) (p1 : Int32) : Nat → Int32 → Option (Int32)
  | 0, _ => none
  | n + 1, x2 => if t_bars ≤ x2 then (some ((-9 : Int32))) else (jx_b1 (mi_X3_placesAheadOf t_bars t_placesAhead (x2 + (1 : Int32))) fun r2 => (if r2 = (p1 + (1 : Int32)) then (some (x2)) else (mi_X3_placeOf_l2 t_bars t_placesAhead p1 n (x2 + 1))))
def mi_X3_placeOf (t_bars : Int32) (t_placesAhead : Nat → Int32) (p1 : Int32) : Option (Int32) := mi_X3_placeOf_l2 t_bars t_placesAhead p1 jx_F (0 : Int32)
abbrev rm_X3_placeOf : Room := { frames := 2, cells := 0, slots := 0, locals := 43 }
set_option maxRecDepth 100000 in
set_option maxHeartbeats 4000000 in
theorem ct_X3_placeOf (l : Launch) (D : va_G) (cI cZ cO : ClassId) (a_t a_t_laters a_t_players a_t_playing a_t_placesAhead a_t_answers : Nat) (t_heard : Int32) (t_bars : Int32) (t_placesAhead : Nat → Int32) (p1 : Int32) (r : Int32) (hm : mi_X3_placeOf t_bars t_placesAhead p1 = some r) : Met l yX3_placeOf wsX3_placeOf rm_X3_placeOf (va_Pc [.ref a_t, .int p1] (jx_R D (jx_T cI cZ cO) [(a_t, .inr (3, [.ref a_t_laters, .ref a_t_players, .int t_heard, .ref a_t_playing, .ref a_t_placesAhead, .ref a_t_answers, .int t_bars])), (a_t_placesAhead, .inl (cI, 961, .inl t_placesAhead))])) (jx_S (some (.int r))) 0 0 (fun _ => False) := by
  refine jx_metR (ty := .int) (own := RX3) (cc := cX3_placeOf) (maxL := 3) (by decide) rfl rfl (Nat.le_of_ble_eq_true rfl) ?_
  intro p e s m args below meth c Q ls hx hb hml hown hts hK hN hP hl hret
  have hi_X3 : ∀ w ∈ u_ws RX3 TX3 7, w ∈ wsX3_placeOf := by decide +kernel
  have hl : lv_has ls 3 [(0, .ref a_t), (1, .int p1)] := hl
  have bl_l2 : ∀ (n : Nat) (x2 : Int32) (ls : Array Slot), lv_has ls 3 [(0, .ref a_t), (1, .int p1), (2, .int x2)] → mi_X3_placeOf_l2 t_bars t_placesAhead p1 n x2 = some r → W p l e (headSpec wsX3_placeOf rm_X3_placeOf).room s m args below meth c s.heap [] 0 0 Q (F0 m 2 ls []) := by
    intro n
    induction n with
    | zero =>
      intro x2 ls hl h
      rw [mi_X3_placeOf_l2] at h
      cases h
    | succ n_l2 ih_l2 =>
      intro x2 ls hl h
      rw [mi_X3_placeOf_l2] at h
      refine lv_iload_n hx hb dX3_placeOf_2 rfl (lv_at hl 2 rfl) ?_
      refine lv_aload_n hx hb dX3_placeOf_3 rfl (lv_at hl 0 rfl) ?_
      refine va_get (D := D) (ci := 3) (v := .int t_bars) (C := RX3) (T := TX3) (N := 7) hx hb hts hi_X3 hown hK hP 0 rfl rfl 6 (by decide) (hts (.fieldLink RX3 35 "TriangleRest$Ear" "bars" "I") (List.mem_of_getElem? (i := 1) rfl)) (fun _ h9 => h9) rfl dX3_placeOf_4 ?_
      refine lv_icmp_ge (tgt := 31) hx hb dX3_placeOf_7 (by decide) (fun c1 => ?_) (fun c1 => ?_)
      · have h := jx_t h c1
        refine lv_bipush (v := (-9 : Int32)) hx hb dX3_placeOf_31 (by decide) ?_
        cases h
        exact hret 33 ls rfl dX3_placeOf_33
      · have h := jx_f h c1
        refine lv_aload_n hx hb dX3_placeOf_10 rfl (lv_at hl 0 rfl) ?_
        refine lv_iload_n hx hb dX3_placeOf_11 rfl (lv_at hl 2 rfl) ?_
        refine lv_iconst (v := (1 : Int32)) hx hb dX3_placeOf_12 (by decide) ?_
        refine lv_iadd hx hb dX3_placeOf_13 ?_
        obtain ⟨r2, e3, h⟩ := jx_b1_of h
        refine jx_cV (o := some (.int r2)) (As := [.int (x2 + (1 : Int32))]) (rest := []) (b := a_t) ⟨hx, hb, hml, hown, hts⟩ (ct_X3_placesAheadOf l D cI cZ cO a_t a_t_laters a_t_players a_t_playing a_t_placesAhead a_t_answers t_heard t_bars t_placesAhead (x2 + (1 : Int32)) r2 e3) (cwV 1 hts gX3_placeOf_X3_placesAheadOf rfl rfl rfl (by decide +kernel) ⟨Nat.le_of_ble_eq_true rfl, Nat.le_of_ble_eq_true rfl⟩) hK hN hP [0, 1] rfl (va_recv hK hP (ci := 3) (q0 := 0) rfl rfl) rfl hl.1 rfl (Nat.le_of_ble_eq_true rfl) dX3_placeOf_14 ⟨Nat.zero_le _, Nat.zero_le _⟩ ?_
        refine lv_iload_n hx hb dX3_placeOf_17 rfl (lv_at hl 1 rfl) ?_
        refine lv_iconst (v := (1 : Int32)) hx hb dX3_placeOf_18 (by decide) ?_
        refine lv_iadd hx hb dX3_placeOf_19 ?_
        refine lv_icmp_ne (tgt := 25) hx hb dX3_placeOf_20 (by decide) (fun c4 => ?_) (fun c4 => ?_)
        · have h := jx_f h c4
          refine lv_iinc (v := (x2 + 1)) (lv' := [(2, .int (x2 + 1)), (0, .ref a_t), (1, .int p1)]) hx hb dX3_placeOf_25 hl (k := 2) rfl rfl (by decide) rfl (fun ls hl => ?_)
          refine lv_goto (tgt := 2) hx hb dX3_placeOf_28 (by decide) ?_
          exact ih_l2 (x2 + 1) _ (lv_sub hl [1, 2, 0] rfl) h
        · have h := jx_t h c4
          refine lv_iload_n hx hb dX3_placeOf_23 rfl (lv_at hl 2 rfl) ?_
          cases h
          exact hret 24 ls rfl dX3_placeOf_24
  have h := hm
  unfold mi_X3_placeOf at h
  refine lv_iconst (v := (0 : Int32)) hx hb dX3_placeOf_0 (by decide) ?_
  refine lv_istore_n (lv' := [(2, .int (0 : Int32)), (0, .ref a_t), (1, .int p1)]) hx hb dX3_placeOf_1 rfl hl (by decide) rfl (fun ls hl => ?_)
  exact bl_l2 jx_F (0 : Int32) _ (lv_sub hl [1, 2, 0] rfl) h
def mi_X3_greatestAnswer_l146 : Nat → Int32 → Int32 → (Nat → Int32) → Option (Int32 × (Nat → Int32))
  | 0, _, _, _ => none
  | n + 1, x5, x6, t_answers => if (5 : Int32) ≤ x6 then (some (x5, t_answers)) else (jx_g (jx_in x6 5) (mi_X3_greatestAnswer_l146 n (if x5 < (t_answers (Int32.toNatClampNeg x6)) then (t_answers (Int32.toNatClampNeg x6)) else x5) (x6 + 1) t_answers))
def mi_X3_greatestAnswer_b115 (k_l33 : Int32 → Int32 → (Nat → Int32) → Option (Int32 × (Nat → Int32))) (x4 : Int32) (x5 : Int32) (t_answers : Nat → Int32) : Option (Int32 × (Nat → Int32)) := k_l33 x4 (x5 + 1) t_answers
def mi_X3_greatestAnswer_b67 (t_bars : Int32) (t_placesAhead : Nat → Int32) (o2_sections : Int32) (o2_players : Nat → Int32) (p1 : Int32) (k_l33 : Int32 → Int32 → (Nat → Int32) → Option (Int32 × (Nat → Int32))) (x5 : Int32) (x6 : Int32) (k0 : Int32) (k1 : Int32) (t_answers : Nat → Int32) : Option (Int32 × (Nat → Int32)) := jx_b1 (mi_X6_whoOf o2_sections o2_players x5) fun r13 => (jx_b1 (mi_X11_isWithin r13 (0 : Int32) (3 : Int32)) fun r15 => (if r15 = 0 then (mi_X3_greatestAnswer_b115 k_l33 (k0 + k1) x5 t_answers) else (jx_g (jx_in r13 5) (jx_b1 (mi_X3_placesAheadOf t_bars t_placesAhead ((k0 + k1) - p1)) fun r19 => (jx_b1 (mi_X3_placesAheadOf t_bars t_placesAhead (x6 - p1)) fun r21 => (jx_g (jx_in r13 5) (mi_X3_greatestAnswer_b115 k_l33 (k0 + k1) x5 (upd t_answers (Int32.toNatClampNeg r13) ((t_answers (Int32.toNatClampNeg r13)) + (r19 - r21))))))))))
def mi_X3_greatestAnswer_l33 (t_bars : Int32) (t_placesAhead : Nat → Int32) (o2_sections : Int32) (o2_lengths : Nat → Int32) (o2_times : Nat → Int32) (o2_players : Nat → Int32) (p1 : Int32) (p3 : Int32) : Nat → Int32 → Int32 → (Nat → Int32) → Option (Int32 × (Nat → Int32))
  | 0, _, _, _ => none
  | n + 1, x4, x5, t_answers => if o2_sections ≤ x5 then (jx_b1 (mi_X3_placesInAll t_bars t_placesAhead) fun r4 => (jx_b1 (mi_X3_placesAheadOf t_bars t_placesAhead (x4 - p1)) fun r6 => (mi_X3_greatestAnswer_l146 jx_F (0 : Int32) (0 : Int32) (upd t_answers (Int32.toNatClampNeg (4 : Int32)) (r4 - r6))))) else (jx_b1 (mi_X11_isIn p3 x5) fun r8 => (if r8 = 0 then (jx_b1 (mi_X6_barsOf o2_sections o2_lengths o2_times x5) fun r11 => (mi_X3_greatestAnswer_b67 t_bars t_placesAhead o2_sections o2_players p1 (mi_X3_greatestAnswer_l33 t_bars t_placesAhead o2_sections o2_lengths o2_times o2_players p1 p3 n) x5 x4 x4 r11 t_answers)) else (mi_X3_greatestAnswer_b67 t_bars t_placesAhead o2_sections o2_players p1 (mi_X3_greatestAnswer_l33 t_bars t_placesAhead o2_sections o2_lengths o2_times o2_players p1 p3 n) x5 x4 x4 (0 : Int32) t_answers)))
def mi_X3_greatestAnswer_l3 (t_bars : Int32) (t_placesAhead : Nat → Int32) (o2_sections : Int32) (o2_lengths : Nat → Int32) (o2_times : Nat → Int32) (o2_players : Nat → Int32) (p1 : Int32) (p3 : Int32) : Nat → Int32 → (Nat → Int32) → Option (Int32 × (Nat → Int32))
  | 0, _, _ => none
  | n + 1, x4, t_answers => if (5 : Int32) ≤ x4 then (mi_X3_greatestAnswer_l33 t_bars t_placesAhead o2_sections o2_lengths o2_times o2_players p1 p3 jx_F (0 : Int32) (0 : Int32) t_answers) else (jx_g (jx_in x4 5) (mi_X3_greatestAnswer_l3 t_bars t_placesAhead o2_sections o2_lengths o2_times o2_players p1 p3 n (x4 + 1) (upd t_answers (Int32.toNatClampNeg x4) (0 : Int32))))
def mi_X3_greatestAnswer (t_bars : Int32) (t_placesAhead : Nat → Int32) (t_answers : Nat → Int32) (o2_sections : Int32) (o2_lengths : Nat → Int32) (o2_times : Nat → Int32) (o2_players : Nat → Int32) (p1 : Int32) (p3 : Int32) : Option (Int32 × (Nat → Int32)) := mi_X3_greatestAnswer_l3 t_bars t_placesAhead o2_sections o2_lengths o2_times o2_players p1 p3 jx_F (0 : Int32) t_answers
abbrev rm_X3_greatestAnswer : Room := { frames := 3, cells := 0, slots := 0, locals := 63 }
set_option maxRecDepth 100000 in
set_option maxHeartbeats 4000000 in
theorem ct_X3_greatestAnswer (l : Launch) (D : va_G) (cI cZ cO : ClassId) (a_t a_o2 a_t_laters a_t_players a_t_playing a_t_placesAhead a_t_answers a_o2_lengths a_o2_times a_o2_players a_o2_minutes : Nat) (sz : Nat) (t_heard : Int32) (t_bars : Int32) (t_placesAhead : Nat → Int32) (t_answers : Nat → Int32) (o2_sections : Int32) (o2_things : Int32) (o2_noteTold : Int32) (o2_toldSection : Int32) (o2_toldBar : Int32) (o2_lengths : Nat → Int32) (o2_times : Nat → Int32) (o2_players : Nat → Int32) (p1 : Int32) (p3 : Int32) (r : Int32) (z_t_answers : Nat → Int32) (hm : mi_X3_greatestAnswer t_bars t_placesAhead t_answers o2_sections o2_lengths o2_times o2_players p1 p3 = some (r, z_t_answers)) : Met l yX3_greatestAnswer wsX3_greatestAnswer rm_X3_greatestAnswer (va_Pc [.ref a_t, .int p1, .ref a_o2, .int p3] (jx_W D (jx_T cI cZ cO) sz [(a_t, .inr (3, [.ref a_t_laters, .ref a_t_players, .int t_heard, .ref a_t_playing, .ref a_t_placesAhead, .ref a_t_answers, .int t_bars])), (a_t_placesAhead, .inl (cI, 961, .inl t_placesAhead)), (a_t_answers, .inl (cI, 5, .inl t_answers)), (a_o2, .inr (6, [.ref a_o2_lengths, .ref a_o2_times, .ref a_o2_players, .ref a_o2_minutes, .int o2_sections, .int o2_things, .int o2_noteTold, .int o2_toldSection, .int o2_toldBar])), (a_o2_lengths, .inl (cI, 8, .inl o2_lengths)), (a_o2_times, .inl (cI, 8, .inl o2_times)), (a_o2_players, .inl (cI, 8, .inl o2_players))])) (jx_Q (some (.int r)) D [(a_t, .inr (3, [.ref a_t_laters, .ref a_t_players, .int t_heard, .ref a_t_playing, .ref a_t_placesAhead, .ref a_t_answers, .int t_bars])), (a_t_placesAhead, .inl (cI, 961, .inl t_placesAhead)), (a_t_answers, .inl (cI, 5, .inl z_t_answers)), (a_o2, .inr (6, [.ref a_o2_lengths, .ref a_o2_times, .ref a_o2_players, .ref a_o2_minutes, .int o2_sections, .int o2_things, .int o2_noteTold, .int o2_toldSection, .int o2_toldBar])), (a_o2_lengths, .inl (cI, 8, .inl o2_lengths)), (a_o2_times, .inl (cI, 8, .inl o2_times)), (a_o2_players, .inl (cI, 8, .inl o2_players))] (va_A [(a_t, .inr (3, [.ref a_t_laters, .ref a_t_players, .int t_heard, .ref a_t_playing, .ref a_t_placesAhead, .ref a_t_answers, .int t_bars])), (a_t_placesAhead, .inl (cI, 961, .inl t_placesAhead)), (a_t_answers, .inl (cI, 5, .inl t_answers)), (a_o2, .inr (6, [.ref a_o2_lengths, .ref a_o2_times, .ref a_o2_players, .ref a_o2_minutes, .int o2_sections, .int o2_things, .int o2_noteTold, .int o2_toldSection, .int o2_toldBar])), (a_o2_lengths, .inl (cI, 8, .inl o2_lengths)), (a_o2_times, .inl (cI, 8, .inl o2_times)), (a_o2_players, .inl (cI, 8, .inl o2_players))] sz)) 0 0 (va_A [(a_t, .inr (3, [.ref a_t_laters, .ref a_t_players, .int t_heard, .ref a_t_playing, .ref a_t_placesAhead, .ref a_t_answers, .int t_bars])), (a_t_placesAhead, .inl (cI, 961, .inl t_placesAhead)), (a_t_answers, .inl (cI, 5, .inl t_answers)), (a_o2, .inr (6, [.ref a_o2_lengths, .ref a_o2_times, .ref a_o2_players, .ref a_o2_minutes, .int o2_sections, .int o2_things, .int o2_noteTold, .int o2_toldSection, .int o2_toldBar])), (a_o2_lengths, .inl (cI, 8, .inl o2_lengths)), (a_o2_times, .inl (cI, 8, .inl o2_times)), (a_o2_players, .inl (cI, 8, .inl o2_players))] sz) := by
  refine jx_metW (ty := .int) (own := RX3) (cc := cX3_greatestAnswer) (maxL := 8) (by decide) rfl rfl (Nat.le_of_ble_eq_true rfl) ?_
  intro p e s m args below meth c Q ls A hx hb hml hown hts hK hN hA hP hD hS hl hret
  have hi_X3 : ∀ w ∈ u_ws RX3 TX3 7, w ∈ wsX3_greatestAnswer := by decide +kernel
  have hi_X6 : ∀ w ∈ u_ws RX6 TX6 9, w ∈ wsX3_greatestAnswer := by decide +kernel
  have hl : lv_has ls 8 [(0, .ref a_t), (1, .int p1), (2, .ref a_o2), (3, .int p3)] := hl
  have bl_l146 : ∀ (n : Nat) (x5 : Int32) (x6 : Int32) (t_answers : Nat → Int32) (H : Heap) (locs : List Loc) (ls : Array Slot), va_P D vwCl [(a_t, .inr (3, [.ref a_t_laters, .ref a_t_players, .int t_heard, .ref a_t_playing, .ref a_t_placesAhead, .ref a_t_answers, .int t_bars])), (a_t_placesAhead, .inl (cI, 961, .inl t_placesAhead)), (a_t_answers, .inl (cI, 5, .inl t_answers)), (a_o2, .inr (6, [.ref a_o2_lengths, .ref a_o2_times, .ref a_o2_players, .ref a_o2_minutes, .int o2_sections, .int o2_things, .int o2_noteTold, .int o2_toldSection, .int o2_toldBar])), (a_o2_lengths, .inl (cI, 8, .inl o2_lengths)), (a_o2_times, .inl (cI, 8, .inl o2_times)), (a_o2_players, .inl (cI, 8, .inl o2_players))] H → va_D A [(a_t, .inr (3, [.ref a_t_laters, .ref a_t_players, .int t_heard, .ref a_t_playing, .ref a_t_placesAhead, .ref a_t_answers, .int t_bars])), (a_t_placesAhead, .inl (cI, 961, .inl t_placesAhead)), (a_t_answers, .inl (cI, 5, .inl t_answers)), (a_o2, .inr (6, [.ref a_o2_lengths, .ref a_o2_times, .ref a_o2_players, .ref a_o2_minutes, .int o2_sections, .int o2_things, .int o2_noteTold, .int o2_toldSection, .int o2_toldBar])), (a_o2_lengths, .inl (cI, 8, .inl o2_lengths)), (a_o2_times, .inl (cI, 8, .inl o2_times)), (a_o2_players, .inl (cI, 8, .inl o2_players))] → va_S A s.heap H locs → lv_has ls 8 [(0, .ref a_t), (5, .int x5), (6, .int x6)] → mi_X3_greatestAnswer_l146 n x5 x6 t_answers = some (r, z_t_answers) → W p l e (headSpec wsX3_greatestAnswer rm_X3_greatestAnswer).room s m args below meth c H locs 0 0 Q (F0 m 146 ls []) := by
    intro n
    induction n with
    | zero =>
      intro x5 x6 t_answers H locs ls hP hD hS hl h
      rw [mi_X3_greatestAnswer_l146] at h
      cases h
    | succ n_l146 ih_l146 =>
      intro x5 x6 t_answers H locs ls hP hD hS hl h
      rw [mi_X3_greatestAnswer_l146] at h
      refine lv_iload hx hb dX3_greatestAnswer_146 (lv_at hl 2 rfl) ?_
      refine lv_aload_n hx hb dX3_greatestAnswer_148 rfl (lv_at hl 0 rfl) ?_
      refine va_get (D := D) (ci := 3) (v := .ref a_t_answers) (C := RX3) (T := TX3) (N := 7) hx hb hts hi_X3 hown hK hP 0 rfl rfl 5 (by decide) (hts (.fieldLink RX3 24 "TriangleRest$Ear" "answers" "[I") (List.mem_of_getElem? (i := 1) rfl)) (fun _ h9 => h9) rfl dX3_greatestAnswer_149 ?_
      refine va_alen (v := (5 : Int32)) hx hb hK hP 2 0 rfl (ty := .int) rfl rfl dX3_greatestAnswer_152 ?_
      refine lv_icmp_ge (tgt := 176) hx hb dX3_greatestAnswer_153 (by decide) (fun c24 => ?_) (fun c24 => ?_)
      · have h := jx_t h c24
        refine lv_iload hx hb dX3_greatestAnswer_176 (lv_at hl 1 rfl) ?_
        cases h
        exact hret 178 ls _ _ hP hD hS rfl dX3_greatestAnswer_178
      · have h := jx_f h c24
        refine lv_iload hx hb dX3_greatestAnswer_156 (lv_at hl 1 rfl) ?_
        refine lv_aload_n hx hb dX3_greatestAnswer_158 rfl (lv_at hl 0 rfl) ?_
        refine va_get (D := D) (ci := 3) (v := .ref a_t_answers) (C := RX3) (T := TX3) (N := 7) hx hb hts hi_X3 hown hK hP 0 rfl rfl 5 (by decide) (hts (.fieldLink RX3 24 "TriangleRest$Ear" "answers" "[I") (List.mem_of_getElem? (i := 1) rfl)) (fun _ h9 => h9) rfl dX3_greatestAnswer_159 ?_
        refine lv_iload hx hb dX3_greatestAnswer_162 (lv_at hl 2 rfl) ?_
        obtain ⟨g25, h⟩ := jx_g_of h
        refine va_iald hx hb hK hP 2 0 rfl rfl (jx_in_of g25) dX3_greatestAnswer_164 ?_
        refine va_mmax hx hb (hml.trans hl.1.symm) hown (hts (.methodLink RX3 71 Lib.Math.max.name) (List.mem_of_getElem? (i := 3) rfl)) (hts (.static Lib.Math.max.name) (List.mem_of_getElem? (i := 4) rfl)) (hts (.initialized "java/lang/Math") (List.mem_of_getElem? (i := 5) rfl)) (hts (.code Lib.Math.max.name Lib.Math.max.code 2 (some .int)) (List.mem_of_getElem? (i := 6) rfl)) (Nat.le_of_ble_eq_true rfl) (Nat.le_of_ble_eq_true rfl) (Nat.zero_le _) (Nat.zero_le _) dX3_greatestAnswer_165 ?_
        refine lv_istore (lv' := [(5, .int (if x5 < (t_answers (Int32.toNatClampNeg x6)) then (t_answers (Int32.toNatClampNeg x6)) else x5)), (0, .ref a_t), (6, .int x6)]) hx hb dX3_greatestAnswer_168 hl (by decide) rfl (fun ls hl => ?_)
        refine lv_iinc (v := (x6 + 1)) (lv' := [(6, .int (x6 + 1)), (5, .int (if x5 < (t_answers (Int32.toNatClampNeg x6)) then (t_answers (Int32.toNatClampNeg x6)) else x5)), (0, .ref a_t)]) hx hb dX3_greatestAnswer_170 hl (k := 2) rfl rfl (by decide) rfl (fun ls hl => ?_)
        refine lv_goto (tgt := 146) hx hb dX3_greatestAnswer_173 (by decide) ?_
        exact ih_l146 (if x5 < (t_answers (Int32.toNatClampNeg x6)) then (t_answers (Int32.toNatClampNeg x6)) else x5) (x6 + 1) t_answers _ _ _ hP hD hS (lv_sub hl [2, 1, 0] rfl) h
  have bl_l33 : ∀ (n : Nat) (x4 : Int32) (x5 : Int32) (t_answers : Nat → Int32) (H : Heap) (locs : List Loc) (ls : Array Slot), va_P D vwCl [(a_t, .inr (3, [.ref a_t_laters, .ref a_t_players, .int t_heard, .ref a_t_playing, .ref a_t_placesAhead, .ref a_t_answers, .int t_bars])), (a_t_placesAhead, .inl (cI, 961, .inl t_placesAhead)), (a_t_answers, .inl (cI, 5, .inl t_answers)), (a_o2, .inr (6, [.ref a_o2_lengths, .ref a_o2_times, .ref a_o2_players, .ref a_o2_minutes, .int o2_sections, .int o2_things, .int o2_noteTold, .int o2_toldSection, .int o2_toldBar])), (a_o2_lengths, .inl (cI, 8, .inl o2_lengths)), (a_o2_times, .inl (cI, 8, .inl o2_times)), (a_o2_players, .inl (cI, 8, .inl o2_players))] H → va_D A [(a_t, .inr (3, [.ref a_t_laters, .ref a_t_players, .int t_heard, .ref a_t_playing, .ref a_t_placesAhead, .ref a_t_answers, .int t_bars])), (a_t_placesAhead, .inl (cI, 961, .inl t_placesAhead)), (a_t_answers, .inl (cI, 5, .inl t_answers)), (a_o2, .inr (6, [.ref a_o2_lengths, .ref a_o2_times, .ref a_o2_players, .ref a_o2_minutes, .int o2_sections, .int o2_things, .int o2_noteTold, .int o2_toldSection, .int o2_toldBar])), (a_o2_lengths, .inl (cI, 8, .inl o2_lengths)), (a_o2_times, .inl (cI, 8, .inl o2_times)), (a_o2_players, .inl (cI, 8, .inl o2_players))] → va_S A s.heap H locs → lv_has ls 8 [(0, .ref a_t), (1, .int p1), (2, .ref a_o2), (3, .int p3), (4, .int x4), (5, .int x5)] → mi_X3_greatestAnswer_l33 t_bars t_placesAhead o2_sections o2_lengths o2_times o2_players p1 p3 n x4 x5 t_answers = some (r, z_t_answers) → W p l e (headSpec wsX3_greatestAnswer rm_X3_greatestAnswer).room s m args below meth c H locs 0 0 Q (F0 m 33 ls []) := by
    intro n
    induction n with
    | zero =>
      intro x4 x5 t_answers H locs ls hP hD hS hl h
      rw [mi_X3_greatestAnswer_l33] at h
      cases h
    | succ n_l33 ih_l33 =>
      have bl_b115 : ∀ (x4 : Int32) (x5 : Int32) (t_answers : Nat → Int32) (H : Heap) (locs : List Loc) (ls : Array Slot), va_P D vwCl [(a_t, .inr (3, [.ref a_t_laters, .ref a_t_players, .int t_heard, .ref a_t_playing, .ref a_t_placesAhead, .ref a_t_answers, .int t_bars])), (a_t_placesAhead, .inl (cI, 961, .inl t_placesAhead)), (a_t_answers, .inl (cI, 5, .inl t_answers)), (a_o2, .inr (6, [.ref a_o2_lengths, .ref a_o2_times, .ref a_o2_players, .ref a_o2_minutes, .int o2_sections, .int o2_things, .int o2_noteTold, .int o2_toldSection, .int o2_toldBar])), (a_o2_lengths, .inl (cI, 8, .inl o2_lengths)), (a_o2_times, .inl (cI, 8, .inl o2_times)), (a_o2_players, .inl (cI, 8, .inl o2_players))] H → va_D A [(a_t, .inr (3, [.ref a_t_laters, .ref a_t_players, .int t_heard, .ref a_t_playing, .ref a_t_placesAhead, .ref a_t_answers, .int t_bars])), (a_t_placesAhead, .inl (cI, 961, .inl t_placesAhead)), (a_t_answers, .inl (cI, 5, .inl t_answers)), (a_o2, .inr (6, [.ref a_o2_lengths, .ref a_o2_times, .ref a_o2_players, .ref a_o2_minutes, .int o2_sections, .int o2_things, .int o2_noteTold, .int o2_toldSection, .int o2_toldBar])), (a_o2_lengths, .inl (cI, 8, .inl o2_lengths)), (a_o2_times, .inl (cI, 8, .inl o2_times)), (a_o2_players, .inl (cI, 8, .inl o2_players))] → va_S A s.heap H locs → lv_has ls 8 [(0, .ref a_t), (1, .int p1), (2, .ref a_o2), (3, .int p3), (4, .int x4), (5, .int x5)] → mi_X3_greatestAnswer_b115 (mi_X3_greatestAnswer_l33 t_bars t_placesAhead o2_sections o2_lengths o2_times o2_players p1 p3 n_l33) x4 x5 t_answers = some (r, z_t_answers) → W p l e (headSpec wsX3_greatestAnswer rm_X3_greatestAnswer).room s m args below meth c H locs 0 0 Q (F0 m 115 ls []) := by
        intro x4 x5 t_answers H locs ls hP hD hS hl h
        unfold mi_X3_greatestAnswer_b115 at h
        refine lv_iinc (v := (x5 + 1)) (lv' := [(5, .int (x5 + 1)), (0, .ref a_t), (1, .int p1), (2, .ref a_o2), (3, .int p3), (4, .int x4)]) hx hb dX3_greatestAnswer_115 hl (k := 5) rfl rfl (by decide) rfl (fun ls hl => ?_)
        refine lv_goto (tgt := 33) hx hb dX3_greatestAnswer_118 (by decide) ?_
        exact ih_l33 x4 (x5 + 1) t_answers _ _ _ hP hD hS (lv_sub hl [1, 2, 3, 4, 5, 0] rfl) h
      have bl_b67 : ∀ (x5 : Int32) (x6 : Int32) (k0 : Int32) (k1 : Int32) (t_answers : Nat → Int32) (H : Heap) (locs : List Loc) (ls : Array Slot), va_P D vwCl [(a_t, .inr (3, [.ref a_t_laters, .ref a_t_players, .int t_heard, .ref a_t_playing, .ref a_t_placesAhead, .ref a_t_answers, .int t_bars])), (a_t_placesAhead, .inl (cI, 961, .inl t_placesAhead)), (a_t_answers, .inl (cI, 5, .inl t_answers)), (a_o2, .inr (6, [.ref a_o2_lengths, .ref a_o2_times, .ref a_o2_players, .ref a_o2_minutes, .int o2_sections, .int o2_things, .int o2_noteTold, .int o2_toldSection, .int o2_toldBar])), (a_o2_lengths, .inl (cI, 8, .inl o2_lengths)), (a_o2_times, .inl (cI, 8, .inl o2_times)), (a_o2_players, .inl (cI, 8, .inl o2_players))] H → va_D A [(a_t, .inr (3, [.ref a_t_laters, .ref a_t_players, .int t_heard, .ref a_t_playing, .ref a_t_placesAhead, .ref a_t_answers, .int t_bars])), (a_t_placesAhead, .inl (cI, 961, .inl t_placesAhead)), (a_t_answers, .inl (cI, 5, .inl t_answers)), (a_o2, .inr (6, [.ref a_o2_lengths, .ref a_o2_times, .ref a_o2_players, .ref a_o2_minutes, .int o2_sections, .int o2_things, .int o2_noteTold, .int o2_toldSection, .int o2_toldBar])), (a_o2_lengths, .inl (cI, 8, .inl o2_lengths)), (a_o2_times, .inl (cI, 8, .inl o2_times)), (a_o2_players, .inl (cI, 8, .inl o2_players))] → va_S A s.heap H locs → lv_has ls 8 [(0, .ref a_t), (1, .int p1), (2, .ref a_o2), (3, .int p3), (5, .int x5), (6, .int x6)] → mi_X3_greatestAnswer_b67 t_bars t_placesAhead o2_sections o2_players p1 (mi_X3_greatestAnswer_l33 t_bars t_placesAhead o2_sections o2_lengths o2_times o2_players p1 p3 n_l33) x5 x6 k0 k1 t_answers = some (r, z_t_answers) → W p l e (headSpec wsX3_greatestAnswer rm_X3_greatestAnswer).room s m args below meth c H locs 0 0 Q (F0 m 67 ls [.int k1, .int k0]) := by
        intro x5 x6 k0 k1 t_answers H locs ls hP hD hS hl h
        unfold mi_X3_greatestAnswer_b67 at h
        refine lv_iadd hx hb dX3_greatestAnswer_67 ?_
        refine lv_istore (lv' := [(4, .int (k0 + k1)), (0, .ref a_t), (1, .int p1), (2, .ref a_o2), (3, .int p3), (5, .int x5), (6, .int x6)]) hx hb dX3_greatestAnswer_68 hl (by decide) rfl (fun ls hl => ?_)
        refine lv_aload_n hx hb dX3_greatestAnswer_70 rfl (lv_at hl 3 rfl) ?_
        refine lv_iload hx hb dX3_greatestAnswer_71 (lv_at hl 5 rfl) ?_
        obtain ⟨r13, e14, h⟩ := jx_b1_of h
        refine jx_cV (o := some (.int r13)) (As := [.int x5]) (rest := []) (b := a_o2) ⟨hx, hb, hml, hown, hts⟩ (ct_X6_whoOf l D cI cZ cO a_o2 a_o2_lengths a_o2_times a_o2_players a_o2_minutes o2_sections o2_things o2_noteTold o2_toldSection o2_toldBar o2_players x5 r13 e14) (cwV 1 hts gX3_greatestAnswer_X6_whoOf rfl rfl rfl (by decide +kernel) ⟨Nat.le_of_ble_eq_true rfl, Nat.le_of_ble_eq_true rfl⟩) hK hN hP [3, 6] rfl (va_recv hK hP (ci := 6) (q0 := 3) rfl rfl) rfl hl.1 rfl (Nat.le_of_ble_eq_true rfl) dX3_greatestAnswer_73 ⟨Nat.zero_le _, Nat.zero_le _⟩ ?_
        refine lv_istore (lv' := [(7, .int r13), (4, .int (k0 + k1)), (0, .ref a_t), (1, .int p1), (2, .ref a_o2), (3, .int p3), (5, .int x5), (6, .int x6)]) hx hb dX3_greatestAnswer_76 hl (by decide) rfl (fun ls hl => ?_)
        refine lv_iload hx hb dX3_greatestAnswer_78 (lv_at hl 0 rfl) ?_
        refine lv_iconst (v := (0 : Int32)) hx hb dX3_greatestAnswer_80 (by decide) ?_
        refine lv_iconst (v := (3 : Int32)) hx hb dX3_greatestAnswer_81 (by decide) ?_
        obtain ⟨r15, e16, h⟩ := jx_b1_of h
        refine jx_cSN (o := some (.int r15)) (As := [.int r13, .int (0 : Int32), .int (3 : Int32)]) (rest := []) ⟨hx, hb, hml, hown, hts⟩ (ct_X11_isWithin l r13 (0 : Int32) (3 : Int32) r15 e16) ⟨va_cnB 3 hts gX3_greatestAnswer_X11_isWithin_n78 rfl rfl rfl (jx_Nm hN 21 rfl) (hts (.initialized RX11) (List.mem_of_getElem? (i := 8) rfl)) (by decide +kernel) ⟨Nat.le_of_ble_eq_true rfl, Nat.le_of_ble_eq_true rfl⟩, (hts (.static yX11_isWithin) (List.mem_of_getElem? (i := 27) rfl)), trivial⟩ rfl hl.1 rfl (Nat.le_of_ble_eq_true rfl) dX3_greatestAnswer_82 ⟨Nat.zero_le _, Nat.zero_le _⟩ ?_
        refine lv_if_eq (tgt := 115) hx hb dX3_greatestAnswer_85 (by decide) (fun c17 => ?_) (fun c17 => ?_)
        · have h := jx_t h c17
          exact bl_b115 (k0 + k1) x5 t_answers _ _ _ hP hD hS (lv_sub hl [2, 3, 4, 5, 1, 6] rfl) h
        · have h := jx_f h c17
          refine lv_aload_n hx hb dX3_greatestAnswer_88 rfl (lv_at hl 2 rfl) ?_
          refine va_get (D := D) (ci := 3) (v := .ref a_t_answers) (C := RX3) (T := TX3) (N := 7) hx hb hts hi_X3 hown hK hP 0 rfl rfl 5 (by decide) (hts (.fieldLink RX3 24 "TriangleRest$Ear" "answers" "[I") (List.mem_of_getElem? (i := 1) rfl)) (fun _ h9 => h9) rfl dX3_greatestAnswer_89 ?_
          refine lv_iload hx hb dX3_greatestAnswer_92 (lv_at hl 0 rfl) ?_
          refine lv_dup2_11 hx hb dX3_greatestAnswer_94 rfl rfl ?_
          obtain ⟨g18, h⟩ := jx_g_of h
          refine va_iald hx hb hK hP 2 0 rfl rfl (jx_in_of g18) dX3_greatestAnswer_95 ?_
          refine lv_aload_n hx hb dX3_greatestAnswer_96 rfl (lv_at hl 2 rfl) ?_
          refine lv_iload hx hb dX3_greatestAnswer_97 (lv_at hl 1 rfl) ?_
          refine lv_iload_n hx hb dX3_greatestAnswer_99 rfl (lv_at hl 3 rfl) ?_
          refine lv_isub hx hb dX3_greatestAnswer_100 ?_
          obtain ⟨r19, e20, h⟩ := jx_b1_of h
          refine jx_cV (o := some (.int r19)) (As := [.int ((k0 + k1) - p1)]) (rest := [.int (t_answers (Int32.toNatClampNeg r13)), .int r13, .ref a_t_answers]) (b := a_t) ⟨hx, hb, hml, hown, hts⟩ (ct_X3_placesAheadOf l D cI cZ cO a_t a_t_laters a_t_players a_t_playing a_t_placesAhead a_t_answers t_heard t_bars t_placesAhead ((k0 + k1) - p1) r19 e20) (cwV 1 hts gX3_greatestAnswer_X3_placesAheadOf rfl rfl rfl (by decide +kernel) ⟨Nat.le_of_ble_eq_true rfl, Nat.le_of_ble_eq_true rfl⟩) hK hN hP [0, 1] rfl (va_recv hK hP (ci := 3) (q0 := 0) rfl rfl) rfl hl.1 rfl (Nat.le_of_ble_eq_true rfl) dX3_greatestAnswer_101 ⟨Nat.zero_le _, Nat.zero_le _⟩ ?_
          refine lv_aload_n hx hb dX3_greatestAnswer_104 rfl (lv_at hl 2 rfl) ?_
          refine lv_iload hx hb dX3_greatestAnswer_105 (lv_at hl 7 rfl) ?_
          refine lv_iload_n hx hb dX3_greatestAnswer_107 rfl (lv_at hl 3 rfl) ?_
          refine lv_isub hx hb dX3_greatestAnswer_108 ?_
          obtain ⟨r21, e22, h⟩ := jx_b1_of h
          refine jx_cV (o := some (.int r21)) (As := [.int (x6 - p1)]) (rest := [.int r19, .int (t_answers (Int32.toNatClampNeg r13)), .int r13, .ref a_t_answers]) (b := a_t) ⟨hx, hb, hml, hown, hts⟩ (ct_X3_placesAheadOf l D cI cZ cO a_t a_t_laters a_t_players a_t_playing a_t_placesAhead a_t_answers t_heard t_bars t_placesAhead (x6 - p1) r21 e22) (cwV 1 hts gX3_greatestAnswer_X3_placesAheadOf rfl rfl rfl (by decide +kernel) ⟨Nat.le_of_ble_eq_true rfl, Nat.le_of_ble_eq_true rfl⟩) hK hN hP [0, 1] rfl (va_recv hK hP (ci := 3) (q0 := 0) rfl rfl) rfl hl.1 rfl (Nat.le_of_ble_eq_true rfl) dX3_greatestAnswer_109 ⟨Nat.zero_le _, Nat.zero_le _⟩ ?_
          refine lv_isub hx hb dX3_greatestAnswer_112 ?_
          refine lv_iadd hx hb dX3_greatestAnswer_113 ?_
          obtain ⟨g23, h⟩ := jx_g_of h
          refine va_iast hx hb hK hP hD hS 2 0 rfl rfl (jx_in_of g23) dX3_greatestAnswer_114 (fun H locs hP hD hS => ?_)
          have hP : va_P D vwCl [(a_t, .inr (3, [.ref a_t_laters, .ref a_t_players, .int t_heard, .ref a_t_playing, .ref a_t_placesAhead, .ref a_t_answers, .int t_bars])), (a_t_placesAhead, .inl (cI, 961, .inl t_placesAhead)), (a_t_answers, .inl (cI, 5, .inl (upd t_answers (Int32.toNatClampNeg r13) ((t_answers (Int32.toNatClampNeg r13)) + (r19 - r21))))), (a_o2, .inr (6, [.ref a_o2_lengths, .ref a_o2_times, .ref a_o2_players, .ref a_o2_minutes, .int o2_sections, .int o2_things, .int o2_noteTold, .int o2_toldSection, .int o2_toldBar])), (a_o2_lengths, .inl (cI, 8, .inl o2_lengths)), (a_o2_times, .inl (cI, 8, .inl o2_times)), (a_o2_players, .inl (cI, 8, .inl o2_players))] H := hP
          have hD : va_D A [(a_t, .inr (3, [.ref a_t_laters, .ref a_t_players, .int t_heard, .ref a_t_playing, .ref a_t_placesAhead, .ref a_t_answers, .int t_bars])), (a_t_placesAhead, .inl (cI, 961, .inl t_placesAhead)), (a_t_answers, .inl (cI, 5, .inl (upd t_answers (Int32.toNatClampNeg r13) ((t_answers (Int32.toNatClampNeg r13)) + (r19 - r21))))), (a_o2, .inr (6, [.ref a_o2_lengths, .ref a_o2_times, .ref a_o2_players, .ref a_o2_minutes, .int o2_sections, .int o2_things, .int o2_noteTold, .int o2_toldSection, .int o2_toldBar])), (a_o2_lengths, .inl (cI, 8, .inl o2_lengths)), (a_o2_times, .inl (cI, 8, .inl o2_times)), (a_o2_players, .inl (cI, 8, .inl o2_players))] := hD
          exact bl_b115 (k0 + k1) x5 (upd t_answers (Int32.toNatClampNeg r13) ((t_answers (Int32.toNatClampNeg r13)) + (r19 - r21))) _ _ _ hP hD hS (lv_sub hl [2, 3, 4, 5, 1, 6] rfl) h
      intro x4 x5 t_answers H locs ls hP hD hS hl h
      rw [mi_X3_greatestAnswer_l33] at h
      refine lv_iload hx hb dX3_greatestAnswer_33 (lv_at hl 5 rfl) ?_
      refine lv_aload_n hx hb dX3_greatestAnswer_35 rfl (lv_at hl 2 rfl) ?_
      refine va_get (D := D) (ci := 6) (v := .int o2_sections) (C := RX6) (T := TX6) (N := 9) hx hb hts hi_X6 hown hK hP 3 rfl rfl 4 (by decide) (hts (.fieldLink RX3 46 "TriangleRest$Score" "sections" "I") (List.mem_of_getElem? (i := 2) rfl)) (fun _ h9 => h9) rfl dX3_greatestAnswer_36 ?_
      refine lv_icmp_ge (tgt := 121) hx hb dX3_greatestAnswer_39 (by decide) (fun c3 => ?_) (fun c3 => ?_)
      · have h := jx_t h c3
        refine lv_aload_n hx hb dX3_greatestAnswer_121 rfl (lv_at hl 0 rfl) ?_
        refine va_get (D := D) (ci := 3) (v := .ref a_t_answers) (C := RX3) (T := TX3) (N := 7) hx hb hts hi_X3 hown hK hP 0 rfl rfl 5 (by decide) (hts (.fieldLink RX3 24 "TriangleRest$Ear" "answers" "[I") (List.mem_of_getElem? (i := 1) rfl)) (fun _ h9 => h9) rfl dX3_greatestAnswer_122 ?_
        refine lv_iconst (v := (4 : Int32)) hx hb dX3_greatestAnswer_125 (by decide) ?_
        refine lv_aload_n hx hb dX3_greatestAnswer_126 rfl (lv_at hl 0 rfl) ?_
        obtain ⟨r4, e5, h⟩ := jx_b1_of h
        refine jx_cV (o := some (.int r4)) (As := []) (rest := [.int (4 : Int32), .ref a_t_answers]) (b := a_t) ⟨hx, hb, hml, hown, hts⟩ (ct_X3_placesInAll l D cI cZ cO a_t a_t_laters a_t_players a_t_playing a_t_placesAhead a_t_answers t_heard t_bars t_placesAhead r4 e5) (cwV 0 hts gX3_greatestAnswer_X3_placesInAll rfl rfl rfl (by decide +kernel) ⟨Nat.le_of_ble_eq_true rfl, Nat.le_of_ble_eq_true rfl⟩) hK hN hP [0, 1] rfl (va_recv hK hP (ci := 3) (q0 := 0) rfl rfl) rfl hl.1 rfl (Nat.le_of_ble_eq_true rfl) dX3_greatestAnswer_127 ⟨Nat.zero_le _, Nat.zero_le _⟩ ?_
        refine lv_aload_n hx hb dX3_greatestAnswer_130 rfl (lv_at hl 0 rfl) ?_
        refine lv_iload hx hb dX3_greatestAnswer_131 (lv_at hl 4 rfl) ?_
        refine lv_iload_n hx hb dX3_greatestAnswer_133 rfl (lv_at hl 1 rfl) ?_
        refine lv_isub hx hb dX3_greatestAnswer_134 ?_
        obtain ⟨r6, e7, h⟩ := jx_b1_of h
        refine jx_cV (o := some (.int r6)) (As := [.int (x4 - p1)]) (rest := [.int r4, .int (4 : Int32), .ref a_t_answers]) (b := a_t) ⟨hx, hb, hml, hown, hts⟩ (ct_X3_placesAheadOf l D cI cZ cO a_t a_t_laters a_t_players a_t_playing a_t_placesAhead a_t_answers t_heard t_bars t_placesAhead (x4 - p1) r6 e7) (cwV 1 hts gX3_greatestAnswer_X3_placesAheadOf rfl rfl rfl (by decide +kernel) ⟨Nat.le_of_ble_eq_true rfl, Nat.le_of_ble_eq_true rfl⟩) hK hN hP [0, 1] rfl (va_recv hK hP (ci := 3) (q0 := 0) rfl rfl) rfl hl.1 rfl (Nat.le_of_ble_eq_true rfl) dX3_greatestAnswer_135 ⟨Nat.zero_le _, Nat.zero_le _⟩ ?_
        refine lv_isub hx hb dX3_greatestAnswer_138 ?_
        refine va_iast hx hb hK hP hD hS 2 0 rfl rfl (jx_in_of (by decide +kernel)) dX3_greatestAnswer_139 (fun H locs hP hD hS => ?_)
        have hP : va_P D vwCl [(a_t, .inr (3, [.ref a_t_laters, .ref a_t_players, .int t_heard, .ref a_t_playing, .ref a_t_placesAhead, .ref a_t_answers, .int t_bars])), (a_t_placesAhead, .inl (cI, 961, .inl t_placesAhead)), (a_t_answers, .inl (cI, 5, .inl (upd t_answers (Int32.toNatClampNeg (4 : Int32)) (r4 - r6)))), (a_o2, .inr (6, [.ref a_o2_lengths, .ref a_o2_times, .ref a_o2_players, .ref a_o2_minutes, .int o2_sections, .int o2_things, .int o2_noteTold, .int o2_toldSection, .int o2_toldBar])), (a_o2_lengths, .inl (cI, 8, .inl o2_lengths)), (a_o2_times, .inl (cI, 8, .inl o2_times)), (a_o2_players, .inl (cI, 8, .inl o2_players))] H := hP
        have hD : va_D A [(a_t, .inr (3, [.ref a_t_laters, .ref a_t_players, .int t_heard, .ref a_t_playing, .ref a_t_placesAhead, .ref a_t_answers, .int t_bars])), (a_t_placesAhead, .inl (cI, 961, .inl t_placesAhead)), (a_t_answers, .inl (cI, 5, .inl (upd t_answers (Int32.toNatClampNeg (4 : Int32)) (r4 - r6)))), (a_o2, .inr (6, [.ref a_o2_lengths, .ref a_o2_times, .ref a_o2_players, .ref a_o2_minutes, .int o2_sections, .int o2_things, .int o2_noteTold, .int o2_toldSection, .int o2_toldBar])), (a_o2_lengths, .inl (cI, 8, .inl o2_lengths)), (a_o2_times, .inl (cI, 8, .inl o2_times)), (a_o2_players, .inl (cI, 8, .inl o2_players))] := hD
        refine lv_iconst (v := (0 : Int32)) hx hb dX3_greatestAnswer_140 (by decide) ?_
        refine lv_istore (lv' := [(5, .int (0 : Int32)), (0, .ref a_t), (1, .int p1), (2, .ref a_o2), (3, .int p3), (4, .int x4)]) hx hb dX3_greatestAnswer_141 hl (by decide) rfl (fun ls hl => ?_)
        refine lv_iconst (v := (0 : Int32)) hx hb dX3_greatestAnswer_143 (by decide) ?_
        refine lv_istore (lv' := [(6, .int (0 : Int32)), (5, .int (0 : Int32)), (0, .ref a_t), (1, .int p1), (2, .ref a_o2), (3, .int p3), (4, .int x4)]) hx hb dX3_greatestAnswer_144 hl (by decide) rfl (fun ls hl => ?_)
        exact bl_l146 jx_F (0 : Int32) (0 : Int32) (upd t_answers (Int32.toNatClampNeg (4 : Int32)) (r4 - r6)) _ _ _ hP hD hS (lv_sub hl [2, 1, 0] rfl) h
      · have h := jx_f h c3
        refine lv_iload hx hb dX3_greatestAnswer_42 (lv_at hl 4 rfl) ?_
        refine lv_istore (lv' := [(6, .int x4), (0, .ref a_t), (1, .int p1), (2, .ref a_o2), (3, .int p3), (4, .int x4), (5, .int x5)]) hx hb dX3_greatestAnswer_44 hl (by decide) rfl (fun ls hl => ?_)
        refine lv_iload hx hb dX3_greatestAnswer_46 (lv_at hl 5 rfl) ?_
        refine lv_iload_n hx hb dX3_greatestAnswer_48 rfl (lv_at hl 4 rfl) ?_
        refine lv_iload hx hb dX3_greatestAnswer_49 (lv_at hl 6 rfl) ?_
        obtain ⟨r8, e9, h⟩ := jx_b1_of h
        refine jx_cSN (o := some (.int r8)) (As := [.int p3, .int x5]) (rest := [.int x4]) ⟨hx, hb, hml, hown, hts⟩ (ct_X11_isIn l p3 x5 r8 e9) ⟨va_cnB 2 hts gX3_greatestAnswer_X11_isIn_n51 rfl rfl rfl (jx_Nm hN 19 rfl) (hts (.initialized RX11) (List.mem_of_getElem? (i := 8) rfl)) (by decide +kernel) ⟨Nat.le_of_ble_eq_true rfl, Nat.le_of_ble_eq_true rfl⟩, (hts (.static yX11_isIn) (List.mem_of_getElem? (i := 7) rfl)), trivial⟩ rfl hl.1 rfl (Nat.le_of_ble_eq_true rfl) dX3_greatestAnswer_51 ⟨Nat.zero_le _, Nat.zero_le _⟩ ?_
        refine lv_if_eq (tgt := 61) hx hb dX3_greatestAnswer_54 (by decide) (fun c10 => ?_) (fun c10 => ?_)
        · have h := jx_t h c10
          refine lv_aload_n hx hb dX3_greatestAnswer_61 rfl (lv_at hl 3 rfl) ?_
          refine lv_iload hx hb dX3_greatestAnswer_62 (lv_at hl 6 rfl) ?_
          obtain ⟨r11, e12, h⟩ := jx_b1_of h
          refine jx_cV (o := some (.int r11)) (As := [.int x5]) (rest := [.int x4]) (b := a_o2) ⟨hx, hb, hml, hown, hts⟩ (ct_X6_barsOf l D cI cZ cO a_o2 a_o2_lengths a_o2_times a_o2_players a_o2_minutes o2_sections o2_things o2_noteTold o2_toldSection o2_toldBar o2_lengths o2_times x5 r11 e12) (cwV 1 hts gX3_greatestAnswer_X6_barsOf rfl rfl rfl (by decide +kernel) ⟨Nat.le_of_ble_eq_true rfl, Nat.le_of_ble_eq_true rfl⟩) hK hN hP [3, 4, 5] rfl (va_recv hK hP (ci := 6) (q0 := 3) rfl rfl) rfl hl.1 rfl (Nat.le_of_ble_eq_true rfl) dX3_greatestAnswer_64 ⟨Nat.zero_le _, Nat.zero_le _⟩ ?_
          exact bl_b67 x5 x4 x4 r11 t_answers _ _ _ hP hD hS (lv_sub hl [1, 2, 3, 4, 6, 0] rfl) h
        · have h := jx_f h c10
          refine lv_iconst (v := (0 : Int32)) hx hb dX3_greatestAnswer_57 (by decide) ?_
          refine lv_goto (tgt := 67) hx hb dX3_greatestAnswer_58 (by decide) ?_
          exact bl_b67 x5 x4 x4 (0 : Int32) t_answers _ _ _ hP hD hS (lv_sub hl [1, 2, 3, 4, 6, 0] rfl) h
  have bl_l3 : ∀ (n : Nat) (x4 : Int32) (t_answers : Nat → Int32) (H : Heap) (locs : List Loc) (ls : Array Slot), va_P D vwCl [(a_t, .inr (3, [.ref a_t_laters, .ref a_t_players, .int t_heard, .ref a_t_playing, .ref a_t_placesAhead, .ref a_t_answers, .int t_bars])), (a_t_placesAhead, .inl (cI, 961, .inl t_placesAhead)), (a_t_answers, .inl (cI, 5, .inl t_answers)), (a_o2, .inr (6, [.ref a_o2_lengths, .ref a_o2_times, .ref a_o2_players, .ref a_o2_minutes, .int o2_sections, .int o2_things, .int o2_noteTold, .int o2_toldSection, .int o2_toldBar])), (a_o2_lengths, .inl (cI, 8, .inl o2_lengths)), (a_o2_times, .inl (cI, 8, .inl o2_times)), (a_o2_players, .inl (cI, 8, .inl o2_players))] H → va_D A [(a_t, .inr (3, [.ref a_t_laters, .ref a_t_players, .int t_heard, .ref a_t_playing, .ref a_t_placesAhead, .ref a_t_answers, .int t_bars])), (a_t_placesAhead, .inl (cI, 961, .inl t_placesAhead)), (a_t_answers, .inl (cI, 5, .inl t_answers)), (a_o2, .inr (6, [.ref a_o2_lengths, .ref a_o2_times, .ref a_o2_players, .ref a_o2_minutes, .int o2_sections, .int o2_things, .int o2_noteTold, .int o2_toldSection, .int o2_toldBar])), (a_o2_lengths, .inl (cI, 8, .inl o2_lengths)), (a_o2_times, .inl (cI, 8, .inl o2_times)), (a_o2_players, .inl (cI, 8, .inl o2_players))] → va_S A s.heap H locs → lv_has ls 8 [(0, .ref a_t), (1, .int p1), (2, .ref a_o2), (3, .int p3), (4, .int x4)] → mi_X3_greatestAnswer_l3 t_bars t_placesAhead o2_sections o2_lengths o2_times o2_players p1 p3 n x4 t_answers = some (r, z_t_answers) → W p l e (headSpec wsX3_greatestAnswer rm_X3_greatestAnswer).room s m args below meth c H locs 0 0 Q (F0 m 3 ls []) := by
    intro n
    induction n with
    | zero =>
      intro x4 t_answers H locs ls hP hD hS hl h
      rw [mi_X3_greatestAnswer_l3] at h
      cases h
    | succ n_l3 ih_l3 =>
      intro x4 t_answers H locs ls hP hD hS hl h
      rw [mi_X3_greatestAnswer_l3] at h
      refine lv_iload hx hb dX3_greatestAnswer_3 (lv_at hl 4 rfl) ?_
      refine lv_aload_n hx hb dX3_greatestAnswer_5 rfl (lv_at hl 0 rfl) ?_
      refine va_get (D := D) (ci := 3) (v := .ref a_t_answers) (C := RX3) (T := TX3) (N := 7) hx hb hts hi_X3 hown hK hP 0 rfl rfl 5 (by decide) (hts (.fieldLink RX3 24 "TriangleRest$Ear" "answers" "[I") (List.mem_of_getElem? (i := 1) rfl)) (fun _ h9 => h9) rfl dX3_greatestAnswer_6 ?_
      refine va_alen (v := (5 : Int32)) hx hb hK hP 2 0 rfl (ty := .int) rfl rfl dX3_greatestAnswer_9 ?_
      refine lv_icmp_ge (tgt := 27) hx hb dX3_greatestAnswer_10 (by decide) (fun c1 => ?_) (fun c1 => ?_)
      · have h := jx_t h c1
        refine lv_iconst (v := (0 : Int32)) hx hb dX3_greatestAnswer_27 (by decide) ?_
        refine lv_istore (lv' := [(4, .int (0 : Int32)), (0, .ref a_t), (1, .int p1), (2, .ref a_o2), (3, .int p3)]) hx hb dX3_greatestAnswer_28 hl (by decide) rfl (fun ls hl => ?_)
        refine lv_iconst (v := (0 : Int32)) hx hb dX3_greatestAnswer_30 (by decide) ?_
        refine lv_istore (lv' := [(5, .int (0 : Int32)), (4, .int (0 : Int32)), (0, .ref a_t), (1, .int p1), (2, .ref a_o2), (3, .int p3)]) hx hb dX3_greatestAnswer_31 hl (by decide) rfl (fun ls hl => ?_)
        exact bl_l33 jx_F (0 : Int32) (0 : Int32) t_answers _ _ _ hP hD hS (lv_sub hl [2, 3, 4, 5, 1, 0] rfl) h
      · have h := jx_f h c1
        refine lv_aload_n hx hb dX3_greatestAnswer_13 rfl (lv_at hl 0 rfl) ?_
        refine va_get (D := D) (ci := 3) (v := .ref a_t_answers) (C := RX3) (T := TX3) (N := 7) hx hb hts hi_X3 hown hK hP 0 rfl rfl 5 (by decide) (hts (.fieldLink RX3 24 "TriangleRest$Ear" "answers" "[I") (List.mem_of_getElem? (i := 1) rfl)) (fun _ h9 => h9) rfl dX3_greatestAnswer_14 ?_
        refine lv_iload hx hb dX3_greatestAnswer_17 (lv_at hl 4 rfl) ?_
        refine lv_iconst (v := (0 : Int32)) hx hb dX3_greatestAnswer_19 (by decide) ?_
        obtain ⟨g2, h⟩ := jx_g_of h
        refine va_iast hx hb hK hP hD hS 2 0 rfl rfl (jx_in_of g2) dX3_greatestAnswer_20 (fun H locs hP hD hS => ?_)
        have hP : va_P D vwCl [(a_t, .inr (3, [.ref a_t_laters, .ref a_t_players, .int t_heard, .ref a_t_playing, .ref a_t_placesAhead, .ref a_t_answers, .int t_bars])), (a_t_placesAhead, .inl (cI, 961, .inl t_placesAhead)), (a_t_answers, .inl (cI, 5, .inl (upd t_answers (Int32.toNatClampNeg x4) (0 : Int32)))), (a_o2, .inr (6, [.ref a_o2_lengths, .ref a_o2_times, .ref a_o2_players, .ref a_o2_minutes, .int o2_sections, .int o2_things, .int o2_noteTold, .int o2_toldSection, .int o2_toldBar])), (a_o2_lengths, .inl (cI, 8, .inl o2_lengths)), (a_o2_times, .inl (cI, 8, .inl o2_times)), (a_o2_players, .inl (cI, 8, .inl o2_players))] H := hP
        have hD : va_D A [(a_t, .inr (3, [.ref a_t_laters, .ref a_t_players, .int t_heard, .ref a_t_playing, .ref a_t_placesAhead, .ref a_t_answers, .int t_bars])), (a_t_placesAhead, .inl (cI, 961, .inl t_placesAhead)), (a_t_answers, .inl (cI, 5, .inl (upd t_answers (Int32.toNatClampNeg x4) (0 : Int32)))), (a_o2, .inr (6, [.ref a_o2_lengths, .ref a_o2_times, .ref a_o2_players, .ref a_o2_minutes, .int o2_sections, .int o2_things, .int o2_noteTold, .int o2_toldSection, .int o2_toldBar])), (a_o2_lengths, .inl (cI, 8, .inl o2_lengths)), (a_o2_times, .inl (cI, 8, .inl o2_times)), (a_o2_players, .inl (cI, 8, .inl o2_players))] := hD
        refine lv_iinc (v := (x4 + 1)) (lv' := [(4, .int (x4 + 1)), (0, .ref a_t), (1, .int p1), (2, .ref a_o2), (3, .int p3)]) hx hb dX3_greatestAnswer_21 hl (k := 4) rfl rfl (by decide) rfl (fun ls hl => ?_)
        refine lv_goto (tgt := 3) hx hb dX3_greatestAnswer_24 (by decide) ?_
        exact ih_l3 (x4 + 1) (upd t_answers (Int32.toNatClampNeg x4) (0 : Int32)) _ _ _ hP hD hS (lv_sub hl [1, 2, 3, 4, 0] rfl) h
  have h := hm
  unfold mi_X3_greatestAnswer at h
  refine lv_iconst (v := (0 : Int32)) hx hb dX3_greatestAnswer_0 (by decide) ?_
  refine lv_istore (lv' := [(4, .int (0 : Int32)), (0, .ref a_t), (1, .int p1), (2, .ref a_o2), (3, .int p3)]) hx hb dX3_greatestAnswer_1 hl (by decide) rfl (fun ls hl => ?_)
  exact bl_l3 jx_F (0 : Int32) t_answers _ _ _ hP hD hS (lv_sub hl [1, 2, 3, 4, 0] rfl) h
def mi_X3_bestToListen_b45 (k_l14 : Int32 → Int32 → Int32 → (Nat → Int32) → Option (Int32 × (Nat → Int32))) (x3 : Int32) (x4 : Int32) (x5 : Int32) (t_answers : Nat → Int32) : Option (Int32 × (Nat → Int32)) := k_l14 x3 x4 (x5 + 1) t_answers
def mi_X3_bestToListen_l14 (t_bars : Int32) (t_placesAhead : Nat → Int32) (o1_sections : Int32) (o1_lengths : Nat → Int32) (o1_times : Nat → Int32) (o1_players : Nat → Int32) (p2 : Int32) : Nat → Int32 → Int32 → Int32 → (Nat → Int32) → Option (Int32 × (Nat → Int32))
  | 0, _, _, _, _ => none
  | n + 1, x3, x4, x5, t_answers => if (60 : Int32) < x5 then (some (x3, t_answers)) else (jx_b2 (mi_X3_greatestAnswer t_bars t_placesAhead t_answers o1_sections o1_lengths o1_times o1_players x5 p2) fun r2 t_answers_3 => (if x4 ≤ r2 then (mi_X3_bestToListen_b45 (mi_X3_bestToListen_l14 t_bars t_placesAhead o1_sections o1_lengths o1_times o1_players p2 n) x3 x4 x5 t_answers_3) else (mi_X3_bestToListen_b45 (mi_X3_bestToListen_l14 t_bars t_placesAhead o1_sections o1_lengths o1_times o1_players p2 n) x5 r2 x5 t_answers_3)))
def mi_X3_bestToListen (t_bars : Int32) (t_placesAhead : Nat → Int32) (t_answers : Nat → Int32) (o1_sections : Int32) (o1_lengths : Nat → Int32) (o1_times : Nat → Int32) (o1_players : Nat → Int32) (p2 : Int32) : Option (Int32 × (Nat → Int32)) := jx_b2 (mi_X3_greatestAnswer t_bars t_placesAhead t_answers o1_sections o1_lengths o1_times o1_players (0 : Int32) p2) fun r6 t_answers_7 => (mi_X3_bestToListen_l14 t_bars t_placesAhead o1_sections o1_lengths o1_times o1_players p2 jx_F (0 : Int32) r6 (1 : Int32) t_answers_7)
abbrev rm_X3_bestToListen : Room := { frames := 4, cells := 0, slots := 0, locals := 90 }
set_option maxRecDepth 100000 in
set_option maxHeartbeats 4000000 in
theorem ct_X3_bestToListen (l : Launch) (D : va_G) (cI cZ cO : ClassId) (a_t a_o1 a_t_laters a_t_players a_t_playing a_t_placesAhead a_t_answers a_o1_lengths a_o1_times a_o1_players a_o1_minutes : Nat) (sz : Nat) (t_heard : Int32) (t_bars : Int32) (t_placesAhead : Nat → Int32) (t_answers : Nat → Int32) (o1_sections : Int32) (o1_things : Int32) (o1_noteTold : Int32) (o1_toldSection : Int32) (o1_toldBar : Int32) (o1_lengths : Nat → Int32) (o1_times : Nat → Int32) (o1_players : Nat → Int32) (p2 : Int32) (r : Int32) (z_t_answers : Nat → Int32) (hm : mi_X3_bestToListen t_bars t_placesAhead t_answers o1_sections o1_lengths o1_times o1_players p2 = some (r, z_t_answers)) : Met l yX3_bestToListen wsX3_bestToListen rm_X3_bestToListen (va_Pc [.ref a_t, .ref a_o1, .int p2] (jx_W D (jx_T cI cZ cO) sz [(a_t, .inr (3, [.ref a_t_laters, .ref a_t_players, .int t_heard, .ref a_t_playing, .ref a_t_placesAhead, .ref a_t_answers, .int t_bars])), (a_t_placesAhead, .inl (cI, 961, .inl t_placesAhead)), (a_t_answers, .inl (cI, 5, .inl t_answers)), (a_o1, .inr (6, [.ref a_o1_lengths, .ref a_o1_times, .ref a_o1_players, .ref a_o1_minutes, .int o1_sections, .int o1_things, .int o1_noteTold, .int o1_toldSection, .int o1_toldBar])), (a_o1_lengths, .inl (cI, 8, .inl o1_lengths)), (a_o1_times, .inl (cI, 8, .inl o1_times)), (a_o1_players, .inl (cI, 8, .inl o1_players))])) (jx_Q (some (.int r)) D [(a_t, .inr (3, [.ref a_t_laters, .ref a_t_players, .int t_heard, .ref a_t_playing, .ref a_t_placesAhead, .ref a_t_answers, .int t_bars])), (a_t_placesAhead, .inl (cI, 961, .inl t_placesAhead)), (a_t_answers, .inl (cI, 5, .inl z_t_answers)), (a_o1, .inr (6, [.ref a_o1_lengths, .ref a_o1_times, .ref a_o1_players, .ref a_o1_minutes, .int o1_sections, .int o1_things, .int o1_noteTold, .int o1_toldSection, .int o1_toldBar])), (a_o1_lengths, .inl (cI, 8, .inl o1_lengths)), (a_o1_times, .inl (cI, 8, .inl o1_times)), (a_o1_players, .inl (cI, 8, .inl o1_players))] (va_A [(a_t, .inr (3, [.ref a_t_laters, .ref a_t_players, .int t_heard, .ref a_t_playing, .ref a_t_placesAhead, .ref a_t_answers, .int t_bars])), (a_t_placesAhead, .inl (cI, 961, .inl t_placesAhead)), (a_t_answers, .inl (cI, 5, .inl t_answers)), (a_o1, .inr (6, [.ref a_o1_lengths, .ref a_o1_times, .ref a_o1_players, .ref a_o1_minutes, .int o1_sections, .int o1_things, .int o1_noteTold, .int o1_toldSection, .int o1_toldBar])), (a_o1_lengths, .inl (cI, 8, .inl o1_lengths)), (a_o1_times, .inl (cI, 8, .inl o1_times)), (a_o1_players, .inl (cI, 8, .inl o1_players))] sz)) 0 0 (va_A [(a_t, .inr (3, [.ref a_t_laters, .ref a_t_players, .int t_heard, .ref a_t_playing, .ref a_t_placesAhead, .ref a_t_answers, .int t_bars])), (a_t_placesAhead, .inl (cI, 961, .inl t_placesAhead)), (a_t_answers, .inl (cI, 5, .inl t_answers)), (a_o1, .inr (6, [.ref a_o1_lengths, .ref a_o1_times, .ref a_o1_players, .ref a_o1_minutes, .int o1_sections, .int o1_things, .int o1_noteTold, .int o1_toldSection, .int o1_toldBar])), (a_o1_lengths, .inl (cI, 8, .inl o1_lengths)), (a_o1_times, .inl (cI, 8, .inl o1_times)), (a_o1_players, .inl (cI, 8, .inl o1_players))] sz) := by
  refine jx_metW (ty := .int) (own := RX3) (cc := cX3_bestToListen) (maxL := 7) (by decide) rfl rfl (Nat.le_of_ble_eq_true rfl) ?_
  intro p e s m args below meth c Q ls A hx hb hml hown hts hK hN hA hP hD hS hl hret
  have hl : lv_has ls 7 [(0, .ref a_t), (1, .ref a_o1), (2, .int p2)] := hl
  have bl_l14 : ∀ (n : Nat) (x3 : Int32) (x4 : Int32) (x5 : Int32) (t_answers : Nat → Int32) (H : Heap) (locs : List Loc) (ls : Array Slot), va_P D vwCl [(a_t, .inr (3, [.ref a_t_laters, .ref a_t_players, .int t_heard, .ref a_t_playing, .ref a_t_placesAhead, .ref a_t_answers, .int t_bars])), (a_t_placesAhead, .inl (cI, 961, .inl t_placesAhead)), (a_t_answers, .inl (cI, 5, .inl t_answers)), (a_o1, .inr (6, [.ref a_o1_lengths, .ref a_o1_times, .ref a_o1_players, .ref a_o1_minutes, .int o1_sections, .int o1_things, .int o1_noteTold, .int o1_toldSection, .int o1_toldBar])), (a_o1_lengths, .inl (cI, 8, .inl o1_lengths)), (a_o1_times, .inl (cI, 8, .inl o1_times)), (a_o1_players, .inl (cI, 8, .inl o1_players))] H → va_D A [(a_t, .inr (3, [.ref a_t_laters, .ref a_t_players, .int t_heard, .ref a_t_playing, .ref a_t_placesAhead, .ref a_t_answers, .int t_bars])), (a_t_placesAhead, .inl (cI, 961, .inl t_placesAhead)), (a_t_answers, .inl (cI, 5, .inl t_answers)), (a_o1, .inr (6, [.ref a_o1_lengths, .ref a_o1_times, .ref a_o1_players, .ref a_o1_minutes, .int o1_sections, .int o1_things, .int o1_noteTold, .int o1_toldSection, .int o1_toldBar])), (a_o1_lengths, .inl (cI, 8, .inl o1_lengths)), (a_o1_times, .inl (cI, 8, .inl o1_times)), (a_o1_players, .inl (cI, 8, .inl o1_players))] → va_S A s.heap H locs → lv_has ls 7 [(0, .ref a_t), (1, .ref a_o1), (2, .int p2), (3, .int x3), (4, .int x4), (5, .int x5)] → mi_X3_bestToListen_l14 t_bars t_placesAhead o1_sections o1_lengths o1_times o1_players p2 n x3 x4 x5 t_answers = some (r, z_t_answers) → W p l e (headSpec wsX3_bestToListen rm_X3_bestToListen).room s m args below meth c H locs 0 0 Q (F0 m 14 ls []) := by
    intro n
    induction n with
    | zero =>
      intro x3 x4 x5 t_answers H locs ls hP hD hS hl h
      rw [mi_X3_bestToListen_l14] at h
      cases h
    | succ n_l14 ih_l14 =>
      have bl_b45 : ∀ (x3 : Int32) (x4 : Int32) (x5 : Int32) (t_answers : Nat → Int32) (H : Heap) (locs : List Loc) (ls : Array Slot), va_P D vwCl [(a_t, .inr (3, [.ref a_t_laters, .ref a_t_players, .int t_heard, .ref a_t_playing, .ref a_t_placesAhead, .ref a_t_answers, .int t_bars])), (a_t_placesAhead, .inl (cI, 961, .inl t_placesAhead)), (a_t_answers, .inl (cI, 5, .inl t_answers)), (a_o1, .inr (6, [.ref a_o1_lengths, .ref a_o1_times, .ref a_o1_players, .ref a_o1_minutes, .int o1_sections, .int o1_things, .int o1_noteTold, .int o1_toldSection, .int o1_toldBar])), (a_o1_lengths, .inl (cI, 8, .inl o1_lengths)), (a_o1_times, .inl (cI, 8, .inl o1_times)), (a_o1_players, .inl (cI, 8, .inl o1_players))] H → va_D A [(a_t, .inr (3, [.ref a_t_laters, .ref a_t_players, .int t_heard, .ref a_t_playing, .ref a_t_placesAhead, .ref a_t_answers, .int t_bars])), (a_t_placesAhead, .inl (cI, 961, .inl t_placesAhead)), (a_t_answers, .inl (cI, 5, .inl t_answers)), (a_o1, .inr (6, [.ref a_o1_lengths, .ref a_o1_times, .ref a_o1_players, .ref a_o1_minutes, .int o1_sections, .int o1_things, .int o1_noteTold, .int o1_toldSection, .int o1_toldBar])), (a_o1_lengths, .inl (cI, 8, .inl o1_lengths)), (a_o1_times, .inl (cI, 8, .inl o1_times)), (a_o1_players, .inl (cI, 8, .inl o1_players))] → va_S A s.heap H locs → lv_has ls 7 [(0, .ref a_t), (1, .ref a_o1), (2, .int p2), (3, .int x3), (4, .int x4), (5, .int x5)] → mi_X3_bestToListen_b45 (mi_X3_bestToListen_l14 t_bars t_placesAhead o1_sections o1_lengths o1_times o1_players p2 n_l14) x3 x4 x5 t_answers = some (r, z_t_answers) → W p l e (headSpec wsX3_bestToListen rm_X3_bestToListen).room s m args below meth c H locs 0 0 Q (F0 m 45 ls []) := by
        intro x3 x4 x5 t_answers H locs ls hP hD hS hl h
        unfold mi_X3_bestToListen_b45 at h
        refine lv_iinc (v := (x5 + 1)) (lv' := [(5, .int (x5 + 1)), (0, .ref a_t), (1, .ref a_o1), (2, .int p2), (3, .int x3), (4, .int x4)]) hx hb dX3_bestToListen_45 hl (k := 5) rfl rfl (by decide) rfl (fun ls hl => ?_)
        refine lv_goto (tgt := 14) hx hb dX3_bestToListen_48 (by decide) ?_
        exact ih_l14 x3 x4 (x5 + 1) t_answers _ _ _ hP hD hS (lv_sub hl [1, 2, 3, 4, 5, 0] rfl) h
      intro x3 x4 x5 t_answers H locs ls hP hD hS hl h
      rw [mi_X3_bestToListen_l14] at h
      refine lv_iload hx hb dX3_bestToListen_14 (lv_at hl 5 rfl) ?_
      refine lv_bipush (v := (60 : Int32)) hx hb dX3_bestToListen_16 (by decide) ?_
      refine lv_icmp_gt (tgt := 51) hx hb dX3_bestToListen_18 (by decide) (fun c1 => ?_) (fun c1 => ?_)
      · have h := jx_t h c1
        refine lv_iload_n hx hb dX3_bestToListen_51 rfl (lv_at hl 3 rfl) ?_
        cases h
        exact hret 52 ls _ _ hP hD hS rfl dX3_bestToListen_52
      · have h := jx_f h c1
        refine lv_aload_n hx hb dX3_bestToListen_21 rfl (lv_at hl 0 rfl) ?_
        refine lv_iload hx hb dX3_bestToListen_22 (lv_at hl 5 rfl) ?_
        refine lv_aload_n hx hb dX3_bestToListen_24 rfl (lv_at hl 1 rfl) ?_
        refine lv_iload_n hx hb dX3_bestToListen_25 rfl (lv_at hl 2 rfl) ?_
        obtain ⟨r2, t_answers_3, e4, h⟩ := jx_b2_of h
        refine jx_cW (o := some (.int r2)) (As := [.int x5, .ref a_o1, .int p2]) (rest := []) (b := a_t) (wr := []) (wd' := [(a_t, .inr (3, [.ref a_t_laters, .ref a_t_players, .int t_heard, .ref a_t_playing, .ref a_t_placesAhead, .ref a_t_answers, .int t_bars])), (a_t_placesAhead, .inl (cI, 961, .inl t_placesAhead)), (a_t_answers, .inl (cI, 5, .inl t_answers_3)), (a_o1, .inr (6, [.ref a_o1_lengths, .ref a_o1_times, .ref a_o1_players, .ref a_o1_minutes, .int o1_sections, .int o1_things, .int o1_noteTold, .int o1_toldSection, .int o1_toldBar])), (a_o1_lengths, .inl (cI, 8, .inl o1_lengths)), (a_o1_times, .inl (cI, 8, .inl o1_times)), (a_o1_players, .inl (cI, 8, .inl o1_players))]) ⟨hx, hb, hml, hown, hts⟩ (ct_X3_greatestAnswer l D cI cZ cO a_t a_o1 a_t_laters a_t_players a_t_playing a_t_placesAhead a_t_answers a_o1_lengths a_o1_times a_o1_players a_o1_minutes H.size t_heard t_bars t_placesAhead t_answers o1_sections o1_things o1_noteTold o1_toldSection o1_toldBar o1_lengths o1_times o1_players x5 p2 r2 t_answers_3 e4) (cwV 3 hts gX3_bestToListen_X3_greatestAnswer rfl rfl rfl (by decide +kernel) ⟨Nat.le_of_ble_eq_true rfl, Nat.le_of_ble_eq_true rfl⟩) hK hN hP hD hS hA [0, 1, 2, 3, 4, 5, 6] [] (by decide) rfl rfl (by decide) (by decide) rfl (va_recv hK hP (ci := 3) (q0 := 0) rfl rfl) rfl hl.1 rfl (Nat.le_of_ble_eq_true rfl) dX3_bestToListen_26 ⟨Nat.zero_le _, Nat.zero_le _⟩ [0, 1, 2, 3, 4, 5, 6] (by decide) rfl (fun H locs hP hD hS => ?_)
        refine lv_istore (lv' := [(6, .int r2), (0, .ref a_t), (1, .ref a_o1), (2, .int p2), (3, .int x3), (4, .int x4), (5, .int x5)]) hx hb dX3_bestToListen_29 hl (by decide) rfl (fun ls hl => ?_)
        refine lv_iload hx hb dX3_bestToListen_31 (lv_at hl 0 rfl) ?_
        refine lv_iload hx hb dX3_bestToListen_33 (lv_at hl 5 rfl) ?_
        refine lv_icmp_ge (tgt := 45) hx hb dX3_bestToListen_35 (by decide) (fun c5 => ?_) (fun c5 => ?_)
        · have h := jx_t h c5
          exact bl_b45 x3 x4 x5 t_answers_3 _ _ _ hP hD hS (lv_sub hl [1, 2, 3, 4, 5, 6] rfl) h
        · have h := jx_f h c5
          refine lv_iload hx hb dX3_bestToListen_38 (lv_at hl 0 rfl) ?_
          refine lv_istore (lv' := [(4, .int r2), (6, .int r2), (0, .ref a_t), (1, .ref a_o1), (2, .int p2), (3, .int x3), (5, .int x5)]) hx hb dX3_bestToListen_40 hl (by decide) rfl (fun ls hl => ?_)
          refine lv_iload hx hb dX3_bestToListen_42 (lv_at hl 6 rfl) ?_
          refine lv_istore_n (lv' := [(3, .int x5), (4, .int r2), (6, .int r2), (0, .ref a_t), (1, .ref a_o1), (2, .int p2), (5, .int x5)]) hx hb dX3_bestToListen_44 rfl hl (by decide) rfl (fun ls hl => ?_)
          exact bl_b45 x5 r2 x5 t_answers_3 _ _ _ hP hD hS (lv_sub hl [3, 4, 5, 0, 1, 6] rfl) h
  have h := hm
  unfold mi_X3_bestToListen at h
  refine lv_iconst (v := (0 : Int32)) hx hb dX3_bestToListen_0 (by decide) ?_
  refine lv_istore_n (lv' := [(3, .int (0 : Int32)), (0, .ref a_t), (1, .ref a_o1), (2, .int p2)]) hx hb dX3_bestToListen_1 rfl hl (by decide) rfl (fun ls hl => ?_)
  refine lv_aload_n hx hb dX3_bestToListen_2 rfl (lv_at hl 1 rfl) ?_
  refine lv_iconst (v := (0 : Int32)) hx hb dX3_bestToListen_3 (by decide) ?_
  refine lv_aload_n hx hb dX3_bestToListen_4 rfl (lv_at hl 2 rfl) ?_
  refine lv_iload_n hx hb dX3_bestToListen_5 rfl (lv_at hl 3 rfl) ?_
  obtain ⟨r6, t_answers_7, e8, h⟩ := jx_b2_of h
  refine jx_cW (o := some (.int r6)) (As := [.int (0 : Int32), .ref a_o1, .int p2]) (rest := []) (b := a_t) (wr := []) (wd' := [(a_t, .inr (3, [.ref a_t_laters, .ref a_t_players, .int t_heard, .ref a_t_playing, .ref a_t_placesAhead, .ref a_t_answers, .int t_bars])), (a_t_placesAhead, .inl (cI, 961, .inl t_placesAhead)), (a_t_answers, .inl (cI, 5, .inl t_answers_7)), (a_o1, .inr (6, [.ref a_o1_lengths, .ref a_o1_times, .ref a_o1_players, .ref a_o1_minutes, .int o1_sections, .int o1_things, .int o1_noteTold, .int o1_toldSection, .int o1_toldBar])), (a_o1_lengths, .inl (cI, 8, .inl o1_lengths)), (a_o1_times, .inl (cI, 8, .inl o1_times)), (a_o1_players, .inl (cI, 8, .inl o1_players))]) ⟨hx, hb, hml, hown, hts⟩ (ct_X3_greatestAnswer l D cI cZ cO a_t a_o1 a_t_laters a_t_players a_t_playing a_t_placesAhead a_t_answers a_o1_lengths a_o1_times a_o1_players a_o1_minutes s.heap.size t_heard t_bars t_placesAhead t_answers o1_sections o1_things o1_noteTold o1_toldSection o1_toldBar o1_lengths o1_times o1_players (0 : Int32) p2 r6 t_answers_7 e8) (cwV 3 hts gX3_bestToListen_X3_greatestAnswer rfl rfl rfl (by decide +kernel) ⟨Nat.le_of_ble_eq_true rfl, Nat.le_of_ble_eq_true rfl⟩) hK hN hP hD hS hA [0, 1, 2, 3, 4, 5, 6] [] (by decide) rfl rfl (by decide) (by decide) rfl (va_recv hK hP (ci := 3) (q0 := 0) rfl rfl) rfl hl.1 rfl (Nat.le_of_ble_eq_true rfl) dX3_bestToListen_6 ⟨Nat.zero_le _, Nat.zero_le _⟩ [0, 1, 2, 3, 4, 5, 6] (by decide) rfl (fun H locs hP hD hS => ?_)
  refine lv_istore (lv' := [(4, .int r6), (3, .int (0 : Int32)), (0, .ref a_t), (1, .ref a_o1), (2, .int p2)]) hx hb dX3_bestToListen_9 hl (by decide) rfl (fun ls hl => ?_)
  refine lv_iconst (v := (1 : Int32)) hx hb dX3_bestToListen_11 (by decide) ?_
  refine lv_istore (lv' := [(5, .int (1 : Int32)), (4, .int r6), (3, .int (0 : Int32)), (0, .ref a_t), (1, .ref a_o1), (2, .int p2)]) hx hb dX3_bestToListen_12 hl (by decide) rfl (fun ls hl => ?_)
  exact bl_l14 jx_F (0 : Int32) r6 (1 : Int32) t_answers_7 _ _ _ hP hD hS (lv_sub hl [3, 4, 5, 2, 1, 0] rfl) h
