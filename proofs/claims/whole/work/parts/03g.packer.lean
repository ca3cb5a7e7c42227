/-! written by program (wip/whole/gen.py) out of the printed names: each method as a pure function, and its contract -/
def mi_X4_findRooms_b51 (k_l2 : Int32 → (Nat → Int32) → Option ((Nat → Int32))) (x3 : Int32) (k1 : Int32) (k2 : Int32) (t_rooms : Nat → Int32) : Option ((Nat → Int32)) := jx_g (jx_in k1 8) (k_l2 (x3 + 1) (upd t_rooms (Int32.toNatClampNeg k1) k2))
def mi_X4_findRooms_b30 (o1_sections : Int32) (o1_lengths : Nat → Int32) (o1_times : Nat → Int32) (k_l2 : Int32 → (Nat → Int32) → Option ((Nat → Int32))) (x3 : Int32) (k0 : Int32) (t_rooms : Nat → Int32) : Option ((Nat → Int32)) := if k0 = 0 then (mi_X4_findRooms_b51 k_l2 x3 x3 (0 : Int32) t_rooms) else (jx_b1 (mi_X6_barsOf o1_sections o1_lengths o1_times x3) fun r9 => (mi_X4_findRooms_b51 k_l2 x3 x3 r9 t_rooms))
def mi_X4_findRooms_b29 (o1_sections : Int32) (o1_lengths : Nat → Int32) (o1_times : Nat → Int32) (k_l2 : Int32 → (Nat → Int32) → Option ((Nat → Int32))) (x3 : Int32) (t_rooms : Nat → Int32) : Option ((Nat → Int32)) := mi_X4_findRooms_b30 o1_sections o1_lengths o1_times k_l2 x3 (0 : Int32) t_rooms
def mi_X4_findRooms_l2 (o1_sections : Int32) (o1_lengths : Nat → Int32) (o1_times : Nat → Int32) (o1_players : Nat → Int32) (p2 : Int32) : Nat → Int32 → (Nat → Int32) → Option ((Nat → Int32))
  | 0, _, _ => none
  | n + 1, x3, t_rooms => if (8 : Int32) ≤ x3 then (some (t_rooms)) else (jx_b1 (mi_X11_isIn p2 x3) fun r2 => (if r2 = 0 then (jx_b1 (mi_X6_whoOf o1_sections o1_players x3) fun r5 => (if r5 = (2 : Int32) then (mi_X4_findRooms_b29 o1_sections o1_lengths o1_times (mi_X4_findRooms_l2 o1_sections o1_lengths o1_times o1_players p2 n) x3 t_rooms) else (mi_X4_findRooms_b30 o1_sections o1_lengths o1_times (mi_X4_findRooms_l2 o1_sections o1_lengths o1_times o1_players p2 n) x3 (1 : Int32) t_rooms))) else (mi_X4_findRooms_b29 o1_sections o1_lengths o1_times (mi_X4_findRooms_l2 o1_sections o1_lengths o1_times o1_players p2 n) x3 t_rooms)))
def mi_X4_findRooms (t_rooms : Nat → Int32) (o1_sections : Int32) (o1_lengths : Nat → Int32) (o1_times : Nat → Int32) (o1_players : Nat → Int32) (p2 : Int32) : Option ((Nat → Int32)) := mi_X4_findRooms_l2 o1_sections o1_lengths o1_times o1_players p2 jx_F (0 : Int32) t_rooms
abbrev rm_X4_findRooms : Room := { frames := 2, cells := 0, slots := 0, locals := 42 }
set_option maxRecDepth 100000 in
set_option maxHeartbeats 4000000 in
theorem ct_X4_findRooms (l : Launch) (D : va_G) (cI cZ cO : ClassId) (a_t a_o1 a_t_rooms a_t_setMinutes a_t_fits a_o1_lengths a_o1_times a_o1_players a_o1_minutes : Nat) (sz : Nat) (t_rooms : Nat → Int32) (o1_sections : Int32) (o1_things : Int32) (o1_noteTold : Int32) (o1_toldSection : Int32) (o1_toldBar : Int32) (o1_lengths : Nat → Int32) (o1_times : Nat → Int32) (o1_players : Nat → Int32) (p2 : Int32) (z_t_rooms : Nat → Int32) (hm : mi_X4_findRooms t_rooms o1_sections o1_lengths o1_times o1_players p2 = some z_t_rooms) : Met l yX4_findRooms wsX4_findRooms rm_X4_findRooms (va_Pc [.ref a_t, .ref a_o1, .int p2] (jx_W D (jx_T cI cZ cO) sz [(a_t, .inr (4, [.ref a_t_rooms, .ref a_t_setMinutes, .ref a_t_fits])), (a_t_rooms, .inl (cI, 8, .inl t_rooms)), (a_o1, .inr (6, [.ref a_o1_lengths, .ref a_o1_times, .ref a_o1_players, .ref a_o1_minutes, .int o1_sections, .int o1_things, .int o1_noteTold, .int o1_toldSection, .int o1_toldBar])), (a_o1_lengths, .inl (cI, 8, .inl o1_lengths)), (a_o1_times, .inl (cI, 8, .inl o1_times)), (a_o1_players, .inl (cI, 8, .inl o1_players))])) (jx_Q none D [(a_t, .inr (4, [.ref a_t_rooms, .ref a_t_setMinutes, .ref a_t_fits])), (a_t_rooms, .inl (cI, 8, .inl z_t_rooms)), (a_o1, .inr (6, [.ref a_o1_lengths, .ref a_o1_times, .ref a_o1_players, .ref a_o1_minutes, .int o1_sections, .int o1_things, .int o1_noteTold, .int o1_toldSection, .int o1_toldBar])), (a_o1_lengths, .inl (cI, 8, .inl o1_lengths)), (a_o1_times, .inl (cI, 8, .inl o1_times)), (a_o1_players, .inl (cI, 8, .inl o1_players))] (va_A [(a_t, .inr (4, [.ref a_t_rooms, .ref a_t_setMinutes, .ref a_t_fits])), (a_t_rooms, .inl (cI, 8, .inl t_rooms)), (a_o1, .inr (6, [.ref a_o1_lengths, .ref a_o1_times, .ref a_o1_players, .ref a_o1_minutes, .int o1_sections, .int o1_things, .int o1_noteTold, .int o1_toldSection, .int o1_toldBar])), (a_o1_lengths, .inl (cI, 8, .inl o1_lengths)), (a_o1_times, .inl (cI, 8, .inl o1_times)), (a_o1_players, .inl (cI, 8, .inl o1_players))] sz)) 0 0 (va_A [(a_t, .inr (4, [.ref a_t_rooms, .ref a_t_setMinutes, .ref a_t_fits])), (a_t_rooms, .inl (cI, 8, .inl t_rooms)), (a_o1, .inr (6, [.ref a_o1_lengths, .ref a_o1_times, .ref a_o1_players, .ref a_o1_minutes, .int o1_sections, .int o1_things, .int o1_noteTold, .int o1_toldSection, .int o1_toldBar])), (a_o1_lengths, .inl (cI, 8, .inl o1_lengths)), (a_o1_times, .inl (cI, 8, .inl o1_times)), (a_o1_players, .inl (cI, 8, .inl o1_players))] sz) := by
  refine jx_metV (own := RX4) (cc := cX4_findRooms) (maxL := 5) (by decide) rfl rfl (Nat.le_of_ble_eq_true rfl) ?_
  intro p e s m args below meth c Q ls A hx hb hml hown hts hK hN hA hP hD hS hl hret
  have hi_X4 : ∀ w ∈ u_ws RX4 TX4 3, w ∈ wsX4_findRooms := by decide +kernel
  have hl : lv_has ls 5 [(0, .ref a_t), (1, .ref a_o1), (2, .int p2)] := hl
  have bl_l2 : ∀ (n : Nat) (x3 : Int32) (t_rooms : Nat → Int32) (H : Heap) (locs : List Loc) (ls : Array Slot), va_P D vwCl [(a_t, .inr (4, [.ref a_t_rooms, .ref a_t_setMinutes, .ref a_t_fits])), (a_t_rooms, .inl (cI, 8, .inl t_rooms)), (a_o1, .inr (6, [.ref a_o1_lengths, .ref a_o1_times, .ref a_o1_players, .ref a_o1_minutes, .int o1_sections, .int o1_things, .int o1_noteTold, .int o1_toldSection, .int o1_toldBar])), (a_o1_lengths, .inl (cI, 8, .inl o1_lengths)), (a_o1_times, .inl (cI, 8, .inl o1_times)), (a_o1_players, .inl (cI, 8, .inl o1_players))] H → va_D A [(a_t, .inr (4, [.ref a_t_rooms, .ref a_t_setMinutes, .ref a_t_fits])), (a_t_rooms, .inl (cI, 8, .inl t_rooms)), (a_o1, .inr (6, [.ref a_o1_lengths, .ref a_o1_times, .ref a_o1_players, .ref a_o1_minutes, .int o1_sections, .int o1_things, .int o1_noteTold, .int o1_toldSection, .int o1_toldBar])), (a_o1_lengths, .inl (cI, 8, .inl o1_lengths)), (a_o1_times, .inl (cI, 8, .inl o1_times)), (a_o1_players, .inl (cI, 8, .inl o1_players))] → va_S A s.heap H locs → lv_has ls 5 [(0, .ref a_t), (1, .ref a_o1), (2, .int p2), (3, .int x3)] → mi_X4_findRooms_l2 o1_sections o1_lengths o1_times o1_players p2 n x3 t_rooms = some z_t_rooms → W p l e (headSpec wsX4_findRooms rm_X4_findRooms).room s m args below meth c H locs 0 0 Q (F0 m 2 ls []) := by
    intro n
    induction n with
    | zero =>
      intro x3 t_rooms H locs ls hP hD hS hl h
      rw [mi_X4_findRooms_l2] at h
      cases h
    | succ n_l2 ih_l2 =>
      have bl_b51 : ∀ (x3 : Int32) (k1 : Int32) (k2 : Int32) (t_rooms : Nat → Int32) (H : Heap) (locs : List Loc) (ls : Array Slot), va_P D vwCl [(a_t, .inr (4, [.ref a_t_rooms, .ref a_t_setMinutes, .ref a_t_fits])), (a_t_rooms, .inl (cI, 8, .inl t_rooms)), (a_o1, .inr (6, [.ref a_o1_lengths, .ref a_o1_times, .ref a_o1_players, .ref a_o1_minutes, .int o1_sections, .int o1_things, .int o1_noteTold, .int o1_toldSection, .int o1_toldBar])), (a_o1_lengths, .inl (cI, 8, .inl o1_lengths)), (a_o1_times, .inl (cI, 8, .inl o1_times)), (a_o1_players, .inl (cI, 8, .inl o1_players))] H → va_D A [(a_t, .inr (4, [.ref a_t_rooms, .ref a_t_setMinutes, .ref a_t_fits])), (a_t_rooms, .inl (cI, 8, .inl t_rooms)), (a_o1, .inr (6, [.ref a_o1_lengths, .ref a_o1_times, .ref a_o1_players, .ref a_o1_minutes, .int o1_sections, .int o1_things, .int o1_noteTold, .int o1_toldSection, .int o1_toldBar])), (a_o1_lengths, .inl (cI, 8, .inl o1_lengths)), (a_o1_times, .inl (cI, 8, .inl o1_times)), (a_o1_players, .inl (cI, 8, .inl o1_players))] → va_S A s.heap H locs → lv_has ls 5 [(0, .ref a_t), (1, .ref a_o1), (2, .int p2), (3, .int x3)] → mi_X4_findRooms_b51 (mi_X4_findRooms_l2 o1_sections o1_lengths o1_times o1_players p2 n_l2) x3 k1 k2 t_rooms = some z_t_rooms → W p l e (headSpec wsX4_findRooms rm_X4_findRooms).room s m args below meth c H locs 0 0 Q (F0 m 51 ls [.int k2, .int k1, .ref a_t_rooms]) := by
        intro x3 k1 k2 t_rooms H locs ls hP hD hS hl h
        unfold mi_X4_findRooms_b51 at h
        obtain ⟨g11, h⟩ := jx_g_of h
        refine va_iast hx hb hK hP hD hS 1 0 rfl rfl (jx_in_of g11) dX4_findRooms_51 (fun H locs hP hD hS => ?_)
        have hP : va_P D vwCl [(a_t, .inr (4, [.ref a_t_rooms, .ref a_t_setMinutes, .ref a_t_fits])), (a_t_rooms, .inl (cI, 8, .inl (upd t_rooms (Int32.toNatClampNeg k1) k2))), (a_o1, .inr (6, [.ref a_o1_lengths, .ref a_o1_times, .ref a_o1_players, .ref a_o1_minutes, .int o1_sections, .int o1_things, .int o1_noteTold, .int o1_toldSection, .int o1_toldBar])), (a_o1_lengths, .inl (cI, 8, .inl o1_lengths)), (a_o1_times, .inl (cI, 8, .inl o1_times)), (a_o1_players, .inl (cI, 8, .inl o1_players))] H := hP
        have hD : va_D A [(a_t, .inr (4, [.ref a_t_rooms, .ref a_t_setMinutes, .ref a_t_fits])), (a_t_rooms, .inl (cI, 8, .inl (upd t_rooms (Int32.toNatClampNeg k1) k2))), (a_o1, .inr (6, [.ref a_o1_lengths, .ref a_o1_times, .ref a_o1_players, .ref a_o1_minutes, .int o1_sections, .int o1_things, .int o1_noteTold, .int o1_toldSection, .int o1_toldBar])), (a_o1_lengths, .inl (cI, 8, .inl o1_lengths)), (a_o1_times, .inl (cI, 8, .inl o1_times)), (a_o1_players, .inl (cI, 8, .inl o1_players))] := hD
        refine lv_iinc (v := (x3 + 1)) (lv' := [(3, .int (x3 + 1)), (0, .ref a_t), (1, .ref a_o1), (2, .int p2)]) hx hb dX4_findRooms_52 hl (k := 3) rfl rfl (by decide) rfl (fun ls hl => ?_)
        refine lv_goto (tgt := 2) hx hb dX4_findRooms_55 (by decide) ?_
        exact ih_l2 (x3 + 1) (upd t_rooms (Int32.toNatClampNeg k1) k2) _ _ _ hP hD hS (lv_sub hl [1, 2, 3, 0] rfl) h
      have bl_b30 : ∀ (x3 : Int32) (k0 : Int32) (t_rooms : Nat → Int32) (H : Heap) (locs : List Loc) (ls : Array Slot), va_P D vwCl [(a_t, .inr (4, [.ref a_t_rooms, .ref a_t_setMinutes, .ref a_t_fits])), (a_t_rooms, .inl (cI, 8, .inl t_rooms)), (a_o1, .inr (6, [.ref a_o1_lengths, .ref a_o1_times, .ref a_o1_players, .ref a_o1_minutes, .int o1_sections, .int o1_things, .int o1_noteTold, .int o1_toldSection, .int o1_toldBar])), (a_o1_lengths, .inl (cI, 8, .inl o1_lengths)), (a_o1_times, .inl (cI, 8, .inl o1_times)), (a_o1_players, .inl (cI, 8, .inl o1_players))] H → va_D A [(a_t, .inr (4, [.ref a_t_rooms, .ref a_t_setMinutes, .ref a_t_fits])), (a_t_rooms, .inl (cI, 8, .inl t_rooms)), (a_o1, .inr (6, [.ref a_o1_lengths, .ref a_o1_times, .ref a_o1_players, .ref a_o1_minutes, .int o1_sections, .int o1_things, .int o1_noteTold, .int o1_toldSection, .int o1_toldBar])), (a_o1_lengths, .inl (cI, 8, .inl o1_lengths)), (a_o1_times, .inl (cI, 8, .inl o1_times)), (a_o1_players, .inl (cI, 8, .inl o1_players))] → va_S A s.heap H locs → lv_has ls 5 [(0, .ref a_t), (1, .ref a_o1), (2, .int p2), (3, .int x3)] → mi_X4_findRooms_b30 o1_sections o1_lengths o1_times (mi_X4_findRooms_l2 o1_sections o1_lengths o1_times o1_players p2 n_l2) x3 k0 t_rooms = some z_t_rooms → W p l e (headSpec wsX4_findRooms rm_X4_findRooms).room s m args below meth c H locs 0 0 Q (F0 m 30 ls [.int k0]) := by
        intro x3 k0 t_rooms H locs ls hP hD hS hl h
        unfold mi_X4_findRooms_b30 at h
        refine lv_istore (lv' := [(4, .int k0), (0, .ref a_t), (1, .ref a_o1), (2, .int p2), (3, .int x3)]) hx hb dX4_findRooms_30 hl (by decide) rfl (fun ls hl => ?_)
        refine lv_aload_n hx hb dX4_findRooms_32 rfl (lv_at hl 1 rfl) ?_
        refine va_get (D := D) (ci := 4) (v := .ref a_t_rooms) (C := RX4) (T := TX4) (N := 3) hx hb hts hi_X4 hown hK hP 0 rfl rfl 0 (by decide) (hts (.fieldLink RX4 9 "TriangleRest$Packer" "rooms" "[I") (List.mem_of_getElem? (i := 1) rfl)) (fun _ h9 => h9) rfl dX4_findRooms_33 ?_
        refine lv_iload_n hx hb dX4_findRooms_36 rfl (lv_at hl 4 rfl) ?_
        refine lv_iload hx hb dX4_findRooms_37 (lv_at hl 0 rfl) ?_
        refine lv_if_eq (tgt := 50) hx hb dX4_findRooms_39 (by decide) (fun c8 => ?_) (fun c8 => ?_)
        · have h := jx_t h c8
          refine lv_iconst (v := (0 : Int32)) hx hb dX4_findRooms_50 (by decide) ?_
          exact bl_b51 x3 x3 (0 : Int32) t_rooms _ _ _ hP hD hS (lv_sub hl [1, 2, 3, 4] rfl) h
        · have h := jx_f h c8
          refine lv_aload_n hx hb dX4_findRooms_42 rfl (lv_at hl 2 rfl) ?_
          refine lv_iload_n hx hb dX4_findRooms_43 rfl (lv_at hl 4 rfl) ?_
          obtain ⟨r9, e10, h⟩ := jx_b1_of h
          refine jx_cV (o := some (.int r9)) (As := [.int x3]) (rest := [.int x3, .ref a_t_rooms]) (b := a_o1) ⟨hx, hb, hml, hown, hts⟩ (ct_X6_barsOf l D cI cZ cO a_o1 a_o1_lengths a_o1_times a_o1_players a_o1_minutes o1_sections o1_things o1_noteTold o1_toldSection o1_toldBar o1_lengths o1_times x3 r9 e10) (cwV 1 hts gX4_findRooms_X6_barsOf rfl rfl rfl (by decide +kernel) ⟨Nat.le_of_ble_eq_true rfl, Nat.le_of_ble_eq_true rfl⟩) hK hN hP [2, 3, 4] rfl (va_recv hK hP (ci := 6) (q0 := 2) rfl rfl) rfl hl.1 rfl (Nat.le_of_ble_eq_true rfl) dX4_findRooms_44 ⟨Nat.zero_le _, Nat.zero_le _⟩ ?_
          refine lv_goto (tgt := 51) hx hb dX4_findRooms_47 (by decide) ?_
          exact bl_b51 x3 x3 r9 t_rooms _ _ _ hP hD hS (lv_sub hl [1, 2, 3, 4] rfl) h
      have bl_b29 : ∀ (x3 : Int32) (t_rooms : Nat → Int32) (H : Heap) (locs : List Loc) (ls : Array Slot), va_P D vwCl [(a_t, .inr (4, [.ref a_t_rooms, .ref a_t_setMinutes, .ref a_t_fits])), (a_t_rooms, .inl (cI, 8, .inl t_rooms)), (a_o1, .inr (6, [.ref a_o1_lengths, .ref a_o1_times, .ref a_o1_players, .ref a_o1_minutes, .int o1_sections, .int o1_things, .int o1_noteTold, .int o1_toldSection, .int o1_toldBar])), (a_o1_lengths, .inl (cI, 8, .inl o1_lengths)), (a_o1_times, .inl (cI, 8, .inl o1_times)), (a_o1_players, .inl (cI, 8, .inl o1_players))] H → va_D A [(a_t, .inr (4, [.ref a_t_rooms, .ref a_t_setMinutes, .ref a_t_fits])), (a_t_rooms, .inl (cI, 8, .inl t_rooms)), (a_o1, .inr (6, [.ref a_o1_lengths, .ref a_o1_times, .ref a_o1_players, .ref a_o1_minutes, .int o1_sections, .int o1_things, .int o1_noteTold, .int o1_toldSection, .int o1_toldBar])), (a_o1_lengths, .inl (cI, 8, .inl o1_lengths)), (a_o1_times, .inl (cI, 8, .inl o1_times)), (a_o1_players, .inl (cI, 8, .inl o1_players))] → va_S A s.heap H locs → lv_has ls 5 [(0, .ref a_t), (1, .ref a_o1), (2, .int p2), (3, .int x3)] → mi_X4_findRooms_b29 o1_sections o1_lengths o1_times (mi_X4_findRooms_l2 o1_sections o1_lengths o1_times o1_players p2 n_l2) x3 t_rooms = some z_t_rooms → W p l e (headSpec wsX4_findRooms rm_X4_findRooms).room s m args below meth c H locs 0 0 Q (F0 m 29 ls []) := by
        intro x3 t_rooms H locs ls hP hD hS hl h
        unfold mi_X4_findRooms_b29 at h
        refine lv_iconst (v := (0 : Int32)) hx hb dX4_findRooms_29 (by decide) ?_
        exact bl_b30 x3 (0 : Int32) t_rooms _ _ _ hP hD hS (lv_sub hl [0, 1, 2, 3] rfl) h
      intro x3 t_rooms H locs ls hP hD hS hl h
      rw [mi_X4_findRooms_l2] at h
      refine lv_iload_n hx hb dX4_findRooms_2 rfl (lv_at hl 3 rfl) ?_
      refine lv_bipush (v := (8 : Int32)) hx hb dX4_findRooms_3 (by decide) ?_
      refine lv_icmp_ge (tgt := 58) hx hb dX4_findRooms_5 (by decide) (fun c1 => ?_) (fun c1 => ?_)
      · have h := jx_t h c1
        cases h
        exact hret 58 ls _ _ hP hD hS dX4_findRooms_58
      · have h := jx_f h c1
        refine lv_iload_n hx hb dX4_findRooms_8 rfl (lv_at hl 2 rfl) ?_
        refine lv_iload_n hx hb dX4_findRooms_9 rfl (lv_at hl 3 rfl) ?_
        obtain ⟨r2, e3, h⟩ := jx_b1_of h
        refine jx_cSN (o := some (.int r2)) (As := [.int p2, .int x3]) (rest := []) ⟨hx, hb, hml, hown, hts⟩ (ct_X11_isIn l p2 x3 r2 e3) ⟨va_cnB 2 hts gX4_findRooms_X11_isIn_n50 rfl rfl rfl (jx_Nm hN 22 rfl) (hts (.initialized RX11) (List.mem_of_getElem? (i := 3) rfl)) (by decide +kernel) ⟨Nat.le_of_ble_eq_true rfl, Nat.le_of_ble_eq_true rfl⟩, (hts (.static yX11_isIn) (List.mem_of_getElem? (i := 2) rfl)), trivial⟩ rfl hl.1 rfl (Nat.le_of_ble_eq_true rfl) dX4_findRooms_10 ⟨Nat.zero_le _, Nat.zero_le _⟩ ?_
        refine lv_if_ne (tgt := 29) hx hb dX4_findRooms_13 (by decide) (fun c4 => ?_) (fun c4 => ?_)
        · have h := jx_f h c4
          exact bl_b29 x3 t_rooms _ _ _ hP hD hS (lv_sub hl [0, 1, 2, 3] rfl) h
        · have h := jx_t h c4
          refine lv_aload_n hx hb dX4_findRooms_16 rfl (lv_at hl 1 rfl) ?_
          refine lv_iload_n hx hb dX4_findRooms_17 rfl (lv_at hl 3 rfl) ?_
          obtain ⟨r5, e6, h⟩ := jx_b1_of h
          refine jx_cV (o := some (.int r5)) (As := [.int x3]) (rest := []) (b := a_o1) ⟨hx, hb, hml, hown, hts⟩ (ct_X6_whoOf l D cI cZ cO a_o1 a_o1_lengths a_o1_times a_o1_players a_o1_minutes o1_sections o1_things o1_noteTold o1_toldSection o1_toldBar o1_players x3 r5 e6) (cwV 1 hts gX4_findRooms_X6_whoOf rfl rfl rfl (by decide +kernel) ⟨Nat.le_of_ble_eq_true rfl, Nat.le_of_ble_eq_true rfl⟩) hK hN hP [2, 5] rfl (va_recv hK hP (ci := 6) (q0 := 2) rfl rfl) rfl hl.1 rfl (Nat.le_of_ble_eq_true rfl) dX4_findRooms_18 ⟨Nat.zero_le _, Nat.zero_le _⟩ ?_
          refine lv_iconst (v := (2 : Int32)) hx hb dX4_findRooms_21 (by decide) ?_
          refine lv_icmp_eq (tgt := 29) hx hb dX4_findRooms_22 (by decide) (fun c7 => ?_) (fun c7 => ?_)
          · have h := jx_t h c7
            exact bl_b29 x3 t_rooms _ _ _ hP hD hS (lv_sub hl [0, 1, 2, 3] rfl) h
          · have h := jx_f h c7
            refine lv_iconst (v := (1 : Int32)) hx hb dX4_findRooms_25 (by decide) ?_
            refine lv_goto (tgt := 30) hx hb dX4_findRooms_26 (by decide) ?_
            exact bl_b30 x3 (1 : Int32) t_rooms _ _ _ hP hD hS (lv_sub hl [0, 1, 2, 3] rfl) h
  have h := hm
  unfold mi_X4_findRooms at h
  refine lv_iconst (v := (0 : Int32)) hx hb dX4_findRooms_0 (by decide) ?_
  refine lv_istore_n (lv' := [(3, .int (0 : Int32)), (0, .ref a_t), (1, .ref a_o1), (2, .int p2)]) hx hb dX4_findRooms_1 rfl hl (by decide) rfl (fun ls hl => ?_)
  exact bl_l2 jx_F (0 : Int32) t_rooms _ _ _ hP hD hS (lv_sub hl [1, 2, 3, 0] rfl) h
def mi_X4_findSetMinutes_b40 (k_l13 : Int32 → Int32 → Int32 → (Nat → Int32) → Option ((Nat → Int32))) (x2 : Int32) (x4 : Int32) (k0 : Int32) (k1 : Int32) (t_setMinutes : Nat → Int32) : Option ((Nat → Int32)) := k_l13 x2 (k0 + k1) (x4 + 1) t_setMinutes
def mi_X4_findSetMinutes_l13 (o1_things : Int32) (o1_minutes : Nat → Int32) (k_l2 : Int32 → (Nat → Int32) → Option ((Nat → Int32))) : Nat → Int32 → Int32 → Int32 → (Nat → Int32) → Option ((Nat → Int32))
  | 0, _, _, _, _ => none
  | n + 1, x2, x3, x4, t_setMinutes => if (6 : Int32) ≤ x4 then (jx_g (jx_in x2 64) (k_l2 (x2 + 1) (upd t_setMinutes (Int32.toNatClampNeg x2) x3))) else (jx_b1 (mi_X11_isIn x2 x4) fun r4 => (if r4 = 0 then (mi_X4_findSetMinutes_b40 (mi_X4_findSetMinutes_l13 o1_things o1_minutes k_l2 n) x2 x4 x3 (0 : Int32) t_setMinutes) else (jx_b1 (mi_X6_minutesOf o1_things o1_minutes x4) fun r7 => (mi_X4_findSetMinutes_b40 (mi_X4_findSetMinutes_l13 o1_things o1_minutes k_l2 n) x2 x4 x3 r7 t_setMinutes))))
def mi_X4_findSetMinutes_l2 (o1_things : Int32) (o1_minutes : Nat → Int32) : Nat → Int32 → (Nat → Int32) → Option ((Nat → Int32))
  | 0, _, _ => none
  | n + 1, x2, t_setMinutes => if (64 : Int32) ≤ x2 then (some (t_setMinutes)) else (mi_X4_findSetMinutes_l13 o1_things o1_minutes (mi_X4_findSetMinutes_l2 o1_things o1_minutes n) jx_F x2 (0 : Int32) (0 : Int32) t_setMinutes)
def mi_X4_findSetMinutes (t_setMinutes : Nat → Int32) (o1_things : Int32) (o1_minutes : Nat → Int32) : Option ((Nat → Int32)) := mi_X4_findSetMinutes_l2 o1_things o1_minutes jx_F (0 : Int32) t_setMinutes
abbrev rm_X4_findSetMinutes : Room := { frames := 2, cells := 0, slots := 0, locals := 42 }
set_option maxRecDepth 100000 in
set_option maxHeartbeats 4000000 in
theorem ct_X4_findSetMinutes (l : Launch) (D : va_G) (cI cZ cO : ClassId) (a_t a_o1 a_t_rooms a_t_setMinutes a_t_fits a_o1_lengths a_o1_times a_o1_players a_o1_minutes : Nat) (sz : Nat) (t_setMinutes : Nat → Int32) (o1_sections : Int32) (o1_things : Int32) (o1_noteTold : Int32) (o1_toldSection : Int32) (o1_toldBar : Int32) (o1_minutes : Nat → Int32) (z_t_setMinutes : Nat → Int32) (hm : mi_X4_findSetMinutes t_setMinutes o1_things o1_minutes = some z_t_setMinutes) : Met l yX4_findSetMinutes wsX4_findSetMinutes rm_X4_findSetMinutes (va_Pc [.ref a_t, .ref a_o1] (jx_W D (jx_T cI cZ cO) sz [(a_t, .inr (4, [.ref a_t_rooms, .ref a_t_setMinutes, .ref a_t_fits])), (a_t_setMinutes, .inl (cI, 64, .inl t_setMinutes)), (a_o1, .inr (6, [.ref a_o1_lengths, .ref a_o1_times, .ref a_o1_players, .ref a_o1_minutes, .int o1_sections, .int o1_things, .int o1_noteTold, .int o1_toldSection, .int o1_toldBar])), (a_o1_minutes, .inl (cI, 6, .inl o1_minutes))])) (jx_Q none D [(a_t, .inr (4, [.ref a_t_rooms, .ref a_t_setMinutes, .ref a_t_fits])), (a_t_setMinutes, .inl (cI, 64, .inl z_t_setMinutes)), (a_o1, .inr (6, [.ref a_o1_lengths, .ref a_o1_times, .ref a_o1_players, .ref a_o1_minutes, .int o1_sections, .int o1_things, .int o1_noteTold, .int o1_toldSection, .int o1_toldBar])), (a_o1_minutes, .inl (cI, 6, .inl o1_minutes))] (va_A [(a_t, .inr (4, [.ref a_t_rooms, .ref a_t_setMinutes, .ref a_t_fits])), (a_t_setMinutes, .inl (cI, 64, .inl t_setMinutes)), (a_o1, .inr (6, [.ref a_o1_lengths, .ref a_o1_times, .ref a_o1_players, .ref a_o1_minutes, .int o1_sections, .int o1_things, .int o1_noteTold, .int o1_toldSection, .int o1_toldBar])), (a_o1_minutes, .inl (cI, 6, .inl o1_minutes))] sz)) 0 0 (va_A [(a_t, .inr (4, [.ref a_t_rooms, .ref a_t_setMinutes, .ref a_t_fits])), (a_t_setMinutes, .inl (cI, 64, .inl t_setMinutes)), (a_o1, .inr (6, [.ref a_o1_lengths, .ref a_o1_times, .ref a_o1_players, .ref a_o1_minutes, .int o1_sections, .int o1_things, .int o1_noteTold, .int o1_toldSection, .int o1_toldBar])), (a_o1_minutes, .inl (cI, 6, .inl o1_minutes))] sz) := by
  refine jx_metV (own := RX4) (cc := cX4_findSetMinutes) (maxL := 5) (by decide) rfl rfl (Nat.le_of_ble_eq_true rfl) ?_
  intro p e s m args below meth c Q ls A hx hb hml hown hts hK hN hA hP hD hS hl hret
  have hi_X4 : ∀ w ∈ u_ws RX4 TX4 3, w ∈ wsX4_findSetMinutes := by decide +kernel
  have hl : lv_has ls 5 [(0, .ref a_t), (1, .ref a_o1)] := hl
  have bl_l2 : ∀ (n : Nat) (x2 : Int32) (t_setMinutes : Nat → Int32) (H : Heap) (locs : List Loc) (ls : Array Slot), va_P D vwCl [(a_t, .inr (4, [.ref a_t_rooms, .ref a_t_setMinutes, .ref a_t_fits])), (a_t_setMinutes, .inl (cI, 64, .inl t_setMinutes)), (a_o1, .inr (6, [.ref a_o1_lengths, .ref a_o1_times, .ref a_o1_players, .ref a_o1_minutes, .int o1_sections, .int o1_things, .int o1_noteTold, .int o1_toldSection, .int o1_toldBar])), (a_o1_minutes, .inl (cI, 6, .inl o1_minutes))] H → va_D A [(a_t, .inr (4, [.ref a_t_rooms, .ref a_t_setMinutes, .ref a_t_fits])), (a_t_setMinutes, .inl (cI, 64, .inl t_setMinutes)), (a_o1, .inr (6, [.ref a_o1_lengths, .ref a_o1_times, .ref a_o1_players, .ref a_o1_minutes, .int o1_sections, .int o1_things, .int o1_noteTold, .int o1_toldSection, .int o1_toldBar])), (a_o1_minutes, .inl (cI, 6, .inl o1_minutes))] → va_S A s.heap H locs → lv_has ls 5 [(0, .ref a_t), (1, .ref a_o1), (2, .int x2)] → mi_X4_findSetMinutes_l2 o1_things o1_minutes n x2 t_setMinutes = some z_t_setMinutes → W p l e (headSpec wsX4_findSetMinutes rm_X4_findSetMinutes).room s m args below meth c H locs 0 0 Q (F0 m 2 ls []) := by
    intro n
    induction n with
    | zero =>
      intro x2 t_setMinutes H locs ls hP hD hS hl h
      rw [mi_X4_findSetMinutes_l2] at h
      cases h
    | succ n_l2 ih_l2 =>
      have bl_l13 : ∀ (n : Nat) (x2 : Int32) (x3 : Int32) (x4 : Int32) (t_setMinutes : Nat → Int32) (H : Heap) (locs : List Loc) (ls : Array Slot), va_P D vwCl [(a_t, .inr (4, [.ref a_t_rooms, .ref a_t_setMinutes, .ref a_t_fits])), (a_t_setMinutes, .inl (cI, 64, .inl t_setMinutes)), (a_o1, .inr (6, [.ref a_o1_lengths, .ref a_o1_times, .ref a_o1_players, .ref a_o1_minutes, .int o1_sections, .int o1_things, .int o1_noteTold, .int o1_toldSection, .int o1_toldBar])), (a_o1_minutes, .inl (cI, 6, .inl o1_minutes))] H → va_D A [(a_t, .inr (4, [.ref a_t_rooms, .ref a_t_setMinutes, .ref a_t_fits])), (a_t_setMinutes, .inl (cI, 64, .inl t_setMinutes)), (a_o1, .inr (6, [.ref a_o1_lengths, .ref a_o1_times, .ref a_o1_players, .ref a_o1_minutes, .int o1_sections, .int o1_things, .int o1_noteTold, .int o1_toldSection, .int o1_toldBar])), (a_o1_minutes, .inl (cI, 6, .inl o1_minutes))] → va_S A s.heap H locs → lv_has ls 5 [(0, .ref a_t), (1, .ref a_o1), (2, .int x2), (3, .int x3), (4, .int x4)] → mi_X4_findSetMinutes_l13 o1_things o1_minutes (mi_X4_findSetMinutes_l2 o1_things o1_minutes n_l2) n x2 x3 x4 t_setMinutes = some z_t_setMinutes → W p l e (headSpec wsX4_findSetMinutes rm_X4_findSetMinutes).room s m args below meth c H locs 0 0 Q (F0 m 13 ls []) := by
        intro n
        induction n with
        | zero =>
          intro x2 x3 x4 t_setMinutes H locs ls hP hD hS hl h
          rw [mi_X4_findSetMinutes_l13] at h
          cases h
        | succ n_l13 ih_l13 =>
          have bl_b40 : ∀ (x2 : Int32) (x4 : Int32) (k0 : Int32) (k1 : Int32) (t_setMinutes : Nat → Int32) (H : Heap) (locs : List Loc) (ls : Array Slot), va_P D vwCl [(a_t, .inr (4, [.ref a_t_rooms, .ref a_t_setMinutes, .ref a_t_fits])), (a_t_setMinutes, .inl (cI, 64, .inl t_setMinutes)), (a_o1, .inr (6, [.ref a_o1_lengths, .ref a_o1_times, .ref a_o1_players, .ref a_o1_minutes, .int o1_sections, .int o1_things, .int o1_noteTold, .int o1_toldSection, .int o1_toldBar])), (a_o1_minutes, .inl (cI, 6, .inl o1_minutes))] H → va_D A [(a_t, .inr (4, [.ref a_t_rooms, .ref a_t_setMinutes, .ref a_t_fits])), (a_t_setMinutes, .inl (cI, 64, .inl t_setMinutes)), (a_o1, .inr (6, [.ref a_o1_lengths, .ref a_o1_times, .ref a_o1_players, .ref a_o1_minutes, .int o1_sections, .int o1_things, .int o1_noteTold, .int o1_toldSection, .int o1_toldBar])), (a_o1_minutes, .inl (cI, 6, .inl o1_minutes))] → va_S A s.heap H locs → lv_has ls 5 [(0, .ref a_t), (1, .ref a_o1), (2, .int x2), (4, .int x4)] → mi_X4_findSetMinutes_b40 (mi_X4_findSetMinutes_l13 o1_things o1_minutes (mi_X4_findSetMinutes_l2 o1_things o1_minutes n_l2) n_l13) x2 x4 k0 k1 t_setMinutes = some z_t_setMinutes → W p l e (headSpec wsX4_findSetMinutes rm_X4_findSetMinutes).room s m args below meth c H locs 0 0 Q (F0 m 40 ls [.int k1, .int k0]) := by
            intro x2 x4 k0 k1 t_setMinutes H locs ls hP hD hS hl h
            unfold mi_X4_findSetMinutes_b40 at h
            refine lv_iadd hx hb dX4_findSetMinutes_40 ?_
            refine lv_istore_n (lv' := [(3, .int (k0 + k1)), (0, .ref a_t), (1, .ref a_o1), (2, .int x2), (4, .int x4)]) hx hb dX4_findSetMinutes_41 rfl hl (by decide) rfl (fun ls hl => ?_)
            refine lv_iinc (v := (x4 + 1)) (lv' := [(4, .int (x4 + 1)), (3, .int (k0 + k1)), (0, .ref a_t), (1, .ref a_o1), (2, .int x2)]) hx hb dX4_findSetMinutes_42 hl (k := 4) rfl rfl (by decide) rfl (fun ls hl => ?_)
            refine lv_goto (tgt := 13) hx hb dX4_findSetMinutes_45 (by decide) ?_
            exact ih_l13 x2 (k0 + k1) (x4 + 1) t_setMinutes _ _ _ hP hD hS (lv_sub hl [2, 3, 4, 1, 0] rfl) h
          intro x2 x3 x4 t_setMinutes H locs ls hP hD hS hl h
          rw [mi_X4_findSetMinutes_l13] at h
          refine lv_iload hx hb dX4_findSetMinutes_13 (lv_at hl 4 rfl) ?_
          refine lv_bipush (v := (6 : Int32)) hx hb dX4_findSetMinutes_15 (by decide) ?_
          refine lv_icmp_ge (tgt := 48) hx hb dX4_findSetMinutes_17 (by decide) (fun c2 => ?_) (fun c2 => ?_)
          · have h := jx_t h c2
            refine lv_aload_n hx hb dX4_findSetMinutes_48 rfl (lv_at hl 0 rfl) ?_
            refine va_get (D := D) (ci := 4) (v := .ref a_t_setMinutes) (C := RX4) (T := TX4) (N := 3) hx hb hts hi_X4 hown hK hP 0 rfl rfl 1 (by decide) (hts (.fieldLink RX4 15 "TriangleRest$Packer" "setMinutes" "[I") (List.mem_of_getElem? (i := 1) rfl)) (fun _ h9 => h9) rfl dX4_findSetMinutes_49 ?_
            refine lv_iload_n hx hb dX4_findSetMinutes_52 rfl (lv_at hl 2 rfl) ?_
            refine lv_iload_n hx hb dX4_findSetMinutes_53 rfl (lv_at hl 3 rfl) ?_
            obtain ⟨g3, h⟩ := jx_g_of h
            refine va_iast hx hb hK hP hD hS 1 0 rfl rfl (jx_in_of g3) dX4_findSetMinutes_54 (fun H locs hP hD hS => ?_)
            have hP : va_P D vwCl [(a_t, .inr (4, [.ref a_t_rooms, .ref a_t_setMinutes, .ref a_t_fits])), (a_t_setMinutes, .inl (cI, 64, .inl (upd t_setMinutes (Int32.toNatClampNeg x2) x3))), (a_o1, .inr (6, [.ref a_o1_lengths, .ref a_o1_times, .ref a_o1_players, .ref a_o1_minutes, .int o1_sections, .int o1_things, .int o1_noteTold, .int o1_toldSection, .int o1_toldBar])), (a_o1_minutes, .inl (cI, 6, .inl o1_minutes))] H := hP
            have hD : va_D A [(a_t, .inr (4, [.ref a_t_rooms, .ref a_t_setMinutes, .ref a_t_fits])), (a_t_setMinutes, .inl (cI, 64, .inl (upd t_setMinutes (Int32.toNatClampNeg x2) x3))), (a_o1, .inr (6, [.ref a_o1_lengths, .ref a_o1_times, .ref a_o1_players, .ref a_o1_minutes, .int o1_sections, .int o1_things, .int o1_noteTold, .int o1_toldSection, .int o1_toldBar])), (a_o1_minutes, .inl (cI, 6, .inl o1_minutes))] := hD
            refine lv_iinc (v := (x2 + 1)) (lv' := [(2, .int (x2 + 1)), (0, .ref a_t), (1, .ref a_o1), (3, .int x3), (4, .int x4)]) hx hb dX4_findSetMinutes_55 hl (k := 2) rfl rfl (by decide) rfl (fun ls hl => ?_)
            refine lv_goto (tgt := 2) hx hb dX4_findSetMinutes_58 (by decide) ?_
            exact ih_l2 (x2 + 1) (upd t_setMinutes (Int32.toNatClampNeg x2) x3) _ _ _ hP hD hS (lv_sub hl [1, 2, 0] rfl) h
          · have h := jx_f h c2
            refine lv_iload_n hx hb dX4_findSetMinutes_20 rfl (lv_at hl 3 rfl) ?_
            refine lv_iload_n hx hb dX4_findSetMinutes_21 rfl (lv_at hl 2 rfl) ?_
            refine lv_iload hx hb dX4_findSetMinutes_22 (lv_at hl 4 rfl) ?_
            obtain ⟨r4, e5, h⟩ := jx_b1_of h
            refine jx_cSN (o := some (.int r4)) (As := [.int x2, .int x4]) (rest := [.int x3]) ⟨hx, hb, hml, hown, hts⟩ (ct_X11_isIn l x2 x4 r4 e5) ⟨va_cnB 2 hts gX4_findSetMinutes_X11_isIn_n50 rfl rfl rfl (jx_Nm hN 22 rfl) (hts (.initialized RX11) (List.mem_of_getElem? (i := 3) rfl)) (by decide +kernel) ⟨Nat.le_of_ble_eq_true rfl, Nat.le_of_ble_eq_true rfl⟩, (hts (.static yX11_isIn) (List.mem_of_getElem? (i := 2) rfl)), trivial⟩ rfl hl.1 rfl (Nat.le_of_ble_eq_true rfl) dX4_findSetMinutes_24 ⟨Nat.zero_le _, Nat.zero_le _⟩ ?_
            refine lv_if_eq (tgt := 39) hx hb dX4_findSetMinutes_27 (by decide) (fun c6 => ?_) (fun c6 => ?_)
            · have h := jx_t h c6
              refine lv_iconst (v := (0 : Int32)) hx hb dX4_findSetMinutes_39 (by decide) ?_
              exact bl_b40 x2 x4 x3 (0 : Int32) t_setMinutes _ _ _ hP hD hS (lv_sub hl [0, 1, 2, 4] rfl) h
            · have h := jx_f h c6
              refine lv_aload_n hx hb dX4_findSetMinutes_30 rfl (lv_at hl 1 rfl) ?_
              refine lv_iload hx hb dX4_findSetMinutes_31 (lv_at hl 4 rfl) ?_
              obtain ⟨r7, e8, h⟩ := jx_b1_of h
              refine jx_cV (o := some (.int r7)) (As := [.int x4]) (rest := [.int x3]) (b := a_o1) ⟨hx, hb, hml, hown, hts⟩ (ct_X6_minutesOf l D cI cZ cO a_o1 a_o1_lengths a_o1_times a_o1_players a_o1_minutes o1_sections o1_things o1_noteTold o1_toldSection o1_toldBar o1_minutes x4 r7 e8) (cwV 1 hts gX4_findSetMinutes_X6_minutesOf rfl rfl rfl (by decide +kernel) ⟨Nat.le_of_ble_eq_true rfl, Nat.le_of_ble_eq_true rfl⟩) hK hN hP [2, 3] rfl (va_recv hK hP (ci := 6) (q0 := 2) rfl rfl) rfl hl.1 rfl (Nat.le_of_ble_eq_true rfl) dX4_findSetMinutes_33 ⟨Nat.zero_le _, Nat.zero_le _⟩ ?_
              refine lv_goto (tgt := 40) hx hb dX4_findSetMinutes_36 (by decide) ?_
              exact bl_b40 x2 x4 x3 r7 t_setMinutes _ _ _ hP hD hS (lv_sub hl [0, 1, 2, 4] rfl) h
      intro x2 t_setMinutes H locs ls hP hD hS hl h
      rw [mi_X4_findSetMinutes_l2] at h
      refine lv_iload_n hx hb dX4_findSetMinutes_2 rfl (lv_at hl 2 rfl) ?_
      refine lv_bipush (v := (64 : Int32)) hx hb dX4_findSetMinutes_3 (by decide) ?_
      refine lv_icmp_ge (tgt := 61) hx hb dX4_findSetMinutes_5 (by decide) (fun c1 => ?_) (fun c1 => ?_)
      · have h := jx_t h c1
        cases h
        exact hret 61 ls _ _ hP hD hS dX4_findSetMinutes_61
      · have h := jx_f h c1
        refine lv_iconst (v := (0 : Int32)) hx hb dX4_findSetMinutes_8 (by decide) ?_
        refine lv_istore_n (lv' := [(3, .int (0 : Int32)), (0, .ref a_t), (1, .ref a_o1), (2, .int x2)]) hx hb dX4_findSetMinutes_9 rfl hl (by decide) rfl (fun ls hl => ?_)
        refine lv_iconst (v := (0 : Int32)) hx hb dX4_findSetMinutes_10 (by decide) ?_
        refine lv_istore (lv' := [(4, .int (0 : Int32)), (3, .int (0 : Int32)), (0, .ref a_t), (1, .ref a_o1), (2, .int x2)]) hx hb dX4_findSetMinutes_11 hl (by decide) rfl (fun ls hl => ?_)
        exact bl_l13 jx_F x2 (0 : Int32) (0 : Int32) t_setMinutes _ _ _ hP hD hS (lv_sub hl [2, 3, 4, 1, 0] rfl) h
  have h := hm
  unfold mi_X4_findSetMinutes at h
  refine lv_iconst (v := (0 : Int32)) hx hb dX4_findSetMinutes_0 (by decide) ?_
  refine lv_istore_n (lv' := [(2, .int (0 : Int32)), (0, .ref a_t), (1, .ref a_o1)]) hx hb dX4_findSetMinutes_1 rfl hl (by decide) rfl (fun ls hl => ?_)
  exact bl_l2 jx_F (0 : Int32) t_setMinutes _ _ _ hP hD hS (lv_sub hl [1, 2, 0] rfl) h
def mi_X4_doesFit (t_fits : Nat → Int32) (p1 : Int32) (p2 : Int32) : Option (Int32) := if ((p1 * (64 : Int32)) + p2) < 0 then (some ((0 : Int32))) else (if (576 : Int32) ≤ ((p1 * (64 : Int32)) + p2) then (some ((0 : Int32))) else (jx_g (jx_in ((p1 * (64 : Int32)) + p2) 576) (if (t_fits (Int32.toNatClampNeg ((p1 * (64 : Int32)) + p2))) = 0 then (some ((0 : Int32))) else (some ((1 : Int32))))))
abbrev rm_X4_doesFit : Room := { frames := 0, cells := 0, slots := 0, locals := 0 }
set_option maxRecDepth 100000 in
set_option maxHeartbeats 4000000 in
theorem ct_X4_doesFit (l : Launch) (D : va_G) (cI cZ cO : ClassId) (a_t a_t_rooms a_t_setMinutes a_t_fits : Nat) (t_fits : Nat → Int32) (p1 : Int32) (p2 : Int32) (r : Int32) (hm : mi_X4_doesFit t_fits p1 p2 = some r) : Met l yX4_doesFit wsX4_doesFit rm_X4_doesFit (va_Pc [.ref a_t, .int p1, .int p2] (jx_R D (jx_T cI cZ cO) [(a_t, .inr (4, [.ref a_t_rooms, .ref a_t_setMinutes, .ref a_t_fits])), (a_t_fits, .inl (cZ, 576, .inl t_fits))])) (jx_S (some (.int r))) 0 0 (fun _ => False) := by
  refine jx_metR (ty := .boolean) (own := RX4) (cc := cX4_doesFit) (maxL := 4) (by decide) rfl rfl (Nat.le_of_ble_eq_true rfl) ?_
  intro p e s m args below meth c Q ls hx hb hml hown hts hK hN hP hl hret
  have hi_X4 : ∀ w ∈ u_ws RX4 TX4 3, w ∈ wsX4_doesFit := by decide +kernel
  have hl : lv_has ls 4 [(0, .ref a_t), (1, .int p1), (2, .int p2)] := hl
  have h := hm
  unfold mi_X4_doesFit at h
  refine lv_iload_n hx hb dX4_doesFit_0 rfl (lv_at hl 1 rfl) ?_
  refine lv_bipush (v := (64 : Int32)) hx hb dX4_doesFit_1 (by decide) ?_
  refine lv_imul hx hb dX4_doesFit_3 ?_
  refine lv_iload_n hx hb dX4_doesFit_4 rfl (lv_at hl 2 rfl) ?_
  refine lv_iadd hx hb dX4_doesFit_5 ?_
  refine lv_istore_n (lv' := [(3, .int ((p1 * (64 : Int32)) + p2)), (0, .ref a_t), (1, .int p1), (2, .int p2)]) hx hb dX4_doesFit_6 rfl hl (by decide) rfl (fun ls hl => ?_)
  refine lv_iload_n hx hb dX4_doesFit_7 rfl (lv_at hl 0 rfl) ?_
  refine lv_if_lt (tgt := 33) hx hb dX4_doesFit_8 (by decide) (fun c1 => ?_) (fun c1 => ?_)
  · have h := jx_t h c1
    refine lv_iconst (v := (0 : Int32)) hx hb dX4_doesFit_33 (by decide) ?_
    cases h
    exact hret 34 ls rfl dX4_doesFit_34
  · have h := jx_f h c1
    refine lv_iload_n hx hb dX4_doesFit_11 rfl (lv_at hl 0 rfl) ?_
    refine lv_aload_n hx hb dX4_doesFit_12 rfl (lv_at hl 1 rfl) ?_
    refine va_get (D := D) (ci := 4) (v := .ref a_t_fits) (C := RX4) (T := TX4) (N := 3) hx hb hts hi_X4 hown hK hP 0 rfl rfl 2 (by decide) (hts (.fieldLink RX4 18 "TriangleRest$Packer" "fits" "[Z") (List.mem_of_getElem? (i := 1) rfl)) (fun _ h9 => h9) rfl dX4_doesFit_13 ?_
    refine va_alen (v := (576 : Int32)) hx hb hK hP 1 1 rfl (ty := .boolean) rfl rfl dX4_doesFit_16 ?_
    refine lv_icmp_ge (tgt := 33) hx hb dX4_doesFit_17 (by decide) (fun c2 => ?_) (fun c2 => ?_)
    · have h := jx_t h c2
      refine lv_iconst (v := (0 : Int32)) hx hb dX4_doesFit_33 (by decide) ?_
      cases h
      exact hret 34 ls rfl dX4_doesFit_34
    · have h := jx_f h c2
      refine lv_aload_n hx hb dX4_doesFit_20 rfl (lv_at hl 1 rfl) ?_
      refine va_get (D := D) (ci := 4) (v := .ref a_t_fits) (C := RX4) (T := TX4) (N := 3) hx hb hts hi_X4 hown hK hP 0 rfl rfl 2 (by decide) (hts (.fieldLink RX4 18 "TriangleRest$Packer" "fits" "[Z") (List.mem_of_getElem? (i := 1) rfl)) (fun _ h9 => h9) rfl dX4_doesFit_21 ?_
      refine lv_iload_n hx hb dX4_doesFit_24 rfl (lv_at hl 0 rfl) ?_
      obtain ⟨g3, h⟩ := jx_g_of h
      refine va_zald hx hb hK hP 1 1 rfl rfl (jx_in_of g3) dX4_doesFit_25 ?_
      refine lv_if_eq (tgt := 33) hx hb dX4_doesFit_26 (by decide) (fun c4 => ?_) (fun c4 => ?_)
      · have h := jx_t h c4
        refine lv_iconst (v := (0 : Int32)) hx hb dX4_doesFit_33 (by decide) ?_
        cases h
        exact hret 34 ls rfl dX4_doesFit_34
      · have h := jx_f h c4
        refine lv_iconst (v := (1 : Int32)) hx hb dX4_doesFit_29 (by decide) ?_
        refine lv_goto (tgt := 34) hx hb dX4_doesFit_30 (by decide) ?_
        cases h
        exact hret 34 ls rfl dX4_doesFit_34
def mi_X4_minutesOfSet (t_setMinutes : Nat → Int32) (p1 : Int32) : Option (Int32) := if p1 < 0 then (some ((0 : Int32))) else (if (64 : Int32) ≤ p1 then (some ((0 : Int32))) else (jx_g (jx_in p1 64) (some ((t_setMinutes (Int32.toNatClampNeg p1))))))
abbrev rm_X4_minutesOfSet : Room := { frames := 0, cells := 0, slots := 0, locals := 0 }
set_option maxRecDepth 100000 in
set_option maxHeartbeats 4000000 in
theorem ct_X4_minutesOfSet (l : Launch) (D : va_G) (cI cZ cO : ClassId) (a_t a_t_rooms a_t_setMinutes a_t_fits : Nat) (t_setMinutes : Nat → Int32) (p1 : Int32) (r : Int32) (hm : mi_X4_minutesOfSet t_setMinutes p1 = some r) : Met l yX4_minutesOfSet wsX4_minutesOfSet rm_X4_minutesOfSet (va_Pc [.ref a_t, .int p1] (jx_R D (jx_T cI cZ cO) [(a_t, .inr (4, [.ref a_t_rooms, .ref a_t_setMinutes, .ref a_t_fits])), (a_t_setMinutes, .inl (cI, 64, .inl t_setMinutes))])) (jx_S (some (.int r))) 0 0 (fun _ => False) := by
  refine jx_metR (ty := .int) (own := RX4) (cc := cX4_minutesOfSet) (maxL := 2) (by decide) rfl rfl (Nat.le_of_ble_eq_true rfl) ?_
  intro p e s m args below meth c Q ls hx hb hml hown hts hK hN hP hl hret
  have hi_X4 : ∀ w ∈ u_ws RX4 TX4 3, w ∈ wsX4_minutesOfSet := by decide +kernel
  have hl : lv_has ls 2 [(0, .ref a_t), (1, .int p1)] := hl
  have h := hm
  unfold mi_X4_minutesOfSet at h
  refine lv_iload_n hx hb dX4_minutesOfSet_0 rfl (lv_at hl 1 rfl) ?_
  refine lv_if_lt (tgt := 19) hx hb dX4_minutesOfSet_1 (by decide) (fun c1 => ?_) (fun c1 => ?_)
  · have h := jx_t h c1
    refine lv_iconst (v := (0 : Int32)) hx hb dX4_minutesOfSet_19 (by decide) ?_
    cases h
    exact hret 20 ls rfl dX4_minutesOfSet_20
  · have h := jx_f h c1
    refine lv_iload_n hx hb dX4_minutesOfSet_4 rfl (lv_at hl 1 rfl) ?_
    refine lv_bipush (v := (64 : Int32)) hx hb dX4_minutesOfSet_5 (by decide) ?_
    refine lv_icmp_ge (tgt := 19) hx hb dX4_minutesOfSet_7 (by decide) (fun c2 => ?_) (fun c2 => ?_)
    · have h := jx_t h c2
      refine lv_iconst (v := (0 : Int32)) hx hb dX4_minutesOfSet_19 (by decide) ?_
      cases h
      exact hret 20 ls rfl dX4_minutesOfSet_20
    · have h := jx_f h c2
      refine lv_aload_n hx hb dX4_minutesOfSet_10 rfl (lv_at hl 0 rfl) ?_
      refine va_get (D := D) (ci := 4) (v := .ref a_t_setMinutes) (C := RX4) (T := TX4) (N := 3) hx hb hts hi_X4 hown hK hP 0 rfl rfl 1 (by decide) (hts (.fieldLink RX4 15 "TriangleRest$Packer" "setMinutes" "[I") (List.mem_of_getElem? (i := 1) rfl)) (fun _ h9 => h9) rfl dX4_minutesOfSet_11 ?_
      refine lv_iload_n hx hb dX4_minutesOfSet_14 rfl (lv_at hl 1 rfl) ?_
      obtain ⟨g3, h⟩ := jx_g_of h
      refine va_iald hx hb hK hP 1 0 rfl rfl (jx_in_of g3) dX4_minutesOfSet_15 ?_
      refine lv_goto (tgt := 20) hx hb dX4_minutesOfSet_16 (by decide) ?_
      cases h
      exact hret 20 ls rfl dX4_minutesOfSet_20
def mi_X4_fitsWithShare_b45 (p3 : Int32) (k_l14 : Int32 → Option (Int32)) (x4 : Int32) : Option (Int32) := k_l14 ((x4 - (1 : Int32)) &&& p3)
def mi_X4_fitsWithShare_l14 (t_setMinutes : Nat → Int32) (t_fits : Nat → Int32) (p1 : Int32) (p2 : Int32) (p3 : Int32) : Nat → Int32 → Option (Int32)
  | 0, _ => none
  | n + 1, x4 => if x4 ≤ 0 then (some ((0 : Int32))) else (jx_b1 (mi_X4_minutesOfSet t_setMinutes x4) fun r2 => (if p1 < r2 then (mi_X4_fitsWithShare_b45 p3 (mi_X4_fitsWithShare_l14 t_setMinutes t_fits p1 p2 p3 n) x4) else (jx_b1 (mi_X4_doesFit t_fits p2 (p3 &&& (x4 ^^^ (-1 : Int32)))) fun r5 => (if r5 = 0 then (mi_X4_fitsWithShare_b45 p3 (mi_X4_fitsWithShare_l14 t_setMinutes t_fits p1 p2 p3 n) x4) else (some ((1 : Int32)))))))
def mi_X4_fitsWithShare (t_setMinutes : Nat → Int32) (t_fits : Nat → Int32) (p1 : Int32) (p2 : Int32) (p3 : Int32) : Option (Int32) := jx_b1 (mi_X4_doesFit t_fits p2 p3) fun r8 => (if r8 = 0 then (mi_X4_fitsWithShare_l14 t_setMinutes t_fits p1 p2 p3 jx_F p3) else (some ((1 : Int32))))
abbrev rm_X4_fitsWithShare : Room := { frames := 1, cells := 0, slots := 0, locals := 23 }
set_option maxRecDepth 100000 in
set_option maxHeartbeats 4000000 in
theorem ct_X4_fitsWithShare (l : Launch) (D : va_G) (cI cZ cO : ClassId) (a_t a_t_rooms a_t_setMinutes a_t_fits : Nat) (t_setMinutes : Nat → Int32) (t_fits : Nat → Int32) (p1 : Int32) (p2 : Int32) (p3 : Int32) (r : Int32) (hm : mi_X4_fitsWithShare t_setMinutes t_fits p1 p2 p3 = some r) : Met l yX4_fitsWithShare wsX4_fitsWithShare rm_X4_fitsWithShare (va_Pc [.ref a_t, .int p1, .int p2, .int p3] (jx_R D (jx_T cI cZ cO) [(a_t, .inr (4, [.ref a_t_rooms, .ref a_t_setMinutes, .ref a_t_fits])), (a_t_setMinutes, .inl (cI, 64, .inl t_setMinutes)), (a_t_fits, .inl (cZ, 576, .inl t_fits))])) (jx_S (some (.int r))) 0 0 (fun _ => False) := by
  refine jx_metR (ty := .boolean) (own := RX4) (cc := cX4_fitsWithShare) (maxL := 5) (by decide) rfl rfl (Nat.le_of_ble_eq_true rfl) ?_
  intro p e s m args below meth c Q ls hx hb hml hown hts hK hN hP hl hret
  have hl : lv_has ls 5 [(0, .ref a_t), (1, .int p1), (2, .int p2), (3, .int p3)] := hl
  have bl_l14 : ∀ (n : Nat) (x4 : Int32) (ls : Array Slot), lv_has ls 5 [(0, .ref a_t), (1, .int p1), (2, .int p2), (3, .int p3), (4, .int x4)] → mi_X4_fitsWithShare_l14 t_setMinutes t_fits p1 p2 p3 n x4 = some r → W p l e (headSpec wsX4_fitsWithShare rm_X4_fitsWithShare).room s m args below meth c s.heap [] 0 0 Q (F0 m 14 ls []) := by
    intro n
    induction n with
    | zero =>
      intro x4 ls hl h
      rw [mi_X4_fitsWithShare_l14] at h
      cases h
    | succ n_l14 ih_l14 =>
      have bl_b45 : ∀ (x4 : Int32) (ls : Array Slot), lv_has ls 5 [(0, .ref a_t), (1, .int p1), (2, .int p2), (3, .int p3), (4, .int x4)] → mi_X4_fitsWithShare_b45 p3 (mi_X4_fitsWithShare_l14 t_setMinutes t_fits p1 p2 p3 n_l14) x4 = some r → W p l e (headSpec wsX4_fitsWithShare rm_X4_fitsWithShare).room s m args below meth c s.heap [] 0 0 Q (F0 m 45 ls []) := by
        intro x4 ls hl h
        unfold mi_X4_fitsWithShare_b45 at h
        refine lv_iload hx hb dX4_fitsWithShare_45 (lv_at hl 4 rfl) ?_
        refine lv_iconst (v := (1 : Int32)) hx hb dX4_fitsWithShare_47 (by decide) ?_
        refine lv_isub hx hb dX4_fitsWithShare_48 ?_
        refine lv_iload_n hx hb dX4_fitsWithShare_49 rfl (lv_at hl 3 rfl) ?_
        refine lv_iand hx hb dX4_fitsWithShare_50 ?_
        refine lv_istore (lv' := [(4, .int ((x4 - (1 : Int32)) &&& p3)), (0, .ref a_t), (1, .int p1), (2, .int p2), (3, .int p3)]) hx hb dX4_fitsWithShare_51 hl (by decide) rfl (fun ls hl => ?_)
        refine lv_goto (tgt := 14) hx hb dX4_fitsWithShare_53 (by decide) ?_
        exact ih_l14 ((x4 - (1 : Int32)) &&& p3) _ (lv_sub hl [1, 2, 3, 4, 0] rfl) h
      intro x4 ls hl h
      rw [mi_X4_fitsWithShare_l14] at h
      refine lv_iload hx hb dX4_fitsWithShare_14 (lv_at hl 4 rfl) ?_
      refine lv_if_le (tgt := 56) hx hb dX4_fitsWithShare_16 (by decide) (fun c1 => ?_) (fun c1 => ?_)
      · have h := jx_t h c1
        refine lv_iconst (v := (0 : Int32)) hx hb dX4_fitsWithShare_56 (by decide) ?_
        cases h
        exact hret 57 ls rfl dX4_fitsWithShare_57
      · have h := jx_f h c1
        refine lv_aload_n hx hb dX4_fitsWithShare_19 rfl (lv_at hl 0 rfl) ?_
        refine lv_iload hx hb dX4_fitsWithShare_20 (lv_at hl 4 rfl) ?_
        obtain ⟨r2, e3, h⟩ := jx_b1_of h
        refine jx_cV (o := some (.int r2)) (As := [.int x4]) (rest := []) (b := a_t) ⟨hx, hb, hml, hown, hts⟩ (ct_X4_minutesOfSet l D cI cZ cO a_t a_t_rooms a_t_setMinutes a_t_fits t_setMinutes x4 r2 e3) (cwV 1 hts gX4_fitsWithShare_X4_minutesOfSet rfl rfl rfl (by decide +kernel) ⟨Nat.le_of_ble_eq_true rfl, Nat.le_of_ble_eq_true rfl⟩) hK hN hP [0, 1] rfl (va_recv hK hP (ci := 4) (q0 := 0) rfl rfl) rfl hl.1 rfl (Nat.le_of_ble_eq_true rfl) dX4_fitsWithShare_22 ⟨Nat.zero_le _, Nat.zero_le _⟩ ?_
        refine lv_iload_n hx hb dX4_fitsWithShare_25 rfl (lv_at hl 1 rfl) ?_
        refine lv_icmp_gt (tgt := 45) hx hb dX4_fitsWithShare_26 (by decide) (fun c4 => ?_) (fun c4 => ?_)
        · have h := jx_t h c4
          exact bl_b45 x4 _ (lv_sub hl [0, 1, 2, 3, 4] rfl) h
        · have h := jx_f h c4
          refine lv_aload_n hx hb dX4_fitsWithShare_29 rfl (lv_at hl 0 rfl) ?_
          refine lv_iload_n hx hb dX4_fitsWithShare_30 rfl (lv_at hl 2 rfl) ?_
          refine lv_iload_n hx hb dX4_fitsWithShare_31 rfl (lv_at hl 3 rfl) ?_
          refine lv_iload hx hb dX4_fitsWithShare_32 (lv_at hl 4 rfl) ?_
          refine lv_iconst (v := (-1 : Int32)) hx hb dX4_fitsWithShare_34 (by decide) ?_
          refine lv_ixor hx hb dX4_fitsWithShare_35 ?_
          refine lv_iand hx hb dX4_fitsWithShare_36 ?_
          obtain ⟨r5, e6, h⟩ := jx_b1_of h
          refine jx_cV (o := some (.int r5)) (As := [.int p2, .int (p3 &&& (x4 ^^^ (-1 : Int32)))]) (rest := []) (b := a_t) ⟨hx, hb, hml, hown, hts⟩ (ct_X4_doesFit l D cI cZ cO a_t a_t_rooms a_t_setMinutes a_t_fits t_fits p2 (p3 &&& (x4 ^^^ (-1 : Int32))) r5 e6) (cwV 2 hts gX4_fitsWithShare_X4_doesFit rfl rfl rfl (by decide +kernel) ⟨Nat.le_of_ble_eq_true rfl, Nat.le_of_ble_eq_true rfl⟩) hK hN hP [0, 2] rfl (va_recv hK hP (ci := 4) (q0 := 0) rfl rfl) rfl hl.1 rfl (Nat.le_of_ble_eq_true rfl) dX4_fitsWithShare_37 ⟨Nat.zero_le _, Nat.zero_le _⟩ ?_
          refine lv_if_eq (tgt := 45) hx hb dX4_fitsWithShare_40 (by decide) (fun c7 => ?_) (fun c7 => ?_)
          · have h := jx_t h c7
            exact bl_b45 x4 _ (lv_sub hl [0, 1, 2, 3, 4] rfl) h
          · have h := jx_f h c7
            refine lv_iconst (v := (1 : Int32)) hx hb dX4_fitsWithShare_43 (by decide) ?_
            cases h
            exact hret 44 ls rfl dX4_fitsWithShare_44
  have h := hm
  unfold mi_X4_fitsWithShare at h
  refine lv_aload_n hx hb dX4_fitsWithShare_0 rfl (lv_at hl 0 rfl) ?_
  refine lv_iload_n hx hb dX4_fitsWithShare_1 rfl (lv_at hl 2 rfl) ?_
  refine lv_iload_n hx hb dX4_fitsWithShare_2 rfl (lv_at hl 3 rfl) ?_
  obtain ⟨r8, e9, h⟩ := jx_b1_of h
  refine jx_cV (o := some (.int r8)) (As := [.int p2, .int p3]) (rest := []) (b := a_t) ⟨hx, hb, hml, hown, hts⟩ (ct_X4_doesFit l D cI cZ cO a_t a_t_rooms a_t_setMinutes a_t_fits t_fits p2 p3 r8 e9) (cwV 2 hts gX4_fitsWithShare_X4_doesFit rfl rfl rfl (by decide +kernel) ⟨Nat.le_of_ble_eq_true rfl, Nat.le_of_ble_eq_true rfl⟩) hK hN hP [0, 2] rfl (va_recv hK hP (ci := 4) (q0 := 0) rfl rfl) rfl hl.1 rfl (Nat.le_of_ble_eq_true rfl) dX4_fitsWithShare_3 ⟨Nat.zero_le _, Nat.zero_le _⟩ ?_
  refine lv_if_eq (tgt := 11) hx hb dX4_fitsWithShare_6 (by decide) (fun c10 => ?_) (fun c10 => ?_)
  · have h := jx_t h c10
    refine lv_iload_n hx hb dX4_fitsWithShare_11 rfl (lv_at hl 3 rfl) ?_
    refine lv_istore (lv' := [(4, .int p3), (0, .ref a_t), (1, .int p1), (2, .int p2), (3, .int p3)]) hx hb dX4_fitsWithShare_12 hl (by decide) rfl (fun ls hl => ?_)
    exact bl_l14 jx_F p3 _ (lv_sub hl [1, 2, 3, 4, 0] rfl) h
  · have h := jx_f h c10
    refine lv_iconst (v := (1 : Int32)) hx hb dX4_fitsWithShare_9 (by decide) ?_
    cases h
    exact hret 10 ls rfl dX4_fitsWithShare_10
def mi_X4_findFits_b88 (k_l42 : Int32 → Int32 → (Nat → Int32) → Option ((Nat → Int32))) (x2 : Int32) (x3 : Int32) (k1 : Int32) (k2 : Int32) (t_fits : Nat → Int32) : Option ((Nat → Int32)) := jx_g (jx_in k1 576) (k_l42 x2 (x3 + 1) (upd t_fits (Int32.toNatClampNeg k1) (vp_nar .boolean k2)))
def mi_X4_findFits_b87 (k_l42 : Int32 → Int32 → (Nat → Int32) → Option ((Nat → Int32))) (x2 : Int32) (x3 : Int32) (k1 : Int32) (t_fits : Nat → Int32) : Option ((Nat → Int32)) := mi_X4_findFits_b88 k_l42 x2 x3 k1 (0 : Int32) t_fits
def mi_X4_findFits_l42 (t_rooms : Nat → Int32) (t_setMinutes : Nat → Int32) (p1 : Int32) (k_l36 : Int32 → (Nat → Int32) → Option ((Nat → Int32))) : Nat → Int32 → Int32 → (Nat → Int32) → Option ((Nat → Int32))
  | 0, _, _, _ => none
  | n + 1, x2, x3, t_fits => if (64 : Int32) ≤ x3 then (k_l36 (x2 + (-1)) t_fits) else (if (x3 &&& (p1 ^^^ (-1 : Int32))) = 0 then (jx_g (jx_in x2 8) (jx_b1 (mi_X4_fitsWithShare t_setMinutes t_fits (t_rooms (Int32.toNatClampNeg x2)) (x2 + (1 : Int32)) x3) fun r8 => (if r8 = 0 then (mi_X4_findFits_b87 (mi_X4_findFits_l42 t_rooms t_setMinutes p1 k_l36 n) x2 x3 ((x2 * (64 : Int32)) + x3) t_fits) else (mi_X4_findFits_b88 (mi_X4_findFits_l42 t_rooms t_setMinutes p1 k_l36 n) x2 x3 ((x2 * (64 : Int32)) + x3) (1 : Int32) t_fits)))) else (mi_X4_findFits_b87 (mi_X4_findFits_l42 t_rooms t_setMinutes p1 k_l36 n) x2 x3 ((x2 * (64 : Int32)) + x3) t_fits))
def mi_X4_findFits_l36 (t_rooms : Nat → Int32) (t_setMinutes : Nat → Int32) (p1 : Int32) : Nat → Int32 → (Nat → Int32) → Option ((Nat → Int32))
  | 0, _, _ => none
  | n + 1, x2, t_fits => if x2 < 0 then (some (t_fits)) else (mi_X4_findFits_l42 t_rooms t_setMinutes p1 (mi_X4_findFits_l36 t_rooms t_setMinutes p1 n) jx_F x2 (0 : Int32) t_fits)
def mi_X4_findFits_b26 (k_l2 : Int32 → (Nat → Int32) → Option ((Nat → Int32))) (x2 : Int32) (k1 : Int32) (k2 : Int32) (t_fits : Nat → Int32) : Option ((Nat → Int32)) := jx_g (jx_in k1 576) (k_l2 (x2 + 1) (upd t_fits (Int32.toNatClampNeg k1) (vp_nar .boolean k2)))
def mi_X4_findFits_l2 (t_rooms : Nat → Int32) (t_setMinutes : Nat → Int32) (p1 : Int32) : Nat → Int32 → (Nat → Int32) → Option ((Nat → Int32))
  | 0, _, _ => none
  | n + 1, x2, t_fits => if (64 : Int32) ≤ x2 then (mi_X4_findFits_l36 t_rooms t_setMinutes p1 jx_F (7 : Int32) t_fits) else (if x2 = 0 then (mi_X4_findFits_b26 (mi_X4_findFits_l2 t_rooms t_setMinutes p1 n) x2 ((512 : Int32) + x2) (1 : Int32) t_fits) else (mi_X4_findFits_b26 (mi_X4_findFits_l2 t_rooms t_setMinutes p1 n) x2 ((512 : Int32) + x2) (0 : Int32) t_fits))
def mi_X4_findFits (t_rooms : Nat → Int32) (t_setMinutes : Nat → Int32) (t_fits : Nat → Int32) (p1 : Int32) : Option ((Nat → Int32)) := mi_X4_findFits_l2 t_rooms t_setMinutes p1 jx_F (0 : Int32) t_fits
abbrev rm_X4_findFits : Room := { frames := 2, cells := 0, slots := 0, locals := 47 }
set_option maxRecDepth 100000 in
set_option maxHeartbeats 4000000 in
theorem ct_X4_findFits (l : Launch) (D : va_G) (cI cZ cO : ClassId) (a_t a_t_rooms a_t_setMinutes a_t_fits : Nat) (sz : Nat) (t_rooms : Nat → Int32) (t_setMinutes : Nat → Int32) (t_fits : Nat → Int32) (p1 : Int32) (z_t_fits : Nat → Int32) (hm : mi_X4_findFits t_rooms t_setMinutes t_fits p1 = some z_t_fits) : Met l yX4_findFits wsX4_findFits rm_X4_findFits (va_Pc [.ref a_t, .int p1] (jx_W D (jx_T cI cZ cO) sz [(a_t, .inr (4, [.ref a_t_rooms, .ref a_t_setMinutes, .ref a_t_fits])), (a_t_rooms, .inl (cI, 8, .inl t_rooms)), (a_t_setMinutes, .inl (cI, 64, .inl t_setMinutes)), (a_t_fits, .inl (cZ, 576, .inl t_fits))])) (jx_Q none D [(a_t, .inr (4, [.ref a_t_rooms, .ref a_t_setMinutes, .ref a_t_fits])), (a_t_rooms, .inl (cI, 8, .inl t_rooms)), (a_t_setMinutes, .inl (cI, 64, .inl t_setMinutes)), (a_t_fits, .inl (cZ, 576, .inl z_t_fits))] (va_A [(a_t, .inr (4, [.ref a_t_rooms, .ref a_t_setMinutes, .ref a_t_fits])), (a_t_rooms, .inl (cI, 8, .inl t_rooms)), (a_t_setMinutes, .inl (cI, 64, .inl t_setMinutes)), (a_t_fits, .inl (cZ, 576, .inl t_fits))] sz)) 0 0 (va_A [(a_t, .inr (4, [.ref a_t_rooms, .ref a_t_setMinutes, .ref a_t_fits])), (a_t_rooms, .inl (cI, 8, .inl t_rooms)), (a_t_setMinutes, .inl (cI, 64, .inl t_setMinutes)), (a_t_fits, .inl (cZ, 576, .inl t_fits))] sz) := by
  refine jx_metV (own := RX4) (cc := cX4_findFits) (maxL := 4) (by decide) rfl rfl (Nat.le_of_ble_eq_true rfl) ?_
  intro p e s m args below meth c Q ls A hx hb hml hown hts hK hN hA hP hD hS hl hret
  have hi_X4 : ∀ w ∈ u_ws RX4 TX4 3, w ∈ wsX4_findFits := by decide +kernel
  have hl : lv_has ls 4 [(0, .ref a_t), (1, .int p1)] := hl
  have bl_l36 : ∀ (n : Nat) (x2 : Int32) (t_fits : Nat → Int32) (H : Heap) (locs : List Loc) (ls : Array Slot), va_P D vwCl [(a_t, .inr (4, [.ref a_t_rooms, .ref a_t_setMinutes, .ref a_t_fits])), (a_t_rooms, .inl (cI, 8, .inl t_rooms)), (a_t_setMinutes, .inl (cI, 64, .inl t_setMinutes)), (a_t_fits, .inl (cZ, 576, .inl t_fits))] H → va_D A [(a_t, .inr (4, [.ref a_t_rooms, .ref a_t_setMinutes, .ref a_t_fits])), (a_t_rooms, .inl (cI, 8, .inl t_rooms)), (a_t_setMinutes, .inl (cI, 64, .inl t_setMinutes)), (a_t_fits, .inl (cZ, 576, .inl t_fits))] → va_S A s.heap H locs → lv_has ls 4 [(0, .ref a_t), (1, .int p1), (2, .int x2)] → mi_X4_findFits_l36 t_rooms t_setMinutes p1 n x2 t_fits = some z_t_fits → W p l e (headSpec wsX4_findFits rm_X4_findFits).room s m args below meth c H locs 0 0 Q (F0 m 36 ls []) := by
    intro n
    induction n with
    | zero =>
      intro x2 t_fits H locs ls hP hD hS hl h
      rw [mi_X4_findFits_l36] at h
      cases h
    | succ n_l36 ih_l36 =>
      have bl_l42 : ∀ (n : Nat) (x2 : Int32) (x3 : Int32) (t_fits : Nat → Int32) (H : Heap) (locs : List Loc) (ls : Array Slot), va_P D vwCl [(a_t, .inr (4, [.ref a_t_rooms, .ref a_t_setMinutes, .ref a_t_fits])), (a_t_rooms, .inl (cI, 8, .inl t_rooms)), (a_t_setMinutes, .inl (cI, 64, .inl t_setMinutes)), (a_t_fits, .inl (cZ, 576, .inl t_fits))] H → va_D A [(a_t, .inr (4, [.ref a_t_rooms, .ref a_t_setMinutes, .ref a_t_fits])), (a_t_rooms, .inl (cI, 8, .inl t_rooms)), (a_t_setMinutes, .inl (cI, 64, .inl t_setMinutes)), (a_t_fits, .inl (cZ, 576, .inl t_fits))] → va_S A s.heap H locs → lv_has ls 4 [(0, .ref a_t), (1, .int p1), (2, .int x2), (3, .int x3)] → mi_X4_findFits_l42 t_rooms t_setMinutes p1 (mi_X4_findFits_l36 t_rooms t_setMinutes p1 n_l36) n x2 x3 t_fits = some z_t_fits → W p l e (headSpec wsX4_findFits rm_X4_findFits).room s m args below meth c H locs 0 0 Q (F0 m 42 ls []) := by
        intro n
        induction n with
        | zero =>
          intro x2 x3 t_fits H locs ls hP hD hS hl h
          rw [mi_X4_findFits_l42] at h
          cases h
        | succ n_l42 ih_l42 =>
          have bl_b88 : ∀ (x2 : Int32) (x3 : Int32) (k1 : Int32) (k2 : Int32) (t_fits : Nat → Int32) (H : Heap) (locs : List Loc) (ls : Array Slot), va_P D vwCl [(a_t, .inr (4, [.ref a_t_rooms, .ref a_t_setMinutes, .ref a_t_fits])), (a_t_rooms, .inl (cI, 8, .inl t_rooms)), (a_t_setMinutes, .inl (cI, 64, .inl t_setMinutes)), (a_t_fits, .inl (cZ, 576, .inl t_fits))] H → va_D A [(a_t, .inr (4, [.ref a_t_rooms, .ref a_t_setMinutes, .ref a_t_fits])), (a_t_rooms, .inl (cI, 8, .inl t_rooms)), (a_t_setMinutes, .inl (cI, 64, .inl t_setMinutes)), (a_t_fits, .inl (cZ, 576, .inl t_fits))] → va_S A s.heap H locs → lv_has ls 4 [(0, .ref a_t), (1, .int p1), (2, .int x2), (3, .int x3)] → mi_X4_findFits_b88 (mi_X4_findFits_l42 t_rooms t_setMinutes p1 (mi_X4_findFits_l36 t_rooms t_setMinutes p1 n_l36) n_l42) x2 x3 k1 k2 t_fits = some z_t_fits → W p l e (headSpec wsX4_findFits rm_X4_findFits).room s m args below meth c H locs 0 0 Q (F0 m 88 ls [.int k2, .int k1, .ref a_t_fits]) := by
            intro x2 x3 k1 k2 t_fits H locs ls hP hD hS hl h
            unfold mi_X4_findFits_b88 at h
            obtain ⟨g11, h⟩ := jx_g_of h
            refine va_zast hx hb hK hP hD hS 3 1 rfl rfl (jx_in_of g11) dX4_findFits_88 (fun H locs hP hD hS => ?_)
            have hP : va_P D vwCl [(a_t, .inr (4, [.ref a_t_rooms, .ref a_t_setMinutes, .ref a_t_fits])), (a_t_rooms, .inl (cI, 8, .inl t_rooms)), (a_t_setMinutes, .inl (cI, 64, .inl t_setMinutes)), (a_t_fits, .inl (cZ, 576, .inl (upd t_fits (Int32.toNatClampNeg k1) (vp_nar .boolean k2))))] H := hP
            have hD : va_D A [(a_t, .inr (4, [.ref a_t_rooms, .ref a_t_setMinutes, .ref a_t_fits])), (a_t_rooms, .inl (cI, 8, .inl t_rooms)), (a_t_setMinutes, .inl (cI, 64, .inl t_setMinutes)), (a_t_fits, .inl (cZ, 576, .inl (upd t_fits (Int32.toNatClampNeg k1) (vp_nar .boolean k2))))] := hD
            refine lv_iinc (v := (x3 + 1)) (lv' := [(3, .int (x3 + 1)), (0, .ref a_t), (1, .int p1), (2, .int x2)]) hx hb dX4_findFits_89 hl (k := 3) rfl rfl (by decide) rfl (fun ls hl => ?_)
            refine lv_goto (tgt := 42) hx hb dX4_findFits_92 (by decide) ?_
            exact ih_l42 x2 (x3 + 1) (upd t_fits (Int32.toNatClampNeg k1) (vp_nar .boolean k2)) _ _ _ hP hD hS (lv_sub hl [1, 2, 3, 0] rfl) h
          have bl_b87 : ∀ (x2 : Int32) (x3 : Int32) (k1 : Int32) (t_fits : Nat → Int32) (H : Heap) (locs : List Loc) (ls : Array Slot), va_P D vwCl [(a_t, .inr (4, [.ref a_t_rooms, .ref a_t_setMinutes, .ref a_t_fits])), (a_t_rooms, .inl (cI, 8, .inl t_rooms)), (a_t_setMinutes, .inl (cI, 64, .inl t_setMinutes)), (a_t_fits, .inl (cZ, 576, .inl t_fits))] H → va_D A [(a_t, .inr (4, [.ref a_t_rooms, .ref a_t_setMinutes, .ref a_t_fits])), (a_t_rooms, .inl (cI, 8, .inl t_rooms)), (a_t_setMinutes, .inl (cI, 64, .inl t_setMinutes)), (a_t_fits, .inl (cZ, 576, .inl t_fits))] → va_S A s.heap H locs → lv_has ls 4 [(0, .ref a_t), (1, .int p1), (2, .int x2), (3, .int x3)] → mi_X4_findFits_b87 (mi_X4_findFits_l42 t_rooms t_setMinutes p1 (mi_X4_findFits_l36 t_rooms t_setMinutes p1 n_l36) n_l42) x2 x3 k1 t_fits = some z_t_fits → W p l e (headSpec wsX4_findFits rm_X4_findFits).room s m args below meth c H locs 0 0 Q (F0 m 87 ls [.int k1, .ref a_t_fits]) := by
            intro x2 x3 k1 t_fits H locs ls hP hD hS hl h
            unfold mi_X4_findFits_b87 at h
            refine lv_iconst (v := (0 : Int32)) hx hb dX4_findFits_87 (by decide) ?_
            exact bl_b88 x2 x3 k1 (0 : Int32) t_fits _ _ _ hP hD hS (lv_sub hl [0, 1, 2, 3] rfl) h
          intro x2 x3 t_fits H locs ls hP hD hS hl h
          rw [mi_X4_findFits_l42] at h
          refine lv_iload_n hx hb dX4_findFits_42 rfl (lv_at hl 3 rfl) ?_
          refine lv_bipush (v := (64 : Int32)) hx hb dX4_findFits_43 (by decide) ?_
          refine lv_icmp_ge (tgt := 95) hx hb dX4_findFits_45 (by decide) (fun c5 => ?_) (fun c5 => ?_)
          · have h := jx_t h c5
            refine lv_iinc (v := (x2 + (-1))) (lv' := [(2, .int (x2 + (-1))), (0, .ref a_t), (1, .int p1), (3, .int x3)]) hx hb dX4_findFits_95 hl (k := 2) rfl rfl (by decide) rfl (fun ls hl => ?_)
            refine lv_goto (tgt := 36) hx hb dX4_findFits_98 (by decide) ?_
            exact ih_l36 (x2 + (-1)) t_fits _ _ _ hP hD hS (lv_sub hl [1, 2, 0] rfl) h
          · have h := jx_f h c5
            refine lv_aload_n hx hb dX4_findFits_48 rfl (lv_at hl 0 rfl) ?_
            refine va_get (D := D) (ci := 4) (v := .ref a_t_fits) (C := RX4) (T := TX4) (N := 3) hx hb hts hi_X4 hown hK hP 0 rfl rfl 2 (by decide) (hts (.fieldLink RX4 18 "TriangleRest$Packer" "fits" "[Z") (List.mem_of_getElem? (i := 1) rfl)) (fun _ h9 => h9) rfl dX4_findFits_49 ?_
            refine lv_iload_n hx hb dX4_findFits_52 rfl (lv_at hl 2 rfl) ?_
            refine lv_bipush (v := (64 : Int32)) hx hb dX4_findFits_53 (by decide) ?_
            refine lv_imul hx hb dX4_findFits_55 ?_
            refine lv_iload_n hx hb dX4_findFits_56 rfl (lv_at hl 3 rfl) ?_
            refine lv_iadd hx hb dX4_findFits_57 ?_
            refine lv_iload_n hx hb dX4_findFits_58 rfl (lv_at hl 3 rfl) ?_
            refine lv_iload_n hx hb dX4_findFits_59 rfl (lv_at hl 1 rfl) ?_
            refine lv_iconst (v := (-1 : Int32)) hx hb dX4_findFits_60 (by decide) ?_
            refine lv_ixor hx hb dX4_findFits_61 ?_
            refine lv_iand hx hb dX4_findFits_62 ?_
            refine lv_if_ne (tgt := 87) hx hb dX4_findFits_63 (by decide) (fun c6 => ?_) (fun c6 => ?_)
            · have h := jx_f h c6
              exact bl_b87 x2 x3 ((x2 * (64 : Int32)) + x3) t_fits _ _ _ hP hD hS (lv_sub hl [0, 1, 2, 3] rfl) h
            · have h := jx_t h c6
              refine lv_aload_n hx hb dX4_findFits_66 rfl (lv_at hl 0 rfl) ?_
              refine lv_aload_n hx hb dX4_findFits_67 rfl (lv_at hl 0 rfl) ?_
              refine va_get (D := D) (ci := 4) (v := .ref a_t_rooms) (C := RX4) (T := TX4) (N := 3) hx hb hts hi_X4 hown hK hP 0 rfl rfl 0 (by decide) (hts (.fieldLink RX4 9 "TriangleRest$Packer" "rooms" "[I") (List.mem_of_getElem? (i := 2) rfl)) (fun _ h9 => h9) rfl dX4_findFits_68 ?_
              refine lv_iload_n hx hb dX4_findFits_71 rfl (lv_at hl 2 rfl) ?_
              obtain ⟨g7, h⟩ := jx_g_of h
              refine va_iald hx hb hK hP 1 0 rfl rfl (jx_in_of g7) dX4_findFits_72 ?_
              refine lv_iload_n hx hb dX4_findFits_73 rfl (lv_at hl 2 rfl) ?_
              refine lv_iconst (v := (1 : Int32)) hx hb dX4_findFits_74 (by decide) ?_
              refine lv_iadd hx hb dX4_findFits_75 ?_
              refine lv_iload_n hx hb dX4_findFits_76 rfl (lv_at hl 3 rfl) ?_
              obtain ⟨r8, e9, h⟩ := jx_b1_of h
              refine jx_cV (o := some (.int r8)) (As := [.int (t_rooms (Int32.toNatClampNeg x2)), .int (x2 + (1 : Int32)), .int x3]) (rest := [.int ((x2 * (64 : Int32)) + x3), .ref a_t_fits]) (b := a_t) ⟨hx, hb, hml, hown, hts⟩ (ct_X4_fitsWithShare l D cI cZ cO a_t a_t_rooms a_t_setMinutes a_t_fits t_setMinutes t_fits (t_rooms (Int32.toNatClampNeg x2)) (x2 + (1 : Int32)) x3 r8 e9) (cwV 3 hts gX4_findFits_X4_fitsWithShare rfl rfl rfl (by decide +kernel) ⟨Nat.le_of_ble_eq_true rfl, Nat.le_of_ble_eq_true rfl⟩) hK hN hP [0, 2, 3] rfl (va_recv hK hP (ci := 4) (q0 := 0) rfl rfl) rfl hl.1 rfl (Nat.le_of_ble_eq_true rfl) dX4_findFits_77 ⟨Nat.zero_le _, Nat.zero_le _⟩ ?_
              refine lv_if_eq (tgt := 87) hx hb dX4_findFits_80 (by decide) (fun c10 => ?_) (fun c10 => ?_)
              · have h := jx_t h c10
                exact bl_b87 x2 x3 ((x2 * (64 : Int32)) + x3) t_fits _ _ _ hP hD hS (lv_sub hl [0, 1, 2, 3] rfl) h
              · have h := jx_f h c10
                refine lv_iconst (v := (1 : Int32)) hx hb dX4_findFits_83 (by decide) ?_
                refine lv_goto (tgt := 88) hx hb dX4_findFits_84 (by decide) ?_
                exact bl_b88 x2 x3 ((x2 * (64 : Int32)) + x3) (1 : Int32) t_fits _ _ _ hP hD hS (lv_sub hl [0, 1, 2, 3] rfl) h
      intro x2 t_fits H locs ls hP hD hS hl h
      rw [mi_X4_findFits_l36] at h
      refine lv_iload_n hx hb dX4_findFits_36 rfl (lv_at hl 2 rfl) ?_
      refine lv_if_lt (tgt := 101) hx hb dX4_findFits_37 (by decide) (fun c4 => ?_) (fun c4 => ?_)
      · have h := jx_t h c4
        cases h
        exact hret 101 ls _ _ hP hD hS dX4_findFits_101
      · have h := jx_f h c4
        refine lv_iconst (v := (0 : Int32)) hx hb dX4_findFits_40 (by decide) ?_
        refine lv_istore_n (lv' := [(3, .int (0 : Int32)), (0, .ref a_t), (1, .int p1), (2, .int x2)]) hx hb dX4_findFits_41 rfl hl (by decide) rfl (fun ls hl => ?_)
        exact bl_l42 jx_F x2 (0 : Int32) t_fits _ _ _ hP hD hS (lv_sub hl [1, 2, 3, 0] rfl) h
  have bl_l2 : ∀ (n : Nat) (x2 : Int32) (t_fits : Nat → Int32) (H : Heap) (locs : List Loc) (ls : Array Slot), va_P D vwCl [(a_t, .inr (4, [.ref a_t_rooms, .ref a_t_setMinutes, .ref a_t_fits])), (a_t_rooms, .inl (cI, 8, .inl t_rooms)), (a_t_setMinutes, .inl (cI, 64, .inl t_setMinutes)), (a_t_fits, .inl (cZ, 576, .inl t_fits))] H → va_D A [(a_t, .inr (4, [.ref a_t_rooms, .ref a_t_setMinutes, .ref a_t_fits])), (a_t_rooms, .inl (cI, 8, .inl t_rooms)), (a_t_setMinutes, .inl (cI, 64, .inl t_setMinutes)), (a_t_fits, .inl (cZ, 576, .inl t_fits))] → va_S A s.heap H locs → lv_has ls 4 [(0, .ref a_t), (1, .int p1), (2, .int x2)] → mi_X4_findFits_l2 t_rooms t_setMinutes p1 n x2 t_fits = some z_t_fits → W p l e (headSpec wsX4_findFits rm_X4_findFits).room s m args below meth c H locs 0 0 Q (F0 m 2 ls []) := by
    intro n
    induction n with
    | zero =>
      intro x2 t_fits H locs ls hP hD hS hl h
      rw [mi_X4_findFits_l2] at h
      cases h
    | succ n_l2 ih_l2 =>
      have bl_b26 : ∀ (x2 : Int32) (k1 : Int32) (k2 : Int32) (t_fits : Nat → Int32) (H : Heap) (locs : List Loc) (ls : Array Slot), va_P D vwCl [(a_t, .inr (4, [.ref a_t_rooms, .ref a_t_setMinutes, .ref a_t_fits])), (a_t_rooms, .inl (cI, 8, .inl t_rooms)), (a_t_setMinutes, .inl (cI, 64, .inl t_setMinutes)), (a_t_fits, .inl (cZ, 576, .inl t_fits))] H → va_D A [(a_t, .inr (4, [.ref a_t_rooms, .ref a_t_setMinutes, .ref a_t_fits])), (a_t_rooms, .inl (cI, 8, .inl t_rooms)), (a_t_setMinutes, .inl (cI, 64, .inl t_setMinutes)), (a_t_fits, .inl (cZ, 576, .inl t_fits))] → va_S A s.heap H locs → lv_has ls 4 [(0, .ref a_t), (1, .int p1), (2, .int x2)] → mi_X4_findFits_b26 (mi_X4_findFits_l2 t_rooms t_setMinutes p1 n_l2) x2 k1 k2 t_fits = some z_t_fits → W p l e (headSpec wsX4_findFits rm_X4_findFits).room s m args below meth c H locs 0 0 Q (F0 m 26 ls [.int k2, .int k1, .ref a_t_fits]) := by
        intro x2 k1 k2 t_fits H locs ls hP hD hS hl h
        unfold mi_X4_findFits_b26 at h
        obtain ⟨g3, h⟩ := jx_g_of h
        refine va_zast hx hb hK hP hD hS 3 1 rfl rfl (jx_in_of g3) dX4_findFits_26 (fun H locs hP hD hS => ?_)
        have hP : va_P D vwCl [(a_t, .inr (4, [.ref a_t_rooms, .ref a_t_setMinutes, .ref a_t_fits])), (a_t_rooms, .inl (cI, 8, .inl t_rooms)), (a_t_setMinutes, .inl (cI, 64, .inl t_setMinutes)), (a_t_fits, .inl (cZ, 576, .inl (upd t_fits (Int32.toNatClampNeg k1) (vp_nar .boolean k2))))] H := hP
        have hD : va_D A [(a_t, .inr (4, [.ref a_t_rooms, .ref a_t_setMinutes, .ref a_t_fits])), (a_t_rooms, .inl (cI, 8, .inl t_rooms)), (a_t_setMinutes, .inl (cI, 64, .inl t_setMinutes)), (a_t_fits, .inl (cZ, 576, .inl (upd t_fits (Int32.toNatClampNeg k1) (vp_nar .boolean k2))))] := hD
        refine lv_iinc (v := (x2 + 1)) (lv' := [(2, .int (x2 + 1)), (0, .ref a_t), (1, .int p1)]) hx hb dX4_findFits_27 hl (k := 2) rfl rfl (by decide) rfl (fun ls hl => ?_)
        refine lv_goto (tgt := 2) hx hb dX4_findFits_30 (by decide) ?_
        exact ih_l2 (x2 + 1) (upd t_fits (Int32.toNatClampNeg k1) (vp_nar .boolean k2)) _ _ _ hP hD hS (lv_sub hl [1, 2, 0] rfl) h
      intro x2 t_fits H locs ls hP hD hS hl h
      rw [mi_X4_findFits_l2] at h
      refine lv_iload_n hx hb dX4_findFits_2 rfl (lv_at hl 2 rfl) ?_
      refine lv_bipush (v := (64 : Int32)) hx hb dX4_findFits_3 (by decide) ?_
      refine lv_icmp_ge (tgt := 33) hx hb dX4_findFits_5 (by decide) (fun c1 => ?_) (fun c1 => ?_)
      · have h := jx_t h c1
        refine lv_bipush (v := (7 : Int32)) hx hb dX4_findFits_33 (by decide) ?_
        refine lv_istore_n (lv' := [(2, .int (7 : Int32)), (0, .ref a_t), (1, .int p1)]) hx hb dX4_findFits_35 rfl hl (by decide) rfl (fun ls hl => ?_)
        exact bl_l36 jx_F (7 : Int32) t_fits _ _ _ hP hD hS (lv_sub hl [1, 2, 0] rfl) h
      · have h := jx_f h c1
        refine lv_aload_n hx hb dX4_findFits_8 rfl (lv_at hl 0 rfl) ?_
        refine va_get (D := D) (ci := 4) (v := .ref a_t_fits) (C := RX4) (T := TX4) (N := 3) hx hb hts hi_X4 hown hK hP 0 rfl rfl 2 (by decide) (hts (.fieldLink RX4 18 "TriangleRest$Packer" "fits" "[Z") (List.mem_of_getElem? (i := 1) rfl)) (fun _ h9 => h9) rfl dX4_findFits_9 ?_
        refine lv_sipush (v := (512 : Int32)) hx hb dX4_findFits_12 (by decide) ?_
        refine lv_iload_n hx hb dX4_findFits_15 rfl (lv_at hl 2 rfl) ?_
        refine lv_iadd hx hb dX4_findFits_16 ?_
        refine lv_iload_n hx hb dX4_findFits_17 rfl (lv_at hl 2 rfl) ?_
        refine lv_if_ne (tgt := 25) hx hb dX4_findFits_18 (by decide) (fun c2 => ?_) (fun c2 => ?_)
        · have h := jx_f h c2
          refine lv_iconst (v := (0 : Int32)) hx hb dX4_findFits_25 (by decide) ?_
          exact bl_b26 x2 ((512 : Int32) + x2) (0 : Int32) t_fits _ _ _ hP hD hS (lv_sub hl [0, 1, 2] rfl) h
        · have h := jx_t h c2
          refine lv_iconst (v := (1 : Int32)) hx hb dX4_findFits_21 (by decide) ?_
          refine lv_goto (tgt := 26) hx hb dX4_findFits_22 (by decide) ?_
          exact bl_b26 x2 ((512 : Int32) + x2) (1 : Int32) t_fits _ _ _ hP hD hS (lv_sub hl [0, 1, 2] rfl) h
  have h := hm
  unfold mi_X4_findFits at h
  refine lv_iconst (v := (0 : Int32)) hx hb dX4_findFits_0 (by decide) ?_
  refine lv_istore_n (lv' := [(2, .int (0 : Int32)), (0, .ref a_t), (1, .int p1)]) hx hb dX4_findFits_1 rfl hl (by decide) rfl (fun ls hl => ?_)
  exact bl_l2 jx_F (0 : Int32) t_fits _ _ _ hP hD hS (lv_sub hl [1, 2, 0] rfl) h
def mi_X4_takeLowestRoom_b54 (k_l2 : Int32 → (Nat → Int32) → (Nat → Int32) → Option (Int32 × (Nat → Int32) × (Nat → Int32))) (x3 : Int32) (t_rooms : Nat → Int32) (t_fits : Nat → Int32) : Option (Int32 × (Nat → Int32) × (Nat → Int32)) := k_l2 (x3 + 1) t_rooms t_fits
def mi_X4_takeLowestRoom_l2 (t_setMinutes : Nat → Int32) (p1 : Int32) (p2 : Int32) : Nat → Int32 → (Nat → Int32) → (Nat → Int32) → Option (Int32 × (Nat → Int32) × (Nat → Int32))
  | 0, _, _, _ => none
  | n + 1, x3, t_rooms, t_fits => if (8 : Int32) ≤ x3 then (some ((-9 : Int32), t_rooms, t_fits)) else (jx_g (jx_in x3 8) (if (t_rooms (Int32.toNatClampNeg x3)) < p1 then (mi_X4_takeLowestRoom_b54 (mi_X4_takeLowestRoom_l2 t_setMinutes p1 p2 n) x3 t_rooms t_fits) else (jx_g (jx_in x3 8) (jx_g (jx_in x3 8) (jx_b1 (mi_X4_findFits (upd t_rooms (Int32.toNatClampNeg x3) ((t_rooms (Int32.toNatClampNeg x3)) - p1)) t_setMinutes t_fits p2) fun t_fits_6 => (jx_b1 (mi_X4_doesFit t_fits_6 (0 : Int32) p2) fun r8 => (if r8 = 0 then (jx_g (jx_in x3 8) (jx_g (jx_in x3 8) (mi_X4_takeLowestRoom_b54 (mi_X4_takeLowestRoom_l2 t_setMinutes p1 p2 n) x3 (upd (upd t_rooms (Int32.toNatClampNeg x3) ((t_rooms (Int32.toNatClampNeg x3)) - p1)) (Int32.toNatClampNeg x3) (((upd t_rooms (Int32.toNatClampNeg x3) ((t_rooms (Int32.toNatClampNeg x3)) - p1)) (Int32.toNatClampNeg x3)) + p1)) t_fits_6))) else (some (x3, (upd t_rooms (Int32.toNatClampNeg x3) ((t_rooms (Int32.toNatClampNeg x3)) - p1)), t_fits_6)))))))))
def mi_X4_takeLowestRoom (t_rooms : Nat → Int32) (t_setMinutes : Nat → Int32) (t_fits : Nat → Int32) (p1 : Int32) (p2 : Int32) : Option (Int32 × (Nat → Int32) × (Nat → Int32)) := mi_X4_takeLowestRoom_l2 t_setMinutes p1 p2 jx_F (0 : Int32) t_rooms t_fits
abbrev rm_X4_takeLowestRoom : Room := { frames := 3, cells := 0, slots := 0, locals := 70 }
set_option maxRecDepth 100000 in
set_option maxHeartbeats 4000000 in
theorem ct_X4_takeLowestRoom (l : Launch) (D : va_G) (cI cZ cO : ClassId) (a_t a_t_rooms a_t_setMinutes a_t_fits : Nat) (sz : Nat) (t_rooms : Nat → Int32) (t_setMinutes : Nat → Int32) (t_fits : Nat → Int32) (p1 : Int32) (p2 : Int32) (r : Int32) (z_t_rooms : Nat → Int32) (z_t_fits : Nat → Int32) (hm : mi_X4_takeLowestRoom t_rooms t_setMinutes t_fits p1 p2 = some (r, z_t_rooms, z_t_fits)) : Met l yX4_takeLowestRoom wsX4_takeLowestRoom rm_X4_takeLowestRoom (va_Pc [.ref a_t, .int p1, .int p2] (jx_W D (jx_T cI cZ cO) sz [(a_t, .inr (4, [.ref a_t_rooms, .ref a_t_setMinutes, .ref a_t_fits])), (a_t_rooms, .inl (cI, 8, .inl t_rooms)), (a_t_setMinutes, .inl (cI, 64, .inl t_setMinutes)), (a_t_fits, .inl (cZ, 576, .inl t_fits))])) (jx_Q (some (.int r)) D [(a_t, .inr (4, [.ref a_t_rooms, .ref a_t_setMinutes, .ref a_t_fits])), (a_t_rooms, .inl (cI, 8, .inl z_t_rooms)), (a_t_setMinutes, .inl (cI, 64, .inl t_setMinutes)), (a_t_fits, .inl (cZ, 576, .inl z_t_fits))] (va_A [(a_t, .inr (4, [.ref a_t_rooms, .ref a_t_setMinutes, .ref a_t_fits])), (a_t_rooms, .inl (cI, 8, .inl t_rooms)), (a_t_setMinutes, .inl (cI, 64, .inl t_setMinutes)), (a_t_fits, .inl (cZ, 576, .inl t_fits))] sz)) 0 0 (va_A [(a_t, .inr (4, [.ref a_t_rooms, .ref a_t_setMinutes, .ref a_t_fits])), (a_t_rooms, .inl (cI, 8, .inl t_rooms)), (a_t_setMinutes, .inl (cI, 64, .inl t_setMinutes)), (a_t_fits, .inl (cZ, 576, .inl t_fits))] sz) := by
  refine jx_metW (ty := .int) (own := RX4) (cc := cX4_takeLowestRoom) (maxL := 4) (by decide) rfl rfl (Nat.le_of_ble_eq_true rfl) ?_
  intro p e s m args below meth c Q ls A hx hb hml hown hts hK hN hA hP hD hS hl hret
  have hi_X4 : ∀ w ∈ u_ws RX4 TX4 3, w ∈ wsX4_takeLowestRoom := by decide +kernel
  have hl : lv_has ls 4 [(0, .ref a_t), (1, .int p1), (2, .int p2)] := hl
  have bl_l2 : ∀ (n : Nat) (x3 : Int32) (t_rooms : Nat → Int32) (t_fits : Nat → Int32) (H : Heap) (locs : List Loc) (ls : Array Slot), va_P D vwCl [(a_t, .inr (4, [.ref a_t_rooms, .ref a_t_setMinutes, .ref a_t_fits])), (a_t_rooms, .inl (cI, 8, .inl t_rooms)), (a_t_setMinutes, .inl (cI, 64, .inl t_setMinutes)), (a_t_fits, .inl (cZ, 576, .inl t_fits))] H → va_D A [(a_t, .inr (4, [.ref a_t_rooms, .ref a_t_setMinutes, .ref a_t_fits])), (a_t_rooms, .inl (cI, 8, .inl t_rooms)), (a_t_setMinutes, .inl (cI, 64, .inl t_setMinutes)), (a_t_fits, .inl (cZ, 576, .inl t_fits))] → va_S A s.heap H locs → lv_has ls 4 [(0, .ref a_t), (1, .int p1), (2, .int p2), (3, .int x3)] → mi_X4_takeLowestRoom_l2 t_setMinutes p1 p2 n x3 t_rooms t_fits = some (r, z_t_rooms, z_t_fits) → W p l e (headSpec wsX4_takeLowestRoom rm_X4_takeLowestRoom).room s m args below meth c H locs 0 0 Q (F0 m 2 ls []) := by
    intro n
    induction n with
    | zero =>
      intro x3 t_rooms t_fits H locs ls hP hD hS hl h
      rw [mi_X4_takeLowestRoom_l2] at h
      cases h
    | succ n_l2 ih_l2 =>
      have bl_b54 : ∀ (x3 : Int32) (t_rooms : Nat → Int32) (t_fits : Nat → Int32) (H : Heap) (locs : List Loc) (ls : Array Slot), va_P D vwCl [(a_t, .inr (4, [.ref a_t_rooms, .ref a_t_setMinutes, .ref a_t_fits])), (a_t_rooms, .inl (cI, 8, .inl t_rooms)), (a_t_setMinutes, .inl (cI, 64, .inl t_setMinutes)), (a_t_fits, .inl (cZ, 576, .inl t_fits))] H → va_D A [(a_t, .inr (4, [.ref a_t_rooms, .ref a_t_setMinutes, .ref a_t_fits])), (a_t_rooms, .inl (cI, 8, .inl t_rooms)), (a_t_setMinutes, .inl (cI, 64, .inl t_setMinutes)), (a_t_fits, .inl (cZ, 576, .inl t_fits))] → va_S A s.heap H locs → lv_has ls 4 [(0, .ref a_t), (1, .int p1), (2, .int p2), (3, .int x3)] → mi_X4_takeLowestRoom_b54 (mi_X4_takeLowestRoom_l2 t_setMinutes p1 p2 n_l2) x3 t_rooms t_fits = some (r, z_t_rooms, z_t_fits) → W p l e (headSpec wsX4_takeLowestRoom rm_X4_takeLowestRoom).room s m args below meth c H locs 0 0 Q (F0 m 54 ls []) := by
        intro x3 t_rooms t_fits H locs ls hP hD hS hl h
        unfold mi_X4_takeLowestRoom_b54 at h
        refine lv_iinc (v := (x3 + 1)) (lv' := [(3, .int (x3 + 1)), (0, .ref a_t), (1, .int p1), (2, .int p2)]) hx hb dX4_takeLowestRoom_54 hl (k := 3) rfl rfl (by decide) rfl (fun ls hl => ?_)
        refine lv_goto (tgt := 2) hx hb dX4_takeLowestRoom_57 (by decide) ?_
        exact ih_l2 (x3 + 1) t_rooms t_fits _ _ _ hP hD hS (lv_sub hl [1, 2, 3, 0] rfl) h
      intro x3 t_rooms t_fits H locs ls hP hD hS hl h
      rw [mi_X4_takeLowestRoom_l2] at h
      refine lv_iload_n hx hb dX4_takeLowestRoom_2 rfl (lv_at hl 3 rfl) ?_
      refine lv_bipush (v := (8 : Int32)) hx hb dX4_takeLowestRoom_3 (by decide) ?_
      refine lv_icmp_ge (tgt := 60) hx hb dX4_takeLowestRoom_5 (by decide) (fun c1 => ?_) (fun c1 => ?_)
      · have h := jx_t h c1
        refine lv_bipush (v := (-9 : Int32)) hx hb dX4_takeLowestRoom_60 (by decide) ?_
        cases h
        exact hret 62 ls _ _ hP hD hS rfl dX4_takeLowestRoom_62
      · have h := jx_f h c1
        refine lv_aload_n hx hb dX4_takeLowestRoom_8 rfl (lv_at hl 0 rfl) ?_
        refine va_get (D := D) (ci := 4) (v := .ref a_t_rooms) (C := RX4) (T := TX4) (N := 3) hx hb hts hi_X4 hown hK hP 0 rfl rfl 0 (by decide) (hts (.fieldLink RX4 9 "TriangleRest$Packer" "rooms" "[I") (List.mem_of_getElem? (i := 1) rfl)) (fun _ h9 => h9) rfl dX4_takeLowestRoom_9 ?_
        refine lv_iload_n hx hb dX4_takeLowestRoom_12 rfl (lv_at hl 3 rfl) ?_
        obtain ⟨g2, h⟩ := jx_g_of h
        refine va_iald hx hb hK hP 1 0 rfl rfl (jx_in_of g2) dX4_takeLowestRoom_13 ?_
        refine lv_iload_n hx hb dX4_takeLowestRoom_14 rfl (lv_at hl 1 rfl) ?_
        refine lv_icmp_lt (tgt := 54) hx hb dX4_takeLowestRoom_15 (by decide) (fun c3 => ?_) (fun c3 => ?_)
        · have h := jx_t h c3
          exact bl_b54 x3 t_rooms t_fits _ _ _ hP hD hS (lv_sub hl [0, 1, 2, 3] rfl) h
        · have h := jx_f h c3
          refine lv_aload_n hx hb dX4_takeLowestRoom_18 rfl (lv_at hl 0 rfl) ?_
          refine va_get (D := D) (ci := 4) (v := .ref a_t_rooms) (C := RX4) (T := TX4) (N := 3) hx hb hts hi_X4 hown hK hP 0 rfl rfl 0 (by decide) (hts (.fieldLink RX4 9 "TriangleRest$Packer" "rooms" "[I") (List.mem_of_getElem? (i := 1) rfl)) (fun _ h9 => h9) rfl dX4_takeLowestRoom_19 ?_
          refine lv_iload_n hx hb dX4_takeLowestRoom_22 rfl (lv_at hl 3 rfl) ?_
          refine lv_dup2_11 hx hb dX4_takeLowestRoom_23 rfl rfl ?_
          obtain ⟨g4, h⟩ := jx_g_of h
          refine va_iald hx hb hK hP 1 0 rfl rfl (jx_in_of g4) dX4_takeLowestRoom_24 ?_
          refine lv_iload_n hx hb dX4_takeLowestRoom_25 rfl (lv_at hl 1 rfl) ?_
          refine lv_isub hx hb dX4_takeLowestRoom_26 ?_
          obtain ⟨g5, h⟩ := jx_g_of h
          refine va_iast hx hb hK hP hD hS 1 0 rfl rfl (jx_in_of g5) dX4_takeLowestRoom_27 (fun H locs hP hD hS => ?_)
          have hP : va_P D vwCl [(a_t, .inr (4, [.ref a_t_rooms, .ref a_t_setMinutes, .ref a_t_fits])), (a_t_rooms, .inl (cI, 8, .inl (upd t_rooms (Int32.toNatClampNeg x3) ((t_rooms (Int32.toNatClampNeg x3)) - p1)))), (a_t_setMinutes, .inl (cI, 64, .inl t_setMinutes)), (a_t_fits, .inl (cZ, 576, .inl t_fits))] H := hP
          have hD : va_D A [(a_t, .inr (4, [.ref a_t_rooms, .ref a_t_setMinutes, .ref a_t_fits])), (a_t_rooms, .inl (cI, 8, .inl (upd t_rooms (Int32.toNatClampNeg x3) ((t_rooms (Int32.toNatClampNeg x3)) - p1)))), (a_t_setMinutes, .inl (cI, 64, .inl t_setMinutes)), (a_t_fits, .inl (cZ, 576, .inl t_fits))] := hD
          refine lv_aload_n hx hb dX4_takeLowestRoom_28 rfl (lv_at hl 0 rfl) ?_
          refine lv_iload_n hx hb dX4_takeLowestRoom_29 rfl (lv_at hl 2 rfl) ?_
          obtain ⟨t_fits_6, e7, h⟩ := jx_b1_of h
          refine jx_cW (o := none) (As := [.int p2]) (rest := []) (b := a_t) (wr := []) (wd' := [(a_t, .inr (4, [.ref a_t_rooms, .ref a_t_setMinutes, .ref a_t_fits])), (a_t_rooms, .inl (cI, 8, .inl (upd t_rooms (Int32.toNatClampNeg x3) ((t_rooms (Int32.toNatClampNeg x3)) - p1)))), (a_t_setMinutes, .inl (cI, 64, .inl t_setMinutes)), (a_t_fits, .inl (cZ, 576, .inl t_fits_6))]) ⟨hx, hb, hml, hown, hts⟩ (ct_X4_findFits l D cI cZ cO a_t a_t_rooms a_t_setMinutes a_t_fits H.size (upd t_rooms (Int32.toNatClampNeg x3) ((t_rooms (Int32.toNatClampNeg x3)) - p1)) t_setMinutes t_fits p2 t_fits_6 e7) (cwV 1 hts gX4_takeLowestRoom_X4_findFits rfl rfl rfl (by decide +kernel) ⟨Nat.le_of_ble_eq_true rfl, Nat.le_of_ble_eq_true rfl⟩) hK hN hP hD hS hA [0, 1, 2, 3] [] (by decide) rfl rfl (by decide) (by decide) rfl (va_recv hK hP (ci := 4) (q0 := 0) rfl rfl) rfl hl.1 rfl (Nat.le_of_ble_eq_true rfl) dX4_takeLowestRoom_30 ⟨Nat.zero_le _, Nat.zero_le _⟩ [0, 1, 2, 3] (by decide) rfl (fun H locs hP hD hS => ?_)
          refine lv_aload_n hx hb dX4_takeLowestRoom_33 rfl (lv_at hl 0 rfl) ?_
          refine lv_iconst (v := (0 : Int32)) hx hb dX4_takeLowestRoom_34 (by decide) ?_
          refine lv_iload_n hx hb dX4_takeLowestRoom_35 rfl (lv_at hl 2 rfl) ?_
          obtain ⟨r8, e9, h⟩ := jx_b1_of h
          refine jx_cV (o := some (.int r8)) (As := [.int (0 : Int32), .int p2]) (rest := []) (b := a_t) ⟨hx, hb, hml, hown, hts⟩ (ct_X4_doesFit l D cI cZ cO a_t a_t_rooms a_t_setMinutes a_t_fits t_fits_6 (0 : Int32) p2 r8 e9) (cwV 2 hts gX4_takeLowestRoom_X4_doesFit rfl rfl rfl (by decide +kernel) ⟨Nat.le_of_ble_eq_true rfl, Nat.le_of_ble_eq_true rfl⟩) hK hN hP [0, 3] rfl (va_recv hK hP (ci := 4) (q0 := 0) rfl rfl) rfl hl.1 rfl (Nat.le_of_ble_eq_true rfl) dX4_takeLowestRoom_36 ⟨Nat.zero_le _, Nat.zero_le _⟩ ?_
          refine lv_if_eq (tgt := 44) hx hb dX4_takeLowestRoom_39 (by decide) (fun c10 => ?_) (fun c10 => ?_)
          · have h := jx_t h c10
            refine lv_aload_n hx hb dX4_takeLowestRoom_44 rfl (lv_at hl 0 rfl) ?_
            refine va_get (D := D) (ci := 4) (v := .ref a_t_rooms) (C := RX4) (T := TX4) (N := 3) hx hb hts hi_X4 hown hK hP 0 rfl rfl 0 (by decide) (hts (.fieldLink RX4 9 "TriangleRest$Packer" "rooms" "[I") (List.mem_of_getElem? (i := 1) rfl)) (fun _ h9 => h9) rfl dX4_takeLowestRoom_45 ?_
            refine lv_iload_n hx hb dX4_takeLowestRoom_48 rfl (lv_at hl 3 rfl) ?_
            refine lv_dup2_11 hx hb dX4_takeLowestRoom_49 rfl rfl ?_
            obtain ⟨g11, h⟩ := jx_g_of h
            refine va_iald hx hb hK hP 1 0 rfl rfl (jx_in_of g11) dX4_takeLowestRoom_50 ?_
            refine lv_iload_n hx hb dX4_takeLowestRoom_51 rfl (lv_at hl 1 rfl) ?_
            refine lv_iadd hx hb dX4_takeLowestRoom_52 ?_
            obtain ⟨g12, h⟩ := jx_g_of h
            refine va_iast hx hb hK hP hD hS 1 0 rfl rfl (jx_in_of g12) dX4_takeLowestRoom_53 (fun H locs hP hD hS => ?_)
            have hP : va_P D vwCl [(a_t, .inr (4, [.ref a_t_rooms, .ref a_t_setMinutes, .ref a_t_fits])), (a_t_rooms, .inl (cI, 8, .inl (upd (upd t_rooms (Int32.toNatClampNeg x3) ((t_rooms (Int32.toNatClampNeg x3)) - p1)) (Int32.toNatClampNeg x3) (((upd t_rooms (Int32.toNatClampNeg x3) ((t_rooms (Int32.toNatClampNeg x3)) - p1)) (Int32.toNatClampNeg x3)) + p1)))), (a_t_setMinutes, .inl (cI, 64, .inl t_setMinutes)), (a_t_fits, .inl (cZ, 576, .inl t_fits_6))] H := hP
            have hD : va_D A [(a_t, .inr (4, [.ref a_t_rooms, .ref a_t_setMinutes, .ref a_t_fits])), (a_t_rooms, .inl (cI, 8, .inl (upd (upd t_rooms (Int32.toNatClampNeg x3) ((t_rooms (Int32.toNatClampNeg x3)) - p1)) (Int32.toNatClampNeg x3) (((upd t_rooms (Int32.toNatClampNeg x3) ((t_rooms (Int32.toNatClampNeg x3)) - p1)) (Int32.toNatClampNeg x3)) + p1)))), (a_t_setMinutes, .inl (cI, 64, .inl t_setMinutes)), (a_t_fits, .inl (cZ, 576, .inl t_fits_6))] := hD
            exact bl_b54 x3 (upd (upd t_rooms (Int32.toNatClampNeg x3) ((t_rooms (Int32.toNatClampNeg x3)) - p1)) (Int32.toNatClampNeg x3) (((upd t_rooms (Int32.toNatClampNeg x3) ((t_rooms (Int32.toNatClampNeg x3)) - p1)) (Int32.toNatClampNeg x3)) + p1)) t_fits_6 _ _ _ hP hD hS (lv_sub hl [0, 1, 2, 3] rfl) h
          · have h := jx_f h c10
            refine lv_iload_n hx hb dX4_takeLowestRoom_42 rfl (lv_at hl 3 rfl) ?_
            cases h
            exact hret 43 ls _ _ hP hD hS rfl dX4_takeLowestRoom_43
  have h := hm
  unfold mi_X4_takeLowestRoom at h
  refine lv_iconst (v := (0 : Int32)) hx hb dX4_takeLowestRoom_0 (by decide) ?_
  refine lv_istore_n (lv' := [(3, .int (0 : Int32)), (0, .ref a_t), (1, .int p1), (2, .int p2)]) hx hb dX4_takeLowestRoom_1 rfl hl (by decide) rfl (fun ls hl => ?_)
  exact bl_l2 jx_F (0 : Int32) t_rooms t_fits _ _ _ hP hD hS (lv_sub hl [1, 2, 3, 0] rfl) h
def mi_X4_mostThings_b64 (k_l31 : Int32 → Int32 → Int32 → (Nat → Int32) → (Nat → Int32) → (Nat → Int32) → Option (Int32 × (Nat → Int32) × (Nat → Int32) × (Nat → Int32))) (x3 : Int32) (x4 : Int32) (x5 : Int32) (t_rooms : Nat → Int32) (t_setMinutes : Nat → Int32) (t_fits : Nat → Int32) : Option (Int32 × (Nat → Int32) × (Nat → Int32) × (Nat → Int32)) := k_l31 x3 x4 (x5 + 1) t_rooms t_setMinutes t_fits
def mi_X4_mostThings_l31 : Nat → Int32 → Int32 → Int32 → (Nat → Int32) → (Nat → Int32) → (Nat → Int32) → Option (Int32 × (Nat → Int32) × (Nat → Int32) × (Nat → Int32))
  | 0, _, _, _, _, _, _ => none
  | n + 1, x3, x4, x5, t_rooms, t_setMinutes, t_fits => if x3 < x5 then (some (x4, t_rooms, t_setMinutes, t_fits)) else (jx_b1 (mi_J6_bitCount_0f7a4 x5) fun r2 => (jx_b1 (mi_J6_bitCount_0f7a4 x4) fun r4 => (if r2 ≤ r4 then (mi_X4_mostThings_b64 (mi_X4_mostThings_l31 n) x3 x4 x5 t_rooms t_setMinutes t_fits) else (jx_b1 (mi_X4_doesFit t_fits (0 : Int32) x5) fun r7 => (if r7 = 0 then (mi_X4_mostThings_b64 (mi_X4_mostThings_l31 n) x3 x4 x5 t_rooms t_setMinutes t_fits) else (mi_X4_mostThings_b64 (mi_X4_mostThings_l31 n) x3 x5 x5 t_rooms t_setMinutes t_fits))))))
def mi_X4_mostThings (t_rooms : Nat → Int32) (t_setMinutes : Nat → Int32) (t_fits : Nat → Int32) (o1_sections : Int32) (o1_things : Int32) (o1_lengths : Nat → Int32) (o1_times : Nat → Int32) (o1_players : Nat → Int32) (o1_minutes : Nat → Int32) (p2 : Int32) : Option (Int32 × (Nat → Int32) × (Nat → Int32) × (Nat → Int32)) := jx_b1 (mi_X4_findRooms t_rooms o1_sections o1_lengths o1_times o1_players p2) fun t_rooms_10 => (jx_b1 (mi_X4_findSetMinutes t_setMinutes o1_things o1_minutes) fun t_setMinutes_12 => (jx_b1 (mi_X4_findFits t_rooms_10 t_setMinutes_12 t_fits (((1 : Int32) <<< (o1_things &&& 31)) - (1 : Int32))) fun t_fits_14 => (mi_X4_mostThings_l31 jx_F (((1 : Int32) <<< (o1_things &&& 31)) - (1 : Int32)) (0 : Int32) (1 : Int32) t_rooms_10 t_setMinutes_12 t_fits_14)))
abbrev rm_X4_mostThings : Room := { frames := 3, cells := 0, slots := 0, locals := 70 }
set_option maxRecDepth 100000 in
set_option maxHeartbeats 4000000 in
theorem ct_X4_mostThings (l : Launch) (D : va_G) (cI cZ cO : ClassId) (a_t a_o1 a_t_rooms a_t_setMinutes a_t_fits a_o1_lengths a_o1_times a_o1_players a_o1_minutes : Nat) (sz : Nat) (t_rooms : Nat → Int32) (t_setMinutes : Nat → Int32) (t_fits : Nat → Int32) (o1_sections : Int32) (o1_things : Int32) (o1_noteTold : Int32) (o1_toldSection : Int32) (o1_toldBar : Int32) (o1_lengths : Nat → Int32) (o1_times : Nat → Int32) (o1_players : Nat → Int32) (o1_minutes : Nat → Int32) (p2 : Int32) (r : Int32) (z_t_rooms : Nat → Int32) (z_t_setMinutes : Nat → Int32) (z_t_fits : Nat → Int32) (hm : mi_X4_mostThings t_rooms t_setMinutes t_fits o1_sections o1_things o1_lengths o1_times o1_players o1_minutes p2 = some (r, z_t_rooms, z_t_setMinutes, z_t_fits)) : Met l yX4_mostThings wsX4_mostThings rm_X4_mostThings (va_Pc [.ref a_t, .ref a_o1, .int p2] (jx_W D (jx_T cI cZ cO) sz [(a_t, .inr (4, [.ref a_t_rooms, .ref a_t_setMinutes, .ref a_t_fits])), (a_t_rooms, .inl (cI, 8, .inl t_rooms)), (a_t_setMinutes, .inl (cI, 64, .inl t_setMinutes)), (a_t_fits, .inl (cZ, 576, .inl t_fits)), (a_o1, .inr (6, [.ref a_o1_lengths, .ref a_o1_times, .ref a_o1_players, .ref a_o1_minutes, .int o1_sections, .int o1_things, .int o1_noteTold, .int o1_toldSection, .int o1_toldBar])), (a_o1_lengths, .inl (cI, 8, .inl o1_lengths)), (a_o1_times, .inl (cI, 8, .inl o1_times)), (a_o1_players, .inl (cI, 8, .inl o1_players)), (a_o1_minutes, .inl (cI, 6, .inl o1_minutes))])) (jx_Q (some (.int r)) D [(a_t, .inr (4, [.ref a_t_rooms, .ref a_t_setMinutes, .ref a_t_fits])), (a_t_rooms, .inl (cI, 8, .inl z_t_rooms)), (a_t_setMinutes, .inl (cI, 64, .inl z_t_setMinutes)), (a_t_fits, .inl (cZ, 576, .inl z_t_fits)), (a_o1, .inr (6, [.ref a_o1_lengths, .ref a_o1_times, .ref a_o1_players, .ref a_o1_minutes, .int o1_sections, .int o1_things, .int o1_noteTold, .int o1_toldSection, .int o1_toldBar])), (a_o1_lengths, .inl (cI, 8, .inl o1_lengths)), (a_o1_times, .inl (cI, 8, .inl o1_times)), (a_o1_players, .inl (cI, 8, .inl o1_players)), (a_o1_minutes, .inl (cI, 6, .inl o1_minutes))] (va_A [(a_t, .inr (4, [.ref a_t_rooms, .ref a_t_setMinutes, .ref a_t_fits])), (a_t_rooms, .inl (cI, 8, .inl t_rooms)), (a_t_setMinutes, .inl (cI, 64, .inl t_setMinutes)), (a_t_fits, .inl (cZ, 576, .inl t_fits)), (a_o1, .inr (6, [.ref a_o1_lengths, .ref a_o1_times, .ref a_o1_players, .ref a_o1_minutes, .int o1_sections, .int o1_things, .int o1_noteTold, .int o1_toldSection, .int o1_toldBar])), (a_o1_lengths, .inl (cI, 8, .inl o1_lengths)), (a_o1_times, .inl (cI, 8, .inl o1_times)), (a_o1_players, .inl (cI, 8, .inl o1_players)), (a_o1_minutes, .inl (cI, 6, .inl o1_minutes))] sz)) 0 0 (va_A [(a_t, .inr (4, [.ref a_t_rooms, .ref a_t_setMinutes, .ref a_t_fits])), (a_t_rooms, .inl (cI, 8, .inl t_rooms)), (a_t_setMinutes, .inl (cI, 64, .inl t_setMinutes)), (a_t_fits, .inl (cZ, 576, .inl t_fits)), (a_o1, .inr (6, [.ref a_o1_lengths, .ref a_o1_times, .ref a_o1_players, .ref a_o1_minutes, .int o1_sections, .int o1_things, .int o1_noteTold, .int o1_toldSection, .int o1_toldBar])), (a_o1_lengths, .inl (cI, 8, .inl o1_lengths)), (a_o1_times, .inl (cI, 8, .inl o1_times)), (a_o1_players, .inl (cI, 8, .inl o1_players)), (a_o1_minutes, .inl (cI, 6, .inl o1_minutes))] sz) := by
  refine jx_metW (ty := .int) (own := RX4) (cc := cX4_mostThings) (maxL := 6) (by decide) rfl rfl (Nat.le_of_ble_eq_true rfl) ?_
  intro p e s m args below meth c Q ls A hx hb hml hown hts hK hN hA hP hD hS hl hret
  have hi_X6 : ∀ w ∈ u_ws RX6 TX6 9, w ∈ wsX4_mostThings := by decide +kernel
  have hl : lv_has ls 6 [(0, .ref a_t), (1, .ref a_o1), (2, .int p2)] := hl
  have bl_l31 : ∀ (n : Nat) (x3 : Int32) (x4 : Int32) (x5 : Int32) (t_rooms : Nat → Int32) (t_setMinutes : Nat → Int32) (t_fits : Nat → Int32) (H : Heap) (locs : List Loc) (ls : Array Slot), va_P D vwCl [(a_t, .inr (4, [.ref a_t_rooms, .ref a_t_setMinutes, .ref a_t_fits])), (a_t_rooms, .inl (cI, 8, .inl t_rooms)), (a_t_setMinutes, .inl (cI, 64, .inl t_setMinutes)), (a_t_fits, .inl (cZ, 576, .inl t_fits)), (a_o1, .inr (6, [.ref a_o1_lengths, .ref a_o1_times, .ref a_o1_players, .ref a_o1_minutes, .int o1_sections, .int o1_things, .int o1_noteTold, .int o1_toldSection, .int o1_toldBar])), (a_o1_lengths, .inl (cI, 8, .inl o1_lengths)), (a_o1_times, .inl (cI, 8, .inl o1_times)), (a_o1_players, .inl (cI, 8, .inl o1_players)), (a_o1_minutes, .inl (cI, 6, .inl o1_minutes))] H → va_D A [(a_t, .inr (4, [.ref a_t_rooms, .ref a_t_setMinutes, .ref a_t_fits])), (a_t_rooms, .inl (cI, 8, .inl t_rooms)), (a_t_setMinutes, .inl (cI, 64, .inl t_setMinutes)), (a_t_fits, .inl (cZ, 576, .inl t_fits)), (a_o1, .inr (6, [.ref a_o1_lengths, .ref a_o1_times, .ref a_o1_players, .ref a_o1_minutes, .int o1_sections, .int o1_things, .int o1_noteTold, .int o1_toldSection, .int o1_toldBar])), (a_o1_lengths, .inl (cI, 8, .inl o1_lengths)), (a_o1_times, .inl (cI, 8, .inl o1_times)), (a_o1_players, .inl (cI, 8, .inl o1_players)), (a_o1_minutes, .inl (cI, 6, .inl o1_minutes))] → va_S A s.heap H locs → lv_has ls 6 [(0, .ref a_t), (3, .int x3), (4, .int x4), (5, .int x5)] → mi_X4_mostThings_l31 n x3 x4 x5 t_rooms t_setMinutes t_fits = some (r, z_t_rooms, z_t_setMinutes, z_t_fits) → W p l e (headSpec wsX4_mostThings rm_X4_mostThings).room s m args below meth c H locs 0 0 Q (F0 m 31 ls []) := by
    intro n
    induction n with
    | zero =>
      intro x3 x4 x5 t_rooms t_setMinutes t_fits H locs ls hP hD hS hl h
      rw [mi_X4_mostThings_l31] at h
      cases h
    | succ n_l31 ih_l31 =>
      have bl_b64 : ∀ (x3 : Int32) (x4 : Int32) (x5 : Int32) (t_rooms : Nat → Int32) (t_setMinutes : Nat → Int32) (t_fits : Nat → Int32) (H : Heap) (locs : List Loc) (ls : Array Slot), va_P D vwCl [(a_t, .inr (4, [.ref a_t_rooms, .ref a_t_setMinutes, .ref a_t_fits])), (a_t_rooms, .inl (cI, 8, .inl t_rooms)), (a_t_setMinutes, .inl (cI, 64, .inl t_setMinutes)), (a_t_fits, .inl (cZ, 576, .inl t_fits)), (a_o1, .inr (6, [.ref a_o1_lengths, .ref a_o1_times, .ref a_o1_players, .ref a_o1_minutes, .int o1_sections, .int o1_things, .int o1_noteTold, .int o1_toldSection, .int o1_toldBar])), (a_o1_lengths, .inl (cI, 8, .inl o1_lengths)), (a_o1_times, .inl (cI, 8, .inl o1_times)), (a_o1_players, .inl (cI, 8, .inl o1_players)), (a_o1_minutes, .inl (cI, 6, .inl o1_minutes))] H → va_D A [(a_t, .inr (4, [.ref a_t_rooms, .ref a_t_setMinutes, .ref a_t_fits])), (a_t_rooms, .inl (cI, 8, .inl t_rooms)), (a_t_setMinutes, .inl (cI, 64, .inl t_setMinutes)), (a_t_fits, .inl (cZ, 576, .inl t_fits)), (a_o1, .inr (6, [.ref a_o1_lengths, .ref a_o1_times, .ref a_o1_players, .ref a_o1_minutes, .int o1_sections, .int o1_things, .int o1_noteTold, .int o1_toldSection, .int o1_toldBar])), (a_o1_lengths, .inl (cI, 8, .inl o1_lengths)), (a_o1_times, .inl (cI, 8, .inl o1_times)), (a_o1_players, .inl (cI, 8, .inl o1_players)), (a_o1_minutes, .inl (cI, 6, .inl o1_minutes))] → va_S A s.heap H locs → lv_has ls 6 [(0, .ref a_t), (3, .int x3), (4, .int x4), (5, .int x5)] → mi_X4_mostThings_b64 (mi_X4_mostThings_l31 n_l31) x3 x4 x5 t_rooms t_setMinutes t_fits = some (r, z_t_rooms, z_t_setMinutes, z_t_fits) → W p l e (headSpec wsX4_mostThings rm_X4_mostThings).room s m args below meth c H locs 0 0 Q (F0 m 64 ls []) := by
        intro x3 x4 x5 t_rooms t_setMinutes t_fits H locs ls hP hD hS hl h
        unfold mi_X4_mostThings_b64 at h
        refine lv_iinc (v := (x5 + 1)) (lv' := [(5, .int (x5 + 1)), (0, .ref a_t), (3, .int x3), (4, .int x4)]) hx hb dX4_mostThings_64 hl (k := 3) rfl rfl (by decide) rfl (fun ls hl => ?_)
        refine lv_goto (tgt := 31) hx hb dX4_mostThings_67 (by decide) ?_
        exact ih_l31 x3 x4 (x5 + 1) t_rooms t_setMinutes t_fits _ _ _ hP hD hS (lv_sub hl [1, 2, 3, 0] rfl) h
      intro x3 x4 x5 t_rooms t_setMinutes t_fits H locs ls hP hD hS hl h
      rw [mi_X4_mostThings_l31] at h
      refine lv_iload hx hb dX4_mostThings_31 (lv_at hl 3 rfl) ?_
      refine lv_iload_n hx hb dX4_mostThings_33 rfl (lv_at hl 1 rfl) ?_
      refine lv_icmp_gt (tgt := 70) hx hb dX4_mostThings_34 (by decide) (fun c1 => ?_) (fun c1 => ?_)
      · have h := jx_t h c1
        refine lv_iload hx hb dX4_mostThings_70 (lv_at hl 2 rfl) ?_
        cases h
        exact hret 72 ls _ _ hP hD hS rfl dX4_mostThings_72
      · have h := jx_f h c1
        refine lv_iload hx hb dX4_mostThings_37 (lv_at hl 3 rfl) ?_
        obtain ⟨r2, e3, h⟩ := jx_b1_of h
        refine jx_cS (o := some (.int r2)) (As := [.int x5]) (rest := []) ⟨hx, hb, hml, hown, hts⟩ (ct_J6_bitCount_0f7a4 l x5 r2 e3) (va_cwS 1 hts gX4_mostThings_J6_bitCount_0f7a4 rfl rfl rfl (by decide +kernel) ⟨Nat.le_of_ble_eq_true rfl, Nat.le_of_ble_eq_true rfl⟩) rfl hl.1 rfl (Nat.le_of_ble_eq_true rfl) dX4_mostThings_39 ⟨Nat.zero_le _, Nat.zero_le _⟩ ?_
        refine lv_iload hx hb dX4_mostThings_42 (lv_at hl 2 rfl) ?_
        obtain ⟨r4, e5, h⟩ := jx_b1_of h
        refine jx_cS (o := some (.int r4)) (As := [.int x4]) (rest := [.int r2]) ⟨hx, hb, hml, hown, hts⟩ (ct_J6_bitCount_0f7a4 l x4 r4 e5) (va_cwS 1 hts gX4_mostThings_J6_bitCount_0f7a4 rfl rfl rfl (by decide +kernel) ⟨Nat.le_of_ble_eq_true rfl, Nat.le_of_ble_eq_true rfl⟩) rfl hl.1 rfl (Nat.le_of_ble_eq_true rfl) dX4_mostThings_44 ⟨Nat.zero_le _, Nat.zero_le _⟩ ?_
        refine lv_icmp_le (tgt := 64) hx hb dX4_mostThings_47 (by decide) (fun c6 => ?_) (fun c6 => ?_)
        · have h := jx_t h c6
          exact bl_b64 x3 x4 x5 t_rooms t_setMinutes t_fits _ _ _ hP hD hS (lv_sub hl [0, 1, 2, 3] rfl) h
        · have h := jx_f h c6
          refine lv_aload_n hx hb dX4_mostThings_50 rfl (lv_at hl 0 rfl) ?_
          refine lv_iconst (v := (0 : Int32)) hx hb dX4_mostThings_51 (by decide) ?_
          refine lv_iload hx hb dX4_mostThings_52 (lv_at hl 3 rfl) ?_
          obtain ⟨r7, e8, h⟩ := jx_b1_of h
          refine jx_cV (o := some (.int r7)) (As := [.int (0 : Int32), .int x5]) (rest := []) (b := a_t) ⟨hx, hb, hml, hown, hts⟩ (ct_X4_doesFit l D cI cZ cO a_t a_t_rooms a_t_setMinutes a_t_fits t_fits (0 : Int32) x5 r7 e8) (cwV 2 hts gX4_mostThings_X4_doesFit rfl rfl rfl (by decide +kernel) ⟨Nat.le_of_ble_eq_true rfl, Nat.le_of_ble_eq_true rfl⟩) hK hN hP [0, 3] rfl (va_recv hK hP (ci := 4) (q0 := 0) rfl rfl) rfl hl.1 rfl (Nat.le_of_ble_eq_true rfl) dX4_mostThings_54 ⟨Nat.zero_le _, Nat.zero_le _⟩ ?_
          refine lv_if_eq (tgt := 64) hx hb dX4_mostThings_57 (by decide) (fun c9 => ?_) (fun c9 => ?_)
          · have h := jx_t h c9
            exact bl_b64 x3 x4 x5 t_rooms t_setMinutes t_fits _ _ _ hP hD hS (lv_sub hl [0, 1, 2, 3] rfl) h
          · have h := jx_f h c9
            refine lv_iload hx hb dX4_mostThings_60 (lv_at hl 3 rfl) ?_
            refine lv_istore (lv' := [(4, .int x5), (0, .ref a_t), (3, .int x3), (5, .int x5)]) hx hb dX4_mostThings_62 hl (by decide) rfl (fun ls hl => ?_)
            exact bl_b64 x3 x5 x5 t_rooms t_setMinutes t_fits _ _ _ hP hD hS (lv_sub hl [1, 2, 0, 3] rfl) h
  have h := hm
  unfold mi_X4_mostThings at h
  refine lv_aload_n hx hb dX4_mostThings_0 rfl (lv_at hl 0 rfl) ?_
  refine lv_aload_n hx hb dX4_mostThings_1 rfl (lv_at hl 1 rfl) ?_
  refine lv_iload_n hx hb dX4_mostThings_2 rfl (lv_at hl 2 rfl) ?_
  obtain ⟨t_rooms_10, e11, h⟩ := jx_b1_of h
  refine jx_cW (o := none) (As := [.ref a_o1, .int p2]) (rest := []) (b := a_t) (wr := [(a_t_setMinutes, .inl (cI, 64, .inl t_setMinutes)), (a_t_fits, .inl (cZ, 576, .inl t_fits)), (a_o1_minutes, .inl (cI, 6, .inl o1_minutes))]) (wd' := [(a_t, .inr (4, [.ref a_t_rooms, .ref a_t_setMinutes, .ref a_t_fits])), (a_t_rooms, .inl (cI, 8, .inl t_rooms_10)), (a_t_setMinutes, .inl (cI, 64, .inl t_setMinutes)), (a_t_fits, .inl (cZ, 576, .inl t_fits)), (a_o1, .inr (6, [.ref a_o1_lengths, .ref a_o1_times, .ref a_o1_players, .ref a_o1_minutes, .int o1_sections, .int o1_things, .int o1_noteTold, .int o1_toldSection, .int o1_toldBar])), (a_o1_lengths, .inl (cI, 8, .inl o1_lengths)), (a_o1_times, .inl (cI, 8, .inl o1_times)), (a_o1_players, .inl (cI, 8, .inl o1_players)), (a_o1_minutes, .inl (cI, 6, .inl o1_minutes))]) ⟨hx, hb, hml, hown, hts⟩ (ct_X4_findRooms l D cI cZ cO a_t a_o1 a_t_rooms a_t_setMinutes a_t_fits a_o1_lengths a_o1_times a_o1_players a_o1_minutes s.heap.size t_rooms o1_sections o1_things o1_noteTold o1_toldSection o1_toldBar o1_lengths o1_times o1_players p2 t_rooms_10 e11) (cwV 2 hts gX4_mostThings_X4_findRooms rfl rfl rfl (by decide +kernel) ⟨Nat.le_of_ble_eq_true rfl, Nat.le_of_ble_eq_true rfl⟩) hK hN hP hD hS hA [0, 1, 4, 5, 6, 7] [2, 3, 8] (by decide) rfl rfl (by decide) (by decide) rfl (va_recv hK hP (ci := 4) (q0 := 0) rfl rfl) rfl hl.1 rfl (Nat.le_of_ble_eq_true rfl) dX4_mostThings_3 ⟨Nat.zero_le _, Nat.zero_le _⟩ [3, 4, 0, 1, 5, 6, 7, 8, 2] (by decide) rfl (fun H locs hP hD hS => ?_)
  refine lv_aload_n hx hb dX4_mostThings_6 rfl (lv_at hl 0 rfl) ?_
  refine lv_aload_n hx hb dX4_mostThings_7 rfl (lv_at hl 1 rfl) ?_
  obtain ⟨t_setMinutes_12, e13, h⟩ := jx_b1_of h
  refine jx_cW (o := none) (As := [.ref a_o1]) (rest := []) (b := a_t) (wr := [(a_t_rooms, .inl (cI, 8, .inl t_rooms_10)), (a_t_fits, .inl (cZ, 576, .inl t_fits)), (a_o1_lengths, .inl (cI, 8, .inl o1_lengths)), (a_o1_times, .inl (cI, 8, .inl o1_times)), (a_o1_players, .inl (cI, 8, .inl o1_players))]) (wd' := [(a_t, .inr (4, [.ref a_t_rooms, .ref a_t_setMinutes, .ref a_t_fits])), (a_t_rooms, .inl (cI, 8, .inl t_rooms_10)), (a_t_setMinutes, .inl (cI, 64, .inl t_setMinutes_12)), (a_t_fits, .inl (cZ, 576, .inl t_fits)), (a_o1, .inr (6, [.ref a_o1_lengths, .ref a_o1_times, .ref a_o1_players, .ref a_o1_minutes, .int o1_sections, .int o1_things, .int o1_noteTold, .int o1_toldSection, .int o1_toldBar])), (a_o1_lengths, .inl (cI, 8, .inl o1_lengths)), (a_o1_times, .inl (cI, 8, .inl o1_times)), (a_o1_players, .inl (cI, 8, .inl o1_players)), (a_o1_minutes, .inl (cI, 6, .inl o1_minutes))]) ⟨hx, hb, hml, hown, hts⟩ (ct_X4_findSetMinutes l D cI cZ cO a_t a_o1 a_t_rooms a_t_setMinutes a_t_fits a_o1_lengths a_o1_times a_o1_players a_o1_minutes H.size t_setMinutes o1_sections o1_things o1_noteTold o1_toldSection o1_toldBar o1_minutes t_setMinutes_12 e13) (cwV 1 hts gX4_mostThings_X4_findSetMinutes rfl rfl rfl (by decide +kernel) ⟨Nat.le_of_ble_eq_true rfl, Nat.le_of_ble_eq_true rfl⟩) hK hN hP hD hS hA [0, 2, 4, 8] [1, 3, 5, 6, 7] (by decide) rfl rfl (by decide) (by decide) rfl (va_recv hK hP (ci := 4) (q0 := 0) rfl rfl) rfl hl.1 rfl (Nat.le_of_ble_eq_true rfl) dX4_mostThings_8 ⟨Nat.zero_le _, Nat.zero_le _⟩ [5, 0, 6, 1, 7, 2, 3, 4, 8] (by decide) rfl (fun H locs hP hD hS => ?_)
  refine lv_iconst (v := (1 : Int32)) hx hb dX4_mostThings_11 (by decide) ?_
  refine lv_aload_n hx hb dX4_mostThings_12 rfl (lv_at hl 1 rfl) ?_
  refine va_get (D := D) (ci := 6) (v := .int o1_things) (C := RX6) (T := TX6) (N := 9) hx hb hts hi_X6 hown hK hP 4 rfl rfl 5 (by decide) (hts (.fieldLink RX4 30 "TriangleRest$Score" "things" "I") (List.mem_of_getElem? (i := 1) rfl)) (fun _ h9 => h9) rfl dX4_mostThings_13 ?_
  refine lv_ishl hx hb dX4_mostThings_16 ?_
  refine lv_iconst (v := (1 : Int32)) hx hb dX4_mostThings_17 (by decide) ?_
  refine lv_isub hx hb dX4_mostThings_18 ?_
  refine lv_istore_n (lv' := [(3, .int (((1 : Int32) <<< (o1_things &&& 31)) - (1 : Int32))), (0, .ref a_t), (1, .ref a_o1), (2, .int p2)]) hx hb dX4_mostThings_19 rfl hl (by decide) rfl (fun ls hl => ?_)
  refine lv_aload_n hx hb dX4_mostThings_20 rfl (lv_at hl 1 rfl) ?_
  refine lv_iload_n hx hb dX4_mostThings_21 rfl (lv_at hl 0 rfl) ?_
  obtain ⟨t_fits_14, e15, h⟩ := jx_b1_of h
  refine jx_cW (o := none) (As := [.int (((1 : Int32) <<< (o1_things &&& 31)) - (1 : Int32))]) (rest := []) (b := a_t) (wr := [(a_o1, .inr (6, [.ref a_o1_lengths, .ref a_o1_times, .ref a_o1_players, .ref a_o1_minutes, .int o1_sections, .int o1_things, .int o1_noteTold, .int o1_toldSection, .int o1_toldBar])), (a_o1_lengths, .inl (cI, 8, .inl o1_lengths)), (a_o1_times, .inl (cI, 8, .inl o1_times)), (a_o1_players, .inl (cI, 8, .inl o1_players)), (a_o1_minutes, .inl (cI, 6, .inl o1_minutes))]) (wd' := [(a_t, .inr (4, [.ref a_t_rooms, .ref a_t_setMinutes, .ref a_t_fits])), (a_t_rooms, .inl (cI, 8, .inl t_rooms_10)), (a_t_setMinutes, .inl (cI, 64, .inl t_setMinutes_12)), (a_t_fits, .inl (cZ, 576, .inl t_fits_14)), (a_o1, .inr (6, [.ref a_o1_lengths, .ref a_o1_times, .ref a_o1_players, .ref a_o1_minutes, .int o1_sections, .int o1_things, .int o1_noteTold, .int o1_toldSection, .int o1_toldBar])), (a_o1_lengths, .inl (cI, 8, .inl o1_lengths)), (a_o1_times, .inl (cI, 8, .inl o1_times)), (a_o1_players, .inl (cI, 8, .inl o1_players)), (a_o1_minutes, .inl (cI, 6, .inl o1_minutes))]) ⟨hx, hb, hml, hown, hts⟩ (ct_X4_findFits l D cI cZ cO a_t a_t_rooms a_t_setMinutes a_t_fits H.size t_rooms_10 t_setMinutes_12 t_fits (((1 : Int32) <<< (o1_things &&& 31)) - (1 : Int32)) t_fits_14 e15) (cwV 1 hts gX4_mostThings_X4_findFits rfl rfl rfl (by decide +kernel) ⟨Nat.le_of_ble_eq_true rfl, Nat.le_of_ble_eq_true rfl⟩) hK hN hP hD hS hA [0, 1, 2, 3] [4, 5, 6, 7, 8] (by decide) rfl rfl (by decide) (by decide) rfl (va_recv hK hP (ci := 4) (q0 := 0) rfl rfl) rfl hl.1 rfl (Nat.le_of_ble_eq_true rfl) dX4_mostThings_22 ⟨Nat.zero_le _, Nat.zero_le _⟩ [5, 6, 7, 8, 0, 1, 2, 3, 4] (by decide) rfl (fun H locs hP hD hS => ?_)
  refine lv_iconst (v := (0 : Int32)) hx hb dX4_mostThings_25 (by decide) ?_
  refine lv_istore (lv' := [(4, .int (0 : Int32)), (3, .int (((1 : Int32) <<< (o1_things &&& 31)) - (1 : Int32))), (0, .ref a_t), (1, .ref a_o1), (2, .int p2)]) hx hb dX4_mostThings_26 hl (by decide) rfl (fun ls hl => ?_)
  refine lv_iconst (v := (1 : Int32)) hx hb dX4_mostThings_28 (by decide) ?_
  refine lv_istore (lv' := [(5, .int (1 : Int32)), (4, .int (0 : Int32)), (3, .int (((1 : Int32) <<< (o1_things &&& 31)) - (1 : Int32))), (0, .ref a_t), (1, .ref a_o1), (2, .int p2)]) hx hb dX4_mostThings_29 hl (by decide) rfl (fun ls hl => ?_)
  exact bl_l31 jx_F (((1 : Int32) <<< (o1_things &&& 31)) - (1 : Int32)) (0 : Int32) (1 : Int32) t_rooms_10 t_setMinutes_12 t_fits_14 _ _ _ hP hD hS (lv_sub hl [3, 2, 1, 0] rfl) h
def mi_X4_restOf_b54 (k_l10 : Int32 → Int32 → Int32 → (Nat → Int32) → (Nat → Int32) → Option (Int32 × (Nat → Int32) × (Nat → Int32))) (x4 : Int32) (x5 : Int32) (x6 : Int32) (t_rooms : Nat → Int32) (t_fits : Nat → Int32) : Option (Int32 × (Nat → Int32) × (Nat → Int32)) := k_l10 x4 x5 (x6 + 1) t_rooms t_fits
def mi_X4_restOf_l10 (t_setMinutes : Nat → Int32) (o3_things : Int32) (o3_minutes : Nat → Int32) (p1 : Int32) (p2 : Int32) : Nat → Int32 → Int32 → Int32 → (Nat → Int32) → (Nat → Int32) → Option (Int32 × (Nat → Int32) × (Nat → Int32))
  | 0, _, _, _, _, _ => none
  | n + 1, x4, x5, x6, t_rooms, t_fits => if p1 < x6 then (some (x5, t_rooms, t_fits)) else (jx_b1 (mi_X11_isIn p2 x6) fun r2 => (if r2 = 0 then (mi_X4_restOf_b54 (mi_X4_restOf_l10 t_setMinutes o3_things o3_minutes p1 p2 n) x4 (-9 : Int32) x6 t_rooms t_fits) else (jx_b1 (mi_X6_minutesOf o3_things o3_minutes x6) fun r5 => (jx_b3 (mi_X4_takeLowestRoom t_rooms t_setMinutes t_fits r5 (x4 &&& (((1 : Int32) <<< (x6 &&& 31)) ^^^ (-1 : Int32)))) fun r7 t_rooms_8 t_fits_9 => (mi_X4_restOf_b54 (mi_X4_restOf_l10 t_setMinutes o3_things o3_minutes p1 p2 n) (x4 &&& (((1 : Int32) <<< (x6 &&& 31)) ^^^ (-1 : Int32))) r7 x6 t_rooms_8 t_fits_9)))))
def mi_X4_restOf (t_rooms : Nat → Int32) (t_setMinutes : Nat → Int32) (t_fits : Nat → Int32) (o3_things : Int32) (o3_minutes : Nat → Int32) (p1 : Int32) (p2 : Int32) : Option (Int32 × (Nat → Int32) × (Nat → Int32)) := mi_X4_restOf_l10 t_setMinutes o3_things o3_minutes p1 p2 jx_F p2 (-9 : Int32) (0 : Int32) t_rooms t_fits
abbrev rm_X4_restOf : Room := { frames := 4, cells := 0, slots := 0, locals := 93 }
set_option maxRecDepth 100000 in
set_option maxHeartbeats 4000000 in
theorem ct_X4_restOf (l : Launch) (D : va_G) (cI cZ cO : ClassId) (a_t a_o3 a_t_rooms a_t_setMinutes a_t_fits a_o3_lengths a_o3_times a_o3_players a_o3_minutes : Nat) (sz : Nat) (t_rooms : Nat → Int32) (t_setMinutes : Nat → Int32) (t_fits : Nat → Int32) (o3_sections : Int32) (o3_things : Int32) (o3_noteTold : Int32) (o3_toldSection : Int32) (o3_toldBar : Int32) (o3_minutes : Nat → Int32) (p1 : Int32) (p2 : Int32) (r : Int32) (z_t_rooms : Nat → Int32) (z_t_fits : Nat → Int32) (hm : mi_X4_restOf t_rooms t_setMinutes t_fits o3_things o3_minutes p1 p2 = some (r, z_t_rooms, z_t_fits)) : Met l yX4_restOf wsX4_restOf rm_X4_restOf (va_Pc [.ref a_t, .int p1, .int p2, .ref a_o3] (jx_W D (jx_T cI cZ cO) sz [(a_t, .inr (4, [.ref a_t_rooms, .ref a_t_setMinutes, .ref a_t_fits])), (a_t_rooms, .inl (cI, 8, .inl t_rooms)), (a_t_setMinutes, .inl (cI, 64, .inl t_setMinutes)), (a_t_fits, .inl (cZ, 576, .inl t_fits)), (a_o3, .inr (6, [.ref a_o3_lengths, .ref a_o3_times, .ref a_o3_players, .ref a_o3_minutes, .int o3_sections, .int o3_things, .int o3_noteTold, .int o3_toldSection, .int o3_toldBar])), (a_o3_minutes, .inl (cI, 6, .inl o3_minutes))])) (jx_Q (some (.int r)) D [(a_t, .inr (4, [.ref a_t_rooms, .ref a_t_setMinutes, .ref a_t_fits])), (a_t_rooms, .inl (cI, 8, .inl z_t_rooms)), (a_t_setMinutes, .inl (cI, 64, .inl t_setMinutes)), (a_t_fits, .inl (cZ, 576, .inl z_t_fits)), (a_o3, .inr (6, [.ref a_o3_lengths, .ref a_o3_times, .ref a_o3_players, .ref a_o3_minutes, .int o3_sections, .int o3_things, .int o3_noteTold, .int o3_toldSection, .int o3_toldBar])), (a_o3_minutes, .inl (cI, 6, .inl o3_minutes))] (va_A [(a_t, .inr (4, [.ref a_t_rooms, .ref a_t_setMinutes, .ref a_t_fits])), (a_t_rooms, .inl (cI, 8, .inl t_rooms)), (a_t_setMinutes, .inl (cI, 64, .inl t_setMinutes)), (a_t_fits, .inl (cZ, 576, .inl t_fits)), (a_o3, .inr (6, [.ref a_o3_lengths, .ref a_o3_times, .ref a_o3_players, .ref a_o3_minutes, .int o3_sections, .int o3_things, .int o3_noteTold, .int o3_toldSection, .int o3_toldBar])), (a_o3_minutes, .inl (cI, 6, .inl o3_minutes))] sz)) 0 0 (va_A [(a_t, .inr (4, [.ref a_t_rooms, .ref a_t_setMinutes, .ref a_t_fits])), (a_t_rooms, .inl (cI, 8, .inl t_rooms)), (a_t_setMinutes, .inl (cI, 64, .inl t_setMinutes)), (a_t_fits, .inl (cZ, 576, .inl t_fits)), (a_o3, .inr (6, [.ref a_o3_lengths, .ref a_o3_times, .ref a_o3_players, .ref a_o3_minutes, .int o3_sections, .int o3_things, .int o3_noteTold, .int o3_toldSection, .int o3_toldBar])), (a_o3_minutes, .inl (cI, 6, .inl o3_minutes))] sz) := by
  refine jx_metW (ty := .int) (own := RX4) (cc := cX4_restOf) (maxL := 7) (by decide) rfl rfl (Nat.le_of_ble_eq_true rfl) ?_
  intro p e s m args below meth c Q ls A hx hb hml hown hts hK hN hA hP hD hS hl hret
  have hl : lv_has ls 7 [(0, .ref a_t), (1, .int p1), (2, .int p2), (3, .ref a_o3)] := hl
  have bl_l10 : ∀ (n : Nat) (x4 : Int32) (x5 : Int32) (x6 : Int32) (t_rooms : Nat → Int32) (t_fits : Nat → Int32) (H : Heap) (locs : List Loc) (ls : Array Slot), va_P D vwCl [(a_t, .inr (4, [.ref a_t_rooms, .ref a_t_setMinutes, .ref a_t_fits])), (a_t_rooms, .inl (cI, 8, .inl t_rooms)), (a_t_setMinutes, .inl (cI, 64, .inl t_setMinutes)), (a_t_fits, .inl (cZ, 576, .inl t_fits)), (a_o3, .inr (6, [.ref a_o3_lengths, .ref a_o3_times, .ref a_o3_players, .ref a_o3_minutes, .int o3_sections, .int o3_things, .int o3_noteTold, .int o3_toldSection, .int o3_toldBar])), (a_o3_minutes, .inl (cI, 6, .inl o3_minutes))] H → va_D A [(a_t, .inr (4, [.ref a_t_rooms, .ref a_t_setMinutes, .ref a_t_fits])), (a_t_rooms, .inl (cI, 8, .inl t_rooms)), (a_t_setMinutes, .inl (cI, 64, .inl t_setMinutes)), (a_t_fits, .inl (cZ, 576, .inl t_fits)), (a_o3, .inr (6, [.ref a_o3_lengths, .ref a_o3_times, .ref a_o3_players, .ref a_o3_minutes, .int o3_sections, .int o3_things, .int o3_noteTold, .int o3_toldSection, .int o3_toldBar])), (a_o3_minutes, .inl (cI, 6, .inl o3_minutes))] → va_S A s.heap H locs → lv_has ls 7 [(0, .ref a_t), (1, .int p1), (2, .int p2), (3, .ref a_o3), (4, .int x4), (5, .int x5), (6, .int x6)] → mi_X4_restOf_l10 t_setMinutes o3_things o3_minutes p1 p2 n x4 x5 x6 t_rooms t_fits = some (r, z_t_rooms, z_t_fits) → W p l e (headSpec wsX4_restOf rm_X4_restOf).room s m args below meth c H locs 0 0 Q (F0 m 10 ls []) := by
    intro n
    induction n with
    | zero =>
      intro x4 x5 x6 t_rooms t_fits H locs ls hP hD hS hl h
      rw [mi_X4_restOf_l10] at h
      cases h
    | succ n_l10 ih_l10 =>
      have bl_b54 : ∀ (x4 : Int32) (x5 : Int32) (x6 : Int32) (t_rooms : Nat → Int32) (t_fits : Nat → Int32) (H : Heap) (locs : List Loc) (ls : Array Slot), va_P D vwCl [(a_t, .inr (4, [.ref a_t_rooms, .ref a_t_setMinutes, .ref a_t_fits])), (a_t_rooms, .inl (cI, 8, .inl t_rooms)), (a_t_setMinutes, .inl (cI, 64, .inl t_setMinutes)), (a_t_fits, .inl (cZ, 576, .inl t_fits)), (a_o3, .inr (6, [.ref a_o3_lengths, .ref a_o3_times, .ref a_o3_players, .ref a_o3_minutes, .int o3_sections, .int o3_things, .int o3_noteTold, .int o3_toldSection, .int o3_toldBar])), (a_o3_minutes, .inl (cI, 6, .inl o3_minutes))] H → va_D A [(a_t, .inr (4, [.ref a_t_rooms, .ref a_t_setMinutes, .ref a_t_fits])), (a_t_rooms, .inl (cI, 8, .inl t_rooms)), (a_t_setMinutes, .inl (cI, 64, .inl t_setMinutes)), (a_t_fits, .inl (cZ, 576, .inl t_fits)), (a_o3, .inr (6, [.ref a_o3_lengths, .ref a_o3_times, .ref a_o3_players, .ref a_o3_minutes, .int o3_sections, .int o3_things, .int o3_noteTold, .int o3_toldSection, .int o3_toldBar])), (a_o3_minutes, .inl (cI, 6, .inl o3_minutes))] → va_S A s.heap H locs → lv_has ls 7 [(0, .ref a_t), (1, .int p1), (2, .int p2), (3, .ref a_o3), (4, .int x4), (5, .int x5), (6, .int x6)] → mi_X4_restOf_b54 (mi_X4_restOf_l10 t_setMinutes o3_things o3_minutes p1 p2 n_l10) x4 x5 x6 t_rooms t_fits = some (r, z_t_rooms, z_t_fits) → W p l e (headSpec wsX4_restOf rm_X4_restOf).room s m args below meth c H locs 0 0 Q (F0 m 54 ls []) := by
        intro x4 x5 x6 t_rooms t_fits H locs ls hP hD hS hl h
        unfold mi_X4_restOf_b54 at h
        refine lv_iinc (v := (x6 + 1)) (lv' := [(6, .int (x6 + 1)), (0, .ref a_t), (1, .int p1), (2, .int p2), (3, .ref a_o3), (4, .int x4), (5, .int x5)]) hx hb dX4_restOf_54 hl (k := 6) rfl rfl (by decide) rfl (fun ls hl => ?_)
        refine lv_goto (tgt := 10) hx hb dX4_restOf_57 (by decide) ?_
        exact ih_l10 x4 x5 (x6 + 1) t_rooms t_fits _ _ _ hP hD hS (lv_sub hl [1, 2, 3, 4, 5, 6, 0] rfl) h
      intro x4 x5 x6 t_rooms t_fits H locs ls hP hD hS hl h
      rw [mi_X4_restOf_l10] at h
      refine lv_iload hx hb dX4_restOf_10 (lv_at hl 6 rfl) ?_
      refine lv_iload_n hx hb dX4_restOf_12 rfl (lv_at hl 1 rfl) ?_
      refine lv_icmp_gt (tgt := 60) hx hb dX4_restOf_13 (by decide) (fun c1 => ?_) (fun c1 => ?_)
      · have h := jx_t h c1
        refine lv_iload hx hb dX4_restOf_60 (lv_at hl 5 rfl) ?_
        cases h
        exact hret 62 ls _ _ hP hD hS rfl dX4_restOf_62
      · have h := jx_f h c1
        refine lv_bipush (v := (-9 : Int32)) hx hb dX4_restOf_16 (by decide) ?_
        refine lv_istore (lv' := [(5, .int (-9 : Int32)), (0, .ref a_t), (1, .int p1), (2, .int p2), (3, .ref a_o3), (4, .int x4), (6, .int x6)]) hx hb dX4_restOf_18 hl (by decide) rfl (fun ls hl => ?_)
        refine lv_iload_n hx hb dX4_restOf_20 rfl (lv_at hl 3 rfl) ?_
        refine lv_iload hx hb dX4_restOf_21 (lv_at hl 6 rfl) ?_
        obtain ⟨r2, e3, h⟩ := jx_b1_of h
        refine jx_cSN (o := some (.int r2)) (As := [.int p2, .int x6]) (rest := []) ⟨hx, hb, hml, hown, hts⟩ (ct_X11_isIn l p2 x6 r2 e3) ⟨va_cnB 2 hts gX4_restOf_X11_isIn_n50 rfl rfl rfl (jx_Nm hN 22 rfl) (hts (.initialized RX11) (List.mem_of_getElem? (i := 2) rfl)) (by decide +kernel) ⟨Nat.le_of_ble_eq_true rfl, Nat.le_of_ble_eq_true rfl⟩, (hts (.static yX11_isIn) (List.mem_of_getElem? (i := 1) rfl)), trivial⟩ rfl hl.1 rfl (Nat.le_of_ble_eq_true rfl) dX4_restOf_23 ⟨Nat.zero_le _, Nat.zero_le _⟩ ?_
        refine lv_if_eq (tgt := 54) hx hb dX4_restOf_26 (by decide) (fun c4 => ?_) (fun c4 => ?_)
        · have h := jx_t h c4
          exact bl_b54 x4 (-9 : Int32) x6 t_rooms t_fits _ _ _ hP hD hS (lv_sub hl [1, 2, 3, 4, 5, 0, 6] rfl) h
        · have h := jx_f h c4
          refine lv_iload hx hb dX4_restOf_29 (lv_at hl 5 rfl) ?_
          refine lv_iconst (v := (1 : Int32)) hx hb dX4_restOf_31 (by decide) ?_
          refine lv_iload hx hb dX4_restOf_32 (lv_at hl 6 rfl) ?_
          refine lv_ishl hx hb dX4_restOf_34 ?_
          refine lv_iconst (v := (-1 : Int32)) hx hb dX4_restOf_35 (by decide) ?_
          refine lv_ixor hx hb dX4_restOf_36 ?_
          refine lv_iand hx hb dX4_restOf_37 ?_
          refine lv_istore (lv' := [(4, .int (x4 &&& (((1 : Int32) <<< (x6 &&& 31)) ^^^ (-1 : Int32)))), (5, .int (-9 : Int32)), (0, .ref a_t), (1, .int p1), (2, .int p2), (3, .ref a_o3), (6, .int x6)]) hx hb dX4_restOf_38 hl (by decide) rfl (fun ls hl => ?_)
          refine lv_aload_n hx hb dX4_restOf_40 rfl (lv_at hl 2 rfl) ?_
          refine lv_aload_n hx hb dX4_restOf_41 rfl (lv_at hl 5 rfl) ?_
          refine lv_iload hx hb dX4_restOf_42 (lv_at hl 6 rfl) ?_
          obtain ⟨r5, e6, h⟩ := jx_b1_of h
          refine jx_cV (o := some (.int r5)) (As := [.int x6]) (rest := [.ref a_t]) (b := a_o3) ⟨hx, hb, hml, hown, hts⟩ (ct_X6_minutesOf l D cI cZ cO a_o3 a_o3_lengths a_o3_times a_o3_players a_o3_minutes o3_sections o3_things o3_noteTold o3_toldSection o3_toldBar o3_minutes x6 r5 e6) (cwV 1 hts gX4_restOf_X6_minutesOf rfl rfl rfl (by decide +kernel) ⟨Nat.le_of_ble_eq_true rfl, Nat.le_of_ble_eq_true rfl⟩) hK hN hP [4, 5] rfl (va_recv hK hP (ci := 6) (q0 := 4) rfl rfl) rfl hl.1 rfl (Nat.le_of_ble_eq_true rfl) dX4_restOf_44 ⟨Nat.zero_le _, Nat.zero_le _⟩ ?_
          refine lv_iload hx hb dX4_restOf_47 (lv_at hl 0 rfl) ?_
          obtain ⟨r7, t_rooms_8, t_fits_9, e10, h⟩ := jx_b3_of h
          refine jx_cW (o := some (.int r7)) (As := [.int r5, .int (x4 &&& (((1 : Int32) <<< (x6 &&& 31)) ^^^ (-1 : Int32)))]) (rest := []) (b := a_t) (wr := [(a_o3, .inr (6, [.ref a_o3_lengths, .ref a_o3_times, .ref a_o3_players, .ref a_o3_minutes, .int o3_sections, .int o3_things, .int o3_noteTold, .int o3_toldSection, .int o3_toldBar])), (a_o3_minutes, .inl (cI, 6, .inl o3_minutes))]) (wd' := [(a_t, .inr (4, [.ref a_t_rooms, .ref a_t_setMinutes, .ref a_t_fits])), (a_t_rooms, .inl (cI, 8, .inl t_rooms_8)), (a_t_setMinutes, .inl (cI, 64, .inl t_setMinutes)), (a_t_fits, .inl (cZ, 576, .inl t_fits_9)), (a_o3, .inr (6, [.ref a_o3_lengths, .ref a_o3_times, .ref a_o3_players, .ref a_o3_minutes, .int o3_sections, .int o3_things, .int o3_noteTold, .int o3_toldSection, .int o3_toldBar])), (a_o3_minutes, .inl (cI, 6, .inl o3_minutes))]) ⟨hx, hb, hml, hown, hts⟩ (ct_X4_takeLowestRoom l D cI cZ cO a_t a_t_rooms a_t_setMinutes a_t_fits H.size t_rooms t_setMinutes t_fits r5 (x4 &&& (((1 : Int32) <<< (x6 &&& 31)) ^^^ (-1 : Int32))) r7 t_rooms_8 t_fits_9 e10) (cwV 2 hts gX4_restOf_X4_takeLowestRoom rfl rfl rfl (by decide +kernel) ⟨Nat.le_of_ble_eq_true rfl, Nat.le_of_ble_eq_true rfl⟩) hK hN hP hD hS hA [0, 1, 2, 3] [4, 5] (by decide) rfl rfl (by decide) (by decide) rfl (va_recv hK hP (ci := 4) (q0 := 0) rfl rfl) rfl hl.1 rfl (Nat.le_of_ble_eq_true rfl) dX4_restOf_49 ⟨Nat.zero_le _, Nat.zero_le _⟩ [2, 3, 4, 5, 0, 1] (by decide) rfl (fun H locs hP hD hS => ?_)
          refine lv_istore (lv' := [(5, .int r7), (4, .int (x4 &&& (((1 : Int32) <<< (x6 &&& 31)) ^^^ (-1 : Int32)))), (0, .ref a_t), (1, .int p1), (2, .int p2), (3, .ref a_o3), (6, .int x6)]) hx hb dX4_restOf_52 hl (by decide) rfl (fun ls hl => ?_)
          exact bl_b54 (x4 &&& (((1 : Int32) <<< (x6 &&& 31)) ^^^ (-1 : Int32))) r7 x6 t_rooms_8 t_fits_9 _ _ _ hP hD hS (lv_sub hl [2, 3, 4, 5, 1, 0, 6] rfl) h
  have h := hm
  unfold mi_X4_restOf at h
  refine lv_iload_n hx hb dX4_restOf_0 rfl (lv_at hl 2 rfl) ?_
  refine lv_istore (lv' := [(4, .int p2), (0, .ref a_t), (1, .int p1), (2, .int p2), (3, .ref a_o3)]) hx hb dX4_restOf_1 hl (by decide) rfl (fun ls hl => ?_)
  refine lv_bipush (v := (-9 : Int32)) hx hb dX4_restOf_3 (by decide) ?_
  refine lv_istore (lv' := [(5, .int (-9 : Int32)), (4, .int p2), (0, .ref a_t), (1, .int p1), (2, .int p2), (3, .ref a_o3)]) hx hb dX4_restOf_5 hl (by decide) rfl (fun ls hl => ?_)
  refine lv_iconst (v := (0 : Int32)) hx hb dX4_restOf_7 (by decide) ?_
  refine lv_istore (lv' := [(6, .int (0 : Int32)), (5, .int (-9 : Int32)), (4, .int p2), (0, .ref a_t), (1, .int p1), (2, .int p2), (3, .ref a_o3)]) hx hb dX4_restOf_8 hl (by decide) rfl (fun ls hl => ?_)
  exact bl_l10 jx_F p2 (-9 : Int32) (0 : Int32) t_rooms t_fits _ _ _ hP hD hS (lv_sub hl [3, 4, 5, 6, 2, 1, 0] rfl) h
