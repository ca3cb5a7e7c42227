/-! written by program (wip/whole/gen.py) out of the printed names: each method as a pure function, and its contract -/
def mi_X11_type (t_text_size : Int32) (t_text_bytes : Nat → Int32) (p1 : Int32) : Option (Int32 × Int32 × (Nat → Int32)) := jx_b1 (mi_X11_isWithin p1 (0 : Int32) (255 : Int32)) fun r1 => (if r1 = 0 then (some ((-1 : Int32), t_text_size, t_text_bytes)) else (jx_b3 (mi_X8_takes t_text_size t_text_bytes p1) fun r4 t_text_size_5 t_text_bytes_6 => (if r4 = 0 then (some ((-3 : Int32), t_text_size_5, t_text_bytes_6)) else (some (t_text_size_5, t_text_size_5, t_text_bytes_6)))))
abbrev rm_X11_type : Room := { frames := 1, cells := 0, slots := 0, locals := 22 }
set_option maxRecDepth 100000 in
set_option maxHeartbeats 4000000 in
theorem ct_X11_type (l : Launch) (D : va_G) (cI cZ cO : ClassId) (a_t a_t_text a_t_score a_t_draft a_t_course a_t_firstImage a_t_secondImage a_t_ear a_t_packer a_t_kinds a_t_text_bytes : Nat) (sz : Nat) (t_keptImages : Int32) (t_traced : Int64) (t_text_size : Int32) (t_text_fault : Int32) (t_text_next : Int32) (t_text_tokenAt : Int32) (t_text_tokenIs : Int32) (t_text_tokenValue : Int32) (t_text_bytes : Nat → Int32) (p1 : Int32) (r : Int32) (z_t_text_size : Int32) (z_t_text_bytes : Nat → Int32) (hm : mi_X11_type t_text_size t_text_bytes p1 = some (r, z_t_text_size, z_t_text_bytes)) : Met l yX11_type wsX11_type rm_X11_type (va_Pc [.ref a_t, .int p1] (jx_W D (jx_T cI cZ cO) sz [(a_t, .inr (11, [.ref a_t_text, .ref a_t_score, .ref a_t_draft, .ref a_t_course, .ref a_t_firstImage, .ref a_t_secondImage, .ref a_t_ear, .ref a_t_packer, .ref a_t_kinds, .int t_keptImages, .long t_traced])), (a_t_text, .inr (8, [.ref a_t_text_bytes, .int t_text_size, .int t_text_fault, .int t_text_next, .int t_text_tokenAt, .int t_text_tokenIs, .int t_text_tokenValue])), (a_t_text_bytes, .inl (cI, 120, .inl t_text_bytes))])) (jx_Q (some (.int r)) D [(a_t, .inr (11, [.ref a_t_text, .ref a_t_score, .ref a_t_draft, .ref a_t_course, .ref a_t_firstImage, .ref a_t_secondImage, .ref a_t_ear, .ref a_t_packer, .ref a_t_kinds, .int t_keptImages, .long t_traced])), (a_t_text, .inr (8, [.ref a_t_text_bytes, .int z_t_text_size, .int t_text_fault, .int t_text_next, .int t_text_tokenAt, .int t_text_tokenIs, .int t_text_tokenValue])), (a_t_text_bytes, .inl (cI, 120, .inl z_t_text_bytes))] (va_A [(a_t, .inr (11, [.ref a_t_text, .ref a_t_score, .ref a_t_draft, .ref a_t_course, .ref a_t_firstImage, .ref a_t_secondImage, .ref a_t_ear, .ref a_t_packer, .ref a_t_kinds, .int t_keptImages, .long t_traced])), (a_t_text, .inr (8, [.ref a_t_text_bytes, .int t_text_size, .int t_text_fault, .int t_text_next, .int t_text_tokenAt, .int t_text_tokenIs, .int t_text_tokenValue])), (a_t_text_bytes, .inl (cI, 120, .inl t_text_bytes))] sz)) 0 0 (va_A [(a_t, .inr (11, [.ref a_t_text, .ref a_t_score, .ref a_t_draft, .ref a_t_course, .ref a_t_firstImage, .ref a_t_secondImage, .ref a_t_ear, .ref a_t_packer, .ref a_t_kinds, .int t_keptImages, .long t_traced])), (a_t_text, .inr (8, [.ref a_t_text_bytes, .int t_text_size, .int t_text_fault, .int t_text_next, .int t_text_tokenAt, .int t_text_tokenIs, .int t_text_tokenValue])), (a_t_text_bytes, .inl (cI, 120, .inl t_text_bytes))] sz) := by
  refine jx_metW (ty := .int) (own := RX11) (cc := cX11_type) (maxL := 2) (by decide) rfl rfl (Nat.le_of_ble_eq_true rfl) ?_
  intro p e s m args below meth c Q ls A hx hb hml hown hts hK hN hA hP hD hS hl hret
  have hi_X11 : ∀ w ∈ u_ws RX11 TX11 11, w ∈ wsX11_type := by decide +kernel
  have hi_X8 : ∀ w ∈ u_ws RX8 TX8 7, w ∈ wsX11_type := by decide +kernel
  have hl : lv_has ls 2 [(0, .ref a_t), (1, .int p1)] := hl
  have h := hm
  unfold mi_X11_type at h
  refine lv_iload_n hx hb dX11_type_0 rfl (lv_at hl 1 rfl) ?_
  refine lv_iconst (v := (0 : Int32)) hx hb dX11_type_1 (by decide) ?_
  refine lv_sipush (v := (255 : Int32)) hx hb dX11_type_2 (by decide) ?_
  obtain ⟨r1, e2, h⟩ := jx_b1_of h
  refine jx_cS (o := some (.int r1)) (As := [.int p1, .int (0 : Int32), .int (255 : Int32)]) (rest := []) ⟨hx, hb, hml, hown, hts⟩ (ct_X11_isWithin l p1 (0 : Int32) (255 : Int32) r1 e2) (va_cwS 3 hts gX11_type_X11_isWithin rfl rfl rfl (by decide +kernel) ⟨Nat.le_of_ble_eq_true rfl, Nat.le_of_ble_eq_true rfl⟩) rfl hl.1 rfl (Nat.le_of_ble_eq_true rfl) dX11_type_5 ⟨Nat.zero_le _, Nat.zero_le _⟩ ?_
  refine lv_if_ne (tgt := 13) hx hb dX11_type_8 (by decide) (fun c3 => ?_) (fun c3 => ?_)
  · have h := jx_f h c3
    refine lv_aload_n hx hb dX11_type_13 rfl (lv_at hl 0 rfl) ?_
    refine va_get (D := D) (ci := 11) (v := .ref a_t_text) (C := RX11) (T := TX11) (N := 11) hx hb hts hi_X11 hown hK hP 0 rfl rfl 0 (by decide) (hts (.fieldLink RX11 12 "TriangleRest" "text" "LTriangleRest$Text;") (List.mem_of_getElem? (i := 1) rfl)) (fun _ h9 => h9) rfl dX11_type_14 ?_
    refine lv_iload_n hx hb dX11_type_17 rfl (lv_at hl 1 rfl) ?_
    obtain ⟨r4, t_text_size_5, t_text_bytes_6, e7, h⟩ := jx_b3_of h
    refine jx_cW (o := some (.int r4)) (As := [.int p1]) (rest := []) (b := a_t_text) (wr := [(a_t, .inr (11, [.ref a_t_text, .ref a_t_score, .ref a_t_draft, .ref a_t_course, .ref a_t_firstImage, .ref a_t_secondImage, .ref a_t_ear, .ref a_t_packer, .ref a_t_kinds, .int t_keptImages, .long t_traced]))]) (wd' := [(a_t, .inr (11, [.ref a_t_text, .ref a_t_score, .ref a_t_draft, .ref a_t_course, .ref a_t_firstImage, .ref a_t_secondImage, .ref a_t_ear, .ref a_t_packer, .ref a_t_kinds, .int t_keptImages, .long t_traced])), (a_t_text, .inr (8, [.ref a_t_text_bytes, .int t_text_size_5, .int t_text_fault, .int t_text_next, .int t_text_tokenAt, .int t_text_tokenIs, .int t_text_tokenValue])), (a_t_text_bytes, .inl (cI, 120, .inl t_text_bytes_6))]) ⟨hx, hb, hml, hown, hts⟩ (ct_X8_takes l D cI cZ cO a_t_text a_t_text_bytes s.heap.size t_text_size t_text_fault t_text_next t_text_tokenAt t_text_tokenIs t_text_tokenValue t_text_bytes p1 r4 t_text_size_5 t_text_bytes_6 e7) (cwV 1 hts gX11_type_X8_takes rfl rfl rfl (by decide +kernel) ⟨Nat.le_of_ble_eq_true rfl, Nat.le_of_ble_eq_true rfl⟩) hK hN hP hD hS hA [1, 2] [0] (by decide) rfl rfl (by decide) (by decide) rfl (va_recv hK hP (ci := 8) (q0 := 1) rfl rfl) rfl hl.1 rfl (Nat.le_of_ble_eq_true rfl) dX11_type_18 ⟨Nat.zero_le _, Nat.zero_le _⟩ [0, 1, 2] (by decide) rfl (fun H locs hP hD hS => ?_)
    refine lv_if_eq (tgt := 34) hx hb dX11_type_21 (by decide) (fun c8 => ?_) (fun c8 => ?_)
    · have h := jx_t h c8
      refine lv_bipush (v := (-3 : Int32)) hx hb dX11_type_34 (by decide) ?_
      cases h
      exact hret 36 ls _ _ hP hD hS rfl dX11_type_36
    · have h := jx_f h c8
      refine lv_aload_n hx hb dX11_type_24 rfl (lv_at hl 0 rfl) ?_
      refine va_get (D := D) (ci := 11) (v := .ref a_t_text) (C := RX11) (T := TX11) (N := 11) hx hb hts hi_X11 hown hK hP 0 rfl rfl 0 (by decide) (hts (.fieldLink RX11 12 "TriangleRest" "text" "LTriangleRest$Text;") (List.mem_of_getElem? (i := 1) rfl)) (fun _ h9 => h9) rfl dX11_type_25 ?_
      refine va_get (D := D) (ci := 8) (v := .int t_text_size_5) (C := RX8) (T := TX8) (N := 7) hx hb hts hi_X8 hown hK hP 1 rfl rfl 1 (by decide) (hts (.fieldLink RX11 83 "TriangleRest$Text" "size" "I") (List.mem_of_getElem? (i := 2) rfl)) (fun _ h9 => h9) rfl dX11_type_28 ?_
      refine lv_goto (tgt := 36) hx hb dX11_type_31 (by decide) ?_
      cases h
      exact hret 36 ls _ _ hP hD hS rfl dX11_type_36
  · have h := jx_t h c3
    refine lv_iconst (v := (-1 : Int32)) hx hb dX11_type_11 (by decide) ?_
    cases h
    exact hret 12 ls _ _ hP hD hS rfl dX11_type_12
def mi_X11_clear (t_text_size : Int32) : Option (Int32 × Int32) := some (t_text_size, (0 : Int32))
abbrev rm_X11_clear : Room := { frames := 0, cells := 0, slots := 0, locals := 0 }
set_option maxRecDepth 100000 in
set_option maxHeartbeats 4000000 in
theorem ct_X11_clear (l : Launch) (D : va_G) (cI cZ cO : ClassId) (a_t a_t_text a_t_score a_t_draft a_t_course a_t_firstImage a_t_secondImage a_t_ear a_t_packer a_t_kinds a_t_text_bytes : Nat) (sz : Nat) (t_keptImages : Int32) (t_traced : Int64) (t_text_size : Int32) (t_text_fault : Int32) (t_text_next : Int32) (t_text_tokenAt : Int32) (t_text_tokenIs : Int32) (t_text_tokenValue : Int32) (r : Int32) (z_t_text_size : Int32) (hm : mi_X11_clear t_text_size = some (r, z_t_text_size)) : Met l yX11_clear wsX11_clear rm_X11_clear (va_Pc [.ref a_t] (jx_W D (jx_T cI cZ cO) sz [(a_t, .inr (11, [.ref a_t_text, .ref a_t_score, .ref a_t_draft, .ref a_t_course, .ref a_t_firstImage, .ref a_t_secondImage, .ref a_t_ear, .ref a_t_packer, .ref a_t_kinds, .int t_keptImages, .long t_traced])), (a_t_text, .inr (8, [.ref a_t_text_bytes, .int t_text_size, .int t_text_fault, .int t_text_next, .int t_text_tokenAt, .int t_text_tokenIs, .int t_text_tokenValue]))])) (jx_Q (some (.int r)) D [(a_t, .inr (11, [.ref a_t_text, .ref a_t_score, .ref a_t_draft, .ref a_t_course, .ref a_t_firstImage, .ref a_t_secondImage, .ref a_t_ear, .ref a_t_packer, .ref a_t_kinds, .int t_keptImages, .long t_traced])), (a_t_text, .inr (8, [.ref a_t_text_bytes, .int z_t_text_size, .int t_text_fault, .int t_text_next, .int t_text_tokenAt, .int t_text_tokenIs, .int t_text_tokenValue]))] (va_A [(a_t, .inr (11, [.ref a_t_text, .ref a_t_score, .ref a_t_draft, .ref a_t_course, .ref a_t_firstImage, .ref a_t_secondImage, .ref a_t_ear, .ref a_t_packer, .ref a_t_kinds, .int t_keptImages, .long t_traced])), (a_t_text, .inr (8, [.ref a_t_text_bytes, .int t_text_size, .int t_text_fault, .int t_text_next, .int t_text_tokenAt, .int t_text_tokenIs, .int t_text_tokenValue]))] sz)) 0 0 (va_A [(a_t, .inr (11, [.ref a_t_text, .ref a_t_score, .ref a_t_draft, .ref a_t_course, .ref a_t_firstImage, .ref a_t_secondImage, .ref a_t_ear, .ref a_t_packer, .ref a_t_kinds, .int t_keptImages, .long t_traced])), (a_t_text, .inr (8, [.ref a_t_text_bytes, .int t_text_size, .int t_text_fault, .int t_text_next, .int t_text_tokenAt, .int t_text_tokenIs, .int t_text_tokenValue]))] sz) := by
  refine jx_metW (ty := .int) (own := RX11) (cc := cX11_clear) (maxL := 2) (by decide) rfl rfl (Nat.le_of_ble_eq_true rfl) ?_
  intro p e s m args below meth c Q ls A hx hb hml hown hts hK hN hA hP hD hS hl hret
  have hi_X11 : ∀ w ∈ u_ws RX11 TX11 11, w ∈ wsX11_clear := by decide +kernel
  have hi_X8 : ∀ w ∈ u_ws RX8 TX8 7, w ∈ wsX11_clear := by decide +kernel
  have hl : lv_has ls 2 [(0, .ref a_t)] := hl
  have h := hm
  unfold mi_X11_clear at h
  refine lv_aload_n hx hb dX11_clear_0 rfl (lv_at hl 0 rfl) ?_
  refine va_get (D := D) (ci := 11) (v := .ref a_t_text) (C := RX11) (T := TX11) (N := 11) hx hb hts hi_X11 hown hK hP 0 rfl rfl 0 (by decide) (hts (.fieldLink RX11 12 "TriangleRest" "text" "LTriangleRest$Text;") (List.mem_of_getElem? (i := 1) rfl)) (fun _ h9 => h9) rfl dX11_clear_1 ?_
  refine va_get (D := D) (ci := 8) (v := .int t_text_size) (C := RX8) (T := TX8) (N := 7) hx hb hts hi_X8 hown hK hP 1 rfl rfl 1 (by decide) (hts (.fieldLink RX11 83 "TriangleRest$Text" "size" "I") (List.mem_of_getElem? (i := 2) rfl)) (fun _ h9 => h9) rfl dX11_clear_4 ?_
  refine lv_istore_n (lv' := [(1, .int t_text_size), (0, .ref a_t)]) hx hb dX11_clear_7 rfl hl (by decide) rfl (fun ls hl => ?_)
  refine lv_aload_n hx hb dX11_clear_8 rfl (lv_at hl 1 rfl) ?_
  refine va_get (D := D) (ci := 11) (v := .ref a_t_text) (C := RX11) (T := TX11) (N := 11) hx hb hts hi_X11 hown hK hP 0 rfl rfl 0 (by decide) (hts (.fieldLink RX11 12 "TriangleRest" "text" "LTriangleRest$Text;") (List.mem_of_getElem? (i := 1) rfl)) (fun _ h9 => h9) rfl dX11_clear_9 ?_
  refine lv_iconst (v := (0 : Int32)) hx hb dX11_clear_12 (by decide) ?_
  refine va_put (D := D) (ci := 8) (v := .int (0 : Int32)) (ty := .int) (C := RX8) (T := TX8) (N := 7) hx hb hts hi_X8 tyX8 tyX8_ok nmX8 hown hK hP hD hS 1 rfl rfl 1 (by decide) (hts (.fieldLink RX11 83 "TriangleRest$Text" "size" "I") (List.mem_of_getElem? (i := 2) rfl)) (fun _ h9 => h9) rfl (by decide +kernel) rfl rfl (Nat.le_of_ble_eq_true rfl) dX11_clear_13 (fun H locs hP hD hS => ?_)
  have hP : va_P D vwCl [(a_t, .inr (11, [.ref a_t_text, .ref a_t_score, .ref a_t_draft, .ref a_t_course, .ref a_t_firstImage, .ref a_t_secondImage, .ref a_t_ear, .ref a_t_packer, .ref a_t_kinds, .int t_keptImages, .long t_traced])), (a_t_text, .inr (8, [.ref a_t_text_bytes, .int (0 : Int32), .int t_text_fault, .int t_text_next, .int t_text_tokenAt, .int t_text_tokenIs, .int t_text_tokenValue]))] H := hP
  have hD : va_D A [(a_t, .inr (11, [.ref a_t_text, .ref a_t_score, .ref a_t_draft, .ref a_t_course, .ref a_t_firstImage, .ref a_t_secondImage, .ref a_t_ear, .ref a_t_packer, .ref a_t_kinds, .int t_keptImages, .long t_traced])), (a_t_text, .inr (8, [.ref a_t_text_bytes, .int (0 : Int32), .int t_text_fault, .int t_text_next, .int t_text_tokenAt, .int t_text_tokenIs, .int t_text_tokenValue]))] := hD
  refine lv_iload_n hx hb dX11_clear_16 rfl (lv_at hl 0 rfl) ?_
  cases h
  exact hret 17 ls _ _ hP hD hS rfl dX11_clear_17
def mi_X11_piece (t_keptImages : Int32) (t_text_size : Int32) (t_text_tokenAt : Int32) (t_text_tokenIs : Int32) (t_text_tokenValue : Int32) (t_text_bytes : Nat → Int32) (t_score_sections : Int32) (t_score_things : Int32) (t_score_noteTold : Int32) (t_score_toldSection : Int32) (t_score_toldBar : Int32) (t_score_lengths : Nat → Int32) (t_score_times : Nat → Int32) (t_score_players : Nat → Int32) (t_score_minutes : Nat → Int32) (t_draft_lengths : Nat → Int32) (t_draft_times : Nat → Int32) (t_draft_players : Nat → Int32) (t_draft_minutes : Nat → Int32) (t_course_bar : Int32) (t_course_count : Int32) (t_course_waits : Int32) (t_course_cut : Int32) (t_course_struck : Int32) (t_course_known : Int32) (t_ear_heard : Int32) : Option (Int32 × Int32 × Int32 × Int32 × Int32 × Int32 × Int32 × Int32 × Int32 × Int32 × Int32 × Int32 × Int32 × (Nat → Int32) × (Nat → Int32) × (Nat → Int32) × (Nat → Int32) × Int32 × Int32 × Int32 × Int32 × Int32 × (Nat → Int32) × (Nat → Int32) × (Nat → Int32) × (Nat → Int32) × Int32 × Int32 × Int32 × Int32 × Int32 × Int32 × Int32) := jx_b15 (mi_X8_tellTo t_text_size t_text_tokenAt t_text_tokenIs t_text_tokenValue t_text_bytes t_draft_lengths t_draft_times t_draft_players t_draft_minutes) fun r1 t_text_fault_2 t_text_next_3 t_text_tokenAt_4 t_text_tokenIs_5 t_text_tokenValue_6 t_draft_sections_7 t_draft_things_8 t_draft_noteTold_9 t_draft_toldSection_10 t_draft_toldBar_11 t_draft_lengths_12 t_draft_times_13 t_draft_players_14 t_draft_minutes_15 => (if t_text_fault_2 = (-1 : Int32) then (jx_b9 (mi_X6_becomeLike t_score_lengths t_score_times t_score_players t_score_minutes t_draft_sections_7 t_draft_things_8 t_draft_noteTold_9 t_draft_toldSection_10 t_draft_toldBar_11 t_draft_lengths_12 t_draft_times_13 t_draft_players_14 t_draft_minutes_15) fun t_score_sections_18 t_score_things_19 t_score_noteTold_20 t_score_toldSection_21 t_score_toldBar_22 t_score_lengths_23 t_score_times_24 t_score_players_25 t_score_minutes_26 => (jx_b6 (mi_X2_begin) fun t_course_bar_28 t_course_count_29 t_course_waits_30 t_course_cut_31 t_course_struck_32 t_course_known_33 => (some (r1, (0 : Int32), (0 : Int32), t_text_fault_2, t_text_next_3, t_text_tokenAt_4, t_text_tokenIs_5, t_text_tokenValue_6, t_score_sections_18, t_score_things_19, t_score_noteTold_20, t_score_toldSection_21, t_score_toldBar_22, t_score_lengths_23, t_score_times_24, t_score_players_25, t_score_minutes_26, t_draft_sections_7, t_draft_things_8, t_draft_noteTold_9, t_draft_toldSection_10, t_draft_toldBar_11, t_draft_lengths_12, t_draft_times_13, t_draft_players_14, t_draft_minutes_15, t_course_bar_28, t_course_count_29, t_course_waits_30, t_course_cut_31, t_course_struck_32, t_course_known_33, (0 : Int32))))) else (some (((-10 : Int32) - t_text_fault_2), t_keptImages, t_text_size, t_text_fault_2, t_text_next_3, t_text_tokenAt_4, t_text_tokenIs_5, t_text_tokenValue_6, t_score_sections, t_score_things, t_score_noteTold, t_score_toldSection, t_score_toldBar, t_score_lengths, t_score_times, t_score_players, t_score_minutes, t_draft_sections_7, t_draft_things_8, t_draft_noteTold_9, t_draft_toldSection_10, t_draft_toldBar_11, t_draft_lengths_12, t_draft_times_13, t_draft_players_14, t_draft_minutes_15, t_course_bar, t_course_count, t_course_waits, t_course_cut, t_course_struck, t_course_known, t_ear_heard)))
abbrev rm_X11_piece : Room := { frames := 6, cells := 0, slots := 0, locals := 134 }
set_option maxRecDepth 100000 in
set_option maxHeartbeats 4000000 in
theorem ct_X11_piece (l : Launch) (D : va_G) (cI cZ cO : ClassId) (a_t a_t_text a_t_score a_t_draft a_t_course a_t_firstImage a_t_secondImage a_t_ear a_t_packer a_t_kinds a_t_text_bytes a_t_score_lengths a_t_score_times a_t_score_players a_t_score_minutes a_t_draft_lengths a_t_draft_times a_t_draft_players a_t_draft_minutes a_t_course_past a_t_ear_laters a_t_ear_players a_t_ear_playing a_t_ear_placesAhead a_t_ear_answers : Nat) (sz : Nat) (t_keptImages : Int32) (t_traced : Int64) (t_text_size : Int32) (t_text_fault : Int32) (t_text_next : Int32) (t_text_tokenAt : Int32) (t_text_tokenIs : Int32) (t_text_tokenValue : Int32) (t_text_bytes : Nat → Int32) (t_score_sections : Int32) (t_score_things : Int32) (t_score_noteTold : Int32) (t_score_toldSection : Int32) (t_score_toldBar : Int32) (t_score_lengths : Nat → Int32) (t_score_times : Nat → Int32) (t_score_players : Nat → Int32) (t_score_minutes : Nat → Int32) (t_draft_sections : Int32) (t_draft_things : Int32) (t_draft_noteTold : Int32) (t_draft_toldSection : Int32) (t_draft_toldBar : Int32) (t_draft_lengths : Nat → Int32) (t_draft_times : Nat → Int32) (t_draft_players : Nat → Int32) (t_draft_minutes : Nat → Int32) (t_course_bar : Int32) (t_course_count : Int32) (t_course_waits : Int32) (t_course_cut : Int32) (t_course_struck : Int32) (t_course_known : Int32) (t_ear_heard : Int32) (t_ear_bars : Int32) (r : Int32) (z_t_keptImages : Int32) (z_t_text_size : Int32) (z_t_text_fault : Int32) (z_t_text_next : Int32) (z_t_text_tokenAt : Int32) (z_t_text_tokenIs : Int32) (z_t_text_tokenValue : Int32) (z_t_score_sections : Int32) (z_t_score_things : Int32) (z_t_score_noteTold : Int32) (z_t_score_toldSection : Int32) (z_t_score_toldBar : Int32) (z_t_score_lengths : Nat → Int32) (z_t_score_times : Nat → Int32) (z_t_score_players : Nat → Int32) (z_t_score_minutes : Nat → Int32) (z_t_draft_sections : Int32) (z_t_draft_things : Int32) (z_t_draft_noteTold : Int32) (z_t_draft_toldSection : Int32) (z_t_draft_toldBar : Int32) (z_t_draft_lengths : Nat → Int32) (z_t_draft_times : Nat → Int32) (z_t_draft_players : Nat → Int32) (z_t_draft_minutes : Nat → Int32) (z_t_course_bar : Int32) (z_t_course_count : Int32) (z_t_course_waits : Int32) (z_t_course_cut : Int32) (z_t_course_struck : Int32) (z_t_course_known : Int32) (z_t_ear_heard : Int32) (hm : mi_X11_piece t_keptImages t_text_size t_text_tokenAt t_text_tokenIs t_text_tokenValue t_text_bytes t_score_sections t_score_things t_score_noteTold t_score_toldSection t_score_toldBar t_score_lengths t_score_times t_score_players t_score_minutes t_draft_lengths t_draft_times t_draft_players t_draft_minutes t_course_bar t_course_count t_course_waits t_course_cut t_course_struck t_course_known t_ear_heard = some (r, z_t_keptImages, z_t_text_size, z_t_text_fault, z_t_text_next, z_t_text_tokenAt, z_t_text_tokenIs, z_t_text_tokenValue, z_t_score_sections, z_t_score_things, z_t_score_noteTold, z_t_score_toldSection, z_t_score_toldBar, z_t_score_lengths, z_t_score_times, z_t_score_players, z_t_score_minutes, z_t_draft_sections, z_t_draft_things, z_t_draft_noteTold, z_t_draft_toldSection, z_t_draft_toldBar, z_t_draft_lengths, z_t_draft_times, z_t_draft_players, z_t_draft_minutes, z_t_course_bar, z_t_course_count, z_t_course_waits, z_t_course_cut, z_t_course_struck, z_t_course_known, z_t_ear_heard)) : Met l yX11_piece wsX11_piece rm_X11_piece (va_Pc [.ref a_t] (jx_W D (jx_T cI cZ cO) sz [(a_t, .inr (11, [.ref a_t_text, .ref a_t_score, .ref a_t_draft, .ref a_t_course, .ref a_t_firstImage, .ref a_t_secondImage, .ref a_t_ear, .ref a_t_packer, .ref a_t_kinds, .int t_keptImages, .long t_traced])), (a_t_text, .inr (8, [.ref a_t_text_bytes, .int t_text_size, .int t_text_fault, .int t_text_next, .int t_text_tokenAt, .int t_text_tokenIs, .int t_text_tokenValue])), (a_t_text_bytes, .inl (cI, 120, .inl t_text_bytes)), (a_t_score, .inr (6, [.ref a_t_score_lengths, .ref a_t_score_times, .ref a_t_score_players, .ref a_t_score_minutes, .int t_score_sections, .int t_score_things, .int t_score_noteTold, .int t_score_toldSection, .int t_score_toldBar])), (a_t_score_lengths, .inl (cI, 8, .inl t_score_lengths)), (a_t_score_times, .inl (cI, 8, .inl t_score_times)), (a_t_score_players, .inl (cI, 8, .inl t_score_players)), (a_t_score_minutes, .inl (cI, 6, .inl t_score_minutes)), (a_t_draft, .inr (6, [.ref a_t_draft_lengths, .ref a_t_draft_times, .ref a_t_draft_players, .ref a_t_draft_minutes, .int t_draft_sections, .int t_draft_things, .int t_draft_noteTold, .int t_draft_toldSection, .int t_draft_toldBar])), (a_t_draft_lengths, .inl (cI, 8, .inl t_draft_lengths)), (a_t_draft_times, .inl (cI, 8, .inl t_draft_times)), (a_t_draft_players, .inl (cI, 8, .inl t_draft_players)), (a_t_draft_minutes, .inl (cI, 6, .inl t_draft_minutes)), (a_t_course, .inr (2, [.int t_course_bar, .int t_course_count, .int t_course_waits, .int t_course_cut, .int t_course_struck, .int t_course_known, .ref a_t_course_past])), (a_t_ear, .inr (3, [.ref a_t_ear_laters, .ref a_t_ear_players, .int t_ear_heard, .ref a_t_ear_playing, .ref a_t_ear_placesAhead, .ref a_t_ear_answers, .int t_ear_bars]))])) (jx_Q (some (.int r)) D [(a_t, .inr (11, [.ref a_t_text, .ref a_t_score, .ref a_t_draft, .ref a_t_course, .ref a_t_firstImage, .ref a_t_secondImage, .ref a_t_ear, .ref a_t_packer, .ref a_t_kinds, .int z_t_keptImages, .long t_traced])), (a_t_text, .inr (8, [.ref a_t_text_bytes, .int z_t_text_size, .int z_t_text_fault, .int z_t_text_next, .int z_t_text_tokenAt, .int z_t_text_tokenIs, .int z_t_text_tokenValue])), (a_t_text_bytes, .inl (cI, 120, .inl t_text_bytes)), (a_t_score, .inr (6, [.ref a_t_score_lengths, .ref a_t_score_times, .ref a_t_score_players, .ref a_t_score_minutes, .int z_t_score_sections, .int z_t_score_things, .int z_t_score_noteTold, .int z_t_score_toldSection, .int z_t_score_toldBar])), (a_t_score_lengths, .inl (cI, 8, .inl z_t_score_lengths)), (a_t_score_times, .inl (cI, 8, .inl z_t_score_times)), (a_t_score_players, .inl (cI, 8, .inl z_t_score_players)), (a_t_score_minutes, .inl (cI, 6, .inl z_t_score_minutes)), (a_t_draft, .inr (6, [.ref a_t_draft_lengths, .ref a_t_draft_times, .ref a_t_draft_players, .ref a_t_draft_minutes, .int z_t_draft_sections, .int z_t_draft_things, .int z_t_draft_noteTold, .int z_t_draft_toldSection, .int z_t_draft_toldBar])), (a_t_draft_lengths, .inl (cI, 8, .inl z_t_draft_lengths)), (a_t_draft_times, .inl (cI, 8, .inl z_t_draft_times)), (a_t_draft_players, .inl (cI, 8, .inl z_t_draft_players)), (a_t_draft_minutes, .inl (cI, 6, .inl z_t_draft_minutes)), (a_t_course, .inr (2, [.int z_t_course_bar, .int z_t_course_count, .int z_t_course_waits, .int z_t_course_cut, .int z_t_course_struck, .int z_t_course_known, .ref a_t_course_past])), (a_t_ear, .inr (3, [.ref a_t_ear_laters, .ref a_t_ear_players, .int z_t_ear_heard, .ref a_t_ear_playing, .ref a_t_ear_placesAhead, .ref a_t_ear_answers, .int t_ear_bars]))] (va_A [(a_t, .inr (11, [.ref a_t_text, .ref a_t_score, .ref a_t_draft, .ref a_t_course, .ref a_t_firstImage, .ref a_t_secondImage, .ref a_t_ear, .ref a_t_packer, .ref a_t_kinds, .int t_keptImages, .long t_traced])), (a_t_text, .inr (8, [.ref a_t_text_bytes, .int t_text_size, .int t_text_fault, .int t_text_next, .int t_text_tokenAt, .int t_text_tokenIs, .int t_text_tokenValue])), (a_t_text_bytes, .inl (cI, 120, .inl t_text_bytes)), (a_t_score, .inr (6, [.ref a_t_score_lengths, .ref a_t_score_times, .ref a_t_score_players, .ref a_t_score_minutes, .int t_score_sections, .int t_score_things, .int t_score_noteTold, .int t_score_toldSection, .int t_score_toldBar])), (a_t_score_lengths, .inl (cI, 8, .inl t_score_lengths)), (a_t_score_times, .inl (cI, 8, .inl t_score_times)), (a_t_score_players, .inl (cI, 8, .inl t_score_players)), (a_t_score_minutes, .inl (cI, 6, .inl t_score_minutes)), (a_t_draft, .inr (6, [.ref a_t_draft_lengths, .ref a_t_draft_times, .ref a_t_draft_players, .ref a_t_draft_minutes, .int t_draft_sections, .int t_draft_things, .int t_draft_noteTold, .int t_draft_toldSection, .int t_draft_toldBar])), (a_t_draft_lengths, .inl (cI, 8, .inl t_draft_lengths)), (a_t_draft_times, .inl (cI, 8, .inl t_draft_times)), (a_t_draft_players, .inl (cI, 8, .inl t_draft_players)), (a_t_draft_minutes, .inl (cI, 6, .inl t_draft_minutes)), (a_t_course, .inr (2, [.int t_course_bar, .int t_course_count, .int t_course_waits, .int t_course_cut, .int t_course_struck, .int t_course_known, .ref a_t_course_past])), (a_t_ear, .inr (3, [.ref a_t_ear_laters, .ref a_t_ear_players, .int t_ear_heard, .ref a_t_ear_playing, .ref a_t_ear_placesAhead, .ref a_t_ear_answers, .int t_ear_bars]))] sz)) 0 0 (va_A [(a_t, .inr (11, [.ref a_t_text, .ref a_t_score, .ref a_t_draft, .ref a_t_course, .ref a_t_firstImage, .ref a_t_secondImage, .ref a_t_ear, .ref a_t_packer, .ref a_t_kinds, .int t_keptImages, .long t_traced])), (a_t_text, .inr (8, [.ref a_t_text_bytes, .int t_text_size, .int t_text_fault, .int t_text_next, .int t_text_tokenAt, .int t_text_tokenIs, .int t_text_tokenValue])), (a_t_text_bytes, .inl (cI, 120, .inl t_text_bytes)), (a_t_score, .inr (6, [.ref a_t_score_lengths, .ref a_t_score_times, .ref a_t_score_players, .ref a_t_score_minutes, .int t_score_sections, .int t_score_things, .int t_score_noteTold, .int t_score_toldSection, .int t_score_toldBar])), (a_t_score_lengths, .inl (cI, 8, .inl t_score_lengths)), (a_t_score_times, .inl (cI, 8, .inl t_score_times)), (a_t_score_players, .inl (cI, 8, .inl t_score_players)), (a_t_score_minutes, .inl (cI, 6, .inl t_score_minutes)), (a_t_draft, .inr (6, [.ref a_t_draft_lengths, .ref a_t_draft_times, .ref a_t_draft_players, .ref a_t_draft_minutes, .int t_draft_sections, .int t_draft_things, .int t_draft_noteTold, .int t_draft_toldSection, .int t_draft_toldBar])), (a_t_draft_lengths, .inl (cI, 8, .inl t_draft_lengths)), (a_t_draft_times, .inl (cI, 8, .inl t_draft_times)), (a_t_draft_players, .inl (cI, 8, .inl t_draft_players)), (a_t_draft_minutes, .inl (cI, 6, .inl t_draft_minutes)), (a_t_course, .inr (2, [.int t_course_bar, .int t_course_count, .int t_course_waits, .int t_course_cut, .int t_course_struck, .int t_course_known, .ref a_t_course_past])), (a_t_ear, .inr (3, [.ref a_t_ear_laters, .ref a_t_ear_players, .int t_ear_heard, .ref a_t_ear_playing, .ref a_t_ear_placesAhead, .ref a_t_ear_answers, .int t_ear_bars]))] sz) := by
  refine jx_metW (ty := .int) (own := RX11) (cc := cX11_piece) (maxL := 2) (by decide) rfl rfl (Nat.le_of_ble_eq_true rfl) ?_
  intro p e s m args below meth c Q ls A hx hb hml hown hts hK hN hA hP hD hS hl hret
  have hi_X11 : ∀ w ∈ u_ws RX11 TX11 11, w ∈ wsX11_piece := by decide +kernel
  have hi_X3 : ∀ w ∈ u_ws RX3 TX3 7, w ∈ wsX11_piece := by decide +kernel
  have hi_X8 : ∀ w ∈ u_ws RX8 TX8 7, w ∈ wsX11_piece := by decide +kernel
  have hl : lv_has ls 2 [(0, .ref a_t)] := hl
  have h := hm
  unfold mi_X11_piece at h
  refine lv_aload_n hx hb dX11_piece_0 rfl (lv_at hl 0 rfl) ?_
  refine va_get (D := D) (ci := 11) (v := .ref a_t_text) (C := RX11) (T := TX11) (N := 11) hx hb hts hi_X11 hown hK hP 0 rfl rfl 0 (by decide) (hts (.fieldLink RX11 12 "TriangleRest" "text" "LTriangleRest$Text;") (List.mem_of_getElem? (i := 1) rfl)) (fun _ h9 => h9) rfl dX11_piece_1 ?_
  refine lv_aload_n hx hb dX11_piece_4 rfl (lv_at hl 0 rfl) ?_
  refine va_get (D := D) (ci := 11) (v := .ref a_t_draft) (C := RX11) (T := TX11) (N := 11) hx hb hts hi_X11 hown hK hP 0 rfl rfl 2 (by decide) (hts (.fieldLink RX11 23 "TriangleRest" "draft" "LTriangleRest$Score;") (List.mem_of_getElem? (i := 2) rfl)) (fun _ h9 => h9) rfl dX11_piece_5 ?_
  obtain ⟨r1, t_text_fault_2, t_text_next_3, t_text_tokenAt_4, t_text_tokenIs_5, t_text_tokenValue_6, t_draft_sections_7, t_draft_things_8, t_draft_noteTold_9, t_draft_toldSection_10, t_draft_toldBar_11, t_draft_lengths_12, t_draft_times_13, t_draft_players_14, t_draft_minutes_15, e16, h⟩ := jx_b15_of h
  refine jx_cW (o := some (.int r1)) (As := [.ref a_t_draft]) (rest := []) (b := a_t_text) (wr := [(a_t, .inr (11, [.ref a_t_text, .ref a_t_score, .ref a_t_draft, .ref a_t_course, .ref a_t_firstImage, .ref a_t_secondImage, .ref a_t_ear, .ref a_t_packer, .ref a_t_kinds, .int t_keptImages, .long t_traced])), (a_t_score, .inr (6, [.ref a_t_score_lengths, .ref a_t_score_times, .ref a_t_score_players, .ref a_t_score_minutes, .int t_score_sections, .int t_score_things, .int t_score_noteTold, .int t_score_toldSection, .int t_score_toldBar])), (a_t_score_lengths, .inl (cI, 8, .inl t_score_lengths)), (a_t_score_times, .inl (cI, 8, .inl t_score_times)), (a_t_score_players, .inl (cI, 8, .inl t_score_players)), (a_t_score_minutes, .inl (cI, 6, .inl t_score_minutes)), (a_t_course, .inr (2, [.int t_course_bar, .int t_course_count, .int t_course_waits, .int t_course_cut, .int t_course_struck, .int t_course_known, .ref a_t_course_past])), (a_t_ear, .inr (3, [.ref a_t_ear_laters, .ref a_t_ear_players, .int t_ear_heard, .ref a_t_ear_playing, .ref a_t_ear_placesAhead, .ref a_t_ear_answers, .int t_ear_bars]))]) (wd' := [(a_t, .inr (11, [.ref a_t_text, .ref a_t_score, .ref a_t_draft, .ref a_t_course, .ref a_t_firstImage, .ref a_t_secondImage, .ref a_t_ear, .ref a_t_packer, .ref a_t_kinds, .int t_keptImages, .long t_traced])), (a_t_text, .inr (8, [.ref a_t_text_bytes, .int t_text_size, .int t_text_fault_2, .int t_text_next_3, .int t_text_tokenAt_4, .int t_text_tokenIs_5, .int t_text_tokenValue_6])), (a_t_text_bytes, .inl (cI, 120, .inl t_text_bytes)), (a_t_score, .inr (6, [.ref a_t_score_lengths, .ref a_t_score_times, .ref a_t_score_players, .ref a_t_score_minutes, .int t_score_sections, .int t_score_things, .int t_score_noteTold, .int t_score_toldSection, .int t_score_toldBar])), (a_t_score_lengths, .inl (cI, 8, .inl t_score_lengths)), (a_t_score_times, .inl (cI, 8, .inl t_score_times)), (a_t_score_players, .inl (cI, 8, .inl t_score_players)), (a_t_score_minutes, .inl (cI, 6, .inl t_score_minutes)), (a_t_draft, .inr (6, [.ref a_t_draft_lengths, .ref a_t_draft_times, .ref a_t_draft_players, .ref a_t_draft_minutes, .int t_draft_sections_7, .int t_draft_things_8, .int t_draft_noteTold_9, .int t_draft_toldSection_10, .int t_draft_toldBar_11])), (a_t_draft_lengths, .inl (cI, 8, .inl t_draft_lengths_12)), (a_t_draft_times, .inl (cI, 8, .inl t_draft_times_13)), (a_t_draft_players, .inl (cI, 8, .inl t_draft_players_14)), (a_t_draft_minutes, .inl (cI, 6, .inl t_draft_minutes_15)), (a_t_course, .inr (2, [.int t_course_bar, .int t_course_count, .int t_course_waits, .int t_course_cut, .int t_course_struck, .int t_course_known, .ref a_t_course_past])), (a_t_ear, .inr (3, [.ref a_t_ear_laters, .ref a_t_ear_players, .int t_ear_heard, .ref a_t_ear_playing, .ref a_t_ear_placesAhead, .ref a_t_ear_answers, .int t_ear_bars]))]) ⟨hx, hb, hml, hown, hts⟩ (ct_X8_tellTo l D cI cZ cO a_t_text a_t_draft a_t_text_bytes a_t_draft_lengths a_t_draft_times a_t_draft_players a_t_draft_minutes s.heap.size t_text_size t_text_fault t_text_next t_text_tokenAt t_text_tokenIs t_text_tokenValue t_text_bytes t_draft_sections t_draft_things t_draft_noteTold t_draft_toldSection t_draft_toldBar t_draft_lengths t_draft_times t_draft_players t_draft_minutes r1 t_text_fault_2 t_text_next_3 t_text_tokenAt_4 t_text_tokenIs_5 t_text_tokenValue_6 t_draft_sections_7 t_draft_things_8 t_draft_noteTold_9 t_draft_toldSection_10 t_draft_toldBar_11 t_draft_lengths_12 t_draft_times_13 t_draft_players_14 t_draft_minutes_15 e16) (cwV 1 hts gX11_piece_X8_tellTo rfl rfl rfl (by decide +kernel) ⟨Nat.le_of_ble_eq_true rfl, Nat.le_of_ble_eq_true rfl⟩) hK hN hP hD hS hA [1, 2, 8, 9, 10, 11, 12] [0, 3, 4, 5, 6, 7, 13, 14] (by decide) rfl rfl (by decide) (by decide) rfl (va_recv hK hP (ci := 8) (q0 := 1) rfl rfl) rfl hl.1 rfl (Nat.le_of_ble_eq_true rfl) dX11_piece_8 ⟨Nat.zero_le _, Nat.zero_le _⟩ [0, 8, 9, 1, 2, 3, 4, 5, 10, 11, 12, 13, 14, 6, 7] (by decide) rfl (fun H locs hP hD hS => ?_)
  refine lv_istore_n (lv' := [(1, .int r1), (0, .ref a_t)]) hx hb dX11_piece_11 rfl hl (by decide) rfl (fun ls hl => ?_)
  refine lv_aload_n hx hb dX11_piece_12 rfl (lv_at hl 1 rfl) ?_
  refine va_get (D := D) (ci := 11) (v := .ref a_t_text) (C := RX11) (T := TX11) (N := 11) hx hb hts hi_X11 hown hK hP 0 rfl rfl 0 (by decide) (hts (.fieldLink RX11 12 "TriangleRest" "text" "LTriangleRest$Text;") (List.mem_of_getElem? (i := 1) rfl)) (fun _ h9 => h9) rfl dX11_piece_13 ?_
  refine va_get (D := D) (ci := 8) (v := .int t_text_fault_2) (C := RX8) (T := TX8) (N := 7) hx hb hts hi_X8 hown hK hP 1 rfl rfl 2 (by decide) (hts (.fieldLink RX11 91 "TriangleRest$Text" "fault" "I") (List.mem_of_getElem? (i := 3) rfl)) (fun _ h9 => h9) rfl dX11_piece_16 ?_
  refine lv_iconst (v := (-1 : Int32)) hx hb dX11_piece_19 (by decide) ?_
  refine lv_icmp_eq (tgt := 34) hx hb dX11_piece_20 (by decide) (fun c17 => ?_) (fun c17 => ?_)
  · have h := jx_t h c17
    refine lv_aload_n hx hb dX11_piece_34 rfl (lv_at hl 1 rfl) ?_
    refine va_get (D := D) (ci := 11) (v := .ref a_t_score) (C := RX11) (T := TX11) (N := 11) hx hb hts hi_X11 hown hK hP 0 rfl rfl 1 (by decide) (hts (.fieldLink RX11 19 "TriangleRest" "score" "LTriangleRest$Score;") (List.mem_of_getElem? (i := 4) rfl)) (fun _ h9 => h9) rfl dX11_piece_35 ?_
    refine lv_aload_n hx hb dX11_piece_38 rfl (lv_at hl 1 rfl) ?_
    refine va_get (D := D) (ci := 11) (v := .ref a_t_draft) (C := RX11) (T := TX11) (N := 11) hx hb hts hi_X11 hown hK hP 0 rfl rfl 2 (by decide) (hts (.fieldLink RX11 23 "TriangleRest" "draft" "LTriangleRest$Score;") (List.mem_of_getElem? (i := 2) rfl)) (fun _ h9 => h9) rfl dX11_piece_39 ?_
    obtain ⟨t_score_sections_18, t_score_things_19, t_score_noteTold_20, t_score_toldSection_21, t_score_toldBar_22, t_score_lengths_23, t_score_times_24, t_score_players_25, t_score_minutes_26, e27, h⟩ := jx_b9_of h
    refine jx_cW (o := none) (As := [.ref a_t_draft]) (rest := []) (b := a_t_score) (wr := [(a_t, .inr (11, [.ref a_t_text, .ref a_t_score, .ref a_t_draft, .ref a_t_course, .ref a_t_firstImage, .ref a_t_secondImage, .ref a_t_ear, .ref a_t_packer, .ref a_t_kinds, .int t_keptImages, .long t_traced])), (a_t_text, .inr (8, [.ref a_t_text_bytes, .int t_text_size, .int t_text_fault_2, .int t_text_next_3, .int t_text_tokenAt_4, .int t_text_tokenIs_5, .int t_text_tokenValue_6])), (a_t_text_bytes, .inl (cI, 120, .inl t_text_bytes)), (a_t_course, .inr (2, [.int t_course_bar, .int t_course_count, .int t_course_waits, .int t_course_cut, .int t_course_struck, .int t_course_known, .ref a_t_course_past])), (a_t_ear, .inr (3, [.ref a_t_ear_laters, .ref a_t_ear_players, .int t_ear_heard, .ref a_t_ear_playing, .ref a_t_ear_placesAhead, .ref a_t_ear_answers, .int t_ear_bars]))]) (wd' := [(a_t, .inr (11, [.ref a_t_text, .ref a_t_score, .ref a_t_draft, .ref a_t_course, .ref a_t_firstImage, .ref a_t_secondImage, .ref a_t_ear, .ref a_t_packer, .ref a_t_kinds, .int t_keptImages, .long t_traced])), (a_t_text, .inr (8, [.ref a_t_text_bytes, .int t_text_size, .int t_text_fault_2, .int t_text_next_3, .int t_text_tokenAt_4, .int t_text_tokenIs_5, .int t_text_tokenValue_6])), (a_t_text_bytes, .inl (cI, 120, .inl t_text_bytes)), (a_t_score, .inr (6, [.ref a_t_score_lengths, .ref a_t_score_times, .ref a_t_score_players, .ref a_t_score_minutes, .int t_score_sections_18, .int t_score_things_19, .int t_score_noteTold_20, .int t_score_toldSection_21, .int t_score_toldBar_22])), (a_t_score_lengths, .inl (cI, 8, .inl t_score_lengths_23)), (a_t_score_times, .inl (cI, 8, .inl t_score_times_24)), (a_t_score_players, .inl (cI, 8, .inl t_score_players_25)), (a_t_score_minutes, .inl (cI, 6, .inl t_score_minutes_26)), (a_t_draft, .inr (6, [.ref a_t_draft_lengths, .ref a_t_draft_times, .ref a_t_draft_players, .ref a_t_draft_minutes, .int t_draft_sections_7, .int t_draft_things_8, .int t_draft_noteTold_9, .int t_draft_toldSection_10, .int t_draft_toldBar_11])), (a_t_draft_lengths, .inl (cI, 8, .inl t_draft_lengths_12)), (a_t_draft_times, .inl (cI, 8, .inl t_draft_times_13)), (a_t_draft_players, .inl (cI, 8, .inl t_draft_players_14)), (a_t_draft_minutes, .inl (cI, 6, .inl t_draft_minutes_15)), (a_t_course, .inr (2, [.int t_course_bar, .int t_course_count, .int t_course_waits, .int t_course_cut, .int t_course_struck, .int t_course_known, .ref a_t_course_past])), (a_t_ear, .inr (3, [.ref a_t_ear_laters, .ref a_t_ear_players, .int t_ear_heard, .ref a_t_ear_playing, .ref a_t_ear_placesAhead, .ref a_t_ear_answers, .int t_ear_bars]))]) ⟨hx, hb, hml, hown, hts⟩ (ct_X6_becomeLike l D cI cZ cO a_t_score a_t_draft a_t_score_lengths a_t_score_times a_t_score_players a_t_score_minutes a_t_draft_lengths a_t_draft_times a_t_draft_players a_t_draft_minutes H.size t_score_sections t_score_things t_score_noteTold t_score_toldSection t_score_toldBar t_score_lengths t_score_times t_score_players t_score_minutes t_draft_sections_7 t_draft_things_8 t_draft_noteTold_9 t_draft_toldSection_10 t_draft_toldBar_11 t_draft_lengths_12 t_draft_times_13 t_draft_players_14 t_draft_minutes_15 t_score_sections_18 t_score_things_19 t_score_noteTold_20 t_score_toldSection_21 t_score_toldBar_22 t_score_lengths_23 t_score_times_24 t_score_players_25 t_score_minutes_26 e27) (cwV 1 hts gX11_piece_X6_becomeLike rfl rfl rfl (by decide +kernel) ⟨Nat.le_of_ble_eq_true rfl, Nat.le_of_ble_eq_true rfl⟩) hK hN hP hD hS hA [3, 4, 5, 6, 7, 8, 9, 10, 11, 12] [0, 1, 2, 13, 14] (by decide) rfl rfl (by decide) (by decide) rfl (va_recv hK hP (ci := 6) (q0 := 3) rfl rfl) rfl hl.1 rfl (Nat.le_of_ble_eq_true rfl) dX11_piece_42 ⟨Nat.zero_le _, Nat.zero_le _⟩ [0, 1, 2, 5, 6, 7, 8, 9, 10, 11, 12, 13, 14, 3, 4] (by decide) rfl (fun H locs hP hD hS => ?_)
    refine lv_aload_n hx hb dX11_piece_45 rfl (lv_at hl 1 rfl) ?_
    refine va_get (D := D) (ci := 11) (v := .ref a_t_course) (C := RX11) (T := TX11) (N := 11) hx hb hts hi_X11 hown hK hP 0 rfl rfl 3 (by decide) (hts (.fieldLink RX11 29 "TriangleRest" "course" "LTriangleRest$Course;") (List.mem_of_getElem? (i := 5) rfl)) (fun _ h9 => h9) rfl dX11_piece_46 ?_
    obtain ⟨t_course_bar_28, t_course_count_29, t_course_waits_30, t_course_cut_31, t_course_struck_32, t_course_known_33, e34, h⟩ := jx_b6_of h
    refine jx_cW (o := none) (As := []) (rest := []) (b := a_t_course) (wr := [(a_t, .inr (11, [.ref a_t_text, .ref a_t_score, .ref a_t_draft, .ref a_t_course, .ref a_t_firstImage, .ref a_t_secondImage, .ref a_t_ear, .ref a_t_packer, .ref a_t_kinds, .int t_keptImages, .long t_traced])), (a_t_text, .inr (8, [.ref a_t_text_bytes, .int t_text_size, .int t_text_fault_2, .int t_text_next_3, .int t_text_tokenAt_4, .int t_text_tokenIs_5, .int t_text_tokenValue_6])), (a_t_text_bytes, .inl (cI, 120, .inl t_text_bytes)), (a_t_score, .inr (6, [.ref a_t_score_lengths, .ref a_t_score_times, .ref a_t_score_players, .ref a_t_score_minutes, .int t_score_sections_18, .int t_score_things_19, .int t_score_noteTold_20, .int t_score_toldSection_21, .int t_score_toldBar_22])), (a_t_score_lengths, .inl (cI, 8, .inl t_score_lengths_23)), (a_t_score_times, .inl (cI, 8, .inl t_score_times_24)), (a_t_score_players, .inl (cI, 8, .inl t_score_players_25)), (a_t_score_minutes, .inl (cI, 6, .inl t_score_minutes_26)), (a_t_draft, .inr (6, [.ref a_t_draft_lengths, .ref a_t_draft_times, .ref a_t_draft_players, .ref a_t_draft_minutes, .int t_draft_sections_7, .int t_draft_things_8, .int t_draft_noteTold_9, .int t_draft_toldSection_10, .int t_draft_toldBar_11])), (a_t_draft_lengths, .inl (cI, 8, .inl t_draft_lengths_12)), (a_t_draft_times, .inl (cI, 8, .inl t_draft_times_13)), (a_t_draft_players, .inl (cI, 8, .inl t_draft_players_14)), (a_t_draft_minutes, .inl (cI, 6, .inl t_draft_minutes_15)), (a_t_ear, .inr (3, [.ref a_t_ear_laters, .ref a_t_ear_players, .int t_ear_heard, .ref a_t_ear_playing, .ref a_t_ear_placesAhead, .ref a_t_ear_answers, .int t_ear_bars]))]) (wd' := [(a_t, .inr (11, [.ref a_t_text, .ref a_t_score, .ref a_t_draft, .ref a_t_course, .ref a_t_firstImage, .ref a_t_secondImage, .ref a_t_ear, .ref a_t_packer, .ref a_t_kinds, .int t_keptImages, .long t_traced])), (a_t_text, .inr (8, [.ref a_t_text_bytes, .int t_text_size, .int t_text_fault_2, .int t_text_next_3, .int t_text_tokenAt_4, .int t_text_tokenIs_5, .int t_text_tokenValue_6])), (a_t_text_bytes, .inl (cI, 120, .inl t_text_bytes)), (a_t_score, .inr (6, [.ref a_t_score_lengths, .ref a_t_score_times, .ref a_t_score_players, .ref a_t_score_minutes, .int t_score_sections_18, .int t_score_things_19, .int t_score_noteTold_20, .int t_score_toldSection_21, .int t_score_toldBar_22])), (a_t_score_lengths, .inl (cI, 8, .inl t_score_lengths_23)), (a_t_score_times, .inl (cI, 8, .inl t_score_times_24)), (a_t_score_players, .inl (cI, 8, .inl t_score_players_25)), (a_t_score_minutes, .inl (cI, 6, .inl t_score_minutes_26)), (a_t_draft, .inr (6, [.ref a_t_draft_lengths, .ref a_t_draft_times, .ref a_t_draft_players, .ref a_t_draft_minutes, .int t_draft_sections_7, .int t_draft_things_8, .int t_draft_noteTold_9, .int t_draft_toldSection_10, .int t_draft_toldBar_11])), (a_t_draft_lengths, .inl (cI, 8, .inl t_draft_lengths_12)), (a_t_draft_times, .inl (cI, 8, .inl t_draft_times_13)), (a_t_draft_players, .inl (cI, 8, .inl t_draft_players_14)), (a_t_draft_minutes, .inl (cI, 6, .inl t_draft_minutes_15)), (a_t_course, .inr (2, [.int t_course_bar_28, .int t_course_count_29, .int t_course_waits_30, .int t_course_cut_31, .int t_course_struck_32, .int t_course_known_33, .ref a_t_course_past])), (a_t_ear, .inr (3, [.ref a_t_ear_laters, .ref a_t_ear_players, .int t_ear_heard, .ref a_t_ear_playing, .ref a_t_ear_placesAhead, .ref a_t_ear_answers, .int t_ear_bars]))]) ⟨hx, hb, hml, hown, hts⟩ (ct_X2_begin l D cI cZ cO a_t_course a_t_course_past H.size t_course_bar t_course_count t_course_waits t_course_cut t_course_struck t_course_known t_course_bar_28 t_course_count_29 t_course_waits_30 t_course_cut_31 t_course_struck_32 t_course_known_33 e34) (cwV 0 hts gX11_piece_X2_begin rfl rfl rfl (by decide +kernel) ⟨Nat.le_of_ble_eq_true rfl, Nat.le_of_ble_eq_true rfl⟩) hK hN hP hD hS hA [13] [0, 1, 2, 3, 4, 5, 6, 7, 8, 9, 10, 11, 12, 14] (by decide) rfl rfl (by decide) (by decide) rfl (va_recv hK hP (ci := 2) (q0 := 13) rfl rfl) rfl hl.1 rfl (Nat.le_of_ble_eq_true rfl) dX11_piece_49 ⟨Nat.zero_le _, Nat.zero_le _⟩ [0, 1, 2, 3, 4, 5, 6, 7, 8, 9, 10, 11, 12, 14, 13] (by decide) rfl (fun H locs hP hD hS => ?_)
    refine lv_aload_n hx hb dX11_piece_52 rfl (lv_at hl 1 rfl) ?_
    refine va_get (D := D) (ci := 11) (v := .ref a_t_ear) (C := RX11) (T := TX11) (N := 11) hx hb hts hi_X11 hown hK hP 0 rfl rfl 6 (by decide) (hts (.fieldLink RX11 42 "TriangleRest" "ear" "LTriangleRest$Ear;") (List.mem_of_getElem? (i := 6) rfl)) (fun _ h9 => h9) rfl dX11_piece_53 ?_
    refine lv_iconst (v := (0 : Int32)) hx hb dX11_piece_56 (by decide) ?_
    refine va_put (D := D) (ci := 3) (v := .int (0 : Int32)) (ty := .int) (C := RX3) (T := TX3) (N := 7) hx hb hts hi_X3 tyX3 tyX3_ok nmX3 hown hK hP hD hS 14 rfl rfl 2 (by decide) (hts (.fieldLink RX11 101 "TriangleRest$Ear" "heard" "I") (List.mem_of_getElem? (i := 7) rfl)) (fun _ h9 => h9) rfl (by decide +kernel) rfl rfl (Nat.le_of_ble_eq_true rfl) dX11_piece_57 (fun H locs hP hD hS => ?_)
    have hP : va_P D vwCl [(a_t, .inr (11, [.ref a_t_text, .ref a_t_score, .ref a_t_draft, .ref a_t_course, .ref a_t_firstImage, .ref a_t_secondImage, .ref a_t_ear, .ref a_t_packer, .ref a_t_kinds, .int t_keptImages, .long t_traced])), (a_t_text, .inr (8, [.ref a_t_text_bytes, .int t_text_size, .int t_text_fault_2, .int t_text_next_3, .int t_text_tokenAt_4, .int t_text_tokenIs_5, .int t_text_tokenValue_6])), (a_t_text_bytes, .inl (cI, 120, .inl t_text_bytes)), (a_t_score, .inr (6, [.ref a_t_score_lengths, .ref a_t_score_times, .ref a_t_score_players, .ref a_t_score_minutes, .int t_score_sections_18, .int t_score_things_19, .int t_score_noteTold_20, .int t_score_toldSection_21, .int t_score_toldBar_22])), (a_t_score_lengths, .inl (cI, 8, .inl t_score_lengths_23)), (a_t_score_times, .inl (cI, 8, .inl t_score_times_24)), (a_t_score_players, .inl (cI, 8, .inl t_score_players_25)), (a_t_score_minutes, .inl (cI, 6, .inl t_score_minutes_26)), (a_t_draft, .inr (6, [.ref a_t_draft_lengths, .ref a_t_draft_times, .ref a_t_draft_players, .ref a_t_draft_minutes, .int t_draft_sections_7, .int t_draft_things_8, .int t_draft_noteTold_9, .int t_draft_toldSection_10, .int t_draft_toldBar_11])), (a_t_draft_lengths, .inl (cI, 8, .inl t_draft_lengths_12)), (a_t_draft_times, .inl (cI, 8, .inl t_draft_times_13)), (a_t_draft_players, .inl (cI, 8, .inl t_draft_players_14)), (a_t_draft_minutes, .inl (cI, 6, .inl t_draft_minutes_15)), (a_t_course, .inr (2, [.int t_course_bar_28, .int t_course_count_29, .int t_course_waits_30, .int t_course_cut_31, .int t_course_struck_32, .int t_course_known_33, .ref a_t_course_past])), (a_t_ear, .inr (3, [.ref a_t_ear_laters, .ref a_t_ear_players, .int (0 : Int32), .ref a_t_ear_playing, .ref a_t_ear_placesAhead, .ref a_t_ear_answers, .int t_ear_bars]))] H := hP
    have hD : va_D A [(a_t, .inr (11, [.ref a_t_text, .ref a_t_score, .ref a_t_draft, .ref a_t_course, .ref a_t_firstImage, .ref a_t_secondImage, .ref a_t_ear, .ref a_t_packer, .ref a_t_kinds, .int t_keptImages, .long t_traced])), (a_t_text, .inr (8, [.ref a_t_text_bytes, .int t_text_size, .int t_text_fault_2, .int t_text_next_3, .int t_text_tokenAt_4, .int t_text_tokenIs_5, .int t_text_tokenValue_6])), (a_t_text_bytes, .inl (cI, 120, .inl t_text_bytes)), (a_t_score, .inr (6, [.ref a_t_score_lengths, .ref a_t_score_times, .ref a_t_score_players, .ref a_t_score_minutes, .int t_score_sections_18, .int t_score_things_19, .int t_score_noteTold_20, .int t_score_toldSection_21, .int t_score_toldBar_22])), (a_t_score_lengths, .inl (cI, 8, .inl t_score_lengths_23)), (a_t_score_times, .inl (cI, 8, .inl t_score_times_24)), (a_t_score_players, .inl (cI, 8, .inl t_score_players_25)), (a_t_score_minutes, .inl (cI, 6, .inl t_score_minutes_26)), (a_t_draft, .inr (6, [.ref a_t_draft_lengths, .ref a_t_draft_times, .ref a_t_draft_players, .ref a_t_draft_minutes, .int t_draft_sections_7, .int t_draft_things_8, .int t_draft_noteTold_9, .int t_draft_toldSection_10, .int t_draft_toldBar_11])), (a_t_draft_lengths, .inl (cI, 8, .inl t_draft_lengths_12)), (a_t_draft_times, .inl (cI, 8, .inl t_draft_times_13)), (a_t_draft_players, .inl (cI, 8, .inl t_draft_players_14)), (a_t_draft_minutes, .inl (cI, 6, .inl t_draft_minutes_15)), (a_t_course, .inr (2, [.int t_course_bar_28, .int t_course_count_29, .int t_course_waits_30, .int t_course_cut_31, .int t_course_struck_32, .int t_course_known_33, .ref a_t_course_past])), (a_t_ear, .inr (3, [.ref a_t_ear_laters, .ref a_t_ear_players, .int (0 : Int32), .ref a_t_ear_playing, .ref a_t_ear_placesAhead, .ref a_t_ear_answers, .int t_ear_bars]))] := hD
    refine lv_aload_n hx hb dX11_piece_60 rfl (lv_at hl 1 rfl) ?_
    refine lv_iconst (v := (0 : Int32)) hx hb dX11_piece_61 (by decide) ?_
    refine va_put (D := D) (ci := 11) (v := .int (0 : Int32)) (ty := .int) (C := RX11) (T := TX11) (N := 11) hx hb hts hi_X11 tyX11 tyX11_ok nmX11 hown hK hP hD hS 0 rfl rfl 9 (by decide) (hts (.fieldLink RX11 104 "TriangleRest" "keptImages" "I") (List.mem_of_getElem? (i := 8) rfl)) (fun _ h9 => h9) rfl (by decide +kernel) rfl rfl (Nat.le_of_ble_eq_true rfl) dX11_piece_62 (fun H locs hP hD hS => ?_)
    have hP : va_P D vwCl [(a_t, .inr (11, [.ref a_t_text, .ref a_t_score, .ref a_t_draft, .ref a_t_course, .ref a_t_firstImage, .ref a_t_secondImage, .ref a_t_ear, .ref a_t_packer, .ref a_t_kinds, .int (0 : Int32), .long t_traced])), (a_t_text, .inr (8, [.ref a_t_text_bytes, .int t_text_size, .int t_text_fault_2, .int t_text_next_3, .int t_text_tokenAt_4, .int t_text_tokenIs_5, .int t_text_tokenValue_6])), (a_t_text_bytes, .inl (cI, 120, .inl t_text_bytes)), (a_t_score, .inr (6, [.ref a_t_score_lengths, .ref a_t_score_times, .ref a_t_score_players, .ref a_t_score_minutes, .int t_score_sections_18, .int t_score_things_19, .int t_score_noteTold_20, .int t_score_toldSection_21, .int t_score_toldBar_22])), (a_t_score_lengths, .inl (cI, 8, .inl t_score_lengths_23)), (a_t_score_times, .inl (cI, 8, .inl t_score_times_24)), (a_t_score_players, .inl (cI, 8, .inl t_score_players_25)), (a_t_score_minutes, .inl (cI, 6, .inl t_score_minutes_26)), (a_t_draft, .inr (6, [.ref a_t_draft_lengths, .ref a_t_draft_times, .ref a_t_draft_players, .ref a_t_draft_minutes, .int t_draft_sections_7, .int t_draft_things_8, .int t_draft_noteTold_9, .int t_draft_toldSection_10, .int t_draft_toldBar_11])), (a_t_draft_lengths, .inl (cI, 8, .inl t_draft_lengths_12)), (a_t_draft_times, .inl (cI, 8, .inl t_draft_times_13)), (a_t_draft_players, .inl (cI, 8, .inl t_draft_players_14)), (a_t_draft_minutes, .inl (cI, 6, .inl t_draft_minutes_15)), (a_t_course, .inr (2, [.int t_course_bar_28, .int t_course_count_29, .int t_course_waits_30, .int t_course_cut_31, .int t_course_struck_32, .int t_course_known_33, .ref a_t_course_past])), (a_t_ear, .inr (3, [.ref a_t_ear_laters, .ref a_t_ear_players, .int (0 : Int32), .ref a_t_ear_playing, .ref a_t_ear_placesAhead, .ref a_t_ear_answers, .int t_ear_bars]))] H := hP
    have hD : va_D A [(a_t, .inr (11, [.ref a_t_text, .ref a_t_score, .ref a_t_draft, .ref a_t_course, .ref a_t_firstImage, .ref a_t_secondImage, .ref a_t_ear, .ref a_t_packer, .ref a_t_kinds, .int (0 : Int32), .long t_traced])), (a_t_text, .inr (8, [.ref a_t_text_bytes, .int t_text_size, .int t_text_fault_2, .int t_text_next_3, .int t_text_tokenAt_4, .int t_text_tokenIs_5, .int t_text_tokenValue_6])), (a_t_text_bytes, .inl (cI, 120, .inl t_text_bytes)), (a_t_score, .inr (6, [.ref a_t_score_lengths, .ref a_t_score_times, .ref a_t_score_players, .ref a_t_score_minutes, .int t_score_sections_18, .int t_score_things_19, .int t_score_noteTold_20, .int t_score_toldSection_21, .int t_score_toldBar_22])), (a_t_score_lengths, .inl (cI, 8, .inl t_score_lengths_23)), (a_t_score_times, .inl (cI, 8, .inl t_score_times_24)), (a_t_score_players, .inl (cI, 8, .inl t_score_players_25)), (a_t_score_minutes, .inl (cI, 6, .inl t_score_minutes_26)), (a_t_draft, .inr (6, [.ref a_t_draft_lengths, .ref a_t_draft_times, .ref a_t_draft_players, .ref a_t_draft_minutes, .int t_draft_sections_7, .int t_draft_things_8, .int t_draft_noteTold_9, .int t_draft_toldSection_10, .int t_draft_toldBar_11])), (a_t_draft_lengths, .inl (cI, 8, .inl t_draft_lengths_12)), (a_t_draft_times, .inl (cI, 8, .inl t_draft_times_13)), (a_t_draft_players, .inl (cI, 8, .inl t_draft_players_14)), (a_t_draft_minutes, .inl (cI, 6, .inl t_draft_minutes_15)), (a_t_course, .inr (2, [.int t_course_bar_28, .int t_course_count_29, .int t_course_waits_30, .int t_course_cut_31, .int t_course_struck_32, .int t_course_known_33, .ref a_t_course_past])), (a_t_ear, .inr (3, [.ref a_t_ear_laters, .ref a_t_ear_players, .int (0 : Int32), .ref a_t_ear_playing, .ref a_t_ear_placesAhead, .ref a_t_ear_answers, .int t_ear_bars]))] := hD
    refine lv_aload_n hx hb dX11_piece_65 rfl (lv_at hl 1 rfl) ?_
    refine va_get (D := D) (ci := 11) (v := .ref a_t_text) (C := RX11) (T := TX11) (N := 11) hx hb hts hi_X11 hown hK hP 0 rfl rfl 0 (by decide) (hts (.fieldLink RX11 12 "TriangleRest" "text" "LTriangleRest$Text;") (List.mem_of_getElem? (i := 1) rfl)) (fun _ h9 => h9) rfl dX11_piece_66 ?_
    refine lv_iconst (v := (0 : Int32)) hx hb dX11_piece_69 (by decide) ?_
    refine va_put (D := D) (ci := 8) (v := .int (0 : Int32)) (ty := .int) (C := RX8) (T := TX8) (N := 7) hx hb hts hi_X8 tyX8 tyX8_ok nmX8 hown hK hP hD hS 1 rfl rfl 1 (by decide) (hts (.fieldLink RX11 83 "TriangleRest$Text" "size" "I") (List.mem_of_getElem? (i := 9) rfl)) (fun _ h9 => h9) rfl (by decide +kernel) rfl rfl (Nat.le_of_ble_eq_true rfl) dX11_piece_70 (fun H locs hP hD hS => ?_)
    have hP : va_P D vwCl [(a_t, .inr (11, [.ref a_t_text, .ref a_t_score, .ref a_t_draft, .ref a_t_course, .ref a_t_firstImage, .ref a_t_secondImage, .ref a_t_ear, .ref a_t_packer, .ref a_t_kinds, .int (0 : Int32), .long t_traced])), (a_t_text, .inr (8, [.ref a_t_text_bytes, .int (0 : Int32), .int t_text_fault_2, .int t_text_next_3, .int t_text_tokenAt_4, .int t_text_tokenIs_5, .int t_text_tokenValue_6])), (a_t_text_bytes, .inl (cI, 120, .inl t_text_bytes)), (a_t_score, .inr (6, [.ref a_t_score_lengths, .ref a_t_score_times, .ref a_t_score_players, .ref a_t_score_minutes, .int t_score_sections_18, .int t_score_things_19, .int t_score_noteTold_20, .int t_score_toldSection_21, .int t_score_toldBar_22])), (a_t_score_lengths, .inl (cI, 8, .inl t_score_lengths_23)), (a_t_score_times, .inl (cI, 8, .inl t_score_times_24)), (a_t_score_players, .inl (cI, 8, .inl t_score_players_25)), (a_t_score_minutes, .inl (cI, 6, .inl t_score_minutes_26)), (a_t_draft, .inr (6, [.ref a_t_draft_lengths, .ref a_t_draft_times, .ref a_t_draft_players, .ref a_t_draft_minutes, .int t_draft_sections_7, .int t_draft_things_8, .int t_draft_noteTold_9, .int t_draft_toldSection_10, .int t_draft_toldBar_11])), (a_t_draft_lengths, .inl (cI, 8, .inl t_draft_lengths_12)), (a_t_draft_times, .inl (cI, 8, .inl t_draft_times_13)), (a_t_draft_players, .inl (cI, 8, .inl t_draft_players_14)), (a_t_draft_minutes, .inl (cI, 6, .inl t_draft_minutes_15)), (a_t_course, .inr (2, [.int t_course_bar_28, .int t_course_count_29, .int t_course_waits_30, .int t_course_cut_31, .int t_course_struck_32, .int t_course_known_33, .ref a_t_course_past])), (a_t_ear, .inr (3, [.ref a_t_ear_laters, .ref a_t_ear_players, .int (0 : Int32), .ref a_t_ear_playing, .ref a_t_ear_placesAhead, .ref a_t_ear_answers, .int t_ear_bars]))] H := hP
    have hD : va_D A [(a_t, .inr (11, [.ref a_t_text, .ref a_t_score, .ref a_t_draft, .ref a_t_course, .ref a_t_firstImage, .ref a_t_secondImage, .ref a_t_ear, .ref a_t_packer, .ref a_t_kinds, .int (0 : Int32), .long t_traced])), (a_t_text, .inr (8, [.ref a_t_text_bytes, .int (0 : Int32), .int t_text_fault_2, .int t_text_next_3, .int t_text_tokenAt_4, .int t_text_tokenIs_5, .int t_text_tokenValue_6])), (a_t_text_bytes, .inl (cI, 120, .inl t_text_bytes)), (a_t_score, .inr (6, [.ref a_t_score_lengths, .ref a_t_score_times, .ref a_t_score_players, .ref a_t_score_minutes, .int t_score_sections_18, .int t_score_things_19, .int t_score_noteTold_20, .int t_score_toldSection_21, .int t_score_toldBar_22])), (a_t_score_lengths, .inl (cI, 8, .inl t_score_lengths_23)), (a_t_score_times, .inl (cI, 8, .inl t_score_times_24)), (a_t_score_players, .inl (cI, 8, .inl t_score_players_25)), (a_t_score_minutes, .inl (cI, 6, .inl t_score_minutes_26)), (a_t_draft, .inr (6, [.ref a_t_draft_lengths, .ref a_t_draft_times, .ref a_t_draft_players, .ref a_t_draft_minutes, .int t_draft_sections_7, .int t_draft_things_8, .int t_draft_noteTold_9, .int t_draft_toldSection_10, .int t_draft_toldBar_11])), (a_t_draft_lengths, .inl (cI, 8, .inl t_draft_lengths_12)), (a_t_draft_times, .inl (cI, 8, .inl t_draft_times_13)), (a_t_draft_players, .inl (cI, 8, .inl t_draft_players_14)), (a_t_draft_minutes, .inl (cI, 6, .inl t_draft_minutes_15)), (a_t_course, .inr (2, [.int t_course_bar_28, .int t_course_count_29, .int t_course_waits_30, .int t_course_cut_31, .int t_course_struck_32, .int t_course_known_33, .ref a_t_course_past])), (a_t_ear, .inr (3, [.ref a_t_ear_laters, .ref a_t_ear_players, .int (0 : Int32), .ref a_t_ear_playing, .ref a_t_ear_placesAhead, .ref a_t_ear_answers, .int t_ear_bars]))] := hD
    refine lv_iload_n hx hb dX11_piece_73 rfl (lv_at hl 0 rfl) ?_
    have hq_0 := Option.some.inj h
    obtain ⟨hz_1, hq_1⟩ := Prod.mk.inj hq_0
    obtain ⟨hz_2, hq_2⟩ := Prod.mk.inj hq_1
    obtain ⟨hz_3, hq_3⟩ := Prod.mk.inj hq_2
    obtain ⟨hz_4, hq_4⟩ := Prod.mk.inj hq_3
    obtain ⟨hz_5, hq_5⟩ := Prod.mk.inj hq_4
    obtain ⟨hz_6, hq_6⟩ := Prod.mk.inj hq_5
    obtain ⟨hz_7, hq_7⟩ := Prod.mk.inj hq_6
    obtain ⟨hz_8, hq_8⟩ := Prod.mk.inj hq_7
    obtain ⟨hz_9, hq_9⟩ := Prod.mk.inj hq_8
    obtain ⟨hz_10, hq_10⟩ := Prod.mk.inj hq_9
    obtain ⟨hz_11, hq_11⟩ := Prod.mk.inj hq_10
    obtain ⟨hz_12, hq_12⟩ := Prod.mk.inj hq_11
    obtain ⟨hz_13, hq_13⟩ := Prod.mk.inj hq_12
    obtain ⟨hz_14, hq_14⟩ := Prod.mk.inj hq_13
    obtain ⟨hz_15, hq_15⟩ := Prod.mk.inj hq_14
    obtain ⟨hz_16, hq_16⟩ := Prod.mk.inj hq_15
    obtain ⟨hz_17, hq_17⟩ := Prod.mk.inj hq_16
    obtain ⟨hz_18, hq_18⟩ := Prod.mk.inj hq_17
    obtain ⟨hz_19, hq_19⟩ := Prod.mk.inj hq_18
    obtain ⟨hz_20, hq_20⟩ := Prod.mk.inj hq_19
    obtain ⟨hz_21, hq_21⟩ := Prod.mk.inj hq_20
    obtain ⟨hz_22, hq_22⟩ := Prod.mk.inj hq_21
    obtain ⟨hz_23, hq_23⟩ := Prod.mk.inj hq_22
    obtain ⟨hz_24, hq_24⟩ := Prod.mk.inj hq_23
    obtain ⟨hz_25, hq_25⟩ := Prod.mk.inj hq_24
    obtain ⟨hz_26, hq_26⟩ := Prod.mk.inj hq_25
    obtain ⟨hz_27, hq_27⟩ := Prod.mk.inj hq_26
    obtain ⟨hz_28, hq_28⟩ := Prod.mk.inj hq_27
    obtain ⟨hz_29, hq_29⟩ := Prod.mk.inj hq_28
    obtain ⟨hz_30, hq_30⟩ := Prod.mk.inj hq_29
    obtain ⟨hz_31, hq_31⟩ := Prod.mk.inj hq_30
    obtain ⟨hz_32, hq_32⟩ := Prod.mk.inj hq_31
    subst hz_1
    subst hz_2
    subst hz_3
    subst hz_4
    subst hz_5
    subst hz_6
    subst hz_7
    subst hz_8
    subst hz_9
    subst hz_10
    subst hz_11
    subst hz_12
    subst hz_13
    subst hz_14
    subst hz_15
    subst hz_16
    subst hz_17
    subst hz_18
    subst hz_19
    subst hz_20
    subst hz_21
    subst hz_22
    subst hz_23
    subst hz_24
    subst hz_25
    subst hz_26
    subst hz_27
    subst hz_28
    subst hz_29
    subst hz_30
    subst hz_31
    subst hz_32
    subst hq_32
    exact hret 74 ls _ _ hP hD hS rfl dX11_piece_74
  · have h := jx_f h c17
    refine lv_bipush (v := (-10 : Int32)) hx hb dX11_piece_23 (by decide) ?_
    refine lv_aload_n hx hb dX11_piece_25 rfl (lv_at hl 1 rfl) ?_
    refine va_get (D := D) (ci := 11) (v := .ref a_t_text) (C := RX11) (T := TX11) (N := 11) hx hb hts hi_X11 hown hK hP 0 rfl rfl 0 (by decide) (hts (.fieldLink RX11 12 "TriangleRest" "text" "LTriangleRest$Text;") (List.mem_of_getElem? (i := 1) rfl)) (fun _ h9 => h9) rfl dX11_piece_26 ?_
    refine va_get (D := D) (ci := 8) (v := .int t_text_fault_2) (C := RX8) (T := TX8) (N := 7) hx hb hts hi_X8 hown hK hP 1 rfl rfl 2 (by decide) (hts (.fieldLink RX11 91 "TriangleRest$Text" "fault" "I") (List.mem_of_getElem? (i := 3) rfl)) (fun _ h9 => h9) rfl dX11_piece_29 ?_
    refine lv_isub hx hb dX11_piece_32 ?_
    have hq_0 := Option.some.inj h
    obtain ⟨hz_1, hq_1⟩ := Prod.mk.inj hq_0
    obtain ⟨hz_2, hq_2⟩ := Prod.mk.inj hq_1
    obtain ⟨hz_3, hq_3⟩ := Prod.mk.inj hq_2
    obtain ⟨hz_4, hq_4⟩ := Prod.mk.inj hq_3
    obtain ⟨hz_5, hq_5⟩ := Prod.mk.inj hq_4
    obtain ⟨hz_6, hq_6⟩ := Prod.mk.inj hq_5
    obtain ⟨hz_7, hq_7⟩ := Prod.mk.inj hq_6
    obtain ⟨hz_8, hq_8⟩ := Prod.mk.inj hq_7
    obtain ⟨hz_9, hq_9⟩ := Prod.mk.inj hq_8
    obtain ⟨hz_10, hq_10⟩ := Prod.mk.inj hq_9
    obtain ⟨hz_11, hq_11⟩ := Prod.mk.inj hq_10
    obtain ⟨hz_12, hq_12⟩ := Prod.mk.inj hq_11
    obtain ⟨hz_13, hq_13⟩ := Prod.mk.inj hq_12
    obtain ⟨hz_14, hq_14⟩ := Prod.mk.inj hq_13
    obtain ⟨hz_15, hq_15⟩ := Prod.mk.inj hq_14
    obtain ⟨hz_16, hq_16⟩ := Prod.mk.inj hq_15
    obtain ⟨hz_17, hq_17⟩ := Prod.mk.inj hq_16
    obtain ⟨hz_18, hq_18⟩ := Prod.mk.inj hq_17
    obtain ⟨hz_19, hq_19⟩ := Prod.mk.inj hq_18
    obtain ⟨hz_20, hq_20⟩ := Prod.mk.inj hq_19
    obtain ⟨hz_21, hq_21⟩ := Prod.mk.inj hq_20
    obtain ⟨hz_22, hq_22⟩ := Prod.mk.inj hq_21
    obtain ⟨hz_23, hq_23⟩ := Prod.mk.inj hq_22
    obtain ⟨hz_24, hq_24⟩ := Prod.mk.inj hq_23
    obtain ⟨hz_25, hq_25⟩ := Prod.mk.inj hq_24
    obtain ⟨hz_26, hq_26⟩ := Prod.mk.inj hq_25
    obtain ⟨hz_27, hq_27⟩ := Prod.mk.inj hq_26
    obtain ⟨hz_28, hq_28⟩ := Prod.mk.inj hq_27
    obtain ⟨hz_29, hq_29⟩ := Prod.mk.inj hq_28
    obtain ⟨hz_30, hq_30⟩ := Prod.mk.inj hq_29
    obtain ⟨hz_31, hq_31⟩ := Prod.mk.inj hq_30
    obtain ⟨hz_32, hq_32⟩ := Prod.mk.inj hq_31
    subst hz_1
    subst hz_2
    subst hz_3
    subst hz_4
    subst hz_5
    subst hz_6
    subst hz_7
    subst hz_8
    subst hz_9
    subst hz_10
    subst hz_11
    subst hz_12
    subst hz_13
    subst hz_14
    subst hz_15
    subst hz_16
    subst hz_17
    subst hz_18
    subst hz_19
    subst hz_20
    subst hz_21
    subst hz_22
    subst hz_23
    subst hz_24
    subst hz_25
    subst hz_26
    subst hz_27
    subst hz_28
    subst hz_29
    subst hz_30
    subst hz_31
    subst hz_32
    subst hq_32
    exact hret 33 ls _ _ hP hD hS rfl dX11_piece_33
def mi_X11_section (t_score_sections : Int32) (t_score_noteTold : Int32) (t_score_toldSection : Int32) (t_score_lengths : Nat → Int32) (t_score_times : Nat → Int32) (t_score_players : Nat → Int32) (t_course_bar : Int32) (t_course_cut : Int32) (p1 : Int32) (p2 : Int32) : Option (Int32) := jx_b1 (mi_X6_hasSection t_score_sections p1) fun r1 => (if r1 = 0 then (some ((-1 : Int32))) else (if p2 = (0 : Int32) then (jx_b1 (mi_X6_lengthOf t_score_sections t_score_lengths p1) fun r5 => (some (r5))) else (if p2 = (1 : Int32) then (jx_b1 (mi_X6_timesOf t_score_sections t_score_times p1) fun r8 => (some (r8))) else (if p2 = (2 : Int32) then (jx_b1 (mi_X6_whoOf t_score_sections t_score_players p1) fun r11 => (some (r11))) else (if p2 = (3 : Int32) then (jx_b1 (mi_X11_isIn t_course_cut p1) fun r14 => (jx_b1 (mi_X11_oneIf r14) fun r16 => (some (r16)))) else (if p2 = (4 : Int32) then (jx_b1 (mi_X11_isIn t_course_cut p1) fun r19 => (if r19 = 0 then (jx_b1 (mi_X6_firstOf t_score_sections t_score_lengths t_score_times p1 t_course_cut) fun r22 => (some (r22))) else (some ((-9 : Int32))))) else (if p2 = (5 : Int32) then (jx_b1 (mi_X6_canBeCut t_score_sections t_score_noteTold t_score_toldSection t_score_lengths t_score_times p1 t_course_cut t_course_bar) fun r25 => (jx_b1 (mi_X11_oneIf r25) fun r27 => (some (r27)))) else (some ((-1 : Int32))))))))))
abbrev rm_X11_section : Room := { frames := 4, cells := 0, slots := 0, locals := 89 }
set_option maxRecDepth 100000 in
set_option maxHeartbeats 4000000 in
theorem ct_X11_section (l : Launch) (D : va_G) (cI cZ cO : ClassId) (a_t a_t_text a_t_score a_t_draft a_t_course a_t_firstImage a_t_secondImage a_t_ear a_t_packer a_t_kinds a_t_score_lengths a_t_score_times a_t_score_players a_t_score_minutes a_t_course_past : Nat) (t_keptImages : Int32) (t_traced : Int64) (t_score_sections : Int32) (t_score_things : Int32) (t_score_noteTold : Int32) (t_score_toldSection : Int32) (t_score_toldBar : Int32) (t_score_lengths : Nat → Int32) (t_score_times : Nat → Int32) (t_score_players : Nat → Int32) (t_course_bar : Int32) (t_course_count : Int32) (t_course_waits : Int32) (t_course_cut : Int32) (t_course_struck : Int32) (t_course_known : Int32) (p1 : Int32) (p2 : Int32) (r : Int32) (hm : mi_X11_section t_score_sections t_score_noteTold t_score_toldSection t_score_lengths t_score_times t_score_players t_course_bar t_course_cut p1 p2 = some r) : Met l yX11_section wsX11_section rm_X11_section (va_Pc [.ref a_t, .int p1, .int p2] (jx_R D (jx_T cI cZ cO) [(a_t, .inr (11, [.ref a_t_text, .ref a_t_score, .ref a_t_draft, .ref a_t_course, .ref a_t_firstImage, .ref a_t_secondImage, .ref a_t_ear, .ref a_t_packer, .ref a_t_kinds, .int t_keptImages, .long t_traced])), (a_t_score, .inr (6, [.ref a_t_score_lengths, .ref a_t_score_times, .ref a_t_score_players, .ref a_t_score_minutes, .int t_score_sections, .int t_score_things, .int t_score_noteTold, .int t_score_toldSection, .int t_score_toldBar])), (a_t_score_lengths, .inl (cI, 8, .inl t_score_lengths)), (a_t_score_times, .inl (cI, 8, .inl t_score_times)), (a_t_score_players, .inl (cI, 8, .inl t_score_players)), (a_t_course, .inr (2, [.int t_course_bar, .int t_course_count, .int t_course_waits, .int t_course_cut, .int t_course_struck, .int t_course_known, .ref a_t_course_past]))])) (jx_S (some (.int r))) 0 0 (fun _ => False) := by
  refine jx_metR (ty := .int) (own := RX11) (cc := cX11_section) (maxL := 3) (by decide) rfl rfl (Nat.le_of_ble_eq_true rfl) ?_
  intro p e s m args below meth c Q ls hx hb hml hown hts hK hN hP hl hret
  have hi_X11 : ∀ w ∈ u_ws RX11 TX11 11, w ∈ wsX11_section := by decide +kernel
  have hi_X2 : ∀ w ∈ u_ws RX2 TX2 7, w ∈ wsX11_section := by decide +kernel
  have hl : lv_has ls 3 [(0, .ref a_t), (1, .int p1), (2, .int p2)] := hl
  have h := hm
  unfold mi_X11_section at h
  refine lv_aload_n hx hb dX11_section_0 rfl (lv_at hl 0 rfl) ?_
  refine va_get (D := D) (ci := 11) (v := .ref a_t_score) (C := RX11) (T := TX11) (N := 11) hx hb hts hi_X11 hown hK hP 0 rfl rfl 1 (by decide) (hts (.fieldLink RX11 19 "TriangleRest" "score" "LTriangleRest$Score;") (List.mem_of_getElem? (i := 1) rfl)) (fun _ h9 => h9) rfl dX11_section_1 ?_
  refine lv_iload_n hx hb dX11_section_4 rfl (lv_at hl 1 rfl) ?_
  obtain ⟨r1, e2, h⟩ := jx_b1_of h
  refine jx_cV (o := some (.int r1)) (As := [.int p1]) (rest := []) (b := a_t_score) ⟨hx, hb, hml, hown, hts⟩ (ct_X6_hasSection l D cI cZ cO a_t_score a_t_score_lengths a_t_score_times a_t_score_players a_t_score_minutes t_score_sections t_score_things t_score_noteTold t_score_toldSection t_score_toldBar p1 r1 e2) (cwV 1 hts gX11_section_X6_hasSection rfl rfl rfl (by decide +kernel) ⟨Nat.le_of_ble_eq_true rfl, Nat.le_of_ble_eq_true rfl⟩) hK hN hP [1] rfl (va_recv hK hP (ci := 6) (q0 := 1) rfl rfl) rfl hl.1 rfl (Nat.le_of_ble_eq_true rfl) dX11_section_5 ⟨Nat.zero_le _, Nat.zero_le _⟩ ?_
  refine lv_if_ne (tgt := 13) hx hb dX11_section_8 (by decide) (fun c3 => ?_) (fun c3 => ?_)
  · have h := jx_f h c3
    refine lv_iload_n hx hb dX11_section_13 rfl (lv_at hl 2 rfl) ?_
    by_cases s4 : p2 = (0 : Int32)
    · have h := jx_t h s4
      refine lv_tableIn (off := 38) (tgt := 52) hx hb dX11_section_14 (by rw [s4]; decide) (by rw [s4]; decide) (by rw [s4]; rfl) (by decide) ?_
      refine lv_aload_n hx hb dX11_section_52 rfl (lv_at hl 0 rfl) ?_
      refine va_get (D := D) (ci := 11) (v := .ref a_t_score) (C := RX11) (T := TX11) (N := 11) hx hb hts hi_X11 hown hK hP 0 rfl rfl 1 (by decide) (hts (.fieldLink RX11 19 "TriangleRest" "score" "LTriangleRest$Score;") (List.mem_of_getElem? (i := 1) rfl)) (fun _ h9 => h9) rfl dX11_section_53 ?_
      refine lv_iload_n hx hb dX11_section_56 rfl (lv_at hl 1 rfl) ?_
      obtain ⟨r5, e6, h⟩ := jx_b1_of h
      refine jx_cV (o := some (.int r5)) (As := [.int p1]) (rest := []) (b := a_t_score) ⟨hx, hb, hml, hown, hts⟩ (ct_X6_lengthOf l D cI cZ cO a_t_score a_t_score_lengths a_t_score_times a_t_score_players a_t_score_minutes t_score_sections t_score_things t_score_noteTold t_score_toldSection t_score_toldBar t_score_lengths p1 r5 e6) (cwV 1 hts gX11_section_X6_lengthOf rfl rfl rfl (by decide +kernel) ⟨Nat.le_of_ble_eq_true rfl, Nat.le_of_ble_eq_true rfl⟩) hK hN hP [1, 2] rfl (va_recv hK hP (ci := 6) (q0 := 1) rfl rfl) rfl hl.1 rfl (Nat.le_of_ble_eq_true rfl) dX11_section_57 ⟨Nat.zero_le _, Nat.zero_le _⟩ ?_
      cases h
      exact hret 60 ls rfl dX11_section_60
    have h := jx_f h s4
    by_cases s7 : p2 = (1 : Int32)
    · have h := jx_t h s7
      refine lv_tableIn (off := 47) (tgt := 61) hx hb dX11_section_14 (by rw [s7]; decide) (by rw [s7]; decide) (by rw [s7]; rfl) (by decide) ?_
      refine lv_aload_n hx hb dX11_section_61 rfl (lv_at hl 0 rfl) ?_
      refine va_get (D := D) (ci := 11) (v := .ref a_t_score) (C := RX11) (T := TX11) (N := 11) hx hb hts hi_X11 hown hK hP 0 rfl rfl 1 (by decide) (hts (.fieldLink RX11 19 "TriangleRest" "score" "LTriangleRest$Score;") (List.mem_of_getElem? (i := 1) rfl)) (fun _ h9 => h9) rfl dX11_section_62 ?_
      refine lv_iload_n hx hb dX11_section_65 rfl (lv_at hl 1 rfl) ?_
      obtain ⟨r8, e9, h⟩ := jx_b1_of h
      refine jx_cV (o := some (.int r8)) (As := [.int p1]) (rest := []) (b := a_t_score) ⟨hx, hb, hml, hown, hts⟩ (ct_X6_timesOf l D cI cZ cO a_t_score a_t_score_lengths a_t_score_times a_t_score_players a_t_score_minutes t_score_sections t_score_things t_score_noteTold t_score_toldSection t_score_toldBar t_score_times p1 r8 e9) (cwV 1 hts gX11_section_X6_timesOf rfl rfl rfl (by decide +kernel) ⟨Nat.le_of_ble_eq_true rfl, Nat.le_of_ble_eq_true rfl⟩) hK hN hP [1, 3] rfl (va_recv hK hP (ci := 6) (q0 := 1) rfl rfl) rfl hl.1 rfl (Nat.le_of_ble_eq_true rfl) dX11_section_66 ⟨Nat.zero_le _, Nat.zero_le _⟩ ?_
      cases h
      exact hret 69 ls rfl dX11_section_69
    have h := jx_f h s7
    by_cases s10 : p2 = (2 : Int32)
    · have h := jx_t h s10
      refine lv_tableIn (off := 56) (tgt := 70) hx hb dX11_section_14 (by rw [s10]; decide) (by rw [s10]; decide) (by rw [s10]; rfl) (by decide) ?_
      refine lv_aload_n hx hb dX11_section_70 rfl (lv_at hl 0 rfl) ?_
      refine va_get (D := D) (ci := 11) (v := .ref a_t_score) (C := RX11) (T := TX11) (N := 11) hx hb hts hi_X11 hown hK hP 0 rfl rfl 1 (by decide) (hts (.fieldLink RX11 19 "TriangleRest" "score" "LTriangleRest$Score;") (List.mem_of_getElem? (i := 1) rfl)) (fun _ h9 => h9) rfl dX11_section_71 ?_
      refine lv_iload_n hx hb dX11_section_74 rfl (lv_at hl 1 rfl) ?_
      obtain ⟨r11, e12, h⟩ := jx_b1_of h
      refine jx_cV (o := some (.int r11)) (As := [.int p1]) (rest := []) (b := a_t_score) ⟨hx, hb, hml, hown, hts⟩ (ct_X6_whoOf l D cI cZ cO a_t_score a_t_score_lengths a_t_score_times a_t_score_players a_t_score_minutes t_score_sections t_score_things t_score_noteTold t_score_toldSection t_score_toldBar t_score_players p1 r11 e12) (cwV 1 hts gX11_section_X6_whoOf rfl rfl rfl (by decide +kernel) ⟨Nat.le_of_ble_eq_true rfl, Nat.le_of_ble_eq_true rfl⟩) hK hN hP [1, 4] rfl (va_recv hK hP (ci := 6) (q0 := 1) rfl rfl) rfl hl.1 rfl (Nat.le_of_ble_eq_true rfl) dX11_section_75 ⟨Nat.zero_le _, Nat.zero_le _⟩ ?_
      cases h
      exact hret 78 ls rfl dX11_section_78
    have h := jx_f h s10
    by_cases s13 : p2 = (3 : Int32)
    · have h := jx_t h s13
      refine lv_tableIn (off := 65) (tgt := 79) hx hb dX11_section_14 (by rw [s13]; decide) (by rw [s13]; decide) (by rw [s13]; rfl) (by decide) ?_
      refine lv_aload_n hx hb dX11_section_79 rfl (lv_at hl 0 rfl) ?_
      refine va_get (D := D) (ci := 11) (v := .ref a_t_course) (C := RX11) (T := TX11) (N := 11) hx hb hts hi_X11 hown hK hP 0 rfl rfl 3 (by decide) (hts (.fieldLink RX11 29 "TriangleRest" "course" "LTriangleRest$Course;") (List.mem_of_getElem? (i := 2) rfl)) (fun _ h9 => h9) rfl dX11_section_80 ?_
      refine va_get (D := D) (ci := 2) (v := .int t_course_cut) (C := RX2) (T := TX2) (N := 7) hx hb hts hi_X2 hown hK hP 5 rfl rfl 3 (by decide) (hts (.fieldLink RX11 120 "TriangleRest$Course" "cut" "I") (List.mem_of_getElem? (i := 3) rfl)) (fun _ h9 => h9) rfl dX11_section_83 ?_
      refine lv_iload_n hx hb dX11_section_86 rfl (lv_at hl 1 rfl) ?_
      obtain ⟨r14, e15, h⟩ := jx_b1_of h
      refine jx_cS (o := some (.int r14)) (As := [.int t_course_cut, .int p1]) (rest := []) ⟨hx, hb, hml, hown, hts⟩ (ct_X11_isIn l t_course_cut p1 r14 e15) (va_cwS 2 hts gX11_section_X11_isIn rfl rfl rfl (by decide +kernel) ⟨Nat.le_of_ble_eq_true rfl, Nat.le_of_ble_eq_true rfl⟩) rfl hl.1 rfl (Nat.le_of_ble_eq_true rfl) dX11_section_87 ⟨Nat.zero_le _, Nat.zero_le _⟩ ?_
      obtain ⟨r16, e17, h⟩ := jx_b1_of h
      refine jx_cS (o := some (.int r16)) (As := [.int r14]) (rest := []) ⟨hx, hb, hml, hown, hts⟩ (ct_X11_oneIf l r14 r16 e17) (va_cwS 1 hts gX11_section_X11_oneIf rfl rfl rfl (by decide +kernel) ⟨Nat.le_of_ble_eq_true rfl, Nat.le_of_ble_eq_true rfl⟩) rfl hl.1 rfl (Nat.le_of_ble_eq_true rfl) dX11_section_90 ⟨Nat.zero_le _, Nat.zero_le _⟩ ?_
      cases h
      exact hret 93 ls rfl dX11_section_93
    have h := jx_f h s13
    by_cases s18 : p2 = (4 : Int32)
    · have h := jx_t h s18
      refine lv_tableIn (off := 80) (tgt := 94) hx hb dX11_section_14 (by rw [s18]; decide) (by rw [s18]; decide) (by rw [s18]; rfl) (by decide) ?_
      refine lv_aload_n hx hb dX11_section_94 rfl (lv_at hl 0 rfl) ?_
      refine va_get (D := D) (ci := 11) (v := .ref a_t_course) (C := RX11) (T := TX11) (N := 11) hx hb hts hi_X11 hown hK hP 0 rfl rfl 3 (by decide) (hts (.fieldLink RX11 29 "TriangleRest" "course" "LTriangleRest$Course;") (List.mem_of_getElem? (i := 2) rfl)) (fun _ h9 => h9) rfl dX11_section_95 ?_
      refine va_get (D := D) (ci := 2) (v := .int t_course_cut) (C := RX2) (T := TX2) (N := 7) hx hb hts hi_X2 hown hK hP 5 rfl rfl 3 (by decide) (hts (.fieldLink RX11 120 "TriangleRest$Course" "cut" "I") (List.mem_of_getElem? (i := 3) rfl)) (fun _ h9 => h9) rfl dX11_section_98 ?_
      refine lv_iload_n hx hb dX11_section_101 rfl (lv_at hl 1 rfl) ?_
      obtain ⟨r19, e20, h⟩ := jx_b1_of h
      refine jx_cS (o := some (.int r19)) (As := [.int t_course_cut, .int p1]) (rest := []) ⟨hx, hb, hml, hown, hts⟩ (ct_X11_isIn l t_course_cut p1 r19 e20) (va_cwS 2 hts gX11_section_X11_isIn rfl rfl rfl (by decide +kernel) ⟨Nat.le_of_ble_eq_true rfl, Nat.le_of_ble_eq_true rfl⟩) rfl hl.1 rfl (Nat.le_of_ble_eq_true rfl) dX11_section_102 ⟨Nat.zero_le _, Nat.zero_le _⟩ ?_
      refine lv_if_eq (tgt := 113) hx hb dX11_section_105 (by decide) (fun c21 => ?_) (fun c21 => ?_)
      · have h := jx_t h c21
        refine lv_aload_n hx hb dX11_section_113 rfl (lv_at hl 0 rfl) ?_
        refine va_get (D := D) (ci := 11) (v := .ref a_t_score) (C := RX11) (T := TX11) (N := 11) hx hb hts hi_X11 hown hK hP 0 rfl rfl 1 (by decide) (hts (.fieldLink RX11 19 "TriangleRest" "score" "LTriangleRest$Score;") (List.mem_of_getElem? (i := 1) rfl)) (fun _ h9 => h9) rfl dX11_section_114 ?_
        refine lv_iload_n hx hb dX11_section_117 rfl (lv_at hl 1 rfl) ?_
        refine lv_aload_n hx hb dX11_section_118 rfl (lv_at hl 0 rfl) ?_
        refine va_get (D := D) (ci := 11) (v := .ref a_t_course) (C := RX11) (T := TX11) (N := 11) hx hb hts hi_X11 hown hK hP 0 rfl rfl 3 (by decide) (hts (.fieldLink RX11 29 "TriangleRest" "course" "LTriangleRest$Course;") (List.mem_of_getElem? (i := 2) rfl)) (fun _ h9 => h9) rfl dX11_section_119 ?_
        refine va_get (D := D) (ci := 2) (v := .int t_course_cut) (C := RX2) (T := TX2) (N := 7) hx hb hts hi_X2 hown hK hP 5 rfl rfl 3 (by decide) (hts (.fieldLink RX11 120 "TriangleRest$Course" "cut" "I") (List.mem_of_getElem? (i := 3) rfl)) (fun _ h9 => h9) rfl dX11_section_122 ?_
        obtain ⟨r22, e23, h⟩ := jx_b1_of h
        refine jx_cV (o := some (.int r22)) (As := [.int p1, .int t_course_cut]) (rest := []) (b := a_t_score) ⟨hx, hb, hml, hown, hts⟩ (ct_X6_firstOf l D cI cZ cO a_t_score a_t_score_lengths a_t_score_times a_t_score_players a_t_score_minutes t_score_sections t_score_things t_score_noteTold t_score_toldSection t_score_toldBar t_score_lengths t_score_times p1 t_course_cut r22 e23) (cwV 2 hts gX11_section_X6_firstOf rfl rfl rfl (by decide +kernel) ⟨Nat.le_of_ble_eq_true rfl, Nat.le_of_ble_eq_true rfl⟩) hK hN hP [1, 2, 3] rfl (va_recv hK hP (ci := 6) (q0 := 1) rfl rfl) rfl hl.1 rfl (Nat.le_of_ble_eq_true rfl) dX11_section_125 ⟨Nat.zero_le _, Nat.zero_le _⟩ ?_
        cases h
        exact hret 128 ls rfl dX11_section_128
      · have h := jx_f h c21
        refine lv_bipush (v := (-9 : Int32)) hx hb dX11_section_108 (by decide) ?_
        refine lv_goto (tgt := 128) hx hb dX11_section_110 (by decide) ?_
        cases h
        exact hret 128 ls rfl dX11_section_128
    have h := jx_f h s18
    by_cases s24 : p2 = (5 : Int32)
    · have h := jx_t h s24
      refine lv_tableIn (off := 115) (tgt := 129) hx hb dX11_section_14 (by rw [s24]; decide) (by rw [s24]; decide) (by rw [s24]; rfl) (by decide) ?_
      refine lv_aload_n hx hb dX11_section_129 rfl (lv_at hl 0 rfl) ?_
      refine va_get (D := D) (ci := 11) (v := .ref a_t_score) (C := RX11) (T := TX11) (N := 11) hx hb hts hi_X11 hown hK hP 0 rfl rfl 1 (by decide) (hts (.fieldLink RX11 19 "TriangleRest" "score" "LTriangleRest$Score;") (List.mem_of_getElem? (i := 1) rfl)) (fun _ h9 => h9) rfl dX11_section_130 ?_
      refine lv_iload_n hx hb dX11_section_133 rfl (lv_at hl 1 rfl) ?_
      refine lv_aload_n hx hb dX11_section_134 rfl (lv_at hl 0 rfl) ?_
      refine va_get (D := D) (ci := 11) (v := .ref a_t_course) (C := RX11) (T := TX11) (N := 11) hx hb hts hi_X11 hown hK hP 0 rfl rfl 3 (by decide) (hts (.fieldLink RX11 29 "TriangleRest" "course" "LTriangleRest$Course;") (List.mem_of_getElem? (i := 2) rfl)) (fun _ h9 => h9) rfl dX11_section_135 ?_
      refine va_get (D := D) (ci := 2) (v := .int t_course_cut) (C := RX2) (T := TX2) (N := 7) hx hb hts hi_X2 hown hK hP 5 rfl rfl 3 (by decide) (hts (.fieldLink RX11 120 "TriangleRest$Course" "cut" "I") (List.mem_of_getElem? (i := 3) rfl)) (fun _ h9 => h9) rfl dX11_section_138 ?_
      refine lv_aload_n hx hb dX11_section_141 rfl (lv_at hl 0 rfl) ?_
      refine va_get (D := D) (ci := 11) (v := .ref a_t_course) (C := RX11) (T := TX11) (N := 11) hx hb hts hi_X11 hown hK hP 0 rfl rfl 3 (by decide) (hts (.fieldLink RX11 29 "TriangleRest" "course" "LTriangleRest$Course;") (List.mem_of_getElem? (i := 2) rfl)) (fun _ h9 => h9) rfl dX11_section_142 ?_
      refine va_get (D := D) (ci := 2) (v := .int t_course_bar) (C := RX2) (T := TX2) (N := 7) hx hb hts hi_X2 hown hK hP 5 rfl rfl 0 (by decide) (hts (.fieldLink RX11 135 "TriangleRest$Course" "bar" "I") (List.mem_of_getElem? (i := 4) rfl)) (fun _ h9 => h9) rfl dX11_section_145 ?_
      obtain ⟨r25, e26, h⟩ := jx_b1_of h
      refine jx_cV (o := some (.int r25)) (As := [.int p1, .int t_course_cut, .int t_course_bar]) (rest := []) (b := a_t_score) ⟨hx, hb, hml, hown, hts⟩ (ct_X6_canBeCut l D cI cZ cO a_t_score a_t_score_lengths a_t_score_times a_t_score_players a_t_score_minutes t_score_sections t_score_things t_score_noteTold t_score_toldSection t_score_toldBar t_score_lengths t_score_times p1 t_course_cut t_course_bar r25 e26) (cwV 3 hts gX11_section_X6_canBeCut rfl rfl rfl (by decide +kernel) ⟨Nat.le_of_ble_eq_true rfl, Nat.le_of_ble_eq_true rfl⟩) hK hN hP [1, 2, 3] rfl (va_recv hK hP (ci := 6) (q0 := 1) rfl rfl) rfl hl.1 rfl (Nat.le_of_ble_eq_true rfl) dX11_section_148 ⟨Nat.zero_le _, Nat.zero_le _⟩ ?_
      obtain ⟨r27, e28, h⟩ := jx_b1_of h
      refine jx_cS (o := some (.int r27)) (As := [.int r25]) (rest := []) ⟨hx, hb, hml, hown, hts⟩ (ct_X11_oneIf l r25 r27 e28) (va_cwS 1 hts gX11_section_X11_oneIf rfl rfl rfl (by decide +kernel) ⟨Nat.le_of_ble_eq_true rfl, Nat.le_of_ble_eq_true rfl⟩) rfl hl.1 rfl (Nat.le_of_ble_eq_true rfl) dX11_section_151 ⟨Nat.zero_le _, Nat.zero_le _⟩ ?_
      cases h
      exact hret 154 ls rfl dX11_section_154
    have h := jx_f h s24
    refine lv_tableOut (tgt := 155) hx hb dX11_section_14 (by have e_s4 := jx_ne s4 (k := 0) (by decide); have e_s7 := jx_ne s7 (k := 1) (by decide); have e_s10 := jx_ne s10 (k := 2) (by decide); have e_s13 := jx_ne s13 (k := 3) (by decide); have e_s18 := jx_ne s18 (k := 4) (by decide); have e_s24 := jx_ne s24 (k := 5) (by decide); omega) (by decide) ?_
    refine lv_iconst (v := (-1 : Int32)) hx hb dX11_section_155 (by decide) ?_
    cases h
    exact hret 156 ls rfl dX11_section_156
  · have h := jx_t h c3
    refine lv_iconst (v := (-1 : Int32)) hx hb dX11_section_11 (by decide) ?_
    cases h
    exact hret 12 ls rfl dX11_section_12
def mi_X11_thing (t_score_things : Int32) (t_score_minutes : Nat → Int32) (p1 : Int32) : Option (Int32) := jx_b1 (mi_X6_hasThing t_score_things p1) fun r1 => (if r1 = 0 then (some ((-1 : Int32))) else (jx_b1 (mi_X6_minutesOf t_score_things t_score_minutes p1) fun r4 => (some (r4))))
abbrev rm_X11_thing : Room := { frames := 2, cells := 0, slots := 0, locals := 42 }
set_option maxRecDepth 100000 in
set_option maxHeartbeats 4000000 in
theorem ct_X11_thing (l : Launch) (D : va_G) (cI cZ cO : ClassId) (a_t a_t_text a_t_score a_t_draft a_t_course a_t_firstImage a_t_secondImage a_t_ear a_t_packer a_t_kinds a_t_score_lengths a_t_score_times a_t_score_players a_t_score_minutes : Nat) (t_keptImages : Int32) (t_traced : Int64) (t_score_sections : Int32) (t_score_things : Int32) (t_score_noteTold : Int32) (t_score_toldSection : Int32) (t_score_toldBar : Int32) (t_score_minutes : Nat → Int32) (p1 : Int32) (r : Int32) (hm : mi_X11_thing t_score_things t_score_minutes p1 = some r) : Met l yX11_thing wsX11_thing rm_X11_thing (va_Pc [.ref a_t, .int p1] (jx_R D (jx_T cI cZ cO) [(a_t, .inr (11, [.ref a_t_text, .ref a_t_score, .ref a_t_draft, .ref a_t_course, .ref a_t_firstImage, .ref a_t_secondImage, .ref a_t_ear, .ref a_t_packer, .ref a_t_kinds, .int t_keptImages, .long t_traced])), (a_t_score, .inr (6, [.ref a_t_score_lengths, .ref a_t_score_times, .ref a_t_score_players, .ref a_t_score_minutes, .int t_score_sections, .int t_score_things, .int t_score_noteTold, .int t_score_toldSection, .int t_score_toldBar])), (a_t_score_minutes, .inl (cI, 6, .inl t_score_minutes))])) (jx_S (some (.int r))) 0 0 (fun _ => False) := by
  refine jx_metR (ty := .int) (own := RX11) (cc := cX11_thing) (maxL := 2) (by decide) rfl rfl (Nat.le_of_ble_eq_true rfl) ?_
  intro p e s m args below meth c Q ls hx hb hml hown hts hK hN hP hl hret
  have hi_X11 : ∀ w ∈ u_ws RX11 TX11 11, w ∈ wsX11_thing := by decide +kernel
  have hl : lv_has ls 2 [(0, .ref a_t), (1, .int p1)] := hl
  have h := hm
  unfold mi_X11_thing at h
  refine lv_aload_n hx hb dX11_thing_0 rfl (lv_at hl 0 rfl) ?_
  refine va_get (D := D) (ci := 11) (v := .ref a_t_score) (C := RX11) (T := TX11) (N := 11) hx hb hts hi_X11 hown hK hP 0 rfl rfl 1 (by decide) (hts (.fieldLink RX11 19 "TriangleRest" "score" "LTriangleRest$Score;") (List.mem_of_getElem? (i := 1) rfl)) (fun _ h9 => h9) rfl dX11_thing_1 ?_
  refine lv_iload_n hx hb dX11_thing_4 rfl (lv_at hl 1 rfl) ?_
  obtain ⟨r1, e2, h⟩ := jx_b1_of h
  refine jx_cV (o := some (.int r1)) (As := [.int p1]) (rest := []) (b := a_t_score) ⟨hx, hb, hml, hown, hts⟩ (ct_X6_hasThing l D cI cZ cO a_t_score a_t_score_lengths a_t_score_times a_t_score_players a_t_score_minutes t_score_sections t_score_things t_score_noteTold t_score_toldSection t_score_toldBar p1 r1 e2) (cwV 1 hts gX11_thing_X6_hasThing rfl rfl rfl (by decide +kernel) ⟨Nat.le_of_ble_eq_true rfl, Nat.le_of_ble_eq_true rfl⟩) hK hN hP [1] rfl (va_recv hK hP (ci := 6) (q0 := 1) rfl rfl) rfl hl.1 rfl (Nat.le_of_ble_eq_true rfl) dX11_thing_5 ⟨Nat.zero_le _, Nat.zero_le _⟩ ?_
  refine lv_if_eq (tgt := 22) hx hb dX11_thing_8 (by decide) (fun c3 => ?_) (fun c3 => ?_)
  · have h := jx_t h c3
    refine lv_iconst (v := (-1 : Int32)) hx hb dX11_thing_22 (by decide) ?_
    cases h
    exact hret 23 ls rfl dX11_thing_23
  · have h := jx_f h c3
    refine lv_aload_n hx hb dX11_thing_11 rfl (lv_at hl 0 rfl) ?_
    refine va_get (D := D) (ci := 11) (v := .ref a_t_score) (C := RX11) (T := TX11) (N := 11) hx hb hts hi_X11 hown hK hP 0 rfl rfl 1 (by decide) (hts (.fieldLink RX11 19 "TriangleRest" "score" "LTriangleRest$Score;") (List.mem_of_getElem? (i := 1) rfl)) (fun _ h9 => h9) rfl dX11_thing_12 ?_
    refine lv_iload_n hx hb dX11_thing_15 rfl (lv_at hl 1 rfl) ?_
    obtain ⟨r4, e5, h⟩ := jx_b1_of h
    refine jx_cV (o := some (.int r4)) (As := [.int p1]) (rest := []) (b := a_t_score) ⟨hx, hb, hml, hown, hts⟩ (ct_X6_minutesOf l D cI cZ cO a_t_score a_t_score_lengths a_t_score_times a_t_score_players a_t_score_minutes t_score_sections t_score_things t_score_noteTold t_score_toldSection t_score_toldBar t_score_minutes p1 r4 e5) (cwV 1 hts gX11_thing_X6_minutesOf rfl rfl rfl (by decide +kernel) ⟨Nat.le_of_ble_eq_true rfl, Nat.le_of_ble_eq_true rfl⟩) hK hN hP [1, 2] rfl (va_recv hK hP (ci := 6) (q0 := 1) rfl rfl) rfl hl.1 rfl (Nat.le_of_ble_eq_true rfl) dX11_thing_16 ⟨Nat.zero_le _, Nat.zero_le _⟩ ?_
    refine lv_goto (tgt := 23) hx hb dX11_thing_19 (by decide) ?_
    cases h
    exact hret 23 ls rfl dX11_thing_23
def mi_X11_bar (t_score_sections : Int32) (t_score_lengths : Nat → Int32) (t_score_times : Nat → Int32) (t_score_players : Nat → Int32) (t_course_cut : Int32) (p1 : Int32) (p2 : Int32) : Option (Int32) := jx_b1 (mi_X11_isWithin p1 (0 : Int32) (999 : Int32)) fun r1 => (if r1 = 0 then (some ((-1 : Int32))) else (jx_b1 (mi_X11_isWithin p2 (0 : Int32) (3 : Int32)) fun r4 => (if r4 = 0 then (some ((-1 : Int32))) else (jx_b1 (mi_X6_sectionAt t_score_sections t_score_lengths t_score_times p1 t_course_cut) fun r7 => (jx_b1 (mi_X6_lengthOf t_score_sections t_score_lengths r7) fun r9 => (if r9 = 0 then (some ((-9 : Int32))) else (jx_b1 (mi_X6_firstOf t_score_sections t_score_lengths t_score_times r7 t_course_cut) fun r12 => (if p2 = (0 : Int32) then (some (r7)) else (if p2 = (1 : Int32) then (jx_g (jx_nz r9) (some (((p1 - r12) / r9)))) else (if p2 = (2 : Int32) then (jx_g (jx_nz r9) (some (((p1 - r12) - (p1 - r12) / r9 * r9)))) else (jx_b1 (mi_X6_whoOf t_score_sections t_score_players r7) fun r19 => (some (r19)))))))))))))
abbrev rm_X11_bar : Room := { frames := 3, cells := 0, slots := 0, locals := 66 }
set_option maxRecDepth 100000 in
set_option maxHeartbeats 4000000 in
theorem ct_X11_bar (l : Launch) (D : va_G) (cI cZ cO : ClassId) (a_t a_t_text a_t_score a_t_draft a_t_course a_t_firstImage a_t_secondImage a_t_ear a_t_packer a_t_kinds a_t_score_lengths a_t_score_times a_t_score_players a_t_score_minutes a_t_course_past : Nat) (t_keptImages : Int32) (t_traced : Int64) (t_score_sections : Int32) (t_score_things : Int32) (t_score_noteTold : Int32) (t_score_toldSection : Int32) (t_score_toldBar : Int32) (t_score_lengths : Nat → Int32) (t_score_times : Nat → Int32) (t_score_players : Nat → Int32) (t_course_bar : Int32) (t_course_count : Int32) (t_course_waits : Int32) (t_course_cut : Int32) (t_course_struck : Int32) (t_course_known : Int32) (p1 : Int32) (p2 : Int32) (r : Int32) (hm : mi_X11_bar t_score_sections t_score_lengths t_score_times t_score_players t_course_cut p1 p2 = some r) : Met l yX11_bar wsX11_bar rm_X11_bar (va_Pc [.ref a_t, .int p1, .int p2] (jx_R D (jx_T cI cZ cO) [(a_t, .inr (11, [.ref a_t_text, .ref a_t_score, .ref a_t_draft, .ref a_t_course, .ref a_t_firstImage, .ref a_t_secondImage, .ref a_t_ear, .ref a_t_packer, .ref a_t_kinds, .int t_keptImages, .long t_traced])), (a_t_score, .inr (6, [.ref a_t_score_lengths, .ref a_t_score_times, .ref a_t_score_players, .ref a_t_score_minutes, .int t_score_sections, .int t_score_things, .int t_score_noteTold, .int t_score_toldSection, .int t_score_toldBar])), (a_t_score_lengths, .inl (cI, 8, .inl t_score_lengths)), (a_t_score_times, .inl (cI, 8, .inl t_score_times)), (a_t_score_players, .inl (cI, 8, .inl t_score_players)), (a_t_course, .inr (2, [.int t_course_bar, .int t_course_count, .int t_course_waits, .int t_course_cut, .int t_course_struck, .int t_course_known, .ref a_t_course_past]))])) (jx_S (some (.int r))) 0 0 (fun _ => False) := by
  refine jx_metR (ty := .int) (own := RX11) (cc := cX11_bar) (maxL := 6) (by decide) rfl rfl (Nat.le_of_ble_eq_true rfl) ?_
  intro p e s m args below meth c Q ls hx hb hml hown hts hK hN hP hl hret
  have hi_X11 : ∀ w ∈ u_ws RX11 TX11 11, w ∈ wsX11_bar := by decide +kernel
  have hi_X2 : ∀ w ∈ u_ws RX2 TX2 7, w ∈ wsX11_bar := by decide +kernel
  have hl : lv_has ls 6 [(0, .ref a_t), (1, .int p1), (2, .int p2)] := hl
  have h := hm
  unfold mi_X11_bar at h
  refine lv_iload_n hx hb dX11_bar_0 rfl (lv_at hl 1 rfl) ?_
  refine lv_iconst (v := (0 : Int32)) hx hb dX11_bar_1 (by decide) ?_
  refine lv_sipush (v := (999 : Int32)) hx hb dX11_bar_2 (by decide) ?_
  obtain ⟨r1, e2, h⟩ := jx_b1_of h
  refine jx_cS (o := some (.int r1)) (As := [.int p1, .int (0 : Int32), .int (999 : Int32)]) (rest := []) ⟨hx, hb, hml, hown, hts⟩ (ct_X11_isWithin l p1 (0 : Int32) (999 : Int32) r1 e2) (va_cwS 3 hts gX11_bar_X11_isWithin rfl rfl rfl (by decide +kernel) ⟨Nat.le_of_ble_eq_true rfl, Nat.le_of_ble_eq_true rfl⟩) rfl hl.1 rfl (Nat.le_of_ble_eq_true rfl) dX11_bar_5 ⟨Nat.zero_le _, Nat.zero_le _⟩ ?_
  refine lv_if_eq (tgt := 20) hx hb dX11_bar_8 (by decide) (fun c3 => ?_) (fun c3 => ?_)
  · have h := jx_t h c3
    refine lv_iconst (v := (-1 : Int32)) hx hb dX11_bar_20 (by decide) ?_
    cases h
    exact hret 21 ls rfl dX11_bar_21
  · have h := jx_f h c3
    refine lv_iload_n hx hb dX11_bar_11 rfl (lv_at hl 2 rfl) ?_
    refine lv_iconst (v := (0 : Int32)) hx hb dX11_bar_12 (by decide) ?_
    refine lv_iconst (v := (3 : Int32)) hx hb dX11_bar_13 (by decide) ?_
    obtain ⟨r4, e5, h⟩ := jx_b1_of h
    refine jx_cS (o := some (.int r4)) (As := [.int p2, .int (0 : Int32), .int (3 : Int32)]) (rest := []) ⟨hx, hb, hml, hown, hts⟩ (ct_X11_isWithin l p2 (0 : Int32) (3 : Int32) r4 e5) (va_cwS 3 hts gX11_bar_X11_isWithin rfl rfl rfl (by decide +kernel) ⟨Nat.le_of_ble_eq_true rfl, Nat.le_of_ble_eq_true rfl⟩) rfl hl.1 rfl (Nat.le_of_ble_eq_true rfl) dX11_bar_14 ⟨Nat.zero_le _, Nat.zero_le _⟩ ?_
    refine lv_if_ne (tgt := 22) hx hb dX11_bar_17 (by decide) (fun c6 => ?_) (fun c6 => ?_)
    · have h := jx_f h c6
      refine lv_aload_n hx hb dX11_bar_22 rfl (lv_at hl 0 rfl) ?_
      refine va_get (D := D) (ci := 11) (v := .ref a_t_score) (C := RX11) (T := TX11) (N := 11) hx hb hts hi_X11 hown hK hP 0 rfl rfl 1 (by decide) (hts (.fieldLink RX11 19 "TriangleRest" "score" "LTriangleRest$Score;") (List.mem_of_getElem? (i := 1) rfl)) (fun _ h9 => h9) rfl dX11_bar_23 ?_
      refine lv_iload_n hx hb dX11_bar_26 rfl (lv_at hl 1 rfl) ?_
      refine lv_aload_n hx hb dX11_bar_27 rfl (lv_at hl 0 rfl) ?_
      refine va_get (D := D) (ci := 11) (v := .ref a_t_course) (C := RX11) (T := TX11) (N := 11) hx hb hts hi_X11 hown hK hP 0 rfl rfl 3 (by decide) (hts (.fieldLink RX11 29 "TriangleRest" "course" "LTriangleRest$Course;") (List.mem_of_getElem? (i := 2) rfl)) (fun _ h9 => h9) rfl dX11_bar_28 ?_
      refine va_get (D := D) (ci := 2) (v := .int t_course_cut) (C := RX2) (T := TX2) (N := 7) hx hb hts hi_X2 hown hK hP 5 rfl rfl 3 (by decide) (hts (.fieldLink RX11 120 "TriangleRest$Course" "cut" "I") (List.mem_of_getElem? (i := 3) rfl)) (fun _ h9 => h9) rfl dX11_bar_31 ?_
      obtain ⟨r7, e8, h⟩ := jx_b1_of h
      refine jx_cV (o := some (.int r7)) (As := [.int p1, .int t_course_cut]) (rest := []) (b := a_t_score) ⟨hx, hb, hml, hown, hts⟩ (ct_X6_sectionAt l D cI cZ cO a_t_score a_t_score_lengths a_t_score_times a_t_score_players a_t_score_minutes t_score_sections t_score_things t_score_noteTold t_score_toldSection t_score_toldBar t_score_lengths t_score_times p1 t_course_cut r7 e8) (cwV 2 hts gX11_bar_X6_sectionAt rfl rfl rfl (by decide +kernel) ⟨Nat.le_of_ble_eq_true rfl, Nat.le_of_ble_eq_true rfl⟩) hK hN hP [1, 2, 3] rfl (va_recv hK hP (ci := 6) (q0 := 1) rfl rfl) rfl hl.1 rfl (Nat.le_of_ble_eq_true rfl) dX11_bar_34 ⟨Nat.zero_le _, Nat.zero_le _⟩ ?_
      refine lv_istore_n (lv' := [(3, .int r7), (0, .ref a_t), (1, .int p1), (2, .int p2)]) hx hb dX11_bar_37 rfl hl (by decide) rfl (fun ls hl => ?_)
      refine lv_aload_n hx hb dX11_bar_38 rfl (lv_at hl 1 rfl) ?_
      refine va_get (D := D) (ci := 11) (v := .ref a_t_score) (C := RX11) (T := TX11) (N := 11) hx hb hts hi_X11 hown hK hP 0 rfl rfl 1 (by decide) (hts (.fieldLink RX11 19 "TriangleRest" "score" "LTriangleRest$Score;") (List.mem_of_getElem? (i := 1) rfl)) (fun _ h9 => h9) rfl dX11_bar_39 ?_
      refine lv_iload_n hx hb dX11_bar_42 rfl (lv_at hl 0 rfl) ?_
      obtain ⟨r9, e10, h⟩ := jx_b1_of h
      refine jx_cV (o := some (.int r9)) (As := [.int r7]) (rest := []) (b := a_t_score) ⟨hx, hb, hml, hown, hts⟩ (ct_X6_lengthOf l D cI cZ cO a_t_score a_t_score_lengths a_t_score_times a_t_score_players a_t_score_minutes t_score_sections t_score_things t_score_noteTold t_score_toldSection t_score_toldBar t_score_lengths r7 r9 e10) (cwV 1 hts gX11_bar_X6_lengthOf rfl rfl rfl (by decide +kernel) ⟨Nat.le_of_ble_eq_true rfl, Nat.le_of_ble_eq_true rfl⟩) hK hN hP [1, 2] rfl (va_recv hK hP (ci := 6) (q0 := 1) rfl rfl) rfl hl.1 rfl (Nat.le_of_ble_eq_true rfl) dX11_bar_43 ⟨Nat.zero_le _, Nat.zero_le _⟩ ?_
      refine lv_istore (lv' := [(4, .int r9), (3, .int r7), (0, .ref a_t), (1, .int p1), (2, .int p2)]) hx hb dX11_bar_46 hl (by decide) rfl (fun ls hl => ?_)
      refine lv_iload hx hb dX11_bar_48 (lv_at hl 0 rfl) ?_
      refine lv_if_ne (tgt := 56) hx hb dX11_bar_50 (by decide) (fun c11 => ?_) (fun c11 => ?_)
      · have h := jx_f h c11
        refine lv_iload_n hx hb dX11_bar_56 rfl (lv_at hl 3 rfl) ?_
        refine lv_aload_n hx hb dX11_bar_57 rfl (lv_at hl 2 rfl) ?_
        refine va_get (D := D) (ci := 11) (v := .ref a_t_score) (C := RX11) (T := TX11) (N := 11) hx hb hts hi_X11 hown hK hP 0 rfl rfl 1 (by decide) (hts (.fieldLink RX11 19 "TriangleRest" "score" "LTriangleRest$Score;") (List.mem_of_getElem? (i := 1) rfl)) (fun _ h9 => h9) rfl dX11_bar_58 ?_
        refine lv_iload_n hx hb dX11_bar_61 rfl (lv_at hl 1 rfl) ?_
        refine lv_aload_n hx hb dX11_bar_62 rfl (lv_at hl 2 rfl) ?_
        refine va_get (D := D) (ci := 11) (v := .ref a_t_course) (C := RX11) (T := TX11) (N := 11) hx hb hts hi_X11 hown hK hP 0 rfl rfl 3 (by decide) (hts (.fieldLink RX11 29 "TriangleRest" "course" "LTriangleRest$Course;") (List.mem_of_getElem? (i := 2) rfl)) (fun _ h9 => h9) rfl dX11_bar_63 ?_
        refine va_get (D := D) (ci := 2) (v := .int t_course_cut) (C := RX2) (T := TX2) (N := 7) hx hb hts hi_X2 hown hK hP 5 rfl rfl 3 (by decide) (hts (.fieldLink RX11 120 "TriangleRest$Course" "cut" "I") (List.mem_of_getElem? (i := 3) rfl)) (fun _ h9 => h9) rfl dX11_bar_66 ?_
        obtain ⟨r12, e13, h⟩ := jx_b1_of h
        refine jx_cV (o := some (.int r12)) (As := [.int r7, .int t_course_cut]) (rest := [.int p1]) (b := a_t_score) ⟨hx, hb, hml, hown, hts⟩ (ct_X6_firstOf l D cI cZ cO a_t_score a_t_score_lengths a_t_score_times a_t_score_players a_t_score_minutes t_score_sections t_score_things t_score_noteTold t_score_toldSection t_score_toldBar t_score_lengths t_score_times r7 t_course_cut r12 e13) (cwV 2 hts gX11_bar_X6_firstOf rfl rfl rfl (by decide +kernel) ⟨Nat.le_of_ble_eq_true rfl, Nat.le_of_ble_eq_true rfl⟩) hK hN hP [1, 2, 3] rfl (va_recv hK hP (ci := 6) (q0 := 1) rfl rfl) rfl hl.1 rfl (Nat.le_of_ble_eq_true rfl) dX11_bar_69 ⟨Nat.zero_le _, Nat.zero_le _⟩ ?_
        refine lv_isub hx hb dX11_bar_72 ?_
        refine lv_istore (lv' := [(5, .int (p1 - r12)), (4, .int r9), (3, .int r7), (0, .ref a_t), (1, .int p1), (2, .int p2)]) hx hb dX11_bar_73 hl (by decide) rfl (fun ls hl => ?_)
        refine lv_iload_n hx hb dX11_bar_75 rfl (lv_at hl 5 rfl) ?_
        by_cases s14 : p2 = (0 : Int32)
        · have h := jx_t h s14
          refine lv_tableIn (off := 28) (tgt := 104) hx hb dX11_bar_76 (by rw [s14]; decide) (by rw [s14]; decide) (by rw [s14]; rfl) (by decide) ?_
          refine lv_iload_n hx hb dX11_bar_104 rfl (lv_at hl 2 rfl) ?_
          cases h
          exact hret 105 ls rfl dX11_bar_105
        have h := jx_f h s14
        by_cases s15 : p2 = (1 : Int32)
        · have h := jx_t h s15
          refine lv_tableIn (off := 30) (tgt := 106) hx hb dX11_bar_76 (by rw [s15]; decide) (by rw [s15]; decide) (by rw [s15]; rfl) (by decide) ?_
          refine lv_iload hx hb dX11_bar_106 (lv_at hl 0 rfl) ?_
          refine lv_iload hx hb dX11_bar_108 (lv_at hl 1 rfl) ?_
          obtain ⟨g16, h⟩ := jx_g_of h
          refine lv_idiv hx hb dX11_bar_110 (jx_nz_of g16) ?_
          cases h
          exact hret 111 ls rfl dX11_bar_111
        have h := jx_f h s15
        by_cases s17 : p2 = (2 : Int32)
        · have h := jx_t h s17
          refine lv_tableIn (off := 36) (tgt := 112) hx hb dX11_bar_76 (by rw [s17]; decide) (by rw [s17]; decide) (by rw [s17]; rfl) (by decide) ?_
          refine lv_iload hx hb dX11_bar_112 (lv_at hl 0 rfl) ?_
          refine lv_iload hx hb dX11_bar_114 (lv_at hl 1 rfl) ?_
          obtain ⟨g18, h⟩ := jx_g_of h
          refine lv_irem hx hb dX11_bar_116 (jx_nz_of g18) ?_
          cases h
          exact hret 117 ls rfl dX11_bar_117
        have h := jx_f h s17
        refine lv_tableOut (tgt := 118) hx hb dX11_bar_76 (by have e_s14 := jx_ne s14 (k := 0) (by decide); have e_s15 := jx_ne s15 (k := 1) (by decide); have e_s17 := jx_ne s17 (k := 2) (by decide); omega) (by decide) ?_
        refine lv_aload_n hx hb dX11_bar_118 rfl (lv_at hl 3 rfl) ?_
        refine va_get (D := D) (ci := 11) (v := .ref a_t_score) (C := RX11) (T := TX11) (N := 11) hx hb hts hi_X11 hown hK hP 0 rfl rfl 1 (by decide) (hts (.fieldLink RX11 19 "TriangleRest" "score" "LTriangleRest$Score;") (List.mem_of_getElem? (i := 1) rfl)) (fun _ h9 => h9) rfl dX11_bar_119 ?_
        refine lv_iload_n hx hb dX11_bar_122 rfl (lv_at hl 2 rfl) ?_
        obtain ⟨r19, e20, h⟩ := jx_b1_of h
        refine jx_cV (o := some (.int r19)) (As := [.int r7]) (rest := []) (b := a_t_score) ⟨hx, hb, hml, hown, hts⟩ (ct_X6_whoOf l D cI cZ cO a_t_score a_t_score_lengths a_t_score_times a_t_score_players a_t_score_minutes t_score_sections t_score_things t_score_noteTold t_score_toldSection t_score_toldBar t_score_players r7 r19 e20) (cwV 1 hts gX11_bar_X6_whoOf rfl rfl rfl (by decide +kernel) ⟨Nat.le_of_ble_eq_true rfl, Nat.le_of_ble_eq_true rfl⟩) hK hN hP [1, 4] rfl (va_recv hK hP (ci := 6) (q0 := 1) rfl rfl) rfl hl.1 rfl (Nat.le_of_ble_eq_true rfl) dX11_bar_123 ⟨Nat.zero_le _, Nat.zero_le _⟩ ?_
        cases h
        exact hret 126 ls rfl dX11_bar_126
      · have h := jx_t h c11
        refine lv_bipush (v := (-9 : Int32)) hx hb dX11_bar_53 (by decide) ?_
        cases h
        exact hret 55 ls rfl dX11_bar_55
    · have h := jx_t h c6
      refine lv_iconst (v := (-1 : Int32)) hx hb dX11_bar_20 (by decide) ?_
      cases h
      exact hret 21 ls rfl dX11_bar_21
def mi_X11_bars_b122 (p1 : Int32) (t_course_bar : Int32) (t_course_count : Int32) (t_course_struck : Int32) (t_course_known : Int32) (t_course_past : Nat → Int32) : Option (Int32 × Int32 × Int32 × Int32 × Int32 × (Nat → Int32)) := some ((t_course_bar + p1), (t_course_bar + p1), (t_course_count + p1), t_course_struck, t_course_known, t_course_past)
def mi_X11_bars_b92 (p1 : Int32) (k0 : Int32) (t_course_bar : Int32) (t_course_count : Int32) (t_course_struck : Int32) (t_course_known : Int32) (t_course_past : Nat → Int32) : Option (Int32 × Int32 × Int32 × Int32 × Int32 × (Nat → Int32)) := if k0 = 0 then (mi_X11_bars_b122 p1 t_course_bar t_course_count t_course_struck t_course_known t_course_past) else (if t_course_count = t_course_bar then (mi_X11_bars_b122 p1 t_course_bar t_course_count (1 : Int32) t_course_known t_course_past) else (mi_X11_bars_b122 p1 t_course_bar t_course_count t_course_struck t_course_known t_course_past))
def mi_X11_bars_b91 (p1 : Int32) (t_course_bar : Int32) (t_course_count : Int32) (t_course_struck : Int32) (t_course_known : Int32) (t_course_past : Nat → Int32) : Option (Int32 × Int32 × Int32 × Int32 × Int32 × (Nat → Int32)) := mi_X11_bars_b92 p1 (0 : Int32) t_course_bar t_course_count t_course_struck t_course_known t_course_past
def mi_X11_bars (t_score_sections : Int32) (t_score_noteTold : Int32) (t_score_toldSection : Int32) (t_score_toldBar : Int32) (t_score_lengths : Nat → Int32) (t_score_times : Nat → Int32) (t_course_bar : Int32) (t_course_count : Int32) (t_course_waits : Int32) (t_course_cut : Int32) (t_course_struck : Int32) (t_course_known : Int32) (t_course_past : Nat → Int32) (p1 : Int32) : Option (Int32 × Int32 × Int32 × Int32 × Int32 × (Nat → Int32)) := jx_b1 (mi_X11_isWithin p1 (1 : Int32) (99 : Int32)) fun r3 => (if r3 = 0 then (some ((-1 : Int32), t_course_bar, t_course_count, t_course_struck, t_course_known, t_course_past)) else (jx_b1 (mi_X6_barsWith t_score_sections t_score_lengths t_score_times t_course_cut) fun r6 => (if (t_course_bar + p1) ≤ r6 then (jx_b2 (mi_X2_remember t_course_bar t_course_count t_course_waits t_course_cut t_course_struck t_course_known t_course_past) fun t_course_known_9 t_course_past_10 => (jx_b1 (mi_X6_noteBarWith t_score_sections t_score_noteTold t_score_toldSection t_score_toldBar t_score_lengths t_score_times t_course_cut) fun r12 => (if r12 < t_course_bar then (mi_X11_bars_b91 p1 t_course_bar t_course_count t_course_struck t_course_known_9 t_course_past_10) else (if (t_course_bar + p1) ≤ r12 then (mi_X11_bars_b91 p1 t_course_bar t_course_count t_course_struck t_course_known_9 t_course_past_10) else (mi_X11_bars_b92 p1 (1 : Int32) t_course_bar t_course_count t_course_struck t_course_known_9 t_course_past_10))))) else (some ((-2 : Int32), t_course_bar, t_course_count, t_course_struck, t_course_known, t_course_past)))))
abbrev rm_X11_bars : Room := { frames := 4, cells := 0, slots := 0, locals := 89 }
set_option maxRecDepth 100000 in
set_option maxHeartbeats 4000000 in
theorem ct_X11_bars (l : Launch) (D : va_G) (cI cZ cO : ClassId) (a_t a_t_text a_t_score a_t_draft a_t_course a_t_firstImage a_t_secondImage a_t_ear a_t_packer a_t_kinds a_t_score_lengths a_t_score_times a_t_score_players a_t_score_minutes a_t_course_past : Nat) (sz : Nat) (t_keptImages : Int32) (t_traced : Int64) (t_score_sections : Int32) (t_score_things : Int32) (t_score_noteTold : Int32) (t_score_toldSection : Int32) (t_score_toldBar : Int32) (t_score_lengths : Nat → Int32) (t_score_times : Nat → Int32) (t_course_bar : Int32) (t_course_count : Int32) (t_course_waits : Int32) (t_course_cut : Int32) (t_course_struck : Int32) (t_course_known : Int32) (t_course_past : Nat → Int32) (p1 : Int32) (r : Int32) (z_t_course_bar : Int32) (z_t_course_count : Int32) (z_t_course_struck : Int32) (z_t_course_known : Int32) (z_t_course_past : Nat → Int32) (hm : mi_X11_bars t_score_sections t_score_noteTold t_score_toldSection t_score_toldBar t_score_lengths t_score_times t_course_bar t_course_count t_course_waits t_course_cut t_course_struck t_course_known t_course_past p1 = some (r, z_t_course_bar, z_t_course_count, z_t_course_struck, z_t_course_known, z_t_course_past)) : Met l yX11_bars wsX11_bars rm_X11_bars (va_Pc [.ref a_t, .int p1] (jx_W D (jx_T cI cZ cO) sz [(a_t, .inr (11, [.ref a_t_text, .ref a_t_score, .ref a_t_draft, .ref a_t_course, .ref a_t_firstImage, .ref a_t_secondImage, .ref a_t_ear, .ref a_t_packer, .ref a_t_kinds, .int t_keptImages, .long t_traced])), (a_t_score, .inr (6, [.ref a_t_score_lengths, .ref a_t_score_times, .ref a_t_score_players, .ref a_t_score_minutes, .int t_score_sections, .int t_score_things, .int t_score_noteTold, .int t_score_toldSection, .int t_score_toldBar])), (a_t_score_lengths, .inl (cI, 8, .inl t_score_lengths)), (a_t_score_times, .inl (cI, 8, .inl t_score_times)), (a_t_course, .inr (2, [.int t_course_bar, .int t_course_count, .int t_course_waits, .int t_course_cut, .int t_course_struck, .int t_course_known, .ref a_t_course_past])), (a_t_course_past, .inl (cI, 50, .inl t_course_past))])) (jx_Q (some (.int r)) D [(a_t, .inr (11, [.ref a_t_text, .ref a_t_score, .ref a_t_draft, .ref a_t_course, .ref a_t_firstImage, .ref a_t_secondImage, .ref a_t_ear, .ref a_t_packer, .ref a_t_kinds, .int t_keptImages, .long t_traced])), (a_t_score, .inr (6, [.ref a_t_score_lengths, .ref a_t_score_times, .ref a_t_score_players, .ref a_t_score_minutes, .int t_score_sections, .int t_score_things, .int t_score_noteTold, .int t_score_toldSection, .int t_score_toldBar])), (a_t_score_lengths, .inl (cI, 8, .inl t_score_lengths)), (a_t_score_times, .inl (cI, 8, .inl t_score_times)), (a_t_course, .inr (2, [.int z_t_course_bar, .int z_t_course_count, .int t_course_waits, .int t_course_cut, .int z_t_course_struck, .int z_t_course_known, .ref a_t_course_past])), (a_t_course_past, .inl (cI, 50, .inl z_t_course_past))] (va_A [(a_t, .inr (11, [.ref a_t_text, .ref a_t_score, .ref a_t_draft, .ref a_t_course, .ref a_t_firstImage, .ref a_t_secondImage, .ref a_t_ear, .ref a_t_packer, .ref a_t_kinds, .int t_keptImages, .long t_traced])), (a_t_score, .inr (6, [.ref a_t_score_lengths, .ref a_t_score_times, .ref a_t_score_players, .ref a_t_score_minutes, .int t_score_sections, .int t_score_things, .int t_score_noteTold, .int t_score_toldSection, .int t_score_toldBar])), (a_t_score_lengths, .inl (cI, 8, .inl t_score_lengths)), (a_t_score_times, .inl (cI, 8, .inl t_score_times)), (a_t_course, .inr (2, [.int t_course_bar, .int t_course_count, .int t_course_waits, .int t_course_cut, .int t_course_struck, .int t_course_known, .ref a_t_course_past])), (a_t_course_past, .inl (cI, 50, .inl t_course_past))] sz)) 0 0 (va_A [(a_t, .inr (11, [.ref a_t_text, .ref a_t_score, .ref a_t_draft, .ref a_t_course, .ref a_t_firstImage, .ref a_t_secondImage, .ref a_t_ear, .ref a_t_packer, .ref a_t_kinds, .int t_keptImages, .long t_traced])), (a_t_score, .inr (6, [.ref a_t_score_lengths, .ref a_t_score_times, .ref a_t_score_players, .ref a_t_score_minutes, .int t_score_sections, .int t_score_things, .int t_score_noteTold, .int t_score_toldSection, .int t_score_toldBar])), (a_t_score_lengths, .inl (cI, 8, .inl t_score_lengths)), (a_t_score_times, .inl (cI, 8, .inl t_score_times)), (a_t_course, .inr (2, [.int t_course_bar, .int t_course_count, .int t_course_waits, .int t_course_cut, .int t_course_struck, .int t_course_known, .ref a_t_course_past])), (a_t_course_past, .inl (cI, 50, .inl t_course_past))] sz) := by
  refine jx_metW (ty := .int) (own := RX11) (cc := cX11_bars) (maxL := 4) (by decide) rfl rfl (Nat.le_of_ble_eq_true rfl) ?_
  intro p e s m args below meth c Q ls A hx hb hml hown hts hK hN hA hP hD hS hl hret
  have hi_X11 : ∀ w ∈ u_ws RX11 TX11 11, w ∈ wsX11_bars := by decide +kernel
  have hi_X2 : ∀ w ∈ u_ws RX2 TX2 7, w ∈ wsX11_bars := by decide +kernel
  have hl : lv_has ls 4 [(0, .ref a_t), (1, .int p1)] := hl
  have bl_b122 : ∀ (t_course_bar : Int32) (t_course_count : Int32) (t_course_struck : Int32) (t_course_known : Int32) (t_course_past : Nat → Int32) (H : Heap) (locs : List Loc) (ls : Array Slot), va_P D vwCl [(a_t, .inr (11, [.ref a_t_text, .ref a_t_score, .ref a_t_draft, .ref a_t_course, .ref a_t_firstImage, .ref a_t_secondImage, .ref a_t_ear, .ref a_t_packer, .ref a_t_kinds, .int t_keptImages, .long t_traced])), (a_t_score, .inr (6, [.ref a_t_score_lengths, .ref a_t_score_times, .ref a_t_score_players, .ref a_t_score_minutes, .int t_score_sections, .int t_score_things, .int t_score_noteTold, .int t_score_toldSection, .int t_score_toldBar])), (a_t_score_lengths, .inl (cI, 8, .inl t_score_lengths)), (a_t_score_times, .inl (cI, 8, .inl t_score_times)), (a_t_course, .inr (2, [.int t_course_bar, .int t_course_count, .int t_course_waits, .int t_course_cut, .int t_course_struck, .int t_course_known, .ref a_t_course_past])), (a_t_course_past, .inl (cI, 50, .inl t_course_past))] H → va_D A [(a_t, .inr (11, [.ref a_t_text, .ref a_t_score, .ref a_t_draft, .ref a_t_course, .ref a_t_firstImage, .ref a_t_secondImage, .ref a_t_ear, .ref a_t_packer, .ref a_t_kinds, .int t_keptImages, .long t_traced])), (a_t_score, .inr (6, [.ref a_t_score_lengths, .ref a_t_score_times, .ref a_t_score_players, .ref a_t_score_minutes, .int t_score_sections, .int t_score_things, .int t_score_noteTold, .int t_score_toldSection, .int t_score_toldBar])), (a_t_score_lengths, .inl (cI, 8, .inl t_score_lengths)), (a_t_score_times, .inl (cI, 8, .inl t_score_times)), (a_t_course, .inr (2, [.int t_course_bar, .int t_course_count, .int t_course_waits, .int t_course_cut, .int t_course_struck, .int t_course_known, .ref a_t_course_past])), (a_t_course_past, .inl (cI, 50, .inl t_course_past))] → va_S A s.heap H locs → lv_has ls 4 [(0, .ref a_t), (1, .int p1)] → mi_X11_bars_b122 p1 t_course_bar t_course_count t_course_struck t_course_known t_course_past = some (r, z_t_course_bar, z_t_course_count, z_t_course_struck, z_t_course_known, z_t_course_past) → W p l e (headSpec wsX11_bars rm_X11_bars).room s m args below meth c H locs 0 0 Q (F0 m 122 ls []) := by
    intro t_course_bar t_course_count t_course_struck t_course_known t_course_past H locs ls hP hD hS hl h
    unfold mi_X11_bars_b122 at h
    refine lv_aload_n hx hb dX11_bars_122 rfl (lv_at hl 0 rfl) ?_
    refine va_get (D := D) (ci := 11) (v := .ref a_t_course) (C := RX11) (T := TX11) (N := 11) hx hb hts hi_X11 hown hK hP 0 rfl rfl 3 (by decide) (hts (.fieldLink RX11 29 "TriangleRest" "course" "LTriangleRest$Course;") (List.mem_of_getElem? (i := 1) rfl)) (fun _ h9 => h9) rfl dX11_bars_123 ?_
    refine lv_dup hx hb dX11_bars_126 rfl ?_
    refine va_get (D := D) (ci := 2) (v := .int t_course_bar) (C := RX2) (T := TX2) (N := 7) hx hb hts hi_X2 hown hK hP 4 rfl rfl 0 (by decide) (hts (.fieldLink RX11 135 "TriangleRest$Course" "bar" "I") (List.mem_of_getElem? (i := 2) rfl)) (fun _ h9 => h9) rfl dX11_bars_127 ?_
    refine lv_iload_n hx hb dX11_bars_130 rfl (lv_at hl 1 rfl) ?_
    refine lv_iadd hx hb dX11_bars_131 ?_
    refine va_put (D := D) (ci := 2) (v := .int (t_course_bar + p1)) (ty := .int) (C := RX2) (T := TX2) (N := 7) hx hb hts hi_X2 tyX2 tyX2_ok nmX2 hown hK hP hD hS 4 rfl rfl 0 (by decide) (hts (.fieldLink RX11 135 "TriangleRest$Course" "bar" "I") (List.mem_of_getElem? (i := 2) rfl)) (fun _ h9 => h9) rfl (by decide +kernel) rfl rfl (Nat.le_of_ble_eq_true rfl) dX11_bars_132 (fun H locs hP hD hS => ?_)
    have hP : va_P D vwCl [(a_t, .inr (11, [.ref a_t_text, .ref a_t_score, .ref a_t_draft, .ref a_t_course, .ref a_t_firstImage, .ref a_t_secondImage, .ref a_t_ear, .ref a_t_packer, .ref a_t_kinds, .int t_keptImages, .long t_traced])), (a_t_score, .inr (6, [.ref a_t_score_lengths, .ref a_t_score_times, .ref a_t_score_players, .ref a_t_score_minutes, .int t_score_sections, .int t_score_things, .int t_score_noteTold, .int t_score_toldSection, .int t_score_toldBar])), (a_t_score_lengths, .inl (cI, 8, .inl t_score_lengths)), (a_t_score_times, .inl (cI, 8, .inl t_score_times)), (a_t_course, .inr (2, [.int (t_course_bar + p1), .int t_course_count, .int t_course_waits, .int t_course_cut, .int t_course_struck, .int t_course_known, .ref a_t_course_past])), (a_t_course_past, .inl (cI, 50, .inl t_course_past))] H := hP
    have hD : va_D A [(a_t, .inr (11, [.ref a_t_text, .ref a_t_score, .ref a_t_draft, .ref a_t_course, .ref a_t_firstImage, .ref a_t_secondImage, .ref a_t_ear, .ref a_t_packer, .ref a_t_kinds, .int t_keptImages, .long t_traced])), (a_t_score, .inr (6, [.ref a_t_score_lengths, .ref a_t_score_times, .ref a_t_score_players, .ref a_t_score_minutes, .int t_score_sections, .int t_score_things, .int t_score_noteTold, .int t_score_toldSection, .int t_score_toldBar])), (a_t_score_lengths, .inl (cI, 8, .inl t_score_lengths)), (a_t_score_times, .inl (cI, 8, .inl t_score_times)), (a_t_course, .inr (2, [.int (t_course_bar + p1), .int t_course_count, .int t_course_waits, .int t_course_cut, .int t_course_struck, .int t_course_known, .ref a_t_course_past])), (a_t_course_past, .inl (cI, 50, .inl t_course_past))] := hD
    refine lv_aload_n hx hb dX11_bars_135 rfl (lv_at hl 0 rfl) ?_
    refine va_get (D := D) (ci := 11) (v := .ref a_t_course) (C := RX11) (T := TX11) (N := 11) hx hb hts hi_X11 hown hK hP 0 rfl rfl 3 (by decide) (hts (.fieldLink RX11 29 "TriangleRest" "course" "LTriangleRest$Course;") (List.mem_of_getElem? (i := 1) rfl)) (fun _ h9 => h9) rfl dX11_bars_136 ?_
    refine lv_dup hx hb dX11_bars_139 rfl ?_
    refine va_get (D := D) (ci := 2) (v := .int t_course_count) (C := RX2) (T := TX2) (N := 7) hx hb hts hi_X2 hown hK hP 4 rfl rfl 1 (by decide) (hts (.fieldLink RX11 159 "TriangleRest$Course" "count" "I") (List.mem_of_getElem? (i := 5) rfl)) (fun _ h9 => h9) rfl dX11_bars_140 ?_
    refine lv_iload_n hx hb dX11_bars_143 rfl (lv_at hl 1 rfl) ?_
    refine lv_iadd hx hb dX11_bars_144 ?_
    refine va_put (D := D) (ci := 2) (v := .int (t_course_count + p1)) (ty := .int) (C := RX2) (T := TX2) (N := 7) hx hb hts hi_X2 tyX2 tyX2_ok nmX2 hown hK hP hD hS 4 rfl rfl 1 (by decide) (hts (.fieldLink RX11 159 "TriangleRest$Course" "count" "I") (List.mem_of_getElem? (i := 5) rfl)) (fun _ h9 => h9) rfl (by decide +kernel) rfl rfl (Nat.le_of_ble_eq_true rfl) dX11_bars_145 (fun H locs hP hD hS => ?_)
    have hP : va_P D vwCl [(a_t, .inr (11, [.ref a_t_text, .ref a_t_score, .ref a_t_draft, .ref a_t_course, .ref a_t_firstImage, .ref a_t_secondImage, .ref a_t_ear, .ref a_t_packer, .ref a_t_kinds, .int t_keptImages, .long t_traced])), (a_t_score, .inr (6, [.ref a_t_score_lengths, .ref a_t_score_times, .ref a_t_score_players, .ref a_t_score_minutes, .int t_score_sections, .int t_score_things, .int t_score_noteTold, .int t_score_toldSection, .int t_score_toldBar])), (a_t_score_lengths, .inl (cI, 8, .inl t_score_lengths)), (a_t_score_times, .inl (cI, 8, .inl t_score_times)), (a_t_course, .inr (2, [.int (t_course_bar + p1), .int (t_course_count + p1), .int t_course_waits, .int t_course_cut, .int t_course_struck, .int t_course_known, .ref a_t_course_past])), (a_t_course_past, .inl (cI, 50, .inl t_course_past))] H := hP
    have hD : va_D A [(a_t, .inr (11, [.ref a_t_text, .ref a_t_score, .ref a_t_draft, .ref a_t_course, .ref a_t_firstImage, .ref a_t_secondImage, .ref a_t_ear, .ref a_t_packer, .ref a_t_kinds, .int t_keptImages, .long t_traced])), (a_t_score, .inr (6, [.ref a_t_score_lengths, .ref a_t_score_times, .ref a_t_score_players, .ref a_t_score_minutes, .int t_score_sections, .int t_score_things, .int t_score_noteTold, .int t_score_toldSection, .int t_score_toldBar])), (a_t_score_lengths, .inl (cI, 8, .inl t_score_lengths)), (a_t_score_times, .inl (cI, 8, .inl t_score_times)), (a_t_course, .inr (2, [.int (t_course_bar + p1), .int (t_course_count + p1), .int t_course_waits, .int t_course_cut, .int t_course_struck, .int t_course_known, .ref a_t_course_past])), (a_t_course_past, .inl (cI, 50, .inl t_course_past))] := hD
    refine lv_aload_n hx hb dX11_bars_148 rfl (lv_at hl 0 rfl) ?_
    refine va_get (D := D) (ci := 11) (v := .ref a_t_course) (C := RX11) (T := TX11) (N := 11) hx hb hts hi_X11 hown hK hP 0 rfl rfl 3 (by decide) (hts (.fieldLink RX11 29 "TriangleRest" "course" "LTriangleRest$Course;") (List.mem_of_getElem? (i := 1) rfl)) (fun _ h9 => h9) rfl dX11_bars_149 ?_
    refine va_get (D := D) (ci := 2) (v := .int (t_course_bar + p1)) (C := RX2) (T := TX2) (N := 7) hx hb hts hi_X2 hown hK hP 4 rfl rfl 0 (by decide) (hts (.fieldLink RX11 135 "TriangleRest$Course" "bar" "I") (List.mem_of_getElem? (i := 2) rfl)) (fun _ h9 => h9) rfl dX11_bars_152 ?_
    have hq_0 := Option.some.inj h
    obtain ⟨hz_1, hq_1⟩ := Prod.mk.inj hq_0
    obtain ⟨hz_2, hq_2⟩ := Prod.mk.inj hq_1
    obtain ⟨hz_3, hq_3⟩ := Prod.mk.inj hq_2
    obtain ⟨hz_4, hq_4⟩ := Prod.mk.inj hq_3
    obtain ⟨hz_5, hq_5⟩ := Prod.mk.inj hq_4
    subst hz_1
    subst hz_2
    subst hz_3
    subst hz_4
    subst hz_5
    subst hq_5
    exact hret 155 ls _ _ hP hD hS rfl dX11_bars_155
  have bl_b92 : ∀ (k0 : Int32) (t_course_bar : Int32) (t_course_count : Int32) (t_course_struck : Int32) (t_course_known : Int32) (t_course_past : Nat → Int32) (H : Heap) (locs : List Loc) (ls : Array Slot), va_P D vwCl [(a_t, .inr (11, [.ref a_t_text, .ref a_t_score, .ref a_t_draft, .ref a_t_course, .ref a_t_firstImage, .ref a_t_secondImage, .ref a_t_ear, .ref a_t_packer, .ref a_t_kinds, .int t_keptImages, .long t_traced])), (a_t_score, .inr (6, [.ref a_t_score_lengths, .ref a_t_score_times, .ref a_t_score_players, .ref a_t_score_minutes, .int t_score_sections, .int t_score_things, .int t_score_noteTold, .int t_score_toldSection, .int t_score_toldBar])), (a_t_score_lengths, .inl (cI, 8, .inl t_score_lengths)), (a_t_score_times, .inl (cI, 8, .inl t_score_times)), (a_t_course, .inr (2, [.int t_course_bar, .int t_course_count, .int t_course_waits, .int t_course_cut, .int t_course_struck, .int t_course_known, .ref a_t_course_past])), (a_t_course_past, .inl (cI, 50, .inl t_course_past))] H → va_D A [(a_t, .inr (11, [.ref a_t_text, .ref a_t_score, .ref a_t_draft, .ref a_t_course, .ref a_t_firstImage, .ref a_t_secondImage, .ref a_t_ear, .ref a_t_packer, .ref a_t_kinds, .int t_keptImages, .long t_traced])), (a_t_score, .inr (6, [.ref a_t_score_lengths, .ref a_t_score_times, .ref a_t_score_players, .ref a_t_score_minutes, .int t_score_sections, .int t_score_things, .int t_score_noteTold, .int t_score_toldSection, .int t_score_toldBar])), (a_t_score_lengths, .inl (cI, 8, .inl t_score_lengths)), (a_t_score_times, .inl (cI, 8, .inl t_score_times)), (a_t_course, .inr (2, [.int t_course_bar, .int t_course_count, .int t_course_waits, .int t_course_cut, .int t_course_struck, .int t_course_known, .ref a_t_course_past])), (a_t_course_past, .inl (cI, 50, .inl t_course_past))] → va_S A s.heap H locs → lv_has ls 4 [(0, .ref a_t), (1, .int p1)] → mi_X11_bars_b92 p1 k0 t_course_bar t_course_count t_course_struck t_course_known t_course_past = some (r, z_t_course_bar, z_t_course_count, z_t_course_struck, z_t_course_known, z_t_course_past) → W p l e (headSpec wsX11_bars rm_X11_bars).room s m args below meth c H locs 0 0 Q (F0 m 92 ls [.int k0]) := by
    intro k0 t_course_bar t_course_count t_course_struck t_course_known t_course_past H locs ls hP hD hS hl h
    unfold mi_X11_bars_b92 at h
    refine lv_istore_n (lv' := [(3, .int k0), (0, .ref a_t), (1, .int p1)]) hx hb dX11_bars_92 rfl hl (by decide) rfl (fun ls hl => ?_)
    refine lv_iload_n hx hb dX11_bars_93 rfl (lv_at hl 0 rfl) ?_
    refine lv_if_eq (tgt := 122) hx hb dX11_bars_94 (by decide) (fun c1 => ?_) (fun c1 => ?_)
    · have h := jx_t h c1
      exact bl_b122 t_course_bar t_course_count t_course_struck t_course_known t_course_past _ _ _ hP hD hS (lv_sub hl [1, 2] rfl) h
    · have h := jx_f h c1
      refine lv_aload_n hx hb dX11_bars_97 rfl (lv_at hl 1 rfl) ?_
      refine va_get (D := D) (ci := 11) (v := .ref a_t_course) (C := RX11) (T := TX11) (N := 11) hx hb hts hi_X11 hown hK hP 0 rfl rfl 3 (by decide) (hts (.fieldLink RX11 29 "TriangleRest" "course" "LTriangleRest$Course;") (List.mem_of_getElem? (i := 1) rfl)) (fun _ h9 => h9) rfl dX11_bars_98 ?_
      refine va_get (D := D) (ci := 2) (v := .int t_course_count) (C := RX2) (T := TX2) (N := 7) hx hb hts hi_X2 hown hK hP 4 rfl rfl 1 (by decide) (hts (.fieldLink RX11 159 "TriangleRest$Course" "count" "I") (List.mem_of_getElem? (i := 5) rfl)) (fun _ h9 => h9) rfl dX11_bars_101 ?_
      refine lv_aload_n hx hb dX11_bars_104 rfl (lv_at hl 1 rfl) ?_
      refine va_get (D := D) (ci := 11) (v := .ref a_t_course) (C := RX11) (T := TX11) (N := 11) hx hb hts hi_X11 hown hK hP 0 rfl rfl 3 (by decide) (hts (.fieldLink RX11 29 "TriangleRest" "course" "LTriangleRest$Course;") (List.mem_of_getElem? (i := 1) rfl)) (fun _ h9 => h9) rfl dX11_bars_105 ?_
      refine va_get (D := D) (ci := 2) (v := .int t_course_bar) (C := RX2) (T := TX2) (N := 7) hx hb hts hi_X2 hown hK hP 4 rfl rfl 0 (by decide) (hts (.fieldLink RX11 135 "TriangleRest$Course" "bar" "I") (List.mem_of_getElem? (i := 2) rfl)) (fun _ h9 => h9) rfl dX11_bars_108 ?_
      refine lv_icmp_ne (tgt := 122) hx hb dX11_bars_111 (by decide) (fun c2 => ?_) (fun c2 => ?_)
      · have h := jx_f h c2
        exact bl_b122 t_course_bar t_course_count t_course_struck t_course_known t_course_past _ _ _ hP hD hS (lv_sub hl [1, 2] rfl) h
      · have h := jx_t h c2
        refine lv_aload_n hx hb dX11_bars_114 rfl (lv_at hl 1 rfl) ?_
        refine va_get (D := D) (ci := 11) (v := .ref a_t_course) (C := RX11) (T := TX11) (N := 11) hx hb hts hi_X11 hown hK hP 0 rfl rfl 3 (by decide) (hts (.fieldLink RX11 29 "TriangleRest" "course" "LTriangleRest$Course;") (List.mem_of_getElem? (i := 1) rfl)) (fun _ h9 => h9) rfl dX11_bars_115 ?_
        refine lv_iconst (v := (1 : Int32)) hx hb dX11_bars_118 (by decide) ?_
        refine va_put (D := D) (ci := 2) (v := .int (1 : Int32)) (ty := .boolean) (C := RX2) (T := TX2) (N := 7) hx hb hts hi_X2 tyX2 tyX2_ok nmX2 hown hK hP hD hS 4 rfl rfl 4 (by decide) (hts (.fieldLink RX11 162 "TriangleRest$Course" "struck" "Z") (List.mem_of_getElem? (i := 6) rfl)) (fun _ h9 => h9) rfl (by decide +kernel) rfl rfl (Nat.le_of_ble_eq_true rfl) dX11_bars_119 (fun H locs hP hD hS => ?_)
        have hP : va_P D vwCl [(a_t, .inr (11, [.ref a_t_text, .ref a_t_score, .ref a_t_draft, .ref a_t_course, .ref a_t_firstImage, .ref a_t_secondImage, .ref a_t_ear, .ref a_t_packer, .ref a_t_kinds, .int t_keptImages, .long t_traced])), (a_t_score, .inr (6, [.ref a_t_score_lengths, .ref a_t_score_times, .ref a_t_score_players, .ref a_t_score_minutes, .int t_score_sections, .int t_score_things, .int t_score_noteTold, .int t_score_toldSection, .int t_score_toldBar])), (a_t_score_lengths, .inl (cI, 8, .inl t_score_lengths)), (a_t_score_times, .inl (cI, 8, .inl t_score_times)), (a_t_course, .inr (2, [.int t_course_bar, .int t_course_count, .int t_course_waits, .int t_course_cut, .int (1 : Int32), .int t_course_known, .ref a_t_course_past])), (a_t_course_past, .inl (cI, 50, .inl t_course_past))] H := hP
        have hD : va_D A [(a_t, .inr (11, [.ref a_t_text, .ref a_t_score, .ref a_t_draft, .ref a_t_course, .ref a_t_firstImage, .ref a_t_secondImage, .ref a_t_ear, .ref a_t_packer, .ref a_t_kinds, .int t_keptImages, .long t_traced])), (a_t_score, .inr (6, [.ref a_t_score_lengths, .ref a_t_score_times, .ref a_t_score_players, .ref a_t_score_minutes, .int t_score_sections, .int t_score_things, .int t_score_noteTold, .int t_score_toldSection, .int t_score_toldBar])), (a_t_score_lengths, .inl (cI, 8, .inl t_score_lengths)), (a_t_score_times, .inl (cI, 8, .inl t_score_times)), (a_t_course, .inr (2, [.int t_course_bar, .int t_course_count, .int t_course_waits, .int t_course_cut, .int (1 : Int32), .int t_course_known, .ref a_t_course_past])), (a_t_course_past, .inl (cI, 50, .inl t_course_past))] := hD
        exact bl_b122 t_course_bar t_course_count (1 : Int32) t_course_known t_course_past _ _ _ hP hD hS (lv_sub hl [1, 2] rfl) h
  have bl_b91 : ∀ (t_course_bar : Int32) (t_course_count : Int32) (t_course_struck : Int32) (t_course_known : Int32) (t_course_past : Nat → Int32) (H : Heap) (locs : List Loc) (ls : Array Slot), va_P D vwCl [(a_t, .inr (11, [.ref a_t_text, .ref a_t_score, .ref a_t_draft, .ref a_t_course, .ref a_t_firstImage, .ref a_t_secondImage, .ref a_t_ear, .ref a_t_packer, .ref a_t_kinds, .int t_keptImages, .long t_traced])), (a_t_score, .inr (6, [.ref a_t_score_lengths, .ref a_t_score_times, .ref a_t_score_players, .ref a_t_score_minutes, .int t_score_sections, .int t_score_things, .int t_score_noteTold, .int t_score_toldSection, .int t_score_toldBar])), (a_t_score_lengths, .inl (cI, 8, .inl t_score_lengths)), (a_t_score_times, .inl (cI, 8, .inl t_score_times)), (a_t_course, .inr (2, [.int t_course_bar, .int t_course_count, .int t_course_waits, .int t_course_cut, .int t_course_struck, .int t_course_known, .ref a_t_course_past])), (a_t_course_past, .inl (cI, 50, .inl t_course_past))] H → va_D A [(a_t, .inr (11, [.ref a_t_text, .ref a_t_score, .ref a_t_draft, .ref a_t_course, .ref a_t_firstImage, .ref a_t_secondImage, .ref a_t_ear, .ref a_t_packer, .ref a_t_kinds, .int t_keptImages, .long t_traced])), (a_t_score, .inr (6, [.ref a_t_score_lengths, .ref a_t_score_times, .ref a_t_score_players, .ref a_t_score_minutes, .int t_score_sections, .int t_score_things, .int t_score_noteTold, .int t_score_toldSection, .int t_score_toldBar])), (a_t_score_lengths, .inl (cI, 8, .inl t_score_lengths)), (a_t_score_times, .inl (cI, 8, .inl t_score_times)), (a_t_course, .inr (2, [.int t_course_bar, .int t_course_count, .int t_course_waits, .int t_course_cut, .int t_course_struck, .int t_course_known, .ref a_t_course_past])), (a_t_course_past, .inl (cI, 50, .inl t_course_past))] → va_S A s.heap H locs → lv_has ls 4 [(0, .ref a_t), (1, .int p1)] → mi_X11_bars_b91 p1 t_course_bar t_course_count t_course_struck t_course_known t_course_past = some (r, z_t_course_bar, z_t_course_count, z_t_course_struck, z_t_course_known, z_t_course_past) → W p l e (headSpec wsX11_bars rm_X11_bars).room s m args below meth c H locs 0 0 Q (F0 m 91 ls []) := by
    intro t_course_bar t_course_count t_course_struck t_course_known t_course_past H locs ls hP hD hS hl h
    unfold mi_X11_bars_b91 at h
    refine lv_iconst (v := (0 : Int32)) hx hb dX11_bars_91 (by decide) ?_
    exact bl_b92 (0 : Int32) t_course_bar t_course_count t_course_struck t_course_known t_course_past _ _ _ hP hD hS (lv_sub hl [0, 1] rfl) h
  have h := hm
  unfold mi_X11_bars at h
  refine lv_iload_n hx hb dX11_bars_0 rfl (lv_at hl 1 rfl) ?_
  refine lv_iconst (v := (1 : Int32)) hx hb dX11_bars_1 (by decide) ?_
  refine lv_bipush (v := (99 : Int32)) hx hb dX11_bars_2 (by decide) ?_
  obtain ⟨r3, e4, h⟩ := jx_b1_of h
  refine jx_cS (o := some (.int r3)) (As := [.int p1, .int (1 : Int32), .int (99 : Int32)]) (rest := []) ⟨hx, hb, hml, hown, hts⟩ (ct_X11_isWithin l p1 (1 : Int32) (99 : Int32) r3 e4) (va_cwS 3 hts gX11_bars_X11_isWithin rfl rfl rfl (by decide +kernel) ⟨Nat.le_of_ble_eq_true rfl, Nat.le_of_ble_eq_true rfl⟩) rfl hl.1 rfl (Nat.le_of_ble_eq_true rfl) dX11_bars_4 ⟨Nat.zero_le _, Nat.zero_le _⟩ ?_
  refine lv_if_ne (tgt := 12) hx hb dX11_bars_7 (by decide) (fun c5 => ?_) (fun c5 => ?_)
  · have h := jx_f h c5
    refine lv_aload_n hx hb dX11_bars_12 rfl (lv_at hl 0 rfl) ?_
    refine va_get (D := D) (ci := 11) (v := .ref a_t_course) (C := RX11) (T := TX11) (N := 11) hx hb hts hi_X11 hown hK hP 0 rfl rfl 3 (by decide) (hts (.fieldLink RX11 29 "TriangleRest" "course" "LTriangleRest$Course;") (List.mem_of_getElem? (i := 1) rfl)) (fun _ h9 => h9) rfl dX11_bars_13 ?_
    refine va_get (D := D) (ci := 2) (v := .int t_course_bar) (C := RX2) (T := TX2) (N := 7) hx hb hts hi_X2 hown hK hP 4 rfl rfl 0 (by decide) (hts (.fieldLink RX11 135 "TriangleRest$Course" "bar" "I") (List.mem_of_getElem? (i := 2) rfl)) (fun _ h9 => h9) rfl dX11_bars_16 ?_
    refine lv_iload_n hx hb dX11_bars_19 rfl (lv_at hl 1 rfl) ?_
    refine lv_iadd hx hb dX11_bars_20 ?_
    refine lv_aload_n hx hb dX11_bars_21 rfl (lv_at hl 0 rfl) ?_
    refine va_get (D := D) (ci := 11) (v := .ref a_t_score) (C := RX11) (T := TX11) (N := 11) hx hb hts hi_X11 hown hK hP 0 rfl rfl 1 (by decide) (hts (.fieldLink RX11 19 "TriangleRest" "score" "LTriangleRest$Score;") (List.mem_of_getElem? (i := 3) rfl)) (fun _ h9 => h9) rfl dX11_bars_22 ?_
    refine lv_aload_n hx hb dX11_bars_25 rfl (lv_at hl 0 rfl) ?_
    refine va_get (D := D) (ci := 11) (v := .ref a_t_course) (C := RX11) (T := TX11) (N := 11) hx hb hts hi_X11 hown hK hP 0 rfl rfl 3 (by decide) (hts (.fieldLink RX11 29 "TriangleRest" "course" "LTriangleRest$Course;") (List.mem_of_getElem? (i := 1) rfl)) (fun _ h9 => h9) rfl dX11_bars_26 ?_
    refine va_get (D := D) (ci := 2) (v := .int t_course_cut) (C := RX2) (T := TX2) (N := 7) hx hb hts hi_X2 hown hK hP 4 rfl rfl 3 (by decide) (hts (.fieldLink RX11 120 "TriangleRest$Course" "cut" "I") (List.mem_of_getElem? (i := 4) rfl)) (fun _ h9 => h9) rfl dX11_bars_29 ?_
    obtain ⟨r6, e7, h⟩ := jx_b1_of h
    refine jx_cV (o := some (.int r6)) (As := [.int t_course_cut]) (rest := [.int (t_course_bar + p1)]) (b := a_t_score) ⟨hx, hb, hml, hown, hts⟩ (ct_X6_barsWith l D cI cZ cO a_t_score a_t_score_lengths a_t_score_times a_t_score_players a_t_score_minutes t_score_sections t_score_things t_score_noteTold t_score_toldSection t_score_toldBar t_score_lengths t_score_times t_course_cut r6 e7) (cwV 1 hts gX11_bars_X6_barsWith rfl rfl rfl (by decide +kernel) ⟨Nat.le_of_ble_eq_true rfl, Nat.le_of_ble_eq_true rfl⟩) hK hN hP [1, 2, 3] rfl (va_recv hK hP (ci := 6) (q0 := 1) rfl rfl) rfl hl.1 rfl (Nat.le_of_ble_eq_true rfl) dX11_bars_32 ⟨Nat.zero_le _, Nat.zero_le _⟩ ?_
    refine lv_icmp_le (tgt := 41) hx hb dX11_bars_35 (by decide) (fun c8 => ?_) (fun c8 => ?_)
    · have h := jx_t h c8
      refine lv_aload_n hx hb dX11_bars_41 rfl (lv_at hl 0 rfl) ?_
      refine va_get (D := D) (ci := 11) (v := .ref a_t_course) (C := RX11) (T := TX11) (N := 11) hx hb hts hi_X11 hown hK hP 0 rfl rfl 3 (by decide) (hts (.fieldLink RX11 29 "TriangleRest" "course" "LTriangleRest$Course;") (List.mem_of_getElem? (i := 1) rfl)) (fun _ h9 => h9) rfl dX11_bars_42 ?_
      obtain ⟨t_course_known_9, t_course_past_10, e11, h⟩ := jx_b2_of h
      refine jx_cW (o := none) (As := []) (rest := []) (b := a_t_course) (wr := [(a_t, .inr (11, [.ref a_t_text, .ref a_t_score, .ref a_t_draft, .ref a_t_course, .ref a_t_firstImage, .ref a_t_secondImage, .ref a_t_ear, .ref a_t_packer, .ref a_t_kinds, .int t_keptImages, .long t_traced])), (a_t_score, .inr (6, [.ref a_t_score_lengths, .ref a_t_score_times, .ref a_t_score_players, .ref a_t_score_minutes, .int t_score_sections, .int t_score_things, .int t_score_noteTold, .int t_score_toldSection, .int t_score_toldBar])), (a_t_score_lengths, .inl (cI, 8, .inl t_score_lengths)), (a_t_score_times, .inl (cI, 8, .inl t_score_times))]) (wd' := [(a_t, .inr (11, [.ref a_t_text, .ref a_t_score, .ref a_t_draft, .ref a_t_course, .ref a_t_firstImage, .ref a_t_secondImage, .ref a_t_ear, .ref a_t_packer, .ref a_t_kinds, .int t_keptImages, .long t_traced])), (a_t_score, .inr (6, [.ref a_t_score_lengths, .ref a_t_score_times, .ref a_t_score_players, .ref a_t_score_minutes, .int t_score_sections, .int t_score_things, .int t_score_noteTold, .int t_score_toldSection, .int t_score_toldBar])), (a_t_score_lengths, .inl (cI, 8, .inl t_score_lengths)), (a_t_score_times, .inl (cI, 8, .inl t_score_times)), (a_t_course, .inr (2, [.int t_course_bar, .int t_course_count, .int t_course_waits, .int t_course_cut, .int t_course_struck, .int t_course_known_9, .ref a_t_course_past])), (a_t_course_past, .inl (cI, 50, .inl t_course_past_10))]) ⟨hx, hb, hml, hown, hts⟩ (ct_X2_remember l D cI cZ cO a_t_course a_t_course_past s.heap.size t_course_bar t_course_count t_course_waits t_course_cut t_course_struck t_course_known t_course_past t_course_known_9 t_course_past_10 e11) (cwV 0 hts gX11_bars_X2_remember rfl rfl rfl (by decide +kernel) ⟨Nat.le_of_ble_eq_true rfl, Nat.le_of_ble_eq_true rfl⟩) hK hN hP hD hS hA [4, 5] [0, 1, 2, 3] (by decide) rfl rfl (by decide) (by decide) rfl (va_recv hK hP (ci := 2) (q0 := 4) rfl rfl) rfl hl.1 rfl (Nat.le_of_ble_eq_true rfl) dX11_bars_45 ⟨Nat.zero_le _, Nat.zero_le _⟩ [0, 1, 2, 3, 4, 5] (by decide) rfl (fun H locs hP hD hS => ?_)
      refine lv_aload_n hx hb dX11_bars_48 rfl (lv_at hl 0 rfl) ?_
      refine va_get (D := D) (ci := 11) (v := .ref a_t_score) (C := RX11) (T := TX11) (N := 11) hx hb hts hi_X11 hown hK hP 0 rfl rfl 1 (by decide) (hts (.fieldLink RX11 19 "TriangleRest" "score" "LTriangleRest$Score;") (List.mem_of_getElem? (i := 3) rfl)) (fun _ h9 => h9) rfl dX11_bars_49 ?_
      refine lv_aload_n hx hb dX11_bars_52 rfl (lv_at hl 0 rfl) ?_
      refine va_get (D := D) (ci := 11) (v := .ref a_t_course) (C := RX11) (T := TX11) (N := 11) hx hb hts hi_X11 hown hK hP 0 rfl rfl 3 (by decide) (hts (.fieldLink RX11 29 "TriangleRest" "course" "LTriangleRest$Course;") (List.mem_of_getElem? (i := 1) rfl)) (fun _ h9 => h9) rfl dX11_bars_53 ?_
      refine va_get (D := D) (ci := 2) (v := .int t_course_cut) (C := RX2) (T := TX2) (N := 7) hx hb hts hi_X2 hown hK hP 4 rfl rfl 3 (by decide) (hts (.fieldLink RX11 120 "TriangleRest$Course" "cut" "I") (List.mem_of_getElem? (i := 4) rfl)) (fun _ h9 => h9) rfl dX11_bars_56 ?_
      obtain ⟨r12, e13, h⟩ := jx_b1_of h
      refine jx_cV (o := some (.int r12)) (As := [.int t_course_cut]) (rest := []) (b := a_t_score) ⟨hx, hb, hml, hown, hts⟩ (ct_X6_noteBarWith l D cI cZ cO a_t_score a_t_score_lengths a_t_score_times a_t_score_players a_t_score_minutes t_score_sections t_score_things t_score_noteTold t_score_toldSection t_score_toldBar t_score_lengths t_score_times t_course_cut r12 e13) (cwV 1 hts gX11_bars_X6_noteBarWith rfl rfl rfl (by decide +kernel) ⟨Nat.le_of_ble_eq_true rfl, Nat.le_of_ble_eq_true rfl⟩) hK hN hP [1, 2, 3] rfl (va_recv hK hP (ci := 6) (q0 := 1) rfl rfl) rfl hl.1 rfl (Nat.le_of_ble_eq_true rfl) dX11_bars_59 ⟨Nat.zero_le _, Nat.zero_le _⟩ ?_
      refine lv_istore_n (lv' := [(2, .int r12), (0, .ref a_t), (1, .int p1)]) hx hb dX11_bars_62 rfl hl (by decide) rfl (fun ls hl => ?_)
      refine lv_aload_n hx hb dX11_bars_63 rfl (lv_at hl 1 rfl) ?_
      refine va_get (D := D) (ci := 11) (v := .ref a_t_course) (C := RX11) (T := TX11) (N := 11) hx hb hts hi_X11 hown hK hP 0 rfl rfl 3 (by decide) (hts (.fieldLink RX11 29 "TriangleRest" "course" "LTriangleRest$Course;") (List.mem_of_getElem? (i := 1) rfl)) (fun _ h9 => h9) rfl dX11_bars_64 ?_
      refine va_get (D := D) (ci := 2) (v := .int t_course_bar) (C := RX2) (T := TX2) (N := 7) hx hb hts hi_X2 hown hK hP 4 rfl rfl 0 (by decide) (hts (.fieldLink RX11 135 "TriangleRest$Course" "bar" "I") (List.mem_of_getElem? (i := 2) rfl)) (fun _ h9 => h9) rfl dX11_bars_67 ?_
      refine lv_iload_n hx hb dX11_bars_70 rfl (lv_at hl 0 rfl) ?_
      refine lv_icmp_gt (tgt := 91) hx hb dX11_bars_71 (by decide) (fun c14 => ?_) (fun c14 => ?_)
      · have h := jx_t h c14
        exact bl_b91 t_course_bar t_course_count t_course_struck t_course_known_9 t_course_past_10 _ _ _ hP hD hS (lv_sub hl [1, 2] rfl) h
      · have h := jx_f h c14
        refine lv_iload_n hx hb dX11_bars_74 rfl (lv_at hl 0 rfl) ?_
        refine lv_aload_n hx hb dX11_bars_75 rfl (lv_at hl 1 rfl) ?_
        refine va_get (D := D) (ci := 11) (v := .ref a_t_course) (C := RX11) (T := TX11) (N := 11) hx hb hts hi_X11 hown hK hP 0 rfl rfl 3 (by decide) (hts (.fieldLink RX11 29 "TriangleRest" "course" "LTriangleRest$Course;") (List.mem_of_getElem? (i := 1) rfl)) (fun _ h9 => h9) rfl dX11_bars_76 ?_
        refine va_get (D := D) (ci := 2) (v := .int t_course_bar) (C := RX2) (T := TX2) (N := 7) hx hb hts hi_X2 hown hK hP 4 rfl rfl 0 (by decide) (hts (.fieldLink RX11 135 "TriangleRest$Course" "bar" "I") (List.mem_of_getElem? (i := 2) rfl)) (fun _ h9 => h9) rfl dX11_bars_79 ?_
        refine lv_iload_n hx hb dX11_bars_82 rfl (lv_at hl 2 rfl) ?_
        refine lv_iadd hx hb dX11_bars_83 ?_
        refine lv_icmp_ge (tgt := 91) hx hb dX11_bars_84 (by decide) (fun c15 => ?_) (fun c15 => ?_)
        · have h := jx_t h c15
          exact bl_b91 t_course_bar t_course_count t_course_struck t_course_known_9 t_course_past_10 _ _ _ hP hD hS (lv_sub hl [1, 2] rfl) h
        · have h := jx_f h c15
          refine lv_iconst (v := (1 : Int32)) hx hb dX11_bars_87 (by decide) ?_
          refine lv_goto (tgt := 92) hx hb dX11_bars_88 (by decide) ?_
          exact bl_b92 (1 : Int32) t_course_bar t_course_count t_course_struck t_course_known_9 t_course_past_10 _ _ _ hP hD hS (lv_sub hl [1, 2] rfl) h
    · have h := jx_f h c8
      refine lv_bipush (v := (-2 : Int32)) hx hb dX11_bars_38 (by decide) ?_
      have hq_0 := Option.some.inj h
      obtain ⟨hz_1, hq_1⟩ := Prod.mk.inj hq_0
      obtain ⟨hz_2, hq_2⟩ := Prod.mk.inj hq_1
      obtain ⟨hz_3, hq_3⟩ := Prod.mk.inj hq_2
      obtain ⟨hz_4, hq_4⟩ := Prod.mk.inj hq_3
      obtain ⟨hz_5, hq_5⟩ := Prod.mk.inj hq_4
      subst hz_1
      subst hz_2
      subst hz_3
      subst hz_4
      subst hz_5
      subst hq_5
      exact hret 40 ls _ _ hP hD hS rfl dX11_bars_40
  · have h := jx_t h c5
    refine lv_iconst (v := (-1 : Int32)) hx hb dX11_bars_10 (by decide) ?_
    have hq_0 := Option.some.inj h
    obtain ⟨hz_1, hq_1⟩ := Prod.mk.inj hq_0
    obtain ⟨hz_2, hq_2⟩ := Prod.mk.inj hq_1
    obtain ⟨hz_3, hq_3⟩ := Prod.mk.inj hq_2
    obtain ⟨hz_4, hq_4⟩ := Prod.mk.inj hq_3
    obtain ⟨hz_5, hq_5⟩ := Prod.mk.inj hq_4
    subst hz_1
    subst hz_2
    subst hz_3
    subst hz_4
    subst hz_5
    subst hq_5
    exact hret 11 ls _ _ hP hD hS rfl dX11_bars_11
def mi_X11_slips (t_course_bar : Int32) (t_course_count : Int32) (t_course_waits : Int32) (t_course_cut : Int32) (t_course_struck : Int32) (t_course_known : Int32) (t_course_past : Nat → Int32) (p1 : Int32) : Option (Int32 × Int32 × Int32 × (Nat → Int32)) := if p1 = 0 then (some ((-1000000 : Int32), t_course_count, t_course_known, t_course_past)) else (jx_b1 (mi_X11_isWithin p1 (-9 : Int32) (9 : Int32)) fun r2 => (if r2 = 0 then (some ((-1000000 : Int32), t_course_count, t_course_known, t_course_past)) else (jx_b2 (mi_X2_remember t_course_bar t_course_count t_course_waits t_course_cut t_course_struck t_course_known t_course_past) fun t_course_known_5 t_course_past_6 => (some ((t_course_count + p1), (t_course_count + p1), t_course_known_5, t_course_past_6)))))
abbrev rm_X11_slips : Room := { frames := 2, cells := 0, slots := 0, locals := 61 }
set_option maxRecDepth 100000 in
set_option maxHeartbeats 4000000 in
theorem ct_X11_slips (l : Launch) (D : va_G) (cI cZ cO : ClassId) (a_t a_t_text a_t_score a_t_draft a_t_course a_t_firstImage a_t_secondImage a_t_ear a_t_packer a_t_kinds a_t_course_past : Nat) (sz : Nat) (t_keptImages : Int32) (t_traced : Int64) (t_course_bar : Int32) (t_course_count : Int32) (t_course_waits : Int32) (t_course_cut : Int32) (t_course_struck : Int32) (t_course_known : Int32) (t_course_past : Nat → Int32) (p1 : Int32) (r : Int32) (z_t_course_count : Int32) (z_t_course_known : Int32) (z_t_course_past : Nat → Int32) (hm : mi_X11_slips t_course_bar t_course_count t_course_waits t_course_cut t_course_struck t_course_known t_course_past p1 = some (r, z_t_course_count, z_t_course_known, z_t_course_past)) : Met l yX11_slips wsX11_slips rm_X11_slips (va_Pc [.ref a_t, .int p1] (jx_W D (jx_T cI cZ cO) sz [(a_t, .inr (11, [.ref a_t_text, .ref a_t_score, .ref a_t_draft, .ref a_t_course, .ref a_t_firstImage, .ref a_t_secondImage, .ref a_t_ear, .ref a_t_packer, .ref a_t_kinds, .int t_keptImages, .long t_traced])), (a_t_course, .inr (2, [.int t_course_bar, .int t_course_count, .int t_course_waits, .int t_course_cut, .int t_course_struck, .int t_course_known, .ref a_t_course_past])), (a_t_course_past, .inl (cI, 50, .inl t_course_past))])) (jx_Q (some (.int r)) D [(a_t, .inr (11, [.ref a_t_text, .ref a_t_score, .ref a_t_draft, .ref a_t_course, .ref a_t_firstImage, .ref a_t_secondImage, .ref a_t_ear, .ref a_t_packer, .ref a_t_kinds, .int t_keptImages, .long t_traced])), (a_t_course, .inr (2, [.int t_course_bar, .int z_t_course_count, .int t_course_waits, .int t_course_cut, .int t_course_struck, .int z_t_course_known, .ref a_t_course_past])), (a_t_course_past, .inl (cI, 50, .inl z_t_course_past))] (va_A [(a_t, .inr (11, [.ref a_t_text, .ref a_t_score, .ref a_t_draft, .ref a_t_course, .ref a_t_firstImage, .ref a_t_secondImage, .ref a_t_ear, .ref a_t_packer, .ref a_t_kinds, .int t_keptImages, .long t_traced])), (a_t_course, .inr (2, [.int t_course_bar, .int t_course_count, .int t_course_waits, .int t_course_cut, .int t_course_struck, .int t_course_known, .ref a_t_course_past])), (a_t_course_past, .inl (cI, 50, .inl t_course_past))] sz)) 0 0 (va_A [(a_t, .inr (11, [.ref a_t_text, .ref a_t_score, .ref a_t_draft, .ref a_t_course, .ref a_t_firstImage, .ref a_t_secondImage, .ref a_t_ear, .ref a_t_packer, .ref a_t_kinds, .int t_keptImages, .long t_traced])), (a_t_course, .inr (2, [.int t_course_bar, .int t_course_count, .int t_course_waits, .int t_course_cut, .int t_course_struck, .int t_course_known, .ref a_t_course_past])), (a_t_course_past, .inl (cI, 50, .inl t_course_past))] sz) := by
  refine jx_metW (ty := .int) (own := RX11) (cc := cX11_slips) (maxL := 2) (by decide) rfl rfl (Nat.le_of_ble_eq_true rfl) ?_
  intro p e s m args below meth c Q ls A hx hb hml hown hts hK hN hA hP hD hS hl hret
  have hi_X11 : ∀ w ∈ u_ws RX11 TX11 11, w ∈ wsX11_slips := by decide +kernel
  have hi_X2 : ∀ w ∈ u_ws RX2 TX2 7, w ∈ wsX11_slips := by decide +kernel
  have hl : lv_has ls 2 [(0, .ref a_t), (1, .int p1)] := hl
  have h := hm
  unfold mi_X11_slips at h
  refine lv_iload_n hx hb dX11_slips_0 rfl (lv_at hl 1 rfl) ?_
  refine lv_if_eq (tgt := 15) hx hb dX11_slips_1 (by decide) (fun c1 => ?_) (fun c1 => ?_)
  · have h := jx_t h c1
    refine lv_ldc (v := (-1000000 : Int32)) hx hb hown (hts (.constant RX11 166 (-1000000)) (List.mem_of_getElem? (i := 1) rfl)) dX11_slips_15 ?_
    cases h
    exact hret 17 ls _ _ hP hD hS rfl dX11_slips_17
  · have h := jx_f h c1
    refine lv_iload_n hx hb dX11_slips_4 rfl (lv_at hl 1 rfl) ?_
    refine lv_bipush (v := (-9 : Int32)) hx hb dX11_slips_5 (by decide) ?_
    refine lv_bipush (v := (9 : Int32)) hx hb dX11_slips_7 (by decide) ?_
    obtain ⟨r2, e3, h⟩ := jx_b1_of h
    refine jx_cS (o := some (.int r2)) (As := [.int p1, .int (-9 : Int32), .int (9 : Int32)]) (rest := []) ⟨hx, hb, hml, hown, hts⟩ (ct_X11_isWithin l p1 (-9 : Int32) (9 : Int32) r2 e3) (va_cwS 3 hts gX11_slips_X11_isWithin rfl rfl rfl (by decide +kernel) ⟨Nat.le_of_ble_eq_true rfl, Nat.le_of_ble_eq_true rfl⟩) rfl hl.1 rfl (Nat.le_of_ble_eq_true rfl) dX11_slips_9 ⟨Nat.zero_le _, Nat.zero_le _⟩ ?_
    refine lv_if_ne (tgt := 18) hx hb dX11_slips_12 (by decide) (fun c4 => ?_) (fun c4 => ?_)
    · have h := jx_f h c4
      refine lv_aload_n hx hb dX11_slips_18 rfl (lv_at hl 0 rfl) ?_
      refine va_get (D := D) (ci := 11) (v := .ref a_t_course) (C := RX11) (T := TX11) (N := 11) hx hb hts hi_X11 hown hK hP 0 rfl rfl 3 (by decide) (hts (.fieldLink RX11 29 "TriangleRest" "course" "LTriangleRest$Course;") (List.mem_of_getElem? (i := 2) rfl)) (fun _ h9 => h9) rfl dX11_slips_19 ?_
      obtain ⟨t_course_known_5, t_course_past_6, e7, h⟩ := jx_b2_of h
      refine jx_cW (o := none) (As := []) (rest := []) (b := a_t_course) (wr := [(a_t, .inr (11, [.ref a_t_text, .ref a_t_score, .ref a_t_draft, .ref a_t_course, .ref a_t_firstImage, .ref a_t_secondImage, .ref a_t_ear, .ref a_t_packer, .ref a_t_kinds, .int t_keptImages, .long t_traced]))]) (wd' := [(a_t, .inr (11, [.ref a_t_text, .ref a_t_score, .ref a_t_draft, .ref a_t_course, .ref a_t_firstImage, .ref a_t_secondImage, .ref a_t_ear, .ref a_t_packer, .ref a_t_kinds, .int t_keptImages, .long t_traced])), (a_t_course, .inr (2, [.int t_course_bar, .int t_course_count, .int t_course_waits, .int t_course_cut, .int t_course_struck, .int t_course_known_5, .ref a_t_course_past])), (a_t_course_past, .inl (cI, 50, .inl t_course_past_6))]) ⟨hx, hb, hml, hown, hts⟩ (ct_X2_remember l D cI cZ cO a_t_course a_t_course_past s.heap.size t_course_bar t_course_count t_course_waits t_course_cut t_course_struck t_course_known t_course_past t_course_known_5 t_course_past_6 e7) (cwV 0 hts gX11_slips_X2_remember rfl rfl rfl (by decide +kernel) ⟨Nat.le_of_ble_eq_true rfl, Nat.le_of_ble_eq_true rfl⟩) hK hN hP hD hS hA [1, 2] [0] (by decide) rfl rfl (by decide) (by decide) rfl (va_recv hK hP (ci := 2) (q0 := 1) rfl rfl) rfl hl.1 rfl (Nat.le_of_ble_eq_true rfl) dX11_slips_22 ⟨Nat.zero_le _, Nat.zero_le _⟩ [0, 1, 2] (by decide) rfl (fun H locs hP hD hS => ?_)
      refine lv_aload_n hx hb dX11_slips_25 rfl (lv_at hl 0 rfl) ?_
      refine va_get (D := D) (ci := 11) (v := .ref a_t_course) (C := RX11) (T := TX11) (N := 11) hx hb hts hi_X11 hown hK hP 0 rfl rfl 3 (by decide) (hts (.fieldLink RX11 29 "TriangleRest" "course" "LTriangleRest$Course;") (List.mem_of_getElem? (i := 2) rfl)) (fun _ h9 => h9) rfl dX11_slips_26 ?_
      refine lv_dup hx hb dX11_slips_29 rfl ?_
      refine va_get (D := D) (ci := 2) (v := .int t_course_count) (C := RX2) (T := TX2) (N := 7) hx hb hts hi_X2 hown hK hP 1 rfl rfl 1 (by decide) (hts (.fieldLink RX11 159 "TriangleRest$Course" "count" "I") (List.mem_of_getElem? (i := 3) rfl)) (fun _ h9 => h9) rfl dX11_slips_30 ?_
      refine lv_iload_n hx hb dX11_slips_33 rfl (lv_at hl 1 rfl) ?_
      refine lv_iadd hx hb dX11_slips_34 ?_
      refine va_put (D := D) (ci := 2) (v := .int (t_course_count + p1)) (ty := .int) (C := RX2) (T := TX2) (N := 7) hx hb hts hi_X2 tyX2 tyX2_ok nmX2 hown hK hP hD hS 1 rfl rfl 1 (by decide) (hts (.fieldLink RX11 159 "TriangleRest$Course" "count" "I") (List.mem_of_getElem? (i := 3) rfl)) (fun _ h9 => h9) rfl (by decide +kernel) rfl rfl (Nat.le_of_ble_eq_true rfl) dX11_slips_35 (fun H locs hP hD hS => ?_)
      have hP : va_P D vwCl [(a_t, .inr (11, [.ref a_t_text, .ref a_t_score, .ref a_t_draft, .ref a_t_course, .ref a_t_firstImage, .ref a_t_secondImage, .ref a_t_ear, .ref a_t_packer, .ref a_t_kinds, .int t_keptImages, .long t_traced])), (a_t_course, .inr (2, [.int t_course_bar, .int (t_course_count + p1), .int t_course_waits, .int t_course_cut, .int t_course_struck, .int t_course_known_5, .ref a_t_course_past])), (a_t_course_past, .inl (cI, 50, .inl t_course_past_6))] H := hP
      have hD : va_D A [(a_t, .inr (11, [.ref a_t_text, .ref a_t_score, .ref a_t_draft, .ref a_t_course, .ref a_t_firstImage, .ref a_t_secondImage, .ref a_t_ear, .ref a_t_packer, .ref a_t_kinds, .int t_keptImages, .long t_traced])), (a_t_course, .inr (2, [.int t_course_bar, .int (t_course_count + p1), .int t_course_waits, .int t_course_cut, .int t_course_struck, .int t_course_known_5, .ref a_t_course_past])), (a_t_course_past, .inl (cI, 50, .inl t_course_past_6))] := hD
      refine lv_aload_n hx hb dX11_slips_38 rfl (lv_at hl 0 rfl) ?_
      refine va_get (D := D) (ci := 11) (v := .ref a_t_course) (C := RX11) (T := TX11) (N := 11) hx hb hts hi_X11 hown hK hP 0 rfl rfl 3 (by decide) (hts (.fieldLink RX11 29 "TriangleRest" "course" "LTriangleRest$Course;") (List.mem_of_getElem? (i := 2) rfl)) (fun _ h9 => h9) rfl dX11_slips_39 ?_
      refine va_get (D := D) (ci := 2) (v := .int (t_course_count + p1)) (C := RX2) (T := TX2) (N := 7) hx hb hts hi_X2 hown hK hP 1 rfl rfl 1 (by decide) (hts (.fieldLink RX11 159 "TriangleRest$Course" "count" "I") (List.mem_of_getElem? (i := 3) rfl)) (fun _ h9 => h9) rfl dX11_slips_42 ?_
      cases h
      exact hret 45 ls _ _ hP hD hS rfl dX11_slips_45
    · have h := jx_t h c4
      refine lv_ldc (v := (-1000000 : Int32)) hx hb hown (hts (.constant RX11 166 (-1000000)) (List.mem_of_getElem? (i := 1) rfl)) dX11_slips_15 ?_
      cases h
      exact hret 17 ls _ _ hP hD hS rfl dX11_slips_17
def mi_X11_cue (t_score_sections : Int32) (t_score_lengths : Nat → Int32) (t_score_times : Nat → Int32) (t_score_players : Nat → Int32) (t_course_bar : Int32) (t_course_count : Int32) (t_course_waits : Int32) (t_course_cut : Int32) (t_course_struck : Int32) (t_course_known : Int32) (t_course_past : Nat → Int32) : Option (Int32 × Int32 × Int32 × (Nat → Int32)) := jx_b1 (mi_X6_sectionBegunBy t_score_sections t_score_lengths t_score_times t_course_bar t_course_cut) fun r1 => (jx_b1 (mi_X6_hasSection t_score_sections r1) fun r3 => (if r3 = 0 then (some ((-1000000 : Int32), t_course_count, t_course_known, t_course_past)) else (jx_b2 (mi_X2_remember t_course_bar t_course_count t_course_waits t_course_cut t_course_struck t_course_known t_course_past) fun t_course_known_6 t_course_past_7 => (jx_b1 (mi_X6_whoOf t_score_sections t_score_players r1) fun r9 => (jx_b1 (mi_X6_nearestFirst t_score_sections t_score_lengths t_score_times t_score_players r9 t_course_count t_course_cut) fun r11 => (some (r11, r11, t_course_known_6, t_course_past_7)))))))
abbrev rm_X11_cue : Room := { frames := 4, cells := 0, slots := 0, locals := 92 }
set_option maxRecDepth 100000 in
set_option maxHeartbeats 4000000 in
theorem ct_X11_cue (l : Launch) (D : va_G) (cI cZ cO : ClassId) (a_t a_t_text a_t_score a_t_draft a_t_course a_t_firstImage a_t_secondImage a_t_ear a_t_packer a_t_kinds a_t_score_lengths a_t_score_times a_t_score_players a_t_score_minutes a_t_course_past : Nat) (sz : Nat) (t_keptImages : Int32) (t_traced : Int64) (t_score_sections : Int32) (t_score_things : Int32) (t_score_noteTold : Int32) (t_score_toldSection : Int32) (t_score_toldBar : Int32) (t_score_lengths : Nat → Int32) (t_score_times : Nat → Int32) (t_score_players : Nat → Int32) (t_course_bar : Int32) (t_course_count : Int32) (t_course_waits : Int32) (t_course_cut : Int32) (t_course_struck : Int32) (t_course_known : Int32) (t_course_past : Nat → Int32) (r : Int32) (z_t_course_count : Int32) (z_t_course_known : Int32) (z_t_course_past : Nat → Int32) (hm : mi_X11_cue t_score_sections t_score_lengths t_score_times t_score_players t_course_bar t_course_count t_course_waits t_course_cut t_course_struck t_course_known t_course_past = some (r, z_t_course_count, z_t_course_known, z_t_course_past)) : Met l yX11_cue wsX11_cue rm_X11_cue (va_Pc [.ref a_t] (jx_W D (jx_T cI cZ cO) sz [(a_t, .inr (11, [.ref a_t_text, .ref a_t_score, .ref a_t_draft, .ref a_t_course, .ref a_t_firstImage, .ref a_t_secondImage, .ref a_t_ear, .ref a_t_packer, .ref a_t_kinds, .int t_keptImages, .long t_traced])), (a_t_score, .inr (6, [.ref a_t_score_lengths, .ref a_t_score_times, .ref a_t_score_players, .ref a_t_score_minutes, .int t_score_sections, .int t_score_things, .int t_score_noteTold, .int t_score_toldSection, .int t_score_toldBar])), (a_t_score_lengths, .inl (cI, 8, .inl t_score_lengths)), (a_t_score_times, .inl (cI, 8, .inl t_score_times)), (a_t_score_players, .inl (cI, 8, .inl t_score_players)), (a_t_course, .inr (2, [.int t_course_bar, .int t_course_count, .int t_course_waits, .int t_course_cut, .int t_course_struck, .int t_course_known, .ref a_t_course_past])), (a_t_course_past, .inl (cI, 50, .inl t_course_past))])) (jx_Q (some (.int r)) D [(a_t, .inr (11, [.ref a_t_text, .ref a_t_score, .ref a_t_draft, .ref a_t_course, .ref a_t_firstImage, .ref a_t_secondImage, .ref a_t_ear, .ref a_t_packer, .ref a_t_kinds, .int t_keptImages, .long t_traced])), (a_t_score, .inr (6, [.ref a_t_score_lengths, .ref a_t_score_times, .ref a_t_score_players, .ref a_t_score_minutes, .int t_score_sections, .int t_score_things, .int t_score_noteTold, .int t_score_toldSection, .int t_score_toldBar])), (a_t_score_lengths, .inl (cI, 8, .inl t_score_lengths)), (a_t_score_times, .inl (cI, 8, .inl t_score_times)), (a_t_score_players, .inl (cI, 8, .inl t_score_players)), (a_t_course, .inr (2, [.int t_course_bar, .int z_t_course_count, .int t_course_waits, .int t_course_cut, .int t_course_struck, .int z_t_course_known, .ref a_t_course_past])), (a_t_course_past, .inl (cI, 50, .inl z_t_course_past))] (va_A [(a_t, .inr (11, [.ref a_t_text, .ref a_t_score, .ref a_t_draft, .ref a_t_course, .ref a_t_firstImage, .ref a_t_secondImage, .ref a_t_ear, .ref a_t_packer, .ref a_t_kinds, .int t_keptImages, .long t_traced])), (a_t_score, .inr (6, [.ref a_t_score_lengths, .ref a_t_score_times, .ref a_t_score_players, .ref a_t_score_minutes, .int t_score_sections, .int t_score_things, .int t_score_noteTold, .int t_score_toldSection, .int t_score_toldBar])), (a_t_score_lengths, .inl (cI, 8, .inl t_score_lengths)), (a_t_score_times, .inl (cI, 8, .inl t_score_times)), (a_t_score_players, .inl (cI, 8, .inl t_score_players)), (a_t_course, .inr (2, [.int t_course_bar, .int t_course_count, .int t_course_waits, .int t_course_cut, .int t_course_struck, .int t_course_known, .ref a_t_course_past])), (a_t_course_past, .inl (cI, 50, .inl t_course_past))] sz)) 0 0 (va_A [(a_t, .inr (11, [.ref a_t_text, .ref a_t_score, .ref a_t_draft, .ref a_t_course, .ref a_t_firstImage, .ref a_t_secondImage, .ref a_t_ear, .ref a_t_packer, .ref a_t_kinds, .int t_keptImages, .long t_traced])), (a_t_score, .inr (6, [.ref a_t_score_lengths, .ref a_t_score_times, .ref a_t_score_players, .ref a_t_score_minutes, .int t_score_sections, .int t_score_things, .int t_score_noteTold, .int t_score_toldSection, .int t_score_toldBar])), (a_t_score_lengths, .inl (cI, 8, .inl t_score_lengths)), (a_t_score_times, .inl (cI, 8, .inl t_score_times)), (a_t_score_players, .inl (cI, 8, .inl t_score_players)), (a_t_course, .inr (2, [.int t_course_bar, .int t_course_count, .int t_course_waits, .int t_course_cut, .int t_course_struck, .int t_course_known, .ref a_t_course_past])), (a_t_course_past, .inl (cI, 50, .inl t_course_past))] sz) := by
  refine jx_metW (ty := .int) (own := RX11) (cc := cX11_cue) (maxL := 2) (by decide) rfl rfl (Nat.le_of_ble_eq_true rfl) ?_
  intro p e s m args below meth c Q ls A hx hb hml hown hts hK hN hA hP hD hS hl hret
  have hi_X11 : ∀ w ∈ u_ws RX11 TX11 11, w ∈ wsX11_cue := by decide +kernel
  have hi_X2 : ∀ w ∈ u_ws RX2 TX2 7, w ∈ wsX11_cue := by decide +kernel
  have hl : lv_has ls 2 [(0, .ref a_t)] := hl
  have h := hm
  unfold mi_X11_cue at h
  refine lv_aload_n hx hb dX11_cue_0 rfl (lv_at hl 0 rfl) ?_
  refine va_get (D := D) (ci := 11) (v := .ref a_t_score) (C := RX11) (T := TX11) (N := 11) hx hb hts hi_X11 hown hK hP 0 rfl rfl 1 (by decide) (hts (.fieldLink RX11 19 "TriangleRest" "score" "LTriangleRest$Score;") (List.mem_of_getElem? (i := 1) rfl)) (fun _ h9 => h9) rfl dX11_cue_1 ?_
  refine lv_aload_n hx hb dX11_cue_4 rfl (lv_at hl 0 rfl) ?_
  refine va_get (D := D) (ci := 11) (v := .ref a_t_course) (C := RX11) (T := TX11) (N := 11) hx hb hts hi_X11 hown hK hP 0 rfl rfl 3 (by decide) (hts (.fieldLink RX11 29 "TriangleRest" "course" "LTriangleRest$Course;") (List.mem_of_getElem? (i := 2) rfl)) (fun _ h9 => h9) rfl dX11_cue_5 ?_
  refine va_get (D := D) (ci := 2) (v := .int t_course_bar) (C := RX2) (T := TX2) (N := 7) hx hb hts hi_X2 hown hK hP 5 rfl rfl 0 (by decide) (hts (.fieldLink RX11 135 "TriangleRest$Course" "bar" "I") (List.mem_of_getElem? (i := 3) rfl)) (fun _ h9 => h9) rfl dX11_cue_8 ?_
  refine lv_aload_n hx hb dX11_cue_11 rfl (lv_at hl 0 rfl) ?_
  refine va_get (D := D) (ci := 11) (v := .ref a_t_course) (C := RX11) (T := TX11) (N := 11) hx hb hts hi_X11 hown hK hP 0 rfl rfl 3 (by decide) (hts (.fieldLink RX11 29 "TriangleRest" "course" "LTriangleRest$Course;") (List.mem_of_getElem? (i := 2) rfl)) (fun _ h9 => h9) rfl dX11_cue_12 ?_
  refine va_get (D := D) (ci := 2) (v := .int t_course_cut) (C := RX2) (T := TX2) (N := 7) hx hb hts hi_X2 hown hK hP 5 rfl rfl 3 (by decide) (hts (.fieldLink RX11 120 "TriangleRest$Course" "cut" "I") (List.mem_of_getElem? (i := 4) rfl)) (fun _ h9 => h9) rfl dX11_cue_15 ?_
  obtain ⟨r1, e2, h⟩ := jx_b1_of h
  refine jx_cV (o := some (.int r1)) (As := [.int t_course_bar, .int t_course_cut]) (rest := []) (b := a_t_score) ⟨hx, hb, hml, hown, hts⟩ (ct_X6_sectionBegunBy l D cI cZ cO a_t_score a_t_score_lengths a_t_score_times a_t_score_players a_t_score_minutes t_score_sections t_score_things t_score_noteTold t_score_toldSection t_score_toldBar t_score_lengths t_score_times t_course_bar t_course_cut r1 e2) (cwV 2 hts gX11_cue_X6_sectionBegunBy rfl rfl rfl (by decide +kernel) ⟨Nat.le_of_ble_eq_true rfl, Nat.le_of_ble_eq_true rfl⟩) hK hN hP [1, 2, 3] rfl (va_recv hK hP (ci := 6) (q0 := 1) rfl rfl) rfl hl.1 rfl (Nat.le_of_ble_eq_true rfl) dX11_cue_18 ⟨Nat.zero_le _, Nat.zero_le _⟩ ?_
  refine lv_istore_n (lv' := [(1, .int r1), (0, .ref a_t)]) hx hb dX11_cue_21 rfl hl (by decide) rfl (fun ls hl => ?_)
  refine lv_aload_n hx hb dX11_cue_22 rfl (lv_at hl 1 rfl) ?_
  refine va_get (D := D) (ci := 11) (v := .ref a_t_score) (C := RX11) (T := TX11) (N := 11) hx hb hts hi_X11 hown hK hP 0 rfl rfl 1 (by decide) (hts (.fieldLink RX11 19 "TriangleRest" "score" "LTriangleRest$Score;") (List.mem_of_getElem? (i := 1) rfl)) (fun _ h9 => h9) rfl dX11_cue_23 ?_
  refine lv_iload_n hx hb dX11_cue_26 rfl (lv_at hl 0 rfl) ?_
  obtain ⟨r3, e4, h⟩ := jx_b1_of h
  refine jx_cV (o := some (.int r3)) (As := [.int r1]) (rest := []) (b := a_t_score) ⟨hx, hb, hml, hown, hts⟩ (ct_X6_hasSection l D cI cZ cO a_t_score a_t_score_lengths a_t_score_times a_t_score_players a_t_score_minutes t_score_sections t_score_things t_score_noteTold t_score_toldSection t_score_toldBar r1 r3 e4) (cwV 1 hts gX11_cue_X6_hasSection rfl rfl rfl (by decide +kernel) ⟨Nat.le_of_ble_eq_true rfl, Nat.le_of_ble_eq_true rfl⟩) hK hN hP [1] rfl (va_recv hK hP (ci := 6) (q0 := 1) rfl rfl) rfl hl.1 rfl (Nat.le_of_ble_eq_true rfl) dX11_cue_27 ⟨Nat.zero_le _, Nat.zero_le _⟩ ?_
  refine lv_if_ne (tgt := 36) hx hb dX11_cue_30 (by decide) (fun c5 => ?_) (fun c5 => ?_)
  · have h := jx_f h c5
    refine lv_aload_n hx hb dX11_cue_36 rfl (lv_at hl 1 rfl) ?_
    refine va_get (D := D) (ci := 11) (v := .ref a_t_course) (C := RX11) (T := TX11) (N := 11) hx hb hts hi_X11 hown hK hP 0 rfl rfl 3 (by decide) (hts (.fieldLink RX11 29 "TriangleRest" "course" "LTriangleRest$Course;") (List.mem_of_getElem? (i := 2) rfl)) (fun _ h9 => h9) rfl dX11_cue_37 ?_
    obtain ⟨t_course_known_6, t_course_past_7, e8, h⟩ := jx_b2_of h
    refine jx_cW (o := none) (As := []) (rest := []) (b := a_t_course) (wr := [(a_t, .inr (11, [.ref a_t_text, .ref a_t_score, .ref a_t_draft, .ref a_t_course, .ref a_t_firstImage, .ref a_t_secondImage, .ref a_t_ear, .ref a_t_packer, .ref a_t_kinds, .int t_keptImages, .long t_traced])), (a_t_score, .inr (6, [.ref a_t_score_lengths, .ref a_t_score_times, .ref a_t_score_players, .ref a_t_score_minutes, .int t_score_sections, .int t_score_things, .int t_score_noteTold, .int t_score_toldSection, .int t_score_toldBar])), (a_t_score_lengths, .inl (cI, 8, .inl t_score_lengths)), (a_t_score_times, .inl (cI, 8, .inl t_score_times)), (a_t_score_players, .inl (cI, 8, .inl t_score_players))]) (wd' := [(a_t, .inr (11, [.ref a_t_text, .ref a_t_score, .ref a_t_draft, .ref a_t_course, .ref a_t_firstImage, .ref a_t_secondImage, .ref a_t_ear, .ref a_t_packer, .ref a_t_kinds, .int t_keptImages, .long t_traced])), (a_t_score, .inr (6, [.ref a_t_score_lengths, .ref a_t_score_times, .ref a_t_score_players, .ref a_t_score_minutes, .int t_score_sections, .int t_score_things, .int t_score_noteTold, .int t_score_toldSection, .int t_score_toldBar])), (a_t_score_lengths, .inl (cI, 8, .inl t_score_lengths)), (a_t_score_times, .inl (cI, 8, .inl t_score_times)), (a_t_score_players, .inl (cI, 8, .inl t_score_players)), (a_t_course, .inr (2, [.int t_course_bar, .int t_course_count, .int t_course_waits, .int t_course_cut, .int t_course_struck, .int t_course_known_6, .ref a_t_course_past])), (a_t_course_past, .inl (cI, 50, .inl t_course_past_7))]) ⟨hx, hb, hml, hown, hts⟩ (ct_X2_remember l D cI cZ cO a_t_course a_t_course_past s.heap.size t_course_bar t_course_count t_course_waits t_course_cut t_course_struck t_course_known t_course_past t_course_known_6 t_course_past_7 e8) (cwV 0 hts gX11_cue_X2_remember rfl rfl rfl (by decide +kernel) ⟨Nat.le_of_ble_eq_true rfl, Nat.le_of_ble_eq_true rfl⟩) hK hN hP hD hS hA [5, 6] [0, 1, 2, 3, 4] (by decide) rfl rfl (by decide) (by decide) rfl (va_recv hK hP (ci := 2) (q0 := 5) rfl rfl) rfl hl.1 rfl (Nat.le_of_ble_eq_true rfl) dX11_cue_40 ⟨Nat.zero_le _, Nat.zero_le _⟩ [0, 1, 2, 3, 4, 5, 6] (by decide) rfl (fun H locs hP hD hS => ?_)
    refine lv_aload_n hx hb dX11_cue_43 rfl (lv_at hl 1 rfl) ?_
    refine va_get (D := D) (ci := 11) (v := .ref a_t_course) (C := RX11) (T := TX11) (N := 11) hx hb hts hi_X11 hown hK hP 0 rfl rfl 3 (by decide) (hts (.fieldLink RX11 29 "TriangleRest" "course" "LTriangleRest$Course;") (List.mem_of_getElem? (i := 2) rfl)) (fun _ h9 => h9) rfl dX11_cue_44 ?_
    refine lv_aload_n hx hb dX11_cue_47 rfl (lv_at hl 1 rfl) ?_
    refine va_get (D := D) (ci := 11) (v := .ref a_t_score) (C := RX11) (T := TX11) (N := 11) hx hb hts hi_X11 hown hK hP 0 rfl rfl 1 (by decide) (hts (.fieldLink RX11 19 "TriangleRest" "score" "LTriangleRest$Score;") (List.mem_of_getElem? (i := 1) rfl)) (fun _ h9 => h9) rfl dX11_cue_48 ?_
    refine lv_aload_n hx hb dX11_cue_51 rfl (lv_at hl 1 rfl) ?_
    refine va_get (D := D) (ci := 11) (v := .ref a_t_score) (C := RX11) (T := TX11) (N := 11) hx hb hts hi_X11 hown hK hP 0 rfl rfl 1 (by decide) (hts (.fieldLink RX11 19 "TriangleRest" "score" "LTriangleRest$Score;") (List.mem_of_getElem? (i := 1) rfl)) (fun _ h9 => h9) rfl dX11_cue_52 ?_
    refine lv_iload_n hx hb dX11_cue_55 rfl (lv_at hl 0 rfl) ?_
    obtain ⟨r9, e10, h⟩ := jx_b1_of h
    refine jx_cV (o := some (.int r9)) (As := [.int r1]) (rest := [.ref a_t_score, .ref a_t_course]) (b := a_t_score) ⟨hx, hb, hml, hown, hts⟩ (ct_X6_whoOf l D cI cZ cO a_t_score a_t_score_lengths a_t_score_times a_t_score_players a_t_score_minutes t_score_sections t_score_things t_score_noteTold t_score_toldSection t_score_toldBar t_score_players r1 r9 e10) (cwV 1 hts gX11_cue_X6_whoOf rfl rfl rfl (by decide +kernel) ⟨Nat.le_of_ble_eq_true rfl, Nat.le_of_ble_eq_true rfl⟩) hK hN hP [1, 4] rfl (va_recv hK hP (ci := 6) (q0 := 1) rfl rfl) rfl hl.1 rfl (Nat.le_of_ble_eq_true rfl) dX11_cue_56 ⟨Nat.zero_le _, Nat.zero_le _⟩ ?_
    refine lv_aload_n hx hb dX11_cue_59 rfl (lv_at hl 1 rfl) ?_
    refine va_get (D := D) (ci := 11) (v := .ref a_t_course) (C := RX11) (T := TX11) (N := 11) hx hb hts hi_X11 hown hK hP 0 rfl rfl 3 (by decide) (hts (.fieldLink RX11 29 "TriangleRest" "course" "LTriangleRest$Course;") (List.mem_of_getElem? (i := 2) rfl)) (fun _ h9 => h9) rfl dX11_cue_60 ?_
    refine va_get (D := D) (ci := 2) (v := .int t_course_count) (C := RX2) (T := TX2) (N := 7) hx hb hts hi_X2 hown hK hP 5 rfl rfl 1 (by decide) (hts (.fieldLink RX11 159 "TriangleRest$Course" "count" "I") (List.mem_of_getElem? (i := 6) rfl)) (fun _ h9 => h9) rfl dX11_cue_63 ?_
    refine lv_aload_n hx hb dX11_cue_66 rfl (lv_at hl 1 rfl) ?_
    refine va_get (D := D) (ci := 11) (v := .ref a_t_course) (C := RX11) (T := TX11) (N := 11) hx hb hts hi_X11 hown hK hP 0 rfl rfl 3 (by decide) (hts (.fieldLink RX11 29 "TriangleRest" "course" "LTriangleRest$Course;") (List.mem_of_getElem? (i := 2) rfl)) (fun _ h9 => h9) rfl dX11_cue_67 ?_
    refine va_get (D := D) (ci := 2) (v := .int t_course_cut) (C := RX2) (T := TX2) (N := 7) hx hb hts hi_X2 hown hK hP 5 rfl rfl 3 (by decide) (hts (.fieldLink RX11 120 "TriangleRest$Course" "cut" "I") (List.mem_of_getElem? (i := 4) rfl)) (fun _ h9 => h9) rfl dX11_cue_70 ?_
    obtain ⟨r11, e12, h⟩ := jx_b1_of h
    refine jx_cV (o := some (.int r11)) (As := [.int r9, .int t_course_count, .int t_course_cut]) (rest := [.ref a_t_course]) (b := a_t_score) ⟨hx, hb, hml, hown, hts⟩ (ct_X6_nearestFirst l D cI cZ cO a_t_score a_t_score_lengths a_t_score_times a_t_score_players a_t_score_minutes t_score_sections t_score_things t_score_noteTold t_score_toldSection t_score_toldBar t_score_lengths t_score_times t_score_players r9 t_course_count t_course_cut r11 e12) (cwV 3 hts gX11_cue_X6_nearestFirst rfl rfl rfl (by decide +kernel) ⟨Nat.le_of_ble_eq_true rfl, Nat.le_of_ble_eq_true rfl⟩) hK hN hP [1, 2, 3, 4] rfl (va_recv hK hP (ci := 6) (q0 := 1) rfl rfl) rfl hl.1 rfl (Nat.le_of_ble_eq_true rfl) dX11_cue_73 ⟨Nat.zero_le _, Nat.zero_le _⟩ ?_
    refine va_put (D := D) (ci := 2) (v := .int r11) (ty := .int) (C := RX2) (T := TX2) (N := 7) hx hb hts hi_X2 tyX2 tyX2_ok nmX2 hown hK hP hD hS 5 rfl rfl 1 (by decide) (hts (.fieldLink RX11 159 "TriangleRest$Course" "count" "I") (List.mem_of_getElem? (i := 6) rfl)) (fun _ h9 => h9) rfl (by decide +kernel) rfl rfl (Nat.le_of_ble_eq_true rfl) dX11_cue_76 (fun H locs hP hD hS => ?_)
    have hP : va_P D vwCl [(a_t, .inr (11, [.ref a_t_text, .ref a_t_score, .ref a_t_draft, .ref a_t_course, .ref a_t_firstImage, .ref a_t_secondImage, .ref a_t_ear, .ref a_t_packer, .ref a_t_kinds, .int t_keptImages, .long t_traced])), (a_t_score, .inr (6, [.ref a_t_score_lengths, .ref a_t_score_times, .ref a_t_score_players, .ref a_t_score_minutes, .int t_score_sections, .int t_score_things, .int t_score_noteTold, .int t_score_toldSection, .int t_score_toldBar])), (a_t_score_lengths, .inl (cI, 8, .inl t_score_lengths)), (a_t_score_times, .inl (cI, 8, .inl t_score_times)), (a_t_score_players, .inl (cI, 8, .inl t_score_players)), (a_t_course, .inr (2, [.int t_course_bar, .int r11, .int t_course_waits, .int t_course_cut, .int t_course_struck, .int t_course_known_6, .ref a_t_course_past])), (a_t_course_past, .inl (cI, 50, .inl t_course_past_7))] H := hP
    have hD : va_D A [(a_t, .inr (11, [.ref a_t_text, .ref a_t_score, .ref a_t_draft, .ref a_t_course, .ref a_t_firstImage, .ref a_t_secondImage, .ref a_t_ear, .ref a_t_packer, .ref a_t_kinds, .int t_keptImages, .long t_traced])), (a_t_score, .inr (6, [.ref a_t_score_lengths, .ref a_t_score_times, .ref a_t_score_players, .ref a_t_score_minutes, .int t_score_sections, .int t_score_things, .int t_score_noteTold, .int t_score_toldSection, .int t_score_toldBar])), (a_t_score_lengths, .inl (cI, 8, .inl t_score_lengths)), (a_t_score_times, .inl (cI, 8, .inl t_score_times)), (a_t_score_players, .inl (cI, 8, .inl t_score_players)), (a_t_course, .inr (2, [.int t_course_bar, .int r11, .int t_course_waits, .int t_course_cut, .int t_course_struck, .int t_course_known_6, .ref a_t_course_past])), (a_t_course_past, .inl (cI, 50, .inl t_course_past_7))] := hD
    refine lv_aload_n hx hb dX11_cue_79 rfl (lv_at hl 1 rfl) ?_
    refine va_get (D := D) (ci := 11) (v := .ref a_t_course) (C := RX11) (T := TX11) (N := 11) hx hb hts hi_X11 hown hK hP 0 rfl rfl 3 (by decide) (hts (.fieldLink RX11 29 "TriangleRest" "course" "LTriangleRest$Course;") (List.mem_of_getElem? (i := 2) rfl)) (fun _ h9 => h9) rfl dX11_cue_80 ?_
    refine va_get (D := D) (ci := 2) (v := .int r11) (C := RX2) (T := TX2) (N := 7) hx hb hts hi_X2 hown hK hP 5 rfl rfl 1 (by decide) (hts (.fieldLink RX11 159 "TriangleRest$Course" "count" "I") (List.mem_of_getElem? (i := 6) rfl)) (fun _ h9 => h9) rfl dX11_cue_83 ?_
    cases h
    exact hret 86 ls _ _ hP hD hS rfl dX11_cue_86
  · have h := jx_t h c5
    refine lv_ldc (v := (-1000000 : Int32)) hx hb hown (hts (.constant RX11 166 (-1000000)) (List.mem_of_getElem? (i := 5) rfl)) dX11_cue_33 ?_
    cases h
    exact hret 35 ls _ _ hP hD hS rfl dX11_cue_35
def mi_X11_cuts (t_score_sections : Int32) (t_score_noteTold : Int32) (t_score_toldSection : Int32) (t_score_lengths : Nat → Int32) (t_score_times : Nat → Int32) (t_course_bar : Int32) (t_course_count : Int32) (t_course_waits : Int32) (t_course_cut : Int32) (t_course_struck : Int32) (t_course_known : Int32) (t_course_past : Nat → Int32) (p1 : Int32) : Option (Int32 × Int32 × Int32 × (Nat → Int32)) := jx_b1 (mi_X6_hasSection t_score_sections p1) fun r1 => (if r1 = 0 then (some ((-1 : Int32), t_course_cut, t_course_known, t_course_past)) else (jx_b1 (mi_X6_canBeCut t_score_sections t_score_noteTold t_score_toldSection t_score_lengths t_score_times p1 t_course_cut t_course_bar) fun r4 => (if r4 = 0 then (some ((-2 : Int32), t_course_cut, t_course_known, t_course_past)) else (jx_b2 (mi_X2_remember t_course_bar t_course_count t_course_waits t_course_cut t_course_struck t_course_known t_course_past) fun t_course_known_7 t_course_past_8 => (jx_b1 (mi_X6_barsWith t_score_sections t_score_lengths t_score_times (t_course_cut ||| ((1 : Int32) <<< (p1 &&& 31)))) fun r10 => (some (r10, (t_course_cut ||| ((1 : Int32) <<< (p1 &&& 31))), t_course_known_7, t_course_past_8)))))))
abbrev rm_X11_cuts : Room := { frames := 4, cells := 0, slots := 0, locals := 89 }
set_option maxRecDepth 100000 in
set_option maxHeartbeats 4000000 in
theorem ct_X11_cuts (l : Launch) (D : va_G) (cI cZ cO : ClassId) (a_t a_t_text a_t_score a_t_draft a_t_course a_t_firstImage a_t_secondImage a_t_ear a_t_packer a_t_kinds a_t_score_lengths a_t_score_times a_t_score_players a_t_score_minutes a_t_course_past : Nat) (sz : Nat) (t_keptImages : Int32) (t_traced : Int64) (t_score_sections : Int32) (t_score_things : Int32) (t_score_noteTold : Int32) (t_score_toldSection : Int32) (t_score_toldBar : Int32) (t_score_lengths : Nat → Int32) (t_score_times : Nat → Int32) (t_course_bar : Int32) (t_course_count : Int32) (t_course_waits : Int32) (t_course_cut : Int32) (t_course_struck : Int32) (t_course_known : Int32) (t_course_past : Nat → Int32) (p1 : Int32) (r : Int32) (z_t_course_cut : Int32) (z_t_course_known : Int32) (z_t_course_past : Nat → Int32) (hm : mi_X11_cuts t_score_sections t_score_noteTold t_score_toldSection t_score_lengths t_score_times t_course_bar t_course_count t_course_waits t_course_cut t_course_struck t_course_known t_course_past p1 = some (r, z_t_course_cut, z_t_course_known, z_t_course_past)) : Met l yX11_cuts wsX11_cuts rm_X11_cuts (va_Pc [.ref a_t, .int p1] (jx_W D (jx_T cI cZ cO) sz [(a_t, .inr (11, [.ref a_t_text, .ref a_t_score, .ref a_t_draft, .ref a_t_course, .ref a_t_firstImage, .ref a_t_secondImage, .ref a_t_ear, .ref a_t_packer, .ref a_t_kinds, .int t_keptImages, .long t_traced])), (a_t_score, .inr (6, [.ref a_t_score_lengths, .ref a_t_score_times, .ref a_t_score_players, .ref a_t_score_minutes, .int t_score_sections, .int t_score_things, .int t_score_noteTold, .int t_score_toldSection, .int t_score_toldBar])), (a_t_score_lengths, .inl (cI, 8, .inl t_score_lengths)), (a_t_score_times, .inl (cI, 8, .inl t_score_times)), (a_t_course, .inr (2, [.int t_course_bar, .int t_course_count, .int t_course_waits, .int t_course_cut, .int t_course_struck, .int t_course_known, .ref a_t_course_past])), (a_t_course_past, .inl (cI, 50, .inl t_course_past))])) (jx_Q (some (.int r)) D [(a_t, .inr (11, [.ref a_t_text, .ref a_t_score, .ref a_t_draft, .ref a_t_course, .ref a_t_firstImage, .ref a_t_secondImage, .ref a_t_ear, .ref a_t_packer, .ref a_t_kinds, .int t_keptImages, .long t_traced])), (a_t_score, .inr (6, [.ref a_t_score_lengths, .ref a_t_score_times, .ref a_t_score_players, .ref a_t_score_minutes, .int t_score_sections, .int t_score_things, .int t_score_noteTold, .int t_score_toldSection, .int t_score_toldBar])), (a_t_score_lengths, .inl (cI, 8, .inl t_score_lengths)), (a_t_score_times, .inl (cI, 8, .inl t_score_times)), (a_t_course, .inr (2, [.int t_course_bar, .int t_course_count, .int t_course_waits, .int z_t_course_cut, .int t_course_struck, .int z_t_course_known, .ref a_t_course_past])), (a_t_course_past, .inl (cI, 50, .inl z_t_course_past))] (va_A [(a_t, .inr (11, [.ref a_t_text, .ref a_t_score, .ref a_t_draft, .ref a_t_course, .ref a_t_firstImage, .ref a_t_secondImage, .ref a_t_ear, .ref a_t_packer, .ref a_t_kinds, .int t_keptImages, .long t_traced])), (a_t_score, .inr (6, [.ref a_t_score_lengths, .ref a_t_score_times, .ref a_t_score_players, .ref a_t_score_minutes, .int t_score_sections, .int t_score_things, .int t_score_noteTold, .int t_score_toldSection, .int t_score_toldBar])), (a_t_score_lengths, .inl (cI, 8, .inl t_score_lengths)), (a_t_score_times, .inl (cI, 8, .inl t_score_times)), (a_t_course, .inr (2, [.int t_course_bar, .int t_course_count, .int t_course_waits, .int t_course_cut, .int t_course_struck, .int t_course_known, .ref a_t_course_past])), (a_t_course_past, .inl (cI, 50, .inl t_course_past))] sz)) 0 0 (va_A [(a_t, .inr (11, [.ref a_t_text, .ref a_t_score, .ref a_t_draft, .ref a_t_course, .ref a_t_firstImage, .ref a_t_secondImage, .ref a_t_ear, .ref a_t_packer, .ref a_t_kinds, .int t_keptImages, .long t_traced])), (a_t_score, .inr (6, [.ref a_t_score_lengths, .ref a_t_score_times, .ref a_t_score_players, .ref a_t_score_minutes, .int t_score_sections, .int t_score_things, .int t_score_noteTold, .int t_score_toldSection, .int t_score_toldBar])), (a_t_score_lengths, .inl (cI, 8, .inl t_score_lengths)), (a_t_score_times, .inl (cI, 8, .inl t_score_times)), (a_t_course, .inr (2, [.int t_course_bar, .int t_course_count, .int t_course_waits, .int t_course_cut, .int t_course_struck, .int t_course_known, .ref a_t_course_past])), (a_t_course_past, .inl (cI, 50, .inl t_course_past))] sz) := by
  refine jx_metW (ty := .int) (own := RX11) (cc := cX11_cuts) (maxL := 2) (by decide) rfl rfl (Nat.le_of_ble_eq_true rfl) ?_
  intro p e s m args below meth c Q ls A hx hb hml hown hts hK hN hA hP hD hS hl hret
  have hi_X11 : ∀ w ∈ u_ws RX11 TX11 11, w ∈ wsX11_cuts := by decide +kernel
  have hi_X2 : ∀ w ∈ u_ws RX2 TX2 7, w ∈ wsX11_cuts := by decide +kernel
  have hl : lv_has ls 2 [(0, .ref a_t), (1, .int p1)] := hl
  have h := hm
  unfold mi_X11_cuts at h
  refine lv_aload_n hx hb dX11_cuts_0 rfl (lv_at hl 0 rfl) ?_
  refine va_get (D := D) (ci := 11) (v := .ref a_t_score) (C := RX11) (T := TX11) (N := 11) hx hb hts hi_X11 hown hK hP 0 rfl rfl 1 (by decide) (hts (.fieldLink RX11 19 "TriangleRest" "score" "LTriangleRest$Score;") (List.mem_of_getElem? (i := 1) rfl)) (fun _ h9 => h9) rfl dX11_cuts_1 ?_
  refine lv_iload_n hx hb dX11_cuts_4 rfl (lv_at hl 1 rfl) ?_
  obtain ⟨r1, e2, h⟩ := jx_b1_of h
  refine jx_cV (o := some (.int r1)) (As := [.int p1]) (rest := []) (b := a_t_score) ⟨hx, hb, hml, hown, hts⟩ (ct_X6_hasSection l D cI cZ cO a_t_score a_t_score_lengths a_t_score_times a_t_score_players a_t_score_minutes t_score_sections t_score_things t_score_noteTold t_score_toldSection t_score_toldBar p1 r1 e2) (cwV 1 hts gX11_cuts_X6_hasSection rfl rfl rfl (by decide +kernel) ⟨Nat.le_of_ble_eq_true rfl, Nat.le_of_ble_eq_true rfl⟩) hK hN hP [1] rfl (va_recv hK hP (ci := 6) (q0 := 1) rfl rfl) rfl hl.1 rfl (Nat.le_of_ble_eq_true rfl) dX11_cuts_5 ⟨Nat.zero_le _, Nat.zero_le _⟩ ?_
  refine lv_if_ne (tgt := 13) hx hb dX11_cuts_8 (by decide) (fun c3 => ?_) (fun c3 => ?_)
  · have h := jx_f h c3
    refine lv_aload_n hx hb dX11_cuts_13 rfl (lv_at hl 0 rfl) ?_
    refine va_get (D := D) (ci := 11) (v := .ref a_t_score) (C := RX11) (T := TX11) (N := 11) hx hb hts hi_X11 hown hK hP 0 rfl rfl 1 (by decide) (hts (.fieldLink RX11 19 "TriangleRest" "score" "LTriangleRest$Score;") (List.mem_of_getElem? (i := 1) rfl)) (fun _ h9 => h9) rfl dX11_cuts_14 ?_
    refine lv_iload_n hx hb dX11_cuts_17 rfl (lv_at hl 1 rfl) ?_
    refine lv_aload_n hx hb dX11_cuts_18 rfl (lv_at hl 0 rfl) ?_
    refine va_get (D := D) (ci := 11) (v := .ref a_t_course) (C := RX11) (T := TX11) (N := 11) hx hb hts hi_X11 hown hK hP 0 rfl rfl 3 (by decide) (hts (.fieldLink RX11 29 "TriangleRest" "course" "LTriangleRest$Course;") (List.mem_of_getElem? (i := 2) rfl)) (fun _ h9 => h9) rfl dX11_cuts_19 ?_
    refine va_get (D := D) (ci := 2) (v := .int t_course_cut) (C := RX2) (T := TX2) (N := 7) hx hb hts hi_X2 hown hK hP 4 rfl rfl 3 (by decide) (hts (.fieldLink RX11 120 "TriangleRest$Course" "cut" "I") (List.mem_of_getElem? (i := 3) rfl)) (fun _ h9 => h9) rfl dX11_cuts_22 ?_
    refine lv_aload_n hx hb dX11_cuts_25 rfl (lv_at hl 0 rfl) ?_
    refine va_get (D := D) (ci := 11) (v := .ref a_t_course) (C := RX11) (T := TX11) (N := 11) hx hb hts hi_X11 hown hK hP 0 rfl rfl 3 (by decide) (hts (.fieldLink RX11 29 "TriangleRest" "course" "LTriangleRest$Course;") (List.mem_of_getElem? (i := 2) rfl)) (fun _ h9 => h9) rfl dX11_cuts_26 ?_
    refine va_get (D := D) (ci := 2) (v := .int t_course_bar) (C := RX2) (T := TX2) (N := 7) hx hb hts hi_X2 hown hK hP 4 rfl rfl 0 (by decide) (hts (.fieldLink RX11 135 "TriangleRest$Course" "bar" "I") (List.mem_of_getElem? (i := 4) rfl)) (fun _ h9 => h9) rfl dX11_cuts_29 ?_
    obtain ⟨r4, e5, h⟩ := jx_b1_of h
    refine jx_cV (o := some (.int r4)) (As := [.int p1, .int t_course_cut, .int t_course_bar]) (rest := []) (b := a_t_score) ⟨hx, hb, hml, hown, hts⟩ (ct_X6_canBeCut l D cI cZ cO a_t_score a_t_score_lengths a_t_score_times a_t_score_players a_t_score_minutes t_score_sections t_score_things t_score_noteTold t_score_toldSection t_score_toldBar t_score_lengths t_score_times p1 t_course_cut t_course_bar r4 e5) (cwV 3 hts gX11_cuts_X6_canBeCut rfl rfl rfl (by decide +kernel) ⟨Nat.le_of_ble_eq_true rfl, Nat.le_of_ble_eq_true rfl⟩) hK hN hP [1, 2, 3] rfl (va_recv hK hP (ci := 6) (q0 := 1) rfl rfl) rfl hl.1 rfl (Nat.le_of_ble_eq_true rfl) dX11_cuts_32 ⟨Nat.zero_le _, Nat.zero_le _⟩ ?_
    refine lv_if_ne (tgt := 41) hx hb dX11_cuts_35 (by decide) (fun c6 => ?_) (fun c6 => ?_)
    · have h := jx_f h c6
      refine lv_aload_n hx hb dX11_cuts_41 rfl (lv_at hl 0 rfl) ?_
      refine va_get (D := D) (ci := 11) (v := .ref a_t_course) (C := RX11) (T := TX11) (N := 11) hx hb hts hi_X11 hown hK hP 0 rfl rfl 3 (by decide) (hts (.fieldLink RX11 29 "TriangleRest" "course" "LTriangleRest$Course;") (List.mem_of_getElem? (i := 2) rfl)) (fun _ h9 => h9) rfl dX11_cuts_42 ?_
      obtain ⟨t_course_known_7, t_course_past_8, e9, h⟩ := jx_b2_of h
      refine jx_cW (o := none) (As := []) (rest := []) (b := a_t_course) (wr := [(a_t, .inr (11, [.ref a_t_text, .ref a_t_score, .ref a_t_draft, .ref a_t_course, .ref a_t_firstImage, .ref a_t_secondImage, .ref a_t_ear, .ref a_t_packer, .ref a_t_kinds, .int t_keptImages, .long t_traced])), (a_t_score, .inr (6, [.ref a_t_score_lengths, .ref a_t_score_times, .ref a_t_score_players, .ref a_t_score_minutes, .int t_score_sections, .int t_score_things, .int t_score_noteTold, .int t_score_toldSection, .int t_score_toldBar])), (a_t_score_lengths, .inl (cI, 8, .inl t_score_lengths)), (a_t_score_times, .inl (cI, 8, .inl t_score_times))]) (wd' := [(a_t, .inr (11, [.ref a_t_text, .ref a_t_score, .ref a_t_draft, .ref a_t_course, .ref a_t_firstImage, .ref a_t_secondImage, .ref a_t_ear, .ref a_t_packer, .ref a_t_kinds, .int t_keptImages, .long t_traced])), (a_t_score, .inr (6, [.ref a_t_score_lengths, .ref a_t_score_times, .ref a_t_score_players, .ref a_t_score_minutes, .int t_score_sections, .int t_score_things, .int t_score_noteTold, .int t_score_toldSection, .int t_score_toldBar])), (a_t_score_lengths, .inl (cI, 8, .inl t_score_lengths)), (a_t_score_times, .inl (cI, 8, .inl t_score_times)), (a_t_course, .inr (2, [.int t_course_bar, .int t_course_count, .int t_course_waits, .int t_course_cut, .int t_course_struck, .int t_course_known_7, .ref a_t_course_past])), (a_t_course_past, .inl (cI, 50, .inl t_course_past_8))]) ⟨hx, hb, hml, hown, hts⟩ (ct_X2_remember l D cI cZ cO a_t_course a_t_course_past s.heap.size t_course_bar t_course_count t_course_waits t_course_cut t_course_struck t_course_known t_course_past t_course_known_7 t_course_past_8 e9) (cwV 0 hts gX11_cuts_X2_remember rfl rfl rfl (by decide +kernel) ⟨Nat.le_of_ble_eq_true rfl, Nat.le_of_ble_eq_true rfl⟩) hK hN hP hD hS hA [4, 5] [0, 1, 2, 3] (by decide) rfl rfl (by decide) (by decide) rfl (va_recv hK hP (ci := 2) (q0 := 4) rfl rfl) rfl hl.1 rfl (Nat.le_of_ble_eq_true rfl) dX11_cuts_45 ⟨Nat.zero_le _, Nat.zero_le _⟩ [0, 1, 2, 3, 4, 5] (by decide) rfl (fun H locs hP hD hS => ?_)
      refine lv_aload_n hx hb dX11_cuts_48 rfl (lv_at hl 0 rfl) ?_
      refine va_get (D := D) (ci := 11) (v := .ref a_t_course) (C := RX11) (T := TX11) (N := 11) hx hb hts hi_X11 hown hK hP 0 rfl rfl 3 (by decide) (hts (.fieldLink RX11 29 "TriangleRest" "course" "LTriangleRest$Course;") (List.mem_of_getElem? (i := 2) rfl)) (fun _ h9 => h9) rfl dX11_cuts_49 ?_
      refine lv_dup hx hb dX11_cuts_52 rfl ?_
      refine va_get (D := D) (ci := 2) (v := .int t_course_cut) (C := RX2) (T := TX2) (N := 7) hx hb hts hi_X2 hown hK hP 4 rfl rfl 3 (by decide) (hts (.fieldLink RX11 120 "TriangleRest$Course" "cut" "I") (List.mem_of_getElem? (i := 3) rfl)) (fun _ h9 => h9) rfl dX11_cuts_53 ?_
      refine lv_iconst (v := (1 : Int32)) hx hb dX11_cuts_56 (by decide) ?_
      refine lv_iload_n hx hb dX11_cuts_57 rfl (lv_at hl 1 rfl) ?_
      refine lv_ishl hx hb dX11_cuts_58 ?_
      refine lv_ior hx hb dX11_cuts_59 ?_
      refine va_put (D := D) (ci := 2) (v := .int (t_course_cut ||| ((1 : Int32) <<< (p1 &&& 31)))) (ty := .int) (C := RX2) (T := TX2) (N := 7) hx hb hts hi_X2 tyX2 tyX2_ok nmX2 hown hK hP hD hS 4 rfl rfl 3 (by decide) (hts (.fieldLink RX11 120 "TriangleRest$Course" "cut" "I") (List.mem_of_getElem? (i := 3) rfl)) (fun _ h9 => h9) rfl (by decide +kernel) rfl rfl (Nat.le_of_ble_eq_true rfl) dX11_cuts_60 (fun H locs hP hD hS => ?_)
      have hP : va_P D vwCl [(a_t, .inr (11, [.ref a_t_text, .ref a_t_score, .ref a_t_draft, .ref a_t_course, .ref a_t_firstImage, .ref a_t_secondImage, .ref a_t_ear, .ref a_t_packer, .ref a_t_kinds, .int t_keptImages, .long t_traced])), (a_t_score, .inr (6, [.ref a_t_score_lengths, .ref a_t_score_times, .ref a_t_score_players, .ref a_t_score_minutes, .int t_score_sections, .int t_score_things, .int t_score_noteTold, .int t_score_toldSection, .int t_score_toldBar])), (a_t_score_lengths, .inl (cI, 8, .inl t_score_lengths)), (a_t_score_times, .inl (cI, 8, .inl t_score_times)), (a_t_course, .inr (2, [.int t_course_bar, .int t_course_count, .int t_course_waits, .int (t_course_cut ||| ((1 : Int32) <<< (p1 &&& 31))), .int t_course_struck, .int t_course_known_7, .ref a_t_course_past])), (a_t_course_past, .inl (cI, 50, .inl t_course_past_8))] H := hP
      have hD : va_D A [(a_t, .inr (11, [.ref a_t_text, .ref a_t_score, .ref a_t_draft, .ref a_t_course, .ref a_t_firstImage, .ref a_t_secondImage, .ref a_t_ear, .ref a_t_packer, .ref a_t_kinds, .int t_keptImages, .long t_traced])), (a_t_score, .inr (6, [.ref a_t_score_lengths, .ref a_t_score_times, .ref a_t_score_players, .ref a_t_score_minutes, .int t_score_sections, .int t_score_things, .int t_score_noteTold, .int t_score_toldSection, .int t_score_toldBar])), (a_t_score_lengths, .inl (cI, 8, .inl t_score_lengths)), (a_t_score_times, .inl (cI, 8, .inl t_score_times)), (a_t_course, .inr (2, [.int t_course_bar, .int t_course_count, .int t_course_waits, .int (t_course_cut ||| ((1 : Int32) <<< (p1 &&& 31))), .int t_course_struck, .int t_course_known_7, .ref a_t_course_past])), (a_t_course_past, .inl (cI, 50, .inl t_course_past_8))] := hD
      refine lv_aload_n hx hb dX11_cuts_63 rfl (lv_at hl 0 rfl) ?_
      refine va_get (D := D) (ci := 11) (v := .ref a_t_score) (C := RX11) (T := TX11) (N := 11) hx hb hts hi_X11 hown hK hP 0 rfl rfl 1 (by decide) (hts (.fieldLink RX11 19 "TriangleRest" "score" "LTriangleRest$Score;") (List.mem_of_getElem? (i := 1) rfl)) (fun _ h9 => h9) rfl dX11_cuts_64 ?_
      refine lv_aload_n hx hb dX11_cuts_67 rfl (lv_at hl 0 rfl) ?_
      refine va_get (D := D) (ci := 11) (v := .ref a_t_course) (C := RX11) (T := TX11) (N := 11) hx hb hts hi_X11 hown hK hP 0 rfl rfl 3 (by decide) (hts (.fieldLink RX11 29 "TriangleRest" "course" "LTriangleRest$Course;") (List.mem_of_getElem? (i := 2) rfl)) (fun _ h9 => h9) rfl dX11_cuts_68 ?_
      refine va_get (D := D) (ci := 2) (v := .int (t_course_cut ||| ((1 : Int32) <<< (p1 &&& 31)))) (C := RX2) (T := TX2) (N := 7) hx hb hts hi_X2 hown hK hP 4 rfl rfl 3 (by decide) (hts (.fieldLink RX11 120 "TriangleRest$Course" "cut" "I") (List.mem_of_getElem? (i := 3) rfl)) (fun _ h9 => h9) rfl dX11_cuts_71 ?_
      obtain ⟨r10, e11, h⟩ := jx_b1_of h
      refine jx_cV (o := some (.int r10)) (As := [.int (t_course_cut ||| ((1 : Int32) <<< (p1 &&& 31)))]) (rest := []) (b := a_t_score) ⟨hx, hb, hml, hown, hts⟩ (ct_X6_barsWith l D cI cZ cO a_t_score a_t_score_lengths a_t_score_times a_t_score_players a_t_score_minutes t_score_sections t_score_things t_score_noteTold t_score_toldSection t_score_toldBar t_score_lengths t_score_times (t_course_cut ||| ((1 : Int32) <<< (p1 &&& 31))) r10 e11) (cwV 1 hts gX11_cuts_X6_barsWith rfl rfl rfl (by decide +kernel) ⟨Nat.le_of_ble_eq_true rfl, Nat.le_of_ble_eq_true rfl⟩) hK hN hP [1, 2, 3] rfl (va_recv hK hP (ci := 6) (q0 := 1) rfl rfl) rfl hl.1 rfl (Nat.le_of_ble_eq_true rfl) dX11_cuts_74 ⟨Nat.zero_le _, Nat.zero_le _⟩ ?_
      cases h
      exact hret 77 ls _ _ hP hD hS rfl dX11_cuts_77
    · have h := jx_t h c6
      refine lv_bipush (v := (-2 : Int32)) hx hb dX11_cuts_38 (by decide) ?_
      cases h
      exact hret 40 ls _ _ hP hD hS rfl dX11_cuts_40
  · have h := jx_t h c3
    refine lv_iconst (v := (-1 : Int32)) hx hb dX11_cuts_11 (by decide) ?_
    cases h
    exact hret 12 ls _ _ hP hD hS rfl dX11_cuts_12
def mi_X11_waits (t_course_bar : Int32) (t_course_count : Int32) (t_course_waits : Int32) (t_course_cut : Int32) (t_course_struck : Int32) (t_course_known : Int32) (t_course_past : Nat → Int32) (p1 : Int32) : Option (Int32 × Int32 × Int32 × (Nat → Int32)) := jx_b1 (mi_X11_isWithin p1 (1 : Int32) (99 : Int32)) fun r1 => (if r1 = 0 then (some ((-1 : Int32), t_course_waits, t_course_known, t_course_past)) else (if (t_course_waits + p1) ≤ (999 : Int32) then (jx_b2 (mi_X2_remember t_course_bar t_course_count t_course_waits t_course_cut t_course_struck t_course_known t_course_past) fun t_course_known_5 t_course_past_6 => (some ((t_course_waits + p1), (t_course_waits + p1), t_course_known_5, t_course_past_6))) else (some ((-2 : Int32), t_course_waits, t_course_known, t_course_past))))
abbrev rm_X11_waits : Room := { frames := 2, cells := 0, slots := 0, locals := 61 }
set_option maxRecDepth 100000 in
set_option maxHeartbeats 4000000 in
theorem ct_X11_waits (l : Launch) (D : va_G) (cI cZ cO : ClassId) (a_t a_t_text a_t_score a_t_draft a_t_course a_t_firstImage a_t_secondImage a_t_ear a_t_packer a_t_kinds a_t_course_past : Nat) (sz : Nat) (t_keptImages : Int32) (t_traced : Int64) (t_course_bar : Int32) (t_course_count : Int32) (t_course_waits : Int32) (t_course_cut : Int32) (t_course_struck : Int32) (t_course_known : Int32) (t_course_past : Nat → Int32) (p1 : Int32) (r : Int32) (z_t_course_waits : Int32) (z_t_course_known : Int32) (z_t_course_past : Nat → Int32) (hm : mi_X11_waits t_course_bar t_course_count t_course_waits t_course_cut t_course_struck t_course_known t_course_past p1 = some (r, z_t_course_waits, z_t_course_known, z_t_course_past)) : Met l yX11_waits wsX11_waits rm_X11_waits (va_Pc [.ref a_t, .int p1] (jx_W D (jx_T cI cZ cO) sz [(a_t, .inr (11, [.ref a_t_text, .ref a_t_score, .ref a_t_draft, .ref a_t_course, .ref a_t_firstImage, .ref a_t_secondImage, .ref a_t_ear, .ref a_t_packer, .ref a_t_kinds, .int t_keptImages, .long t_traced])), (a_t_course, .inr (2, [.int t_course_bar, .int t_course_count, .int t_course_waits, .int t_course_cut, .int t_course_struck, .int t_course_known, .ref a_t_course_past])), (a_t_course_past, .inl (cI, 50, .inl t_course_past))])) (jx_Q (some (.int r)) D [(a_t, .inr (11, [.ref a_t_text, .ref a_t_score, .ref a_t_draft, .ref a_t_course, .ref a_t_firstImage, .ref a_t_secondImage, .ref a_t_ear, .ref a_t_packer, .ref a_t_kinds, .int t_keptImages, .long t_traced])), (a_t_course, .inr (2, [.int t_course_bar, .int t_course_count, .int z_t_course_waits, .int t_course_cut, .int t_course_struck, .int z_t_course_known, .ref a_t_course_past])), (a_t_course_past, .inl (cI, 50, .inl z_t_course_past))] (va_A [(a_t, .inr (11, [.ref a_t_text, .ref a_t_score, .ref a_t_draft, .ref a_t_course, .ref a_t_firstImage, .ref a_t_secondImage, .ref a_t_ear, .ref a_t_packer, .ref a_t_kinds, .int t_keptImages, .long t_traced])), (a_t_course, .inr (2, [.int t_course_bar, .int t_course_count, .int t_course_waits, .int t_course_cut, .int t_course_struck, .int t_course_known, .ref a_t_course_past])), (a_t_course_past, .inl (cI, 50, .inl t_course_past))] sz)) 0 0 (va_A [(a_t, .inr (11, [.ref a_t_text, .ref a_t_score, .ref a_t_draft, .ref a_t_course, .ref a_t_firstImage, .ref a_t_secondImage, .ref a_t_ear, .ref a_t_packer, .ref a_t_kinds, .int t_keptImages, .long t_traced])), (a_t_course, .inr (2, [.int t_course_bar, .int t_course_count, .int t_course_waits, .int t_course_cut, .int t_course_struck, .int t_course_known, .ref a_t_course_past])), (a_t_course_past, .inl (cI, 50, .inl t_course_past))] sz) := by
  refine jx_metW (ty := .int) (own := RX11) (cc := cX11_waits) (maxL := 2) (by decide) rfl rfl (Nat.le_of_ble_eq_true rfl) ?_
  intro p e s m args below meth c Q ls A hx hb hml hown hts hK hN hA hP hD hS hl hret
  have hi_X11 : ∀ w ∈ u_ws RX11 TX11 11, w ∈ wsX11_waits := by decide +kernel
  have hi_X2 : ∀ w ∈ u_ws RX2 TX2 7, w ∈ wsX11_waits := by decide +kernel
  have hl : lv_has ls 2 [(0, .ref a_t), (1, .int p1)] := hl
  have h := hm
  unfold mi_X11_waits at h
  refine lv_iload_n hx hb dX11_waits_0 rfl (lv_at hl 1 rfl) ?_
  refine lv_iconst (v := (1 : Int32)) hx hb dX11_waits_1 (by decide) ?_
  refine lv_bipush (v := (99 : Int32)) hx hb dX11_waits_2 (by decide) ?_
  obtain ⟨r1, e2, h⟩ := jx_b1_of h
  refine jx_cS (o := some (.int r1)) (As := [.int p1, .int (1 : Int32), .int (99 : Int32)]) (rest := []) ⟨hx, hb, hml, hown, hts⟩ (ct_X11_isWithin l p1 (1 : Int32) (99 : Int32) r1 e2) (va_cwS 3 hts gX11_waits_X11_isWithin rfl rfl rfl (by decide +kernel) ⟨Nat.le_of_ble_eq_true rfl, Nat.le_of_ble_eq_true rfl⟩) rfl hl.1 rfl (Nat.le_of_ble_eq_true rfl) dX11_waits_4 ⟨Nat.zero_le _, Nat.zero_le _⟩ ?_
  refine lv_if_ne (tgt := 12) hx hb dX11_waits_7 (by decide) (fun c3 => ?_) (fun c3 => ?_)
  · have h := jx_f h c3
    refine lv_aload_n hx hb dX11_waits_12 rfl (lv_at hl 0 rfl) ?_
    refine va_get (D := D) (ci := 11) (v := .ref a_t_course) (C := RX11) (T := TX11) (N := 11) hx hb hts hi_X11 hown hK hP 0 rfl rfl 3 (by decide) (hts (.fieldLink RX11 29 "TriangleRest" "course" "LTriangleRest$Course;") (List.mem_of_getElem? (i := 1) rfl)) (fun _ h9 => h9) rfl dX11_waits_13 ?_
    refine va_get (D := D) (ci := 2) (v := .int t_course_waits) (C := RX2) (T := TX2) (N := 7) hx hb hts hi_X2 hown hK hP 1 rfl rfl 2 (by decide) (hts (.fieldLink RX11 174 "TriangleRest$Course" "waits" "I") (List.mem_of_getElem? (i := 2) rfl)) (fun _ h9 => h9) rfl dX11_waits_16 ?_
    refine lv_iload_n hx hb dX11_waits_19 rfl (lv_at hl 1 rfl) ?_
    refine lv_iadd hx hb dX11_waits_20 ?_
    refine lv_sipush (v := (999 : Int32)) hx hb dX11_waits_21 (by decide) ?_
    refine lv_icmp_le (tgt := 30) hx hb dX11_waits_24 (by decide) (fun c4 => ?_) (fun c4 => ?_)
    · have h := jx_t h c4
      refine lv_aload_n hx hb dX11_waits_30 rfl (lv_at hl 0 rfl) ?_
      refine va_get (D := D) (ci := 11) (v := .ref a_t_course) (C := RX11) (T := TX11) (N := 11) hx hb hts hi_X11 hown hK hP 0 rfl rfl 3 (by decide) (hts (.fieldLink RX11 29 "TriangleRest" "course" "LTriangleRest$Course;") (List.mem_of_getElem? (i := 1) rfl)) (fun _ h9 => h9) rfl dX11_waits_31 ?_
      obtain ⟨t_course_known_5, t_course_past_6, e7, h⟩ := jx_b2_of h
      refine jx_cW (o := none) (As := []) (rest := []) (b := a_t_course) (wr := [(a_t, .inr (11, [.ref a_t_text, .ref a_t_score, .ref a_t_draft, .ref a_t_course, .ref a_t_firstImage, .ref a_t_secondImage, .ref a_t_ear, .ref a_t_packer, .ref a_t_kinds, .int t_keptImages, .long t_traced]))]) (wd' := [(a_t, .inr (11, [.ref a_t_text, .ref a_t_score, .ref a_t_draft, .ref a_t_course, .ref a_t_firstImage, .ref a_t_secondImage, .ref a_t_ear, .ref a_t_packer, .ref a_t_kinds, .int t_keptImages, .long t_traced])), (a_t_course, .inr (2, [.int t_course_bar, .int t_course_count, .int t_course_waits, .int t_course_cut, .int t_course_struck, .int t_course_known_5, .ref a_t_course_past])), (a_t_course_past, .inl (cI, 50, .inl t_course_past_6))]) ⟨hx, hb, hml, hown, hts⟩ (ct_X2_remember l D cI cZ cO a_t_course a_t_course_past s.heap.size t_course_bar t_course_count t_course_waits t_course_cut t_course_struck t_course_known t_course_past t_course_known_5 t_course_past_6 e7) (cwV 0 hts gX11_waits_X2_remember rfl rfl rfl (by decide +kernel) ⟨Nat.le_of_ble_eq_true rfl, Nat.le_of_ble_eq_true rfl⟩) hK hN hP hD hS hA [1, 2] [0] (by decide) rfl rfl (by decide) (by decide) rfl (va_recv hK hP (ci := 2) (q0 := 1) rfl rfl) rfl hl.1 rfl (Nat.le_of_ble_eq_true rfl) dX11_waits_34 ⟨Nat.zero_le _, Nat.zero_le _⟩ [0, 1, 2] (by decide) rfl (fun H locs hP hD hS => ?_)
      refine lv_aload_n hx hb dX11_waits_37 rfl (lv_at hl 0 rfl) ?_
      refine va_get (D := D) (ci := 11) (v := .ref a_t_course) (C := RX11) (T := TX11) (N := 11) hx hb hts hi_X11 hown hK hP 0 rfl rfl 3 (by decide) (hts (.fieldLink RX11 29 "TriangleRest" "course" "LTriangleRest$Course;") (List.mem_of_getElem? (i := 1) rfl)) (fun _ h9 => h9) rfl dX11_waits_38 ?_
      refine lv_dup hx hb dX11_waits_41 rfl ?_
      refine va_get (D := D) (ci := 2) (v := .int t_course_waits) (C := RX2) (T := TX2) (N := 7) hx hb hts hi_X2 hown hK hP 1 rfl rfl 2 (by decide) (hts (.fieldLink RX11 174 "TriangleRest$Course" "waits" "I") (List.mem_of_getElem? (i := 2) rfl)) (fun _ h9 => h9) rfl dX11_waits_42 ?_
      refine lv_iload_n hx hb dX11_waits_45 rfl (lv_at hl 1 rfl) ?_
      refine lv_iadd hx hb dX11_waits_46 ?_
      refine va_put (D := D) (ci := 2) (v := .int (t_course_waits + p1)) (ty := .int) (C := RX2) (T := TX2) (N := 7) hx hb hts hi_X2 tyX2 tyX2_ok nmX2 hown hK hP hD hS 1 rfl rfl 2 (by decide) (hts (.fieldLink RX11 174 "TriangleRest$Course" "waits" "I") (List.mem_of_getElem? (i := 2) rfl)) (fun _ h9 => h9) rfl (by decide +kernel) rfl rfl (Nat.le_of_ble_eq_true rfl) dX11_waits_47 (fun H locs hP hD hS => ?_)
      have hP : va_P D vwCl [(a_t, .inr (11, [.ref a_t_text, .ref a_t_score, .ref a_t_draft, .ref a_t_course, .ref a_t_firstImage, .ref a_t_secondImage, .ref a_t_ear, .ref a_t_packer, .ref a_t_kinds, .int t_keptImages, .long t_traced])), (a_t_course, .inr (2, [.int t_course_bar, .int t_course_count, .int (t_course_waits + p1), .int t_course_cut, .int t_course_struck, .int t_course_known_5, .ref a_t_course_past])), (a_t_course_past, .inl (cI, 50, .inl t_course_past_6))] H := hP
      have hD : va_D A [(a_t, .inr (11, [.ref a_t_text, .ref a_t_score, .ref a_t_draft, .ref a_t_course, .ref a_t_firstImage, .ref a_t_secondImage, .ref a_t_ear, .ref a_t_packer, .ref a_t_kinds, .int t_keptImages, .long t_traced])), (a_t_course, .inr (2, [.int t_course_bar, .int t_course_count, .int (t_course_waits + p1), .int t_course_cut, .int t_course_struck, .int t_course_known_5, .ref a_t_course_past])), (a_t_course_past, .inl (cI, 50, .inl t_course_past_6))] := hD
      refine lv_aload_n hx hb dX11_waits_50 rfl (lv_at hl 0 rfl) ?_
      refine va_get (D := D) (ci := 11) (v := .ref a_t_course) (C := RX11) (T := TX11) (N := 11) hx hb hts hi_X11 hown hK hP 0 rfl rfl 3 (by decide) (hts (.fieldLink RX11 29 "TriangleRest" "course" "LTriangleRest$Course;") (List.mem_of_getElem? (i := 1) rfl)) (fun _ h9 => h9) rfl dX11_waits_51 ?_
      refine va_get (D := D) (ci := 2) (v := .int (t_course_waits + p1)) (C := RX2) (T := TX2) (N := 7) hx hb hts hi_X2 hown hK hP 1 rfl rfl 2 (by decide) (hts (.fieldLink RX11 174 "TriangleRest$Course" "waits" "I") (List.mem_of_getElem? (i := 2) rfl)) (fun _ h9 => h9) rfl dX11_waits_54 ?_
      cases h
      exact hret 57 ls _ _ hP hD hS rfl dX11_waits_57
    · have h := jx_f h c4
      refine lv_bipush (v := (-2 : Int32)) hx hb dX11_waits_27 (by decide) ?_
      cases h
      exact hret 29 ls _ _ hP hD hS rfl dX11_waits_29
  · have h := jx_t h c3
    refine lv_iconst (v := (-1 : Int32)) hx hb dX11_waits_10 (by decide) ?_
    cases h
    exact hret 11 ls _ _ hP hD hS rfl dX11_waits_11
def mi_X11_undo (t_course_bar : Int32) (t_course_count : Int32) (t_course_waits : Int32) (t_course_cut : Int32) (t_course_struck : Int32) (t_course_known : Int32) (t_course_past : Nat → Int32) : Option (Int32 × Int32 × Int32 × Int32 × Int32 × Int32 × Int32) := if t_course_known = 0 then (some ((-2 : Int32), t_course_bar, t_course_count, t_course_waits, t_course_cut, t_course_struck, t_course_known)) else (jx_b6 (mi_X2_recall t_course_bar t_course_count t_course_waits t_course_cut t_course_struck t_course_known t_course_past) fun t_course_bar_2 t_course_count_3 t_course_waits_4 t_course_cut_5 t_course_struck_6 t_course_known_7 => (some (t_course_known_7, t_course_bar_2, t_course_count_3, t_course_waits_4, t_course_cut_5, t_course_struck_6, t_course_known_7)))
abbrev rm_X11_undo : Room := { frames := 1, cells := 0, slots := 0, locals := 21 }
set_option maxRecDepth 100000 in
set_option maxHeartbeats 4000000 in
theorem ct_X11_undo (l : Launch) (D : va_G) (cI cZ cO : ClassId) (a_t a_t_text a_t_score a_t_draft a_t_course a_t_firstImage a_t_secondImage a_t_ear a_t_packer a_t_kinds a_t_course_past : Nat) (sz : Nat) (t_keptImages : Int32) (t_traced : Int64) (t_course_bar : Int32) (t_course_count : Int32) (t_course_waits : Int32) (t_course_cut : Int32) (t_course_struck : Int32) (t_course_known : Int32) (t_course_past : Nat → Int32) (r : Int32) (z_t_course_bar : Int32) (z_t_course_count : Int32) (z_t_course_waits : Int32) (z_t_course_cut : Int32) (z_t_course_struck : Int32) (z_t_course_known : Int32) (hm : mi_X11_undo t_course_bar t_course_count t_course_waits t_course_cut t_course_struck t_course_known t_course_past = some (r, z_t_course_bar, z_t_course_count, z_t_course_waits, z_t_course_cut, z_t_course_struck, z_t_course_known)) : Met l yX11_undo wsX11_undo rm_X11_undo (va_Pc [.ref a_t] (jx_W D (jx_T cI cZ cO) sz [(a_t, .inr (11, [.ref a_t_text, .ref a_t_score, .ref a_t_draft, .ref a_t_course, .ref a_t_firstImage, .ref a_t_secondImage, .ref a_t_ear, .ref a_t_packer, .ref a_t_kinds, .int t_keptImages, .long t_traced])), (a_t_course, .inr (2, [.int t_course_bar, .int t_course_count, .int t_course_waits, .int t_course_cut, .int t_course_struck, .int t_course_known, .ref a_t_course_past])), (a_t_course_past, .inl (cI, 50, .inl t_course_past))])) (jx_Q (some (.int r)) D [(a_t, .inr (11, [.ref a_t_text, .ref a_t_score, .ref a_t_draft, .ref a_t_course, .ref a_t_firstImage, .ref a_t_secondImage, .ref a_t_ear, .ref a_t_packer, .ref a_t_kinds, .int t_keptImages, .long t_traced])), (a_t_course, .inr (2, [.int z_t_course_bar, .int z_t_course_count, .int z_t_course_waits, .int z_t_course_cut, .int z_t_course_struck, .int z_t_course_known, .ref a_t_course_past])), (a_t_course_past, .inl (cI, 50, .inl t_course_past))] (va_A [(a_t, .inr (11, [.ref a_t_text, .ref a_t_score, .ref a_t_draft, .ref a_t_course, .ref a_t_firstImage, .ref a_t_secondImage, .ref a_t_ear, .ref a_t_packer, .ref a_t_kinds, .int t_keptImages, .long t_traced])), (a_t_course, .inr (2, [.int t_course_bar, .int t_course_count, .int t_course_waits, .int t_course_cut, .int t_course_struck, .int t_course_known, .ref a_t_course_past])), (a_t_course_past, .inl (cI, 50, .inl t_course_past))] sz)) 0 0 (va_A [(a_t, .inr (11, [.ref a_t_text, .ref a_t_score, .ref a_t_draft, .ref a_t_course, .ref a_t_firstImage, .ref a_t_secondImage, .ref a_t_ear, .ref a_t_packer, .ref a_t_kinds, .int t_keptImages, .long t_traced])), (a_t_course, .inr (2, [.int t_course_bar, .int t_course_count, .int t_course_waits, .int t_course_cut, .int t_course_struck, .int t_course_known, .ref a_t_course_past])), (a_t_course_past, .inl (cI, 50, .inl t_course_past))] sz) := by
  refine jx_metW (ty := .int) (own := RX11) (cc := cX11_undo) (maxL := 1) (by decide) rfl rfl (Nat.le_of_ble_eq_true rfl) ?_
  intro p e s m args below meth c Q ls A hx hb hml hown hts hK hN hA hP hD hS hl hret
  have hi_X11 : ∀ w ∈ u_ws RX11 TX11 11, w ∈ wsX11_undo := by decide +kernel
  have hi_X2 : ∀ w ∈ u_ws RX2 TX2 7, w ∈ wsX11_undo := by decide +kernel
  have hl : lv_has ls 1 [(0, .ref a_t)] := hl
  have h := hm
  unfold mi_X11_undo at h
  refine lv_aload_n hx hb dX11_undo_0 rfl (lv_at hl 0 rfl) ?_
  refine va_get (D := D) (ci := 11) (v := .ref a_t_course) (C := RX11) (T := TX11) (N := 11) hx hb hts hi_X11 hown hK hP 0 rfl rfl 3 (by decide) (hts (.fieldLink RX11 29 "TriangleRest" "course" "LTriangleRest$Course;") (List.mem_of_getElem? (i := 1) rfl)) (fun _ h9 => h9) rfl dX11_undo_1 ?_
  refine va_get (D := D) (ci := 2) (v := .int t_course_known) (C := RX2) (T := TX2) (N := 7) hx hb hts hi_X2 hown hK hP 1 rfl rfl 5 (by decide) (hts (.fieldLink RX11 177 "TriangleRest$Course" "known" "I") (List.mem_of_getElem? (i := 2) rfl)) (fun _ h9 => h9) rfl dX11_undo_4 ?_
  refine lv_if_ne (tgt := 13) hx hb dX11_undo_7 (by decide) (fun c1 => ?_) (fun c1 => ?_)
  · have h := jx_f h c1
    refine lv_aload_n hx hb dX11_undo_13 rfl (lv_at hl 0 rfl) ?_
    refine va_get (D := D) (ci := 11) (v := .ref a_t_course) (C := RX11) (T := TX11) (N := 11) hx hb hts hi_X11 hown hK hP 0 rfl rfl 3 (by decide) (hts (.fieldLink RX11 29 "TriangleRest" "course" "LTriangleRest$Course;") (List.mem_of_getElem? (i := 1) rfl)) (fun _ h9 => h9) rfl dX11_undo_14 ?_
    obtain ⟨t_course_bar_2, t_course_count_3, t_course_waits_4, t_course_cut_5, t_course_struck_6, t_course_known_7, e8, h⟩ := jx_b6_of h
    refine jx_cW (o := none) (As := []) (rest := []) (b := a_t_course) (wr := [(a_t, .inr (11, [.ref a_t_text, .ref a_t_score, .ref a_t_draft, .ref a_t_course, .ref a_t_firstImage, .ref a_t_secondImage, .ref a_t_ear, .ref a_t_packer, .ref a_t_kinds, .int t_keptImages, .long t_traced]))]) (wd' := [(a_t, .inr (11, [.ref a_t_text, .ref a_t_score, .ref a_t_draft, .ref a_t_course, .ref a_t_firstImage, .ref a_t_secondImage, .ref a_t_ear, .ref a_t_packer, .ref a_t_kinds, .int t_keptImages, .long t_traced])), (a_t_course, .inr (2, [.int t_course_bar_2, .int t_course_count_3, .int t_course_waits_4, .int t_course_cut_5, .int t_course_struck_6, .int t_course_known_7, .ref a_t_course_past])), (a_t_course_past, .inl (cI, 50, .inl t_course_past))]) ⟨hx, hb, hml, hown, hts⟩ (ct_X2_recall l D cI cZ cO a_t_course a_t_course_past s.heap.size t_course_bar t_course_count t_course_waits t_course_cut t_course_struck t_course_known t_course_past t_course_bar_2 t_course_count_3 t_course_waits_4 t_course_cut_5 t_course_struck_6 t_course_known_7 e8) (cwV 0 hts gX11_undo_X2_recall rfl rfl rfl (by decide +kernel) ⟨Nat.le_of_ble_eq_true rfl, Nat.le_of_ble_eq_true rfl⟩) hK hN hP hD hS hA [1, 2] [0] (by decide) rfl rfl (by decide) (by decide) rfl (va_recv hK hP (ci := 2) (q0 := 1) rfl rfl) rfl hl.1 rfl (Nat.le_of_ble_eq_true rfl) dX11_undo_17 ⟨Nat.zero_le _, Nat.zero_le _⟩ [0, 1, 2] (by decide) rfl (fun H locs hP hD hS => ?_)
    refine lv_aload_n hx hb dX11_undo_20 rfl (lv_at hl 0 rfl) ?_
    refine va_get (D := D) (ci := 11) (v := .ref a_t_course) (C := RX11) (T := TX11) (N := 11) hx hb hts hi_X11 hown hK hP 0 rfl rfl 3 (by decide) (hts (.fieldLink RX11 29 "TriangleRest" "course" "LTriangleRest$Course;") (List.mem_of_getElem? (i := 1) rfl)) (fun _ h9 => h9) rfl dX11_undo_21 ?_
    refine va_get (D := D) (ci := 2) (v := .int t_course_known_7) (C := RX2) (T := TX2) (N := 7) hx hb hts hi_X2 hown hK hP 1 rfl rfl 5 (by decide) (hts (.fieldLink RX11 177 "TriangleRest$Course" "known" "I") (List.mem_of_getElem? (i := 2) rfl)) (fun _ h9 => h9) rfl dX11_undo_24 ?_
    have hq_0 := Option.some.inj h
    obtain ⟨hz_1, hq_1⟩ := Prod.mk.inj hq_0
    obtain ⟨hz_2, hq_2⟩ := Prod.mk.inj hq_1
    obtain ⟨hz_3, hq_3⟩ := Prod.mk.inj hq_2
    obtain ⟨hz_4, hq_4⟩ := Prod.mk.inj hq_3
    obtain ⟨hz_5, hq_5⟩ := Prod.mk.inj hq_4
    obtain ⟨hz_6, hq_6⟩ := Prod.mk.inj hq_5
    subst hz_1
    subst hz_2
    subst hz_3
    subst hz_4
    subst hz_5
    subst hz_6
    subst hq_6
    exact hret 27 ls _ _ hP hD hS rfl dX11_undo_27
  · have h := jx_t h c1
    refine lv_bipush (v := (-2 : Int32)) hx hb dX11_undo_10 (by decide) ?_
    have hq_0 := Option.some.inj h
    obtain ⟨hz_1, hq_1⟩ := Prod.mk.inj hq_0
    obtain ⟨hz_2, hq_2⟩ := Prod.mk.inj hq_1
    obtain ⟨hz_3, hq_3⟩ := Prod.mk.inj hq_2
    obtain ⟨hz_4, hq_4⟩ := Prod.mk.inj hq_3
    obtain ⟨hz_5, hq_5⟩ := Prod.mk.inj hq_4
    obtain ⟨hz_6, hq_6⟩ := Prod.mk.inj hq_5
    subst hz_1
    subst hz_2
    subst hz_3
    subst hz_4
    subst hz_5
    subst hz_6
    subst hq_6
    exact hret 12 ls _ _ hP hD hS rfl dX11_undo_12
def mi_X11_cuttableNow (t_score_sections : Int32) (t_score_noteTold : Int32) (t_score_toldSection : Int32) (t_score_lengths : Nat → Int32) (t_score_times : Nat → Int32) (t_course_bar : Int32) (t_course_cut : Int32) : Option (Int32) := jx_b1 (mi_X6_allCuttable t_score_sections t_score_noteTold t_score_toldSection t_score_lengths t_score_times t_course_cut t_course_bar) fun r1 => (some (r1))
abbrev rm_X11_cuttableNow : Room := { frames := 5, cells := 0, slots := 0, locals := 113 }
set_option maxRecDepth 100000 in
set_option maxHeartbeats 4000000 in
theorem ct_X11_cuttableNow (l : Launch) (D : va_G) (cI cZ cO : ClassId) (a_t a_t_text a_t_score a_t_draft a_t_course a_t_firstImage a_t_secondImage a_t_ear a_t_packer a_t_kinds a_t_score_lengths a_t_score_times a_t_score_players a_t_score_minutes a_t_course_past : Nat) (t_keptImages : Int32) (t_traced : Int64) (t_score_sections : Int32) (t_score_things : Int32) (t_score_noteTold : Int32) (t_score_toldSection : Int32) (t_score_toldBar : Int32) (t_score_lengths : Nat → Int32) (t_score_times : Nat → Int32) (t_course_bar : Int32) (t_course_count : Int32) (t_course_waits : Int32) (t_course_cut : Int32) (t_course_struck : Int32) (t_course_known : Int32) (r : Int32) (hm : mi_X11_cuttableNow t_score_sections t_score_noteTold t_score_toldSection t_score_lengths t_score_times t_course_bar t_course_cut = some r) : Met l yX11_cuttableNow wsX11_cuttableNow rm_X11_cuttableNow (va_Pc [.ref a_t] (jx_R D (jx_T cI cZ cO) [(a_t, .inr (11, [.ref a_t_text, .ref a_t_score, .ref a_t_draft, .ref a_t_course, .ref a_t_firstImage, .ref a_t_secondImage, .ref a_t_ear, .ref a_t_packer, .ref a_t_kinds, .int t_keptImages, .long t_traced])), (a_t_score, .inr (6, [.ref a_t_score_lengths, .ref a_t_score_times, .ref a_t_score_players, .ref a_t_score_minutes, .int t_score_sections, .int t_score_things, .int t_score_noteTold, .int t_score_toldSection, .int t_score_toldBar])), (a_t_score_lengths, .inl (cI, 8, .inl t_score_lengths)), (a_t_score_times, .inl (cI, 8, .inl t_score_times)), (a_t_course, .inr (2, [.int t_course_bar, .int t_course_count, .int t_course_waits, .int t_course_cut, .int t_course_struck, .int t_course_known, .ref a_t_course_past]))])) (jx_S (some (.int r))) 0 0 (fun _ => False) := by
  refine jx_metR (ty := .int) (own := RX11) (cc := cX11_cuttableNow) (maxL := 1) (by decide) rfl rfl (Nat.le_of_ble_eq_true rfl) ?_
  intro p e s m args below meth c Q ls hx hb hml hown hts hK hN hP hl hret
  have hi_X11 : ∀ w ∈ u_ws RX11 TX11 11, w ∈ wsX11_cuttableNow := by decide +kernel
  have hi_X2 : ∀ w ∈ u_ws RX2 TX2 7, w ∈ wsX11_cuttableNow := by decide +kernel
  have hl : lv_has ls 1 [(0, .ref a_t)] := hl
  have h := hm
  unfold mi_X11_cuttableNow at h
  refine lv_aload_n hx hb dX11_cuttableNow_0 rfl (lv_at hl 0 rfl) ?_
  refine va_get (D := D) (ci := 11) (v := .ref a_t_score) (C := RX11) (T := TX11) (N := 11) hx hb hts hi_X11 hown hK hP 0 rfl rfl 1 (by decide) (hts (.fieldLink RX11 19 "TriangleRest" "score" "LTriangleRest$Score;") (List.mem_of_getElem? (i := 1) rfl)) (fun _ h9 => h9) rfl dX11_cuttableNow_1 ?_
  refine lv_aload_n hx hb dX11_cuttableNow_4 rfl (lv_at hl 0 rfl) ?_
  refine va_get (D := D) (ci := 11) (v := .ref a_t_course) (C := RX11) (T := TX11) (N := 11) hx hb hts hi_X11 hown hK hP 0 rfl rfl 3 (by decide) (hts (.fieldLink RX11 29 "TriangleRest" "course" "LTriangleRest$Course;") (List.mem_of_getElem? (i := 2) rfl)) (fun _ h9 => h9) rfl dX11_cuttableNow_5 ?_
  refine va_get (D := D) (ci := 2) (v := .int t_course_cut) (C := RX2) (T := TX2) (N := 7) hx hb hts hi_X2 hown hK hP 4 rfl rfl 3 (by decide) (hts (.fieldLink RX11 120 "TriangleRest$Course" "cut" "I") (List.mem_of_getElem? (i := 3) rfl)) (fun _ h9 => h9) rfl dX11_cuttableNow_8 ?_
  refine lv_aload_n hx hb dX11_cuttableNow_11 rfl (lv_at hl 0 rfl) ?_
  refine va_get (D := D) (ci := 11) (v := .ref a_t_course) (C := RX11) (T := TX11) (N := 11) hx hb hts hi_X11 hown hK hP 0 rfl rfl 3 (by decide) (hts (.fieldLink RX11 29 "TriangleRest" "course" "LTriangleRest$Course;") (List.mem_of_getElem? (i := 2) rfl)) (fun _ h9 => h9) rfl dX11_cuttableNow_12 ?_
  refine va_get (D := D) (ci := 2) (v := .int t_course_bar) (C := RX2) (T := TX2) (N := 7) hx hb hts hi_X2 hown hK hP 4 rfl rfl 0 (by decide) (hts (.fieldLink RX11 135 "TriangleRest$Course" "bar" "I") (List.mem_of_getElem? (i := 4) rfl)) (fun _ h9 => h9) rfl dX11_cuttableNow_15 ?_
  obtain ⟨r1, e2, h⟩ := jx_b1_of h
  refine jx_cV (o := some (.int r1)) (As := [.int t_course_cut, .int t_course_bar]) (rest := []) (b := a_t_score) ⟨hx, hb, hml, hown, hts⟩ (ct_X6_allCuttable l D cI cZ cO a_t_score a_t_score_lengths a_t_score_times a_t_score_players a_t_score_minutes t_score_sections t_score_things t_score_noteTold t_score_toldSection t_score_toldBar t_score_lengths t_score_times t_course_cut t_course_bar r1 e2) (cwV 2 hts gX11_cuttableNow_X6_allCuttable rfl rfl rfl (by decide +kernel) ⟨Nat.le_of_ble_eq_true rfl, Nat.le_of_ble_eq_true rfl⟩) hK hN hP [1, 2, 3] rfl (va_recv hK hP (ci := 6) (q0 := 1) rfl rfl) rfl hl.1 rfl (Nat.le_of_ble_eq_true rfl) dX11_cuttableNow_18 ⟨Nat.zero_le _, Nat.zero_le _⟩ ?_
  cases h
  exact hret 21 ls rfl dX11_cuttableNow_21
def mi_X11_now (t_score_sections : Int32) (t_score_noteTold : Int32) (t_score_toldSection : Int32) (t_score_toldBar : Int32) (t_score_lengths : Nat → Int32) (t_score_times : Nat → Int32) (t_course_bar : Int32) (t_course_count : Int32) (t_course_waits : Int32) (t_course_cut : Int32) (t_course_struck : Int32) (p1 : Int32) : Option (Int32) := if p1 = (0 : Int32) then (some (t_course_bar)) else (if p1 = (1 : Int32) then (some (t_course_count)) else (if p1 = (2 : Int32) then (some (t_course_waits)) else (if p1 = (3 : Int32) then (some (t_course_cut)) else (if p1 = (4 : Int32) then (jx_b1 (mi_X11_oneIf t_course_struck) fun r6 => (some (r6))) else (if p1 = (5 : Int32) then (jx_b1 (mi_X6_barsWith t_score_sections t_score_lengths t_score_times t_course_cut) fun r9 => (some (r9))) else (if p1 = (6 : Int32) then (if t_score_sections = 0 then (some ((-9 : Int32))) else (jx_b1 (mi_X6_noteBarWith t_score_sections t_score_noteTold t_score_toldSection t_score_toldBar t_score_lengths t_score_times t_course_cut) fun r13 => (some (r13)))) else (if p1 = (7 : Int32) then (if t_score_sections = 0 then (some ((-1000000 : Int32))) else (jx_b1 (mi_X6_noteBarWith t_score_sections t_score_noteTold t_score_toldSection t_score_toldBar t_score_lengths t_score_times t_course_cut) fun r17 => (some ((r17 - t_course_bar))))) else (if p1 = (8 : Int32) then (if t_score_sections = 0 then (some ((-9 : Int32))) else (jx_b1 (mi_X11_cuttableNow t_score_sections t_score_noteTold t_score_toldSection t_score_lengths t_score_times t_course_bar t_course_cut) fun r21 => (jx_b1 (mi_X6_noteBarWith t_score_sections t_score_noteTold t_score_toldSection t_score_toldBar t_score_lengths t_score_times (t_course_cut ||| r21)) fun r23 => (some (r23))))) else (some ((-1000000 : Int32)))))))))))
abbrev rm_X11_now : Room := { frames := 6, cells := 0, slots := 0, locals := 133 }
set_option maxRecDepth 100000 in
set_option maxHeartbeats 4000000 in
theorem ct_X11_now (l : Launch) (D : va_G) (cI cZ cO : ClassId) (a_t a_t_text a_t_score a_t_draft a_t_course a_t_firstImage a_t_secondImage a_t_ear a_t_packer a_t_kinds a_t_score_lengths a_t_score_times a_t_score_players a_t_score_minutes a_t_course_past : Nat) (t_keptImages : Int32) (t_traced : Int64) (t_score_sections : Int32) (t_score_things : Int32) (t_score_noteTold : Int32) (t_score_toldSection : Int32) (t_score_toldBar : Int32) (t_score_lengths : Nat → Int32) (t_score_times : Nat → Int32) (t_course_bar : Int32) (t_course_count : Int32) (t_course_waits : Int32) (t_course_cut : Int32) (t_course_struck : Int32) (t_course_known : Int32) (p1 : Int32) (r : Int32) (hm : mi_X11_now t_score_sections t_score_noteTold t_score_toldSection t_score_toldBar t_score_lengths t_score_times t_course_bar t_course_count t_course_waits t_course_cut t_course_struck p1 = some r) : Met l yX11_now wsX11_now rm_X11_now (va_Pc [.ref a_t, .int p1] (jx_R D (jx_T cI cZ cO) [(a_t, .inr (11, [.ref a_t_text, .ref a_t_score, .ref a_t_draft, .ref a_t_course, .ref a_t_firstImage, .ref a_t_secondImage, .ref a_t_ear, .ref a_t_packer, .ref a_t_kinds, .int t_keptImages, .long t_traced])), (a_t_score, .inr (6, [.ref a_t_score_lengths, .ref a_t_score_times, .ref a_t_score_players, .ref a_t_score_minutes, .int t_score_sections, .int t_score_things, .int t_score_noteTold, .int t_score_toldSection, .int t_score_toldBar])), (a_t_score_lengths, .inl (cI, 8, .inl t_score_lengths)), (a_t_score_times, .inl (cI, 8, .inl t_score_times)), (a_t_course, .inr (2, [.int t_course_bar, .int t_course_count, .int t_course_waits, .int t_course_cut, .int t_course_struck, .int t_course_known, .ref a_t_course_past]))])) (jx_S (some (.int r))) 0 0 (fun _ => False) := by
  refine jx_metR (ty := .int) (own := RX11) (cc := cX11_now) (maxL := 2) (by decide) rfl rfl (Nat.le_of_ble_eq_true rfl) ?_
  intro p e s m args below meth c Q ls hx hb hml hown hts hK hN hP hl hret
  have hi_X11 : ∀ w ∈ u_ws RX11 TX11 11, w ∈ wsX11_now := by decide +kernel
  have hi_X2 : ∀ w ∈ u_ws RX2 TX2 7, w ∈ wsX11_now := by decide +kernel
  have hi_X6 : ∀ w ∈ u_ws RX6 TX6 9, w ∈ wsX11_now := by decide +kernel
  have hl : lv_has ls 2 [(0, .ref a_t), (1, .int p1)] := hl
  have h := hm
  unfold mi_X11_now at h
  refine lv_iload_n hx hb dX11_now_0 rfl (lv_at hl 1 rfl) ?_
  by_cases s1 : p1 = (0 : Int32)
  · have h := jx_t h s1
    refine lv_tableIn (off := 51) (tgt := 52) hx hb dX11_now_1 (by rw [s1]; decide) (by rw [s1]; decide) (by rw [s1]; rfl) (by decide) ?_
    refine lv_aload_n hx hb dX11_now_52 rfl (lv_at hl 0 rfl) ?_
    refine va_get (D := D) (ci := 11) (v := .ref a_t_course) (C := RX11) (T := TX11) (N := 11) hx hb hts hi_X11 hown hK hP 0 rfl rfl 3 (by decide) (hts (.fieldLink RX11 29 "TriangleRest" "course" "LTriangleRest$Course;") (List.mem_of_getElem? (i := 1) rfl)) (fun _ h9 => h9) rfl dX11_now_53 ?_
    refine va_get (D := D) (ci := 2) (v := .int t_course_bar) (C := RX2) (T := TX2) (N := 7) hx hb hts hi_X2 hown hK hP 4 rfl rfl 0 (by decide) (hts (.fieldLink RX11 135 "TriangleRest$Course" "bar" "I") (List.mem_of_getElem? (i := 2) rfl)) (fun _ h9 => h9) rfl dX11_now_56 ?_
    cases h
    exact hret 59 ls rfl dX11_now_59
  have h := jx_f h s1
  by_cases s2 : p1 = (1 : Int32)
  · have h := jx_t h s2
    refine lv_tableIn (off := 59) (tgt := 60) hx hb dX11_now_1 (by rw [s2]; decide) (by rw [s2]; decide) (by rw [s2]; rfl) (by decide) ?_
    refine lv_aload_n hx hb dX11_now_60 rfl (lv_at hl 0 rfl) ?_
    refine va_get (D := D) (ci := 11) (v := .ref a_t_course) (C := RX11) (T := TX11) (N := 11) hx hb hts hi_X11 hown hK hP 0 rfl rfl 3 (by decide) (hts (.fieldLink RX11 29 "TriangleRest" "course" "LTriangleRest$Course;") (List.mem_of_getElem? (i := 1) rfl)) (fun _ h9 => h9) rfl dX11_now_61 ?_
    refine va_get (D := D) (ci := 2) (v := .int t_course_count) (C := RX2) (T := TX2) (N := 7) hx hb hts hi_X2 hown hK hP 4 rfl rfl 1 (by decide) (hts (.fieldLink RX11 159 "TriangleRest$Course" "count" "I") (List.mem_of_getElem? (i := 3) rfl)) (fun _ h9 => h9) rfl dX11_now_64 ?_
    cases h
    exact hret 67 ls rfl dX11_now_67
  have h := jx_f h s2
  by_cases s3 : p1 = (2 : Int32)
  · have h := jx_t h s3
    refine lv_tableIn (off := 67) (tgt := 68) hx hb dX11_now_1 (by rw [s3]; decide) (by rw [s3]; decide) (by rw [s3]; rfl) (by decide) ?_
    refine lv_aload_n hx hb dX11_now_68 rfl (lv_at hl 0 rfl) ?_
    refine va_get (D := D) (ci := 11) (v := .ref a_t_course) (C := RX11) (T := TX11) (N := 11) hx hb hts hi_X11 hown hK hP 0 rfl rfl 3 (by decide) (hts (.fieldLink RX11 29 "TriangleRest" "course" "LTriangleRest$Course;") (List.mem_of_getElem? (i := 1) rfl)) (fun _ h9 => h9) rfl dX11_now_69 ?_
    refine va_get (D := D) (ci := 2) (v := .int t_course_waits) (C := RX2) (T := TX2) (N := 7) hx hb hts hi_X2 hown hK hP 4 rfl rfl 2 (by decide) (hts (.fieldLink RX11 174 "TriangleRest$Course" "waits" "I") (List.mem_of_getElem? (i := 4) rfl)) (fun _ h9 => h9) rfl dX11_now_72 ?_
    cases h
    exact hret 75 ls rfl dX11_now_75
  have h := jx_f h s3
  by_cases s4 : p1 = (3 : Int32)
  · have h := jx_t h s4
    refine lv_tableIn (off := 75) (tgt := 76) hx hb dX11_now_1 (by rw [s4]; decide) (by rw [s4]; decide) (by rw [s4]; rfl) (by decide) ?_
    refine lv_aload_n hx hb dX11_now_76 rfl (lv_at hl 0 rfl) ?_
    refine va_get (D := D) (ci := 11) (v := .ref a_t_course) (C := RX11) (T := TX11) (N := 11) hx hb hts hi_X11 hown hK hP 0 rfl rfl 3 (by decide) (hts (.fieldLink RX11 29 "TriangleRest" "course" "LTriangleRest$Course;") (List.mem_of_getElem? (i := 1) rfl)) (fun _ h9 => h9) rfl dX11_now_77 ?_
    refine va_get (D := D) (ci := 2) (v := .int t_course_cut) (C := RX2) (T := TX2) (N := 7) hx hb hts hi_X2 hown hK hP 4 rfl rfl 3 (by decide) (hts (.fieldLink RX11 120 "TriangleRest$Course" "cut" "I") (List.mem_of_getElem? (i := 5) rfl)) (fun _ h9 => h9) rfl dX11_now_80 ?_
    cases h
    exact hret 83 ls rfl dX11_now_83
  have h := jx_f h s4
  by_cases s5 : p1 = (4 : Int32)
  · have h := jx_t h s5
    refine lv_tableIn (off := 83) (tgt := 84) hx hb dX11_now_1 (by rw [s5]; decide) (by rw [s5]; decide) (by rw [s5]; rfl) (by decide) ?_
    refine lv_aload_n hx hb dX11_now_84 rfl (lv_at hl 0 rfl) ?_
    refine va_get (D := D) (ci := 11) (v := .ref a_t_course) (C := RX11) (T := TX11) (N := 11) hx hb hts hi_X11 hown hK hP 0 rfl rfl 3 (by decide) (hts (.fieldLink RX11 29 "TriangleRest" "course" "LTriangleRest$Course;") (List.mem_of_getElem? (i := 1) rfl)) (fun _ h9 => h9) rfl dX11_now_85 ?_
    refine va_get (D := D) (ci := 2) (v := .int t_course_struck) (C := RX2) (T := TX2) (N := 7) hx hb hts hi_X2 hown hK hP 4 rfl rfl 4 (by decide) (hts (.fieldLink RX11 162 "TriangleRest$Course" "struck" "Z") (List.mem_of_getElem? (i := 6) rfl)) (fun _ h9 => h9) rfl dX11_now_88 ?_
    obtain ⟨r6, e7, h⟩ := jx_b1_of h
    refine jx_cS (o := some (.int r6)) (As := [.int t_course_struck]) (rest := []) ⟨hx, hb, hml, hown, hts⟩ (ct_X11_oneIf l t_course_struck r6 e7) (va_cwS 1 hts gX11_now_X11_oneIf rfl rfl rfl (by decide +kernel) ⟨Nat.le_of_ble_eq_true rfl, Nat.le_of_ble_eq_true rfl⟩) rfl hl.1 rfl (Nat.le_of_ble_eq_true rfl) dX11_now_91 ⟨Nat.zero_le _, Nat.zero_le _⟩ ?_
    cases h
    exact hret 94 ls rfl dX11_now_94
  have h := jx_f h s5
  by_cases s8 : p1 = (5 : Int32)
  · have h := jx_t h s8
    refine lv_tableIn (off := 94) (tgt := 95) hx hb dX11_now_1 (by rw [s8]; decide) (by rw [s8]; decide) (by rw [s8]; rfl) (by decide) ?_
    refine lv_aload_n hx hb dX11_now_95 rfl (lv_at hl 0 rfl) ?_
    refine va_get (D := D) (ci := 11) (v := .ref a_t_score) (C := RX11) (T := TX11) (N := 11) hx hb hts hi_X11 hown hK hP 0 rfl rfl 1 (by decide) (hts (.fieldLink RX11 19 "TriangleRest" "score" "LTriangleRest$Score;") (List.mem_of_getElem? (i := 7) rfl)) (fun _ h9 => h9) rfl dX11_now_96 ?_
    refine lv_aload_n hx hb dX11_now_99 rfl (lv_at hl 0 rfl) ?_
    refine va_get (D := D) (ci := 11) (v := .ref a_t_course) (C := RX11) (T := TX11) (N := 11) hx hb hts hi_X11 hown hK hP 0 rfl rfl 3 (by decide) (hts (.fieldLink RX11 29 "TriangleRest" "course" "LTriangleRest$Course;") (List.mem_of_getElem? (i := 1) rfl)) (fun _ h9 => h9) rfl dX11_now_100 ?_
    refine va_get (D := D) (ci := 2) (v := .int t_course_cut) (C := RX2) (T := TX2) (N := 7) hx hb hts hi_X2 hown hK hP 4 rfl rfl 3 (by decide) (hts (.fieldLink RX11 120 "TriangleRest$Course" "cut" "I") (List.mem_of_getElem? (i := 5) rfl)) (fun _ h9 => h9) rfl dX11_now_103 ?_
    obtain ⟨r9, e10, h⟩ := jx_b1_of h
    refine jx_cV (o := some (.int r9)) (As := [.int t_course_cut]) (rest := []) (b := a_t_score) ⟨hx, hb, hml, hown, hts⟩ (ct_X6_barsWith l D cI cZ cO a_t_score a_t_score_lengths a_t_score_times a_t_score_players a_t_score_minutes t_score_sections t_score_things t_score_noteTold t_score_toldSection t_score_toldBar t_score_lengths t_score_times t_course_cut r9 e10) (cwV 1 hts gX11_now_X6_barsWith rfl rfl rfl (by decide +kernel) ⟨Nat.le_of_ble_eq_true rfl, Nat.le_of_ble_eq_true rfl⟩) hK hN hP [1, 2, 3] rfl (va_recv hK hP (ci := 6) (q0 := 1) rfl rfl) rfl hl.1 rfl (Nat.le_of_ble_eq_true rfl) dX11_now_106 ⟨Nat.zero_le _, Nat.zero_le _⟩ ?_
    cases h
    exact hret 109 ls rfl dX11_now_109
  have h := jx_f h s8
  by_cases s11 : p1 = (6 : Int32)
  · have h := jx_t h s11
    refine lv_tableIn (off := 109) (tgt := 110) hx hb dX11_now_1 (by rw [s11]; decide) (by rw [s11]; decide) (by rw [s11]; rfl) (by decide) ?_
    refine lv_aload_n hx hb dX11_now_110 rfl (lv_at hl 0 rfl) ?_
    refine va_get (D := D) (ci := 11) (v := .ref a_t_score) (C := RX11) (T := TX11) (N := 11) hx hb hts hi_X11 hown hK hP 0 rfl rfl 1 (by decide) (hts (.fieldLink RX11 19 "TriangleRest" "score" "LTriangleRest$Score;") (List.mem_of_getElem? (i := 7) rfl)) (fun _ h9 => h9) rfl dX11_now_111 ?_
    refine va_get (D := D) (ci := 6) (v := .int t_score_sections) (C := RX6) (T := TX6) (N := 9) hx hb hts hi_X6 hown hK hP 1 rfl rfl 4 (by decide) (hts (.fieldLink RX11 183 "TriangleRest$Score" "sections" "I") (List.mem_of_getElem? (i := 8) rfl)) (fun _ h9 => h9) rfl dX11_now_114 ?_
    refine lv_if_ne (tgt := 125) hx hb dX11_now_117 (by decide) (fun c12 => ?_) (fun c12 => ?_)
    · have h := jx_f h c12
      refine lv_aload_n hx hb dX11_now_125 rfl (lv_at hl 0 rfl) ?_
      refine va_get (D := D) (ci := 11) (v := .ref a_t_score) (C := RX11) (T := TX11) (N := 11) hx hb hts hi_X11 hown hK hP 0 rfl rfl 1 (by decide) (hts (.fieldLink RX11 19 "TriangleRest" "score" "LTriangleRest$Score;") (List.mem_of_getElem? (i := 7) rfl)) (fun _ h9 => h9) rfl dX11_now_126 ?_
      refine lv_aload_n hx hb dX11_now_129 rfl (lv_at hl 0 rfl) ?_
      refine va_get (D := D) (ci := 11) (v := .ref a_t_course) (C := RX11) (T := TX11) (N := 11) hx hb hts hi_X11 hown hK hP 0 rfl rfl 3 (by decide) (hts (.fieldLink RX11 29 "TriangleRest" "course" "LTriangleRest$Course;") (List.mem_of_getElem? (i := 1) rfl)) (fun _ h9 => h9) rfl dX11_now_130 ?_
      refine va_get (D := D) (ci := 2) (v := .int t_course_cut) (C := RX2) (T := TX2) (N := 7) hx hb hts hi_X2 hown hK hP 4 rfl rfl 3 (by decide) (hts (.fieldLink RX11 120 "TriangleRest$Course" "cut" "I") (List.mem_of_getElem? (i := 5) rfl)) (fun _ h9 => h9) rfl dX11_now_133 ?_
      obtain ⟨r13, e14, h⟩ := jx_b1_of h
      refine jx_cV (o := some (.int r13)) (As := [.int t_course_cut]) (rest := []) (b := a_t_score) ⟨hx, hb, hml, hown, hts⟩ (ct_X6_noteBarWith l D cI cZ cO a_t_score a_t_score_lengths a_t_score_times a_t_score_players a_t_score_minutes t_score_sections t_score_things t_score_noteTold t_score_toldSection t_score_toldBar t_score_lengths t_score_times t_course_cut r13 e14) (cwV 1 hts gX11_now_X6_noteBarWith rfl rfl rfl (by decide +kernel) ⟨Nat.le_of_ble_eq_true rfl, Nat.le_of_ble_eq_true rfl⟩) hK hN hP [1, 2, 3] rfl (va_recv hK hP (ci := 6) (q0 := 1) rfl rfl) rfl hl.1 rfl (Nat.le_of_ble_eq_true rfl) dX11_now_136 ⟨Nat.zero_le _, Nat.zero_le _⟩ ?_
      cases h
      exact hret 139 ls rfl dX11_now_139
    · have h := jx_t h c12
      refine lv_bipush (v := (-9 : Int32)) hx hb dX11_now_120 (by decide) ?_
      refine lv_goto (tgt := 139) hx hb dX11_now_122 (by decide) ?_
      cases h
      exact hret 139 ls rfl dX11_now_139
  have h := jx_f h s11
  by_cases s15 : p1 = (7 : Int32)
  · have h := jx_t h s15
    refine lv_tableIn (off := 139) (tgt := 140) hx hb dX11_now_1 (by rw [s15]; decide) (by rw [s15]; decide) (by rw [s15]; rfl) (by decide) ?_
    refine lv_aload_n hx hb dX11_now_140 rfl (lv_at hl 0 rfl) ?_
    refine va_get (D := D) (ci := 11) (v := .ref a_t_score) (C := RX11) (T := TX11) (N := 11) hx hb hts hi_X11 hown hK hP 0 rfl rfl 1 (by decide) (hts (.fieldLink RX11 19 "TriangleRest" "score" "LTriangleRest$Score;") (List.mem_of_getElem? (i := 7) rfl)) (fun _ h9 => h9) rfl dX11_now_141 ?_
    refine va_get (D := D) (ci := 6) (v := .int t_score_sections) (C := RX6) (T := TX6) (N := 9) hx hb hts hi_X6 hown hK hP 1 rfl rfl 4 (by decide) (hts (.fieldLink RX11 183 "TriangleRest$Score" "sections" "I") (List.mem_of_getElem? (i := 8) rfl)) (fun _ h9 => h9) rfl dX11_now_144 ?_
    refine lv_if_ne (tgt := 155) hx hb dX11_now_147 (by decide) (fun c16 => ?_) (fun c16 => ?_)
    · have h := jx_f h c16
      refine lv_aload_n hx hb dX11_now_155 rfl (lv_at hl 0 rfl) ?_
      refine va_get (D := D) (ci := 11) (v := .ref a_t_score) (C := RX11) (T := TX11) (N := 11) hx hb hts hi_X11 hown hK hP 0 rfl rfl 1 (by decide) (hts (.fieldLink RX11 19 "TriangleRest" "score" "LTriangleRest$Score;") (List.mem_of_getElem? (i := 7) rfl)) (fun _ h9 => h9) rfl dX11_now_156 ?_
      refine lv_aload_n hx hb dX11_now_159 rfl (lv_at hl 0 rfl) ?_
      refine va_get (D := D) (ci := 11) (v := .ref a_t_course) (C := RX11) (T := TX11) (N := 11) hx hb hts hi_X11 hown hK hP 0 rfl rfl 3 (by decide) (hts (.fieldLink RX11 29 "TriangleRest" "course" "LTriangleRest$Course;") (List.mem_of_getElem? (i := 1) rfl)) (fun _ h9 => h9) rfl dX11_now_160 ?_
      refine va_get (D := D) (ci := 2) (v := .int t_course_cut) (C := RX2) (T := TX2) (N := 7) hx hb hts hi_X2 hown hK hP 4 rfl rfl 3 (by decide) (hts (.fieldLink RX11 120 "TriangleRest$Course" "cut" "I") (List.mem_of_getElem? (i := 5) rfl)) (fun _ h9 => h9) rfl dX11_now_163 ?_
      obtain ⟨r17, e18, h⟩ := jx_b1_of h
      refine jx_cV (o := some (.int r17)) (As := [.int t_course_cut]) (rest := []) (b := a_t_score) ⟨hx, hb, hml, hown, hts⟩ (ct_X6_noteBarWith l D cI cZ cO a_t_score a_t_score_lengths a_t_score_times a_t_score_players a_t_score_minutes t_score_sections t_score_things t_score_noteTold t_score_toldSection t_score_toldBar t_score_lengths t_score_times t_course_cut r17 e18) (cwV 1 hts gX11_now_X6_noteBarWith rfl rfl rfl (by decide +kernel) ⟨Nat.le_of_ble_eq_true rfl, Nat.le_of_ble_eq_true rfl⟩) hK hN hP [1, 2, 3] rfl (va_recv hK hP (ci := 6) (q0 := 1) rfl rfl) rfl hl.1 rfl (Nat.le_of_ble_eq_true rfl) dX11_now_166 ⟨Nat.zero_le _, Nat.zero_le _⟩ ?_
      refine lv_aload_n hx hb dX11_now_169 rfl (lv_at hl 0 rfl) ?_
      refine va_get (D := D) (ci := 11) (v := .ref a_t_course) (C := RX11) (T := TX11) (N := 11) hx hb hts hi_X11 hown hK hP 0 rfl rfl 3 (by decide) (hts (.fieldLink RX11 29 "TriangleRest" "course" "LTriangleRest$Course;") (List.mem_of_getElem? (i := 1) rfl)) (fun _ h9 => h9) rfl dX11_now_170 ?_
      refine va_get (D := D) (ci := 2) (v := .int t_course_bar) (C := RX2) (T := TX2) (N := 7) hx hb hts hi_X2 hown hK hP 4 rfl rfl 0 (by decide) (hts (.fieldLink RX11 135 "TriangleRest$Course" "bar" "I") (List.mem_of_getElem? (i := 2) rfl)) (fun _ h9 => h9) rfl dX11_now_173 ?_
      refine lv_isub hx hb dX11_now_176 ?_
      cases h
      exact hret 177 ls rfl dX11_now_177
    · have h := jx_t h c16
      refine lv_ldc (v := (-1000000 : Int32)) hx hb hown (hts (.constant RX11 166 (-1000000)) (List.mem_of_getElem? (i := 9) rfl)) dX11_now_150 ?_
      refine lv_goto (tgt := 177) hx hb dX11_now_152 (by decide) ?_
      cases h
      exact hret 177 ls rfl dX11_now_177
  have h := jx_f h s15
  by_cases s19 : p1 = (8 : Int32)
  · have h := jx_t h s19
    refine lv_tableIn (off := 177) (tgt := 178) hx hb dX11_now_1 (by rw [s19]; decide) (by rw [s19]; decide) (by rw [s19]; rfl) (by decide) ?_
    refine lv_aload_n hx hb dX11_now_178 rfl (lv_at hl 0 rfl) ?_
    refine va_get (D := D) (ci := 11) (v := .ref a_t_score) (C := RX11) (T := TX11) (N := 11) hx hb hts hi_X11 hown hK hP 0 rfl rfl 1 (by decide) (hts (.fieldLink RX11 19 "TriangleRest" "score" "LTriangleRest$Score;") (List.mem_of_getElem? (i := 7) rfl)) (fun _ h9 => h9) rfl dX11_now_179 ?_
    refine va_get (D := D) (ci := 6) (v := .int t_score_sections) (C := RX6) (T := TX6) (N := 9) hx hb hts hi_X6 hown hK hP 1 rfl rfl 4 (by decide) (hts (.fieldLink RX11 183 "TriangleRest$Score" "sections" "I") (List.mem_of_getElem? (i := 8) rfl)) (fun _ h9 => h9) rfl dX11_now_182 ?_
    refine lv_if_ne (tgt := 193) hx hb dX11_now_185 (by decide) (fun c20 => ?_) (fun c20 => ?_)
    · have h := jx_f h c20
      refine lv_aload_n hx hb dX11_now_193 rfl (lv_at hl 0 rfl) ?_
      refine va_get (D := D) (ci := 11) (v := .ref a_t_score) (C := RX11) (T := TX11) (N := 11) hx hb hts hi_X11 hown hK hP 0 rfl rfl 1 (by decide) (hts (.fieldLink RX11 19 "TriangleRest" "score" "LTriangleRest$Score;") (List.mem_of_getElem? (i := 7) rfl)) (fun _ h9 => h9) rfl dX11_now_194 ?_
      refine lv_aload_n hx hb dX11_now_197 rfl (lv_at hl 0 rfl) ?_
      refine va_get (D := D) (ci := 11) (v := .ref a_t_course) (C := RX11) (T := TX11) (N := 11) hx hb hts hi_X11 hown hK hP 0 rfl rfl 3 (by decide) (hts (.fieldLink RX11 29 "TriangleRest" "course" "LTriangleRest$Course;") (List.mem_of_getElem? (i := 1) rfl)) (fun _ h9 => h9) rfl dX11_now_198 ?_
      refine va_get (D := D) (ci := 2) (v := .int t_course_cut) (C := RX2) (T := TX2) (N := 7) hx hb hts hi_X2 hown hK hP 4 rfl rfl 3 (by decide) (hts (.fieldLink RX11 120 "TriangleRest$Course" "cut" "I") (List.mem_of_getElem? (i := 5) rfl)) (fun _ h9 => h9) rfl dX11_now_201 ?_
      refine lv_aload_n hx hb dX11_now_204 rfl (lv_at hl 0 rfl) ?_
      obtain ⟨r21, e22, h⟩ := jx_b1_of h
      refine jx_cV (o := some (.int r21)) (As := []) (rest := [.int t_course_cut, .ref a_t_score]) (b := a_t) ⟨hx, hb, hml, hown, hts⟩ (ct_X11_cuttableNow l D cI cZ cO a_t a_t_text a_t_score a_t_draft a_t_course a_t_firstImage a_t_secondImage a_t_ear a_t_packer a_t_kinds a_t_score_lengths a_t_score_times a_t_score_players a_t_score_minutes a_t_course_past t_keptImages t_traced t_score_sections t_score_things t_score_noteTold t_score_toldSection t_score_toldBar t_score_lengths t_score_times t_course_bar t_course_count t_course_waits t_course_cut t_course_struck t_course_known r21 e22) (cwV 0 hts gX11_now_X11_cuttableNow rfl rfl rfl (by decide +kernel) ⟨Nat.le_of_ble_eq_true rfl, Nat.le_of_ble_eq_true rfl⟩) hK hN hP [0, 1, 2, 3, 4] rfl (va_recv hK hP (ci := 11) (q0 := 0) rfl rfl) rfl hl.1 rfl (Nat.le_of_ble_eq_true rfl) dX11_now_205 ⟨Nat.zero_le _, Nat.zero_le _⟩ ?_
      refine lv_ior hx hb dX11_now_208 ?_
      obtain ⟨r23, e24, h⟩ := jx_b1_of h
      refine jx_cV (o := some (.int r23)) (As := [.int (t_course_cut ||| r21)]) (rest := []) (b := a_t_score) ⟨hx, hb, hml, hown, hts⟩ (ct_X6_noteBarWith l D cI cZ cO a_t_score a_t_score_lengths a_t_score_times a_t_score_players a_t_score_minutes t_score_sections t_score_things t_score_noteTold t_score_toldSection t_score_toldBar t_score_lengths t_score_times (t_course_cut ||| r21) r23 e24) (cwV 1 hts gX11_now_X6_noteBarWith rfl rfl rfl (by decide +kernel) ⟨Nat.le_of_ble_eq_true rfl, Nat.le_of_ble_eq_true rfl⟩) hK hN hP [1, 2, 3] rfl (va_recv hK hP (ci := 6) (q0 := 1) rfl rfl) rfl hl.1 rfl (Nat.le_of_ble_eq_true rfl) dX11_now_209 ⟨Nat.zero_le _, Nat.zero_le _⟩ ?_
      cases h
      exact hret 212 ls rfl dX11_now_212
    · have h := jx_t h c20
      refine lv_bipush (v := (-9 : Int32)) hx hb dX11_now_188 (by decide) ?_
      refine lv_goto (tgt := 212) hx hb dX11_now_190 (by decide) ?_
      cases h
      exact hret 212 ls rfl dX11_now_212
  have h := jx_f h s19
  refine lv_tableOut (tgt := 213) hx hb dX11_now_1 (by have e_s1 := jx_ne s1 (k := 0) (by decide); have e_s2 := jx_ne s2 (k := 1) (by decide); have e_s3 := jx_ne s3 (k := 2) (by decide); have e_s4 := jx_ne s4 (k := 3) (by decide); have e_s5 := jx_ne s5 (k := 4) (by decide); have e_s8 := jx_ne s8 (k := 5) (by decide); have e_s11 := jx_ne s11 (k := 6) (by decide); have e_s15 := jx_ne s15 (k := 7) (by decide); have e_s19 := jx_ne s19 (k := 8) (by decide); omega) (by decide) ?_
  refine lv_ldc (v := (-1000000 : Int32)) hx hb hown (hts (.constant RX11 166 (-1000000)) (List.mem_of_getElem? (i := 9) rfl)) dX11_now_213 ?_
  cases h
  exact hret 215 ls rfl dX11_now_215
