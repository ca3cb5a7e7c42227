/-! written by program (wip/whole/gen.py) out of the printed names: each method as a pure function, and its contract -/
def mi_X6_hasSection (t_sections : Int32) (p1 : Int32) : Option (Int32) := if p1 < 0 then (some ((0 : Int32))) else (if t_sections ≤ p1 then (some ((0 : Int32))) else (some ((1 : Int32))))
abbrev rm_X6_hasSection : Room := { frames := 0, cells := 0, slots := 0, locals := 0 }
set_option maxRecDepth 100000 in
set_option maxHeartbeats 4000000 in
theorem ct_X6_hasSection (l : Launch) (D : va_G) (cI cZ cO : ClassId) (a_t a_t_lengths a_t_times a_t_players a_t_minutes : Nat) (t_sections : Int32) (t_things : Int32) (t_noteTold : Int32) (t_toldSection : Int32) (t_toldBar : Int32) (p1 : Int32) (r : Int32) (hm : mi_X6_hasSection t_sections p1 = some r) : Met l yX6_hasSection wsX6_hasSection rm_X6_hasSection (va_Pc [.ref a_t, .int p1] (jx_R D (jx_T cI cZ cO) [(a_t, .inr (6, [.ref a_t_lengths, .ref a_t_times, .ref a_t_players, .ref a_t_minutes, .int t_sections, .int t_things, .int t_noteTold, .int t_toldSection, .int t_toldBar]))])) (jx_S (some (.int r))) 0 0 (fun _ => False) := by
  refine jx_metR (ty := .boolean) (own := RX6) (cc := cX6_hasSection) (maxL := 2) (by decide) rfl rfl (Nat.le_of_ble_eq_true rfl) ?_
  intro p e s m args below meth c Q ls hx hb hml hown hts hK hN hP hl hret
  have hi_X6 : ∀ w ∈ u_ws RX6 TX6 9, w ∈ wsX6_hasSection := by decide +kernel
  have hl : lv_has ls 2 [(0, .ref a_t), (1, .int p1)] := hl
  have h := hm
  unfold mi_X6_hasSection at h
  refine lv_iload_n hx hb dX6_hasSection_0 rfl (lv_at hl 1 rfl) ?_
  refine lv_if_lt (tgt := 16) hx hb dX6_hasSection_1 (by decide) (fun c1 => ?_) (fun c1 => ?_)
  · have h := jx_t h c1
    refine lv_iconst (v := (0 : Int32)) hx hb dX6_hasSection_16 (by decide) ?_
    cases h
    exact hret 17 ls rfl dX6_hasSection_17
  · have h := jx_f h c1
    refine lv_iload_n hx hb dX6_hasSection_4 rfl (lv_at hl 1 rfl) ?_
    refine lv_aload_n hx hb dX6_hasSection_5 rfl (lv_at hl 0 rfl) ?_
    refine va_get (D := D) (ci := 6) (v := .int t_sections) (C := RX6) (T := TX6) (N := 9) hx hb hts hi_X6 hown hK hP 0 rfl rfl 4 (by decide) (hts (.fieldLink RX6 24 "TriangleRest$Score" "sections" "I") (List.mem_of_getElem? (i := 1) rfl)) (fun _ h9 => h9) rfl dX6_hasSection_6 ?_
    refine lv_icmp_ge (tgt := 16) hx hb dX6_hasSection_9 (by decide) (fun c2 => ?_) (fun c2 => ?_)
    · have h := jx_t h c2
      refine lv_iconst (v := (0 : Int32)) hx hb dX6_hasSection_16 (by decide) ?_
      cases h
      exact hret 17 ls rfl dX6_hasSection_17
    · have h := jx_f h c2
      refine lv_iconst (v := (1 : Int32)) hx hb dX6_hasSection_12 (by decide) ?_
      refine lv_goto (tgt := 17) hx hb dX6_hasSection_13 (by decide) ?_
      cases h
      exact hret 17 ls rfl dX6_hasSection_17
def mi_X6_hasThing (t_things : Int32) (p1 : Int32) : Option (Int32) := if p1 < 0 then (some ((0 : Int32))) else (if t_things ≤ p1 then (some ((0 : Int32))) else (some ((1 : Int32))))
abbrev rm_X6_hasThing : Room := { frames := 0, cells := 0, slots := 0, locals := 0 }
set_option maxRecDepth 100000 in
set_option maxHeartbeats 4000000 in
theorem ct_X6_hasThing (l : Launch) (D : va_G) (cI cZ cO : ClassId) (a_t a_t_lengths a_t_times a_t_players a_t_minutes : Nat) (t_sections : Int32) (t_things : Int32) (t_noteTold : Int32) (t_toldSection : Int32) (t_toldBar : Int32) (p1 : Int32) (r : Int32) (hm : mi_X6_hasThing t_things p1 = some r) : Met l yX6_hasThing wsX6_hasThing rm_X6_hasThing (va_Pc [.ref a_t, .int p1] (jx_R D (jx_T cI cZ cO) [(a_t, .inr (6, [.ref a_t_lengths, .ref a_t_times, .ref a_t_players, .ref a_t_minutes, .int t_sections, .int t_things, .int t_noteTold, .int t_toldSection, .int t_toldBar]))])) (jx_S (some (.int r))) 0 0 (fun _ => False) := by
  refine jx_metR (ty := .boolean) (own := RX6) (cc := cX6_hasThing) (maxL := 2) (by decide) rfl rfl (Nat.le_of_ble_eq_true rfl) ?_
  intro p e s m args below meth c Q ls hx hb hml hown hts hK hN hP hl hret
  have hi_X6 : ∀ w ∈ u_ws RX6 TX6 9, w ∈ wsX6_hasThing := by decide +kernel
  have hl : lv_has ls 2 [(0, .ref a_t), (1, .int p1)] := hl
  have h := hm
  unfold mi_X6_hasThing at h
  refine lv_iload_n hx hb dX6_hasThing_0 rfl (lv_at hl 1 rfl) ?_
  refine lv_if_lt (tgt := 16) hx hb dX6_hasThing_1 (by decide) (fun c1 => ?_) (fun c1 => ?_)
  · have h := jx_t h c1
    refine lv_iconst (v := (0 : Int32)) hx hb dX6_hasThing_16 (by decide) ?_
    cases h
    exact hret 17 ls rfl dX6_hasThing_17
  · have h := jx_f h c1
    refine lv_iload_n hx hb dX6_hasThing_4 rfl (lv_at hl 1 rfl) ?_
    refine lv_aload_n hx hb dX6_hasThing_5 rfl (lv_at hl 0 rfl) ?_
    refine va_get (D := D) (ci := 6) (v := .int t_things) (C := RX6) (T := TX6) (N := 9) hx hb hts hi_X6 hown hK hP 0 rfl rfl 5 (by decide) (hts (.fieldLink RX6 28 "TriangleRest$Score" "things" "I") (List.mem_of_getElem? (i := 1) rfl)) (fun _ h9 => h9) rfl dX6_hasThing_6 ?_
    refine lv_icmp_ge (tgt := 16) hx hb dX6_hasThing_9 (by decide) (fun c2 => ?_) (fun c2 => ?_)
    · have h := jx_t h c2
      refine lv_iconst (v := (0 : Int32)) hx hb dX6_hasThing_16 (by decide) ?_
      cases h
      exact hret 17 ls rfl dX6_hasThing_17
    · have h := jx_f h c2
      refine lv_iconst (v := (1 : Int32)) hx hb dX6_hasThing_12 (by decide) ?_
      refine lv_goto (tgt := 17) hx hb dX6_hasThing_13 (by decide) ?_
      cases h
      exact hret 17 ls rfl dX6_hasThing_17
def mi_X6_lengthOf (t_sections : Int32) (t_lengths : Nat → Int32) (p1 : Int32) : Option (Int32) := jx_b1 (mi_X6_hasSection t_sections p1) fun r1 => (if r1 = 0 then (some ((0 : Int32))) else (jx_g (jx_in p1 8) (some ((t_lengths (Int32.toNatClampNeg p1))))))
abbrev rm_X6_lengthOf : Room := { frames := 1, cells := 0, slots := 0, locals := 21 }
set_option maxRecDepth 100000 in
set_option maxHeartbeats 4000000 in
theorem ct_X6_lengthOf (l : Launch) (D : va_G) (cI cZ cO : ClassId) (a_t a_t_lengths a_t_times a_t_players a_t_minutes : Nat) (t_sections : Int32) (t_things : Int32) (t_noteTold : Int32) (t_toldSection : Int32) (t_toldBar : Int32) (t_lengths : Nat → Int32) (p1 : Int32) (r : Int32) (hm : mi_X6_lengthOf t_sections t_lengths p1 = some r) : Met l yX6_lengthOf wsX6_lengthOf rm_X6_lengthOf (va_Pc [.ref a_t, .int p1] (jx_R D (jx_T cI cZ cO) [(a_t, .inr (6, [.ref a_t_lengths, .ref a_t_times, .ref a_t_players, .ref a_t_minutes, .int t_sections, .int t_things, .int t_noteTold, .int t_toldSection, .int t_toldBar])), (a_t_lengths, .inl (cI, 8, .inl t_lengths))])) (jx_S (some (.int r))) 0 0 (fun _ => False) := by
  refine jx_metR (ty := .int) (own := RX6) (cc := cX6_lengthOf) (maxL := 2) (by decide) rfl rfl (Nat.le_of_ble_eq_true rfl) ?_
  intro p e s m args below meth c Q ls hx hb hml hown hts hK hN hP hl hret
  have hi_X6 : ∀ w ∈ u_ws RX6 TX6 9, w ∈ wsX6_lengthOf := by decide +kernel
  have hl : lv_has ls 2 [(0, .ref a_t), (1, .int p1)] := hl
  have h := hm
  unfold mi_X6_lengthOf at h
  refine lv_aload_n hx hb dX6_lengthOf_0 rfl (lv_at hl 0 rfl) ?_
  refine lv_iload_n hx hb dX6_lengthOf_1 rfl (lv_at hl 1 rfl) ?_
  obtain ⟨r1, e2, h⟩ := jx_b1_of h
  refine jx_cV (o := some (.int r1)) (As := [.int p1]) (rest := []) (b := a_t) ⟨hx, hb, hml, hown, hts⟩ (ct_X6_hasSection l D cI cZ cO a_t a_t_lengths a_t_times a_t_players a_t_minutes t_sections t_things t_noteTold t_toldSection t_toldBar p1 r1 e2) (cwV 1 hts gX6_lengthOf_X6_hasSection rfl rfl rfl (by decide +kernel) ⟨Nat.le_of_ble_eq_true rfl, Nat.le_of_ble_eq_true rfl⟩) hK hN hP [0] rfl (va_recv hK hP (ci := 6) (q0 := 0) rfl rfl) rfl hl.1 rfl (Nat.le_of_ble_eq_true rfl) dX6_lengthOf_2 ⟨Nat.zero_le _, Nat.zero_le _⟩ ?_
  refine lv_if_eq (tgt := 17) hx hb dX6_lengthOf_5 (by decide) (fun c3 => ?_) (fun c3 => ?_)
  · have h := jx_t h c3
    refine lv_iconst (v := (0 : Int32)) hx hb dX6_lengthOf_17 (by decide) ?_
    cases h
    exact hret 18 ls rfl dX6_lengthOf_18
  · have h := jx_f h c3
    refine lv_aload_n hx hb dX6_lengthOf_8 rfl (lv_at hl 0 rfl) ?_
    refine va_get (D := D) (ci := 6) (v := .ref a_t_lengths) (C := RX6) (T := TX6) (N := 9) hx hb hts hi_X6 hown hK hP 0 rfl rfl 0 (by decide) (hts (.fieldLink RX6 9 "TriangleRest$Score" "lengths" "[I") (List.mem_of_getElem? (i := 1) rfl)) (fun _ h9 => h9) rfl dX6_lengthOf_9 ?_
    refine lv_iload_n hx hb dX6_lengthOf_12 rfl (lv_at hl 1 rfl) ?_
    obtain ⟨g4, h⟩ := jx_g_of h
    refine va_iald hx hb hK hP 1 0 rfl rfl (jx_in_of g4) dX6_lengthOf_13 ?_
    refine lv_goto (tgt := 18) hx hb dX6_lengthOf_14 (by decide) ?_
    cases h
    exact hret 18 ls rfl dX6_lengthOf_18
def mi_X6_timesOf (t_sections : Int32) (t_times : Nat → Int32) (p1 : Int32) : Option (Int32) := jx_b1 (mi_X6_hasSection t_sections p1) fun r1 => (if r1 = 0 then (some ((0 : Int32))) else (jx_g (jx_in p1 8) (some ((t_times (Int32.toNatClampNeg p1))))))
abbrev rm_X6_timesOf : Room := { frames := 1, cells := 0, slots := 0, locals := 21 }
set_option maxRecDepth 100000 in
set_option maxHeartbeats 4000000 in
theorem ct_X6_timesOf (l : Launch) (D : va_G) (cI cZ cO : ClassId) (a_t a_t_lengths a_t_times a_t_players a_t_minutes : Nat) (t_sections : Int32) (t_things : Int32) (t_noteTold : Int32) (t_toldSection : Int32) (t_toldBar : Int32) (t_times : Nat → Int32) (p1 : Int32) (r : Int32) (hm : mi_X6_timesOf t_sections t_times p1 = some r) : Met l yX6_timesOf wsX6_timesOf rm_X6_timesOf (va_Pc [.ref a_t, .int p1] (jx_R D (jx_T cI cZ cO) [(a_t, .inr (6, [.ref a_t_lengths, .ref a_t_times, .ref a_t_players, .ref a_t_minutes, .int t_sections, .int t_things, .int t_noteTold, .int t_toldSection, .int t_toldBar])), (a_t_times, .inl (cI, 8, .inl t_times))])) (jx_S (some (.int r))) 0 0 (fun _ => False) := by
  refine jx_metR (ty := .int) (own := RX6) (cc := cX6_timesOf) (maxL := 2) (by decide) rfl rfl (Nat.le_of_ble_eq_true rfl) ?_
  intro p e s m args below meth c Q ls hx hb hml hown hts hK hN hP hl hret
  have hi_X6 : ∀ w ∈ u_ws RX6 TX6 9, w ∈ wsX6_timesOf := by decide +kernel
  have hl : lv_has ls 2 [(0, .ref a_t), (1, .int p1)] := hl
  have h := hm
  unfold mi_X6_timesOf at h
  refine lv_aload_n hx hb dX6_timesOf_0 rfl (lv_at hl 0 rfl) ?_
  refine lv_iload_n hx hb dX6_timesOf_1 rfl (lv_at hl 1 rfl) ?_
  obtain ⟨r1, e2, h⟩ := jx_b1_of h
  refine jx_cV (o := some (.int r1)) (As := [.int p1]) (rest := []) (b := a_t) ⟨hx, hb, hml, hown, hts⟩ (ct_X6_hasSection l D cI cZ cO a_t a_t_lengths a_t_times a_t_players a_t_minutes t_sections t_things t_noteTold t_toldSection t_toldBar p1 r1 e2) (cwV 1 hts gX6_timesOf_X6_hasSection rfl rfl rfl (by decide +kernel) ⟨Nat.le_of_ble_eq_true rfl, Nat.le_of_ble_eq_true rfl⟩) hK hN hP [0] rfl (va_recv hK hP (ci := 6) (q0 := 0) rfl rfl) rfl hl.1 rfl (Nat.le_of_ble_eq_true rfl) dX6_timesOf_2 ⟨Nat.zero_le _, Nat.zero_le _⟩ ?_
  refine lv_if_eq (tgt := 17) hx hb dX6_timesOf_5 (by decide) (fun c3 => ?_) (fun c3 => ?_)
  · have h := jx_t h c3
    refine lv_iconst (v := (0 : Int32)) hx hb dX6_timesOf_17 (by decide) ?_
    cases h
    exact hret 18 ls rfl dX6_timesOf_18
  · have h := jx_f h c3
    refine lv_aload_n hx hb dX6_timesOf_8 rfl (lv_at hl 0 rfl) ?_
    refine va_get (D := D) (ci := 6) (v := .ref a_t_times) (C := RX6) (T := TX6) (N := 9) hx hb hts hi_X6 hown hK hP 0 rfl rfl 1 (by decide) (hts (.fieldLink RX6 15 "TriangleRest$Score" "times" "[I") (List.mem_of_getElem? (i := 1) rfl)) (fun _ h9 => h9) rfl dX6_timesOf_9 ?_
    refine lv_iload_n hx hb dX6_timesOf_12 rfl (lv_at hl 1 rfl) ?_
    obtain ⟨g4, h⟩ := jx_g_of h
    refine va_iald hx hb hK hP 1 0 rfl rfl (jx_in_of g4) dX6_timesOf_13 ?_
    refine lv_goto (tgt := 18) hx hb dX6_timesOf_14 (by decide) ?_
    cases h
    exact hret 18 ls rfl dX6_timesOf_18
def mi_X6_whoOf (t_sections : Int32) (t_players : Nat → Int32) (p1 : Int32) : Option (Int32) := jx_b1 (mi_X6_hasSection t_sections p1) fun r1 => (if r1 = 0 then (some ((0 : Int32))) else (jx_g (jx_in p1 8) (some ((t_players (Int32.toNatClampNeg p1))))))
abbrev rm_X6_whoOf : Room := { frames := 1, cells := 0, slots := 0, locals := 21 }
set_option maxRecDepth 100000 in
set_option maxHeartbeats 4000000 in
theorem ct_X6_whoOf (l : Launch) (D : va_G) (cI cZ cO : ClassId) (a_t a_t_lengths a_t_times a_t_players a_t_minutes : Nat) (t_sections : Int32) (t_things : Int32) (t_noteTold : Int32) (t_toldSection : Int32) (t_toldBar : Int32) (t_players : Nat → Int32) (p1 : Int32) (r : Int32) (hm : mi_X6_whoOf t_sections t_players p1 = some r) : Met l yX6_whoOf wsX6_whoOf rm_X6_whoOf (va_Pc [.ref a_t, .int p1] (jx_R D (jx_T cI cZ cO) [(a_t, .inr (6, [.ref a_t_lengths, .ref a_t_times, .ref a_t_players, .ref a_t_minutes, .int t_sections, .int t_things, .int t_noteTold, .int t_toldSection, .int t_toldBar])), (a_t_players, .inl (cI, 8, .inl t_players))])) (jx_S (some (.int r))) 0 0 (fun _ => False) := by
  refine jx_metR (ty := .int) (own := RX6) (cc := cX6_whoOf) (maxL := 2) (by decide) rfl rfl (Nat.le_of_ble_eq_true rfl) ?_
  intro p e s m args below meth c Q ls hx hb hml hown hts hK hN hP hl hret
  have hi_X6 : ∀ w ∈ u_ws RX6 TX6 9, w ∈ wsX6_whoOf := by decide +kernel
  have hl : lv_has ls 2 [(0, .ref a_t), (1, .int p1)] := hl
  have h := hm
  unfold mi_X6_whoOf at h
  refine lv_aload_n hx hb dX6_whoOf_0 rfl (lv_at hl 0 rfl) ?_
  refine lv_iload_n hx hb dX6_whoOf_1 rfl (lv_at hl 1 rfl) ?_
  obtain ⟨r1, e2, h⟩ := jx_b1_of h
  refine jx_cV (o := some (.int r1)) (As := [.int p1]) (rest := []) (b := a_t) ⟨hx, hb, hml, hown, hts⟩ (ct_X6_hasSection l D cI cZ cO a_t a_t_lengths a_t_times a_t_players a_t_minutes t_sections t_things t_noteTold t_toldSection t_toldBar p1 r1 e2) (cwV 1 hts gX6_whoOf_X6_hasSection rfl rfl rfl (by decide +kernel) ⟨Nat.le_of_ble_eq_true rfl, Nat.le_of_ble_eq_true rfl⟩) hK hN hP [0] rfl (va_recv hK hP (ci := 6) (q0 := 0) rfl rfl) rfl hl.1 rfl (Nat.le_of_ble_eq_true rfl) dX6_whoOf_2 ⟨Nat.zero_le _, Nat.zero_le _⟩ ?_
  refine lv_if_eq (tgt := 17) hx hb dX6_whoOf_5 (by decide) (fun c3 => ?_) (fun c3 => ?_)
  · have h := jx_t h c3
    refine lv_iconst (v := (0 : Int32)) hx hb dX6_whoOf_17 (by decide) ?_
    cases h
    exact hret 18 ls rfl dX6_whoOf_18
  · have h := jx_f h c3
    refine lv_aload_n hx hb dX6_whoOf_8 rfl (lv_at hl 0 rfl) ?_
    refine va_get (D := D) (ci := 6) (v := .ref a_t_players) (C := RX6) (T := TX6) (N := 9) hx hb hts hi_X6 hown hK hP 0 rfl rfl 2 (by decide) (hts (.fieldLink RX6 18 "TriangleRest$Score" "players" "[I") (List.mem_of_getElem? (i := 1) rfl)) (fun _ h9 => h9) rfl dX6_whoOf_9 ?_
    refine lv_iload_n hx hb dX6_whoOf_12 rfl (lv_at hl 1 rfl) ?_
    obtain ⟨g4, h⟩ := jx_g_of h
    refine va_iald hx hb hK hP 1 0 rfl rfl (jx_in_of g4) dX6_whoOf_13 ?_
    refine lv_goto (tgt := 18) hx hb dX6_whoOf_14 (by decide) ?_
    cases h
    exact hret 18 ls rfl dX6_whoOf_18
def mi_X6_minutesOf (t_things : Int32) (t_minutes : Nat → Int32) (p1 : Int32) : Option (Int32) := jx_b1 (mi_X6_hasThing t_things p1) fun r1 => (if r1 = 0 then (some ((0 : Int32))) else (jx_g (jx_in p1 6) (some ((t_minutes (Int32.toNatClampNeg p1))))))
abbrev rm_X6_minutesOf : Room := { frames := 1, cells := 0, slots := 0, locals := 21 }
set_option maxRecDepth 100000 in
set_option maxHeartbeats 4000000 in
theorem ct_X6_minutesOf (l : Launch) (D : va_G) (cI cZ cO : ClassId) (a_t a_t_lengths a_t_times a_t_players a_t_minutes : Nat) (t_sections : Int32) (t_things : Int32) (t_noteTold : Int32) (t_toldSection : Int32) (t_toldBar : Int32) (t_minutes : Nat → Int32) (p1 : Int32) (r : Int32) (hm : mi_X6_minutesOf t_things t_minutes p1 = some r) : Met l yX6_minutesOf wsX6_minutesOf rm_X6_minutesOf (va_Pc [.ref a_t, .int p1] (jx_R D (jx_T cI cZ cO) [(a_t, .inr (6, [.ref a_t_lengths, .ref a_t_times, .ref a_t_players, .ref a_t_minutes, .int t_sections, .int t_things, .int t_noteTold, .int t_toldSection, .int t_toldBar])), (a_t_minutes, .inl (cI, 6, .inl t_minutes))])) (jx_S (some (.int r))) 0 0 (fun _ => False) := by
  refine jx_metR (ty := .int) (own := RX6) (cc := cX6_minutesOf) (maxL := 2) (by decide) rfl rfl (Nat.le_of_ble_eq_true rfl) ?_
  intro p e s m args below meth c Q ls hx hb hml hown hts hK hN hP hl hret
  have hi_X6 : ∀ w ∈ u_ws RX6 TX6 9, w ∈ wsX6_minutesOf := by decide +kernel
  have hl : lv_has ls 2 [(0, .ref a_t), (1, .int p1)] := hl
  have h := hm
  unfold mi_X6_minutesOf at h
  refine lv_aload_n hx hb dX6_minutesOf_0 rfl (lv_at hl 0 rfl) ?_
  refine lv_iload_n hx hb dX6_minutesOf_1 rfl (lv_at hl 1 rfl) ?_
  obtain ⟨r1, e2, h⟩ := jx_b1_of h
  refine jx_cV (o := some (.int r1)) (As := [.int p1]) (rest := []) (b := a_t) ⟨hx, hb, hml, hown, hts⟩ (ct_X6_hasThing l D cI cZ cO a_t a_t_lengths a_t_times a_t_players a_t_minutes t_sections t_things t_noteTold t_toldSection t_toldBar p1 r1 e2) (cwV 1 hts gX6_minutesOf_X6_hasThing rfl rfl rfl (by decide +kernel) ⟨Nat.le_of_ble_eq_true rfl, Nat.le_of_ble_eq_true rfl⟩) hK hN hP [0] rfl (va_recv hK hP (ci := 6) (q0 := 0) rfl rfl) rfl hl.1 rfl (Nat.le_of_ble_eq_true rfl) dX6_minutesOf_2 ⟨Nat.zero_le _, Nat.zero_le _⟩ ?_
  refine lv_if_eq (tgt := 17) hx hb dX6_minutesOf_5 (by decide) (fun c3 => ?_) (fun c3 => ?_)
  · have h := jx_t h c3
    refine lv_iconst (v := (0 : Int32)) hx hb dX6_minutesOf_17 (by decide) ?_
    cases h
    exact hret 18 ls rfl dX6_minutesOf_18
  · have h := jx_f h c3
    refine lv_aload_n hx hb dX6_minutesOf_8 rfl (lv_at hl 0 rfl) ?_
    refine va_get (D := D) (ci := 6) (v := .ref a_t_minutes) (C := RX6) (T := TX6) (N := 9) hx hb hts hi_X6 hown hK hP 0 rfl rfl 3 (by decide) (hts (.fieldLink RX6 21 "TriangleRest$Score" "minutes" "[I") (List.mem_of_getElem? (i := 1) rfl)) (fun _ h9 => h9) rfl dX6_minutesOf_9 ?_
    refine lv_iload_n hx hb dX6_minutesOf_12 rfl (lv_at hl 1 rfl) ?_
    obtain ⟨g4, h⟩ := jx_g_of h
    refine va_iald hx hb hK hP 1 0 rfl rfl (jx_in_of g4) dX6_minutesOf_13 ?_
    refine lv_goto (tgt := 18) hx hb dX6_minutesOf_14 (by decide) ?_
    cases h
    exact hret 18 ls rfl dX6_minutesOf_18
def mi_X6_barsOf (t_sections : Int32) (t_lengths : Nat → Int32) (t_times : Nat → Int32) (p1 : Int32) : Option (Int32) := jx_b1 (mi_X6_hasSection t_sections p1) fun r1 => (if r1 = 0 then (some ((0 : Int32))) else (jx_g (jx_in p1 8) (jx_g (jx_in p1 8) (some (((t_lengths (Int32.toNatClampNeg p1)) * (t_times (Int32.toNatClampNeg p1))))))))
abbrev rm_X6_barsOf : Room := { frames := 1, cells := 0, slots := 0, locals := 21 }
set_option maxRecDepth 100000 in
set_option maxHeartbeats 4000000 in
theorem ct_X6_barsOf (l : Launch) (D : va_G) (cI cZ cO : ClassId) (a_t a_t_lengths a_t_times a_t_players a_t_minutes : Nat) (t_sections : Int32) (t_things : Int32) (t_noteTold : Int32) (t_toldSection : Int32) (t_toldBar : Int32) (t_lengths : Nat → Int32) (t_times : Nat → Int32) (p1 : Int32) (r : Int32) (hm : mi_X6_barsOf t_sections t_lengths t_times p1 = some r) : Met l yX6_barsOf wsX6_barsOf rm_X6_barsOf (va_Pc [.ref a_t, .int p1] (jx_R D (jx_T cI cZ cO) [(a_t, .inr (6, [.ref a_t_lengths, .ref a_t_times, .ref a_t_players, .ref a_t_minutes, .int t_sections, .int t_things, .int t_noteTold, .int t_toldSection, .int t_toldBar])), (a_t_lengths, .inl (cI, 8, .inl t_lengths)), (a_t_times, .inl (cI, 8, .inl t_times))])) (jx_S (some (.int r))) 0 0 (fun _ => False) := by
  refine jx_metR (ty := .int) (own := RX6) (cc := cX6_barsOf) (maxL := 2) (by decide) rfl rfl (Nat.le_of_ble_eq_true rfl) ?_
  intro p e s m args below meth c Q ls hx hb hml hown hts hK hN hP hl hret
  have hi_X6 : ∀ w ∈ u_ws RX6 TX6 9, w ∈ wsX6_barsOf := by decide +kernel
  have hl : lv_has ls 2 [(0, .ref a_t), (1, .int p1)] := hl
  have h := hm
  unfold mi_X6_barsOf at h
  refine lv_aload_n hx hb dX6_barsOf_0 rfl (lv_at hl 0 rfl) ?_
  refine lv_iload_n hx hb dX6_barsOf_1 rfl (lv_at hl 1 rfl) ?_
  obtain ⟨r1, e2, h⟩ := jx_b1_of h
  refine jx_cV (o := some (.int r1)) (As := [.int p1]) (rest := []) (b := a_t) ⟨hx, hb, hml, hown, hts⟩ (ct_X6_hasSection l D cI cZ cO a_t a_t_lengths a_t_times a_t_players a_t_minutes t_sections t_things t_noteTold t_toldSection t_toldBar p1 r1 e2) (cwV 1 hts gX6_barsOf_X6_hasSection rfl rfl rfl (by decide +kernel) ⟨Nat.le_of_ble_eq_true rfl, Nat.le_of_ble_eq_true rfl⟩) hK hN hP [0] rfl (va_recv hK hP (ci := 6) (q0 := 0) rfl rfl) rfl hl.1 rfl (Nat.le_of_ble_eq_true rfl) dX6_barsOf_2 ⟨Nat.zero_le _, Nat.zero_le _⟩ ?_
  refine lv_if_eq (tgt := 24) hx hb dX6_barsOf_5 (by decide) (fun c3 => ?_) (fun c3 => ?_)
  · have h := jx_t h c3
    refine lv_iconst (v := (0 : Int32)) hx hb dX6_barsOf_24 (by decide) ?_
    cases h
    exact hret 25 ls rfl dX6_barsOf_25
  · have h := jx_f h c3
    refine lv_aload_n hx hb dX6_barsOf_8 rfl (lv_at hl 0 rfl) ?_
    refine va_get (D := D) (ci := 6) (v := .ref a_t_lengths) (C := RX6) (T := TX6) (N := 9) hx hb hts hi_X6 hown hK hP 0 rfl rfl 0 (by decide) (hts (.fieldLink RX6 9 "TriangleRest$Score" "lengths" "[I") (List.mem_of_getElem? (i := 1) rfl)) (fun _ h9 => h9) rfl dX6_barsOf_9 ?_
    refine lv_iload_n hx hb dX6_barsOf_12 rfl (lv_at hl 1 rfl) ?_
    obtain ⟨g4, h⟩ := jx_g_of h
    refine va_iald hx hb hK hP 1 0 rfl rfl (jx_in_of g4) dX6_barsOf_13 ?_
    refine lv_aload_n hx hb dX6_barsOf_14 rfl (lv_at hl 0 rfl) ?_
    refine va_get (D := D) (ci := 6) (v := .ref a_t_times) (C := RX6) (T := TX6) (N := 9) hx hb hts hi_X6 hown hK hP 0 rfl rfl 1 (by decide) (hts (.fieldLink RX6 15 "TriangleRest$Score" "times" "[I") (List.mem_of_getElem? (i := 2) rfl)) (fun _ h9 => h9) rfl dX6_barsOf_15 ?_
    refine lv_iload_n hx hb dX6_barsOf_18 rfl (lv_at hl 1 rfl) ?_
    obtain ⟨g5, h⟩ := jx_g_of h
    refine va_iald hx hb hK hP 2 0 rfl rfl (jx_in_of g5) dX6_barsOf_19 ?_
    refine lv_imul hx hb dX6_barsOf_20 ?_
    refine lv_goto (tgt := 25) hx hb dX6_barsOf_21 (by decide) ?_
    cases h
    exact hret 25 ls rfl dX6_barsOf_25
def mi_X6_noteSection (t_sections : Int32) (t_noteTold : Int32) (t_toldSection : Int32) : Option (Int32) := if t_noteTold = 0 then (some ((t_sections - (1 : Int32)))) else (some (t_toldSection))
abbrev rm_X6_noteSection : Room := { frames := 0, cells := 0, slots := 0, locals := 0 }
set_option maxRecDepth 100000 in
set_option maxHeartbeats 4000000 in
theorem ct_X6_noteSection (l : Launch) (D : va_G) (cI cZ cO : ClassId) (a_t a_t_lengths a_t_times a_t_players a_t_minutes : Nat) (t_sections : Int32) (t_things : Int32) (t_noteTold : Int32) (t_toldSection : Int32) (t_toldBar : Int32) (r : Int32) (hm : mi_X6_noteSection t_sections t_noteTold t_toldSection = some r) : Met l yX6_noteSection wsX6_noteSection rm_X6_noteSection (va_Pc [.ref a_t] (jx_R D (jx_T cI cZ cO) [(a_t, .inr (6, [.ref a_t_lengths, .ref a_t_times, .ref a_t_players, .ref a_t_minutes, .int t_sections, .int t_things, .int t_noteTold, .int t_toldSection, .int t_toldBar]))])) (jx_S (some (.int r))) 0 0 (fun _ => False) := by
  refine jx_metR (ty := .int) (own := RX6) (cc := cX6_noteSection) (maxL := 1) (by decide) rfl rfl (Nat.le_of_ble_eq_true rfl) ?_
  intro p e s m args below meth c Q ls hx hb hml hown hts hK hN hP hl hret
  have hi_X6 : ∀ w ∈ u_ws RX6 TX6 9, w ∈ wsX6_noteSection := by decide +kernel
  have hl : lv_has ls 1 [(0, .ref a_t)] := hl
  have h := hm
  unfold mi_X6_noteSection at h
  refine lv_aload_n hx hb dX6_noteSection_0 rfl (lv_at hl 0 rfl) ?_
  refine va_get (D := D) (ci := 6) (v := .int t_noteTold) (C := RX6) (T := TX6) (N := 9) hx hb hts hi_X6 hown hK hP 0 rfl rfl 6 (by decide) (hts (.fieldLink RX6 31 "TriangleRest$Score" "noteTold" "Z") (List.mem_of_getElem? (i := 1) rfl)) (fun _ h9 => h9) rfl dX6_noteSection_1 ?_
  refine lv_if_eq (tgt := 14) hx hb dX6_noteSection_4 (by decide) (fun c1 => ?_) (fun c1 => ?_)
  · have h := jx_t h c1
    refine lv_aload_n hx hb dX6_noteSection_14 rfl (lv_at hl 0 rfl) ?_
    refine va_get (D := D) (ci := 6) (v := .int t_sections) (C := RX6) (T := TX6) (N := 9) hx hb hts hi_X6 hown hK hP 0 rfl rfl 4 (by decide) (hts (.fieldLink RX6 24 "TriangleRest$Score" "sections" "I") (List.mem_of_getElem? (i := 3) rfl)) (fun _ h9 => h9) rfl dX6_noteSection_15 ?_
    refine lv_iconst (v := (1 : Int32)) hx hb dX6_noteSection_18 (by decide) ?_
    refine lv_isub hx hb dX6_noteSection_19 ?_
    cases h
    exact hret 20 ls rfl dX6_noteSection_20
  · have h := jx_f h c1
    refine lv_aload_n hx hb dX6_noteSection_7 rfl (lv_at hl 0 rfl) ?_
    refine va_get (D := D) (ci := 6) (v := .int t_toldSection) (C := RX6) (T := TX6) (N := 9) hx hb hts hi_X6 hown hK hP 0 rfl rfl 7 (by decide) (hts (.fieldLink RX6 35 "TriangleRest$Score" "toldSection" "I") (List.mem_of_getElem? (i := 2) rfl)) (fun _ h9 => h9) rfl dX6_noteSection_8 ?_
    refine lv_goto (tgt := 20) hx hb dX6_noteSection_11 (by decide) ?_
    cases h
    exact hret 20 ls rfl dX6_noteSection_20
def mi_X6_firstOf_b29 (k_l5 : Int32 → Int32 → Option (Int32)) (x3 : Int32) (x4 : Int32) : Option (Int32) := k_l5 x3 (x4 + 1)
def mi_X6_firstOf_l5 (t_sections : Int32) (t_lengths : Nat → Int32) (t_times : Nat → Int32) (p1 : Int32) (p2 : Int32) : Nat → Int32 → Int32 → Option (Int32)
  | 0, _, _ => none
  | n + 1, x3, x4 => if p1 ≤ x4 then (some (x3)) else (jx_b1 (mi_X11_isIn p2 x4) fun r2 => (if r2 = 0 then (jx_b1 (mi_X6_barsOf t_sections t_lengths t_times x4) fun r5 => (mi_X6_firstOf_b29 (mi_X6_firstOf_l5 t_sections t_lengths t_times p1 p2 n) (x3 + r5) x4)) else (mi_X6_firstOf_b29 (mi_X6_firstOf_l5 t_sections t_lengths t_times p1 p2 n) x3 x4)))
def mi_X6_firstOf (t_sections : Int32) (t_lengths : Nat → Int32) (t_times : Nat → Int32) (p1 : Int32) (p2 : Int32) : Option (Int32) := mi_X6_firstOf_l5 t_sections t_lengths t_times p1 p2 jx_F (0 : Int32) (0 : Int32)
abbrev rm_X6_firstOf : Room := { frames := 2, cells := 0, slots := 0, locals := 42 }
set_option maxRecDepth 100000 in
set_option maxHeartbeats 4000000 in
theorem ct_X6_firstOf (l : Launch) (D : va_G) (cI cZ cO : ClassId) (a_t a_t_lengths a_t_times a_t_players a_t_minutes : Nat) (t_sections : Int32) (t_things : Int32) (t_noteTold : Int32) (t_toldSection : Int32) (t_toldBar : Int32) (t_lengths : Nat → Int32) (t_times : Nat → Int32) (p1 : Int32) (p2 : Int32) (r : Int32) (hm : mi_X6_firstOf t_sections t_lengths t_times p1 p2 = some r) : Met l yX6_firstOf wsX6_firstOf rm_X6_firstOf (va_Pc [.ref a_t, .int p1, .int p2] (jx_R D (jx_T cI cZ cO) [(a_t, .inr (6, [.ref a_t_lengths, .ref a_t_times, .ref a_t_players, .ref a_t_minutes, .int t_sections, .int t_things, .int t_noteTold, .int t_toldSection, .int t_toldBar])), (a_t_lengths, .inl (cI, 8, .inl t_lengths)), (a_t_times, .inl (cI, 8, .inl t_times))])) (jx_S (some (.int r))) 0 0 (fun _ => False) := by
  refine jx_metR (ty := .int) (own := RX6) (cc := cX6_firstOf) (maxL := 5) (by decide) rfl rfl (Nat.le_of_ble_eq_true rfl) ?_
  intro p e s m args below meth c Q ls hx hb hml hown hts hK hN hP hl hret
  have hl : lv_has ls 5 [(0, .ref a_t), (1, .int p1), (2, .int p2)] := hl
  have bl_l5 : ∀ (n : Nat) (x3 : Int32) (x4 : Int32) (ls : Array Slot), lv_has ls 5 [(0, .ref a_t), (1, .int p1), (2, .int p2), (3, .int x3), (4, .int x4)] → mi_X6_firstOf_l5 t_sections t_lengths t_times p1 p2 n x3 x4 = some r → W p l e (headSpec wsX6_firstOf rm_X6_firstOf).room s m args below meth c s.heap [] 0 0 Q (F0 m 5 ls []) := by
    intro n
    induction n with
    | zero =>
      intro x3 x4 ls hl h
      rw [mi_X6_firstOf_l5] at h
      cases h
    | succ n_l5 ih_l5 =>
      have bl_b29 : ∀ (x3 : Int32) (x4 : Int32) (ls : Array Slot), lv_has ls 5 [(0, .ref a_t), (1, .int p1), (2, .int p2), (3, .int x3), (4, .int x4)] → mi_X6_firstOf_b29 (mi_X6_firstOf_l5 t_sections t_lengths t_times p1 p2 n_l5) x3 x4 = some r → W p l e (headSpec wsX6_firstOf rm_X6_firstOf).room s m args below meth c s.heap [] 0 0 Q (F0 m 29 ls []) := by
        intro x3 x4 ls hl h
        unfold mi_X6_firstOf_b29 at h
        refine lv_iinc (v := (x4 + 1)) (lv' := [(4, .int (x4 + 1)), (0, .ref a_t), (1, .int p1), (2, .int p2), (3, .int x3)]) hx hb dX6_firstOf_29 hl (k := 4) rfl rfl (by decide) rfl (fun ls hl => ?_)
        refine lv_goto (tgt := 5) hx hb dX6_firstOf_32 (by decide) ?_
        exact ih_l5 x3 (x4 + 1) _ (lv_sub hl [1, 2, 3, 4, 0] rfl) h
      intro x3 x4 ls hl h
      rw [mi_X6_firstOf_l5] at h
      refine lv_iload hx hb dX6_firstOf_5 (lv_at hl 4 rfl) ?_
      refine lv_iload_n hx hb dX6_firstOf_7 rfl (lv_at hl 1 rfl) ?_
      refine lv_icmp_ge (tgt := 35) hx hb dX6_firstOf_8 (by decide) (fun c1 => ?_) (fun c1 => ?_)
      · have h := jx_t h c1
        refine lv_iload_n hx hb dX6_firstOf_35 rfl (lv_at hl 3 rfl) ?_
        cases h
        exact hret 36 ls rfl dX6_firstOf_36
      · have h := jx_f h c1
        refine lv_iload_n hx hb dX6_firstOf_11 rfl (lv_at hl 2 rfl) ?_
        refine lv_iload hx hb dX6_firstOf_12 (lv_at hl 4 rfl) ?_
        obtain ⟨r2, e3, h⟩ := jx_b1_of h
        refine jx_cSN (o := some (.int r2)) (As := [.int p2, .int x4]) (rest := []) ⟨hx, hb, hml, hown, hts⟩ (ct_X11_isIn l p2 x4 r2 e3) ⟨va_cnB 2 hts gX6_firstOf_X11_isIn_n54 rfl rfl rfl (jx_Nm hN 17 rfl) (hts (.initialized RX11) (List.mem_of_getElem? (i := 2) rfl)) (by decide +kernel) ⟨Nat.le_of_ble_eq_true rfl, Nat.le_of_ble_eq_true rfl⟩, (hts (.static yX11_isIn) (List.mem_of_getElem? (i := 1) rfl)), trivial⟩ rfl hl.1 rfl (Nat.le_of_ble_eq_true rfl) dX6_firstOf_14 ⟨Nat.zero_le _, Nat.zero_le _⟩ ?_
        refine lv_if_ne (tgt := 29) hx hb dX6_firstOf_17 (by decide) (fun c4 => ?_) (fun c4 => ?_)
        · have h := jx_f h c4
          exact bl_b29 x3 x4 _ (lv_sub hl [0, 1, 2, 3, 4] rfl) h
        · have h := jx_t h c4
          refine lv_iload_n hx hb dX6_firstOf_20 rfl (lv_at hl 3 rfl) ?_
          refine lv_aload_n hx hb dX6_firstOf_21 rfl (lv_at hl 0 rfl) ?_
          refine lv_iload hx hb dX6_firstOf_22 (lv_at hl 4 rfl) ?_
          obtain ⟨r5, e6, h⟩ := jx_b1_of h
          refine jx_cV (o := some (.int r5)) (As := [.int x4]) (rest := [.int x3]) (b := a_t) ⟨hx, hb, hml, hown, hts⟩ (ct_X6_barsOf l D cI cZ cO a_t a_t_lengths a_t_times a_t_players a_t_minutes t_sections t_things t_noteTold t_toldSection t_toldBar t_lengths t_times x4 r5 e6) (cwV 1 hts gX6_firstOf_X6_barsOf rfl rfl rfl (by decide +kernel) ⟨Nat.le_of_ble_eq_true rfl, Nat.le_of_ble_eq_true rfl⟩) hK hN hP [0, 1, 2] rfl (va_recv hK hP (ci := 6) (q0 := 0) rfl rfl) rfl hl.1 rfl (Nat.le_of_ble_eq_true rfl) dX6_firstOf_24 ⟨Nat.zero_le _, Nat.zero_le _⟩ ?_
          refine lv_iadd hx hb dX6_firstOf_27 ?_
          refine lv_istore_n (lv' := [(3, .int (x3 + r5)), (0, .ref a_t), (1, .int p1), (2, .int p2), (4, .int x4)]) hx hb dX6_firstOf_28 rfl hl (by decide) rfl (fun ls hl => ?_)
          exact bl_b29 (x3 + r5) x4 _ (lv_sub hl [1, 2, 3, 0, 4] rfl) h
  have h := hm
  unfold mi_X6_firstOf at h
  refine lv_iconst (v := (0 : Int32)) hx hb dX6_firstOf_0 (by decide) ?_
  refine lv_istore_n (lv' := [(3, .int (0 : Int32)), (0, .ref a_t), (1, .int p1), (2, .int p2)]) hx hb dX6_firstOf_1 rfl hl (by decide) rfl (fun ls hl => ?_)
  refine lv_iconst (v := (0 : Int32)) hx hb dX6_firstOf_2 (by decide) ?_
  refine lv_istore (lv' := [(4, .int (0 : Int32)), (3, .int (0 : Int32)), (0, .ref a_t), (1, .int p1), (2, .int p2)]) hx hb dX6_firstOf_3 hl (by decide) rfl (fun ls hl => ?_)
  exact bl_l5 jx_F (0 : Int32) (0 : Int32) _ (lv_sub hl [2, 3, 4, 1, 0] rfl) h
def mi_X6_barsWith (t_sections : Int32) (t_lengths : Nat → Int32) (t_times : Nat → Int32) (p1 : Int32) : Option (Int32) := jx_b1 (mi_X6_firstOf t_sections t_lengths t_times t_sections p1) fun r1 => (some (r1))
abbrev rm_X6_barsWith : Room := { frames := 3, cells := 0, slots := 0, locals := 66 }
set_option maxRecDepth 100000 in
set_option maxHeartbeats 4000000 in
theorem ct_X6_barsWith (l : Launch) (D : va_G) (cI cZ cO : ClassId) (a_t a_t_lengths a_t_times a_t_players a_t_minutes : Nat) (t_sections : Int32) (t_things : Int32) (t_noteTold : Int32) (t_toldSection : Int32) (t_toldBar : Int32) (t_lengths : Nat → Int32) (t_times : Nat → Int32) (p1 : Int32) (r : Int32) (hm : mi_X6_barsWith t_sections t_lengths t_times p1 = some r) : Met l yX6_barsWith wsX6_barsWith rm_X6_barsWith (va_Pc [.ref a_t, .int p1] (jx_R D (jx_T cI cZ cO) [(a_t, .inr (6, [.ref a_t_lengths, .ref a_t_times, .ref a_t_players, .ref a_t_minutes, .int t_sections, .int t_things, .int t_noteTold, .int t_toldSection, .int t_toldBar])), (a_t_lengths, .inl (cI, 8, .inl t_lengths)), (a_t_times, .inl (cI, 8, .inl t_times))])) (jx_S (some (.int r))) 0 0 (fun _ => False) := by
  refine jx_metR (ty := .int) (own := RX6) (cc := cX6_barsWith) (maxL := 2) (by decide) rfl rfl (Nat.le_of_ble_eq_true rfl) ?_
  intro p e s m args below meth c Q ls hx hb hml hown hts hK hN hP hl hret
  have hi_X6 : ∀ w ∈ u_ws RX6 TX6 9, w ∈ wsX6_barsWith := by decide +kernel
  have hl : lv_has ls 2 [(0, .ref a_t), (1, .int p1)] := hl
  have h := hm
  unfold mi_X6_barsWith at h
  refine lv_aload_n hx hb dX6_barsWith_0 rfl (lv_at hl 0 rfl) ?_
  refine lv_aload_n hx hb dX6_barsWith_1 rfl (lv_at hl 0 rfl) ?_
  refine va_get (D := D) (ci := 6) (v := .int t_sections) (C := RX6) (T := TX6) (N := 9) hx hb hts hi_X6 hown hK hP 0 rfl rfl 4 (by decide) (hts (.fieldLink RX6 24 "TriangleRest$Score" "sections" "I") (List.mem_of_getElem? (i := 1) rfl)) (fun _ h9 => h9) rfl dX6_barsWith_2 ?_
  refine lv_iload_n hx hb dX6_barsWith_5 rfl (lv_at hl 1 rfl) ?_
  obtain ⟨r1, e2, h⟩ := jx_b1_of h
  refine jx_cV (o := some (.int r1)) (As := [.int t_sections, .int p1]) (rest := []) (b := a_t) ⟨hx, hb, hml, hown, hts⟩ (ct_X6_firstOf l D cI cZ cO a_t a_t_lengths a_t_times a_t_players a_t_minutes t_sections t_things t_noteTold t_toldSection t_toldBar t_lengths t_times t_sections p1 r1 e2) (cwV 2 hts gX6_barsWith_X6_firstOf rfl rfl rfl (by decide +kernel) ⟨Nat.le_of_ble_eq_true rfl, Nat.le_of_ble_eq_true rfl⟩) hK hN hP [0, 1, 2] rfl (va_recv hK hP (ci := 6) (q0 := 0) rfl rfl) rfl hl.1 rfl (Nat.le_of_ble_eq_true rfl) dX6_barsWith_6 ⟨Nat.zero_le _, Nat.zero_le _⟩ ?_
  cases h
  exact hret 9 ls rfl dX6_barsWith_9
def mi_X6_noteBarWith (t_sections : Int32) (t_noteTold : Int32) (t_toldSection : Int32) (t_toldBar : Int32) (t_lengths : Nat → Int32) (t_times : Nat → Int32) (p1 : Int32) : Option (Int32) := jx_b1 (mi_X6_noteSection t_sections t_noteTold t_toldSection) fun r1 => (jx_b1 (mi_X6_firstOf t_sections t_lengths t_times r1 p1) fun r3 => (jx_b1 (mi_X6_barsOf t_sections t_lengths t_times r1) fun r5 => (jx_b1 (mi_X6_lengthOf t_sections t_lengths r1) fun r7 => (some ((((r3 + r5) - r7) + t_toldBar))))))
abbrev rm_X6_noteBarWith : Room := { frames := 3, cells := 0, slots := 0, locals := 66 }
set_option maxRecDepth 100000 in
set_option maxHeartbeats 4000000 in
theorem ct_X6_noteBarWith (l : Launch) (D : va_G) (cI cZ cO : ClassId) (a_t a_t_lengths a_t_times a_t_players a_t_minutes : Nat) (t_sections : Int32) (t_things : Int32) (t_noteTold : Int32) (t_toldSection : Int32) (t_toldBar : Int32) (t_lengths : Nat → Int32) (t_times : Nat → Int32) (p1 : Int32) (r : Int32) (hm : mi_X6_noteBarWith t_sections t_noteTold t_toldSection t_toldBar t_lengths t_times p1 = some r) : Met l yX6_noteBarWith wsX6_noteBarWith rm_X6_noteBarWith (va_Pc [.ref a_t, .int p1] (jx_R D (jx_T cI cZ cO) [(a_t, .inr (6, [.ref a_t_lengths, .ref a_t_times, .ref a_t_players, .ref a_t_minutes, .int t_sections, .int t_things, .int t_noteTold, .int t_toldSection, .int t_toldBar])), (a_t_lengths, .inl (cI, 8, .inl t_lengths)), (a_t_times, .inl (cI, 8, .inl t_times))])) (jx_S (some (.int r))) 0 0 (fun _ => False) := by
  refine jx_metR (ty := .int) (own := RX6) (cc := cX6_noteBarWith) (maxL := 4) (by decide) rfl rfl (Nat.le_of_ble_eq_true rfl) ?_
  intro p e s m args below meth c Q ls hx hb hml hown hts hK hN hP hl hret
  have hi_X6 : ∀ w ∈ u_ws RX6 TX6 9, w ∈ wsX6_noteBarWith := by decide +kernel
  have hl : lv_has ls 4 [(0, .ref a_t), (1, .int p1)] := hl
  have h := hm
  unfold mi_X6_noteBarWith at h
  refine lv_aload_n hx hb dX6_noteBarWith_0 rfl (lv_at hl 0 rfl) ?_
  obtain ⟨r1, e2, h⟩ := jx_b1_of h
  refine jx_cV (o := some (.int r1)) (As := []) (rest := []) (b := a_t) ⟨hx, hb, hml, hown, hts⟩ (ct_X6_noteSection l D cI cZ cO a_t a_t_lengths a_t_times a_t_players a_t_minutes t_sections t_things t_noteTold t_toldSection t_toldBar r1 e2) (cwV 0 hts gX6_noteBarWith_X6_noteSection rfl rfl rfl (by decide +kernel) ⟨Nat.le_of_ble_eq_true rfl, Nat.le_of_ble_eq_true rfl⟩) hK hN hP [0] rfl (va_recv hK hP (ci := 6) (q0 := 0) rfl rfl) rfl hl.1 rfl (Nat.le_of_ble_eq_true rfl) dX6_noteBarWith_1 ⟨Nat.zero_le _, Nat.zero_le _⟩ ?_
  refine lv_istore_n (lv' := [(2, .int r1), (0, .ref a_t), (1, .int p1)]) hx hb dX6_noteBarWith_4 rfl hl (by decide) rfl (fun ls hl => ?_)
  refine lv_aload_n hx hb dX6_noteBarWith_5 rfl (lv_at hl 1 rfl) ?_
  refine lv_iload_n hx hb dX6_noteBarWith_6 rfl (lv_at hl 0 rfl) ?_
  refine lv_iload_n hx hb dX6_noteBarWith_7 rfl (lv_at hl 2 rfl) ?_
  obtain ⟨r3, e4, h⟩ := jx_b1_of h
  refine jx_cV (o := some (.int r3)) (As := [.int r1, .int p1]) (rest := []) (b := a_t) ⟨hx, hb, hml, hown, hts⟩ (ct_X6_firstOf l D cI cZ cO a_t a_t_lengths a_t_times a_t_players a_t_minutes t_sections t_things t_noteTold t_toldSection t_toldBar t_lengths t_times r1 p1 r3 e4) (cwV 2 hts gX6_noteBarWith_X6_firstOf rfl rfl rfl (by decide +kernel) ⟨Nat.le_of_ble_eq_true rfl, Nat.le_of_ble_eq_true rfl⟩) hK hN hP [0, 1, 2] rfl (va_recv hK hP (ci := 6) (q0 := 0) rfl rfl) rfl hl.1 rfl (Nat.le_of_ble_eq_true rfl) dX6_noteBarWith_8 ⟨Nat.zero_le _, Nat.zero_le _⟩ ?_
  refine lv_aload_n hx hb dX6_noteBarWith_11 rfl (lv_at hl 1 rfl) ?_
  refine lv_iload_n hx hb dX6_noteBarWith_12 rfl (lv_at hl 0 rfl) ?_
  obtain ⟨r5, e6, h⟩ := jx_b1_of h
  refine jx_cV (o := some (.int r5)) (As := [.int r1]) (rest := [.int r3]) (b := a_t) ⟨hx, hb, hml, hown, hts⟩ (ct_X6_barsOf l D cI cZ cO a_t a_t_lengths a_t_times a_t_players a_t_minutes t_sections t_things t_noteTold t_toldSection t_toldBar t_lengths t_times r1 r5 e6) (cwV 1 hts gX6_noteBarWith_X6_barsOf rfl rfl rfl (by decide +kernel) ⟨Nat.le_of_ble_eq_true rfl, Nat.le_of_ble_eq_true rfl⟩) hK hN hP [0, 1, 2] rfl (va_recv hK hP (ci := 6) (q0 := 0) rfl rfl) rfl hl.1 rfl (Nat.le_of_ble_eq_true rfl) dX6_noteBarWith_13 ⟨Nat.zero_le _, Nat.zero_le _⟩ ?_
  refine lv_iadd hx hb dX6_noteBarWith_16 ?_
  refine lv_aload_n hx hb dX6_noteBarWith_17 rfl (lv_at hl 1 rfl) ?_
  refine lv_iload_n hx hb dX6_noteBarWith_18 rfl (lv_at hl 0 rfl) ?_
  obtain ⟨r7, e8, h⟩ := jx_b1_of h
  refine jx_cV (o := some (.int r7)) (As := [.int r1]) (rest := [.int (r3 + r5)]) (b := a_t) ⟨hx, hb, hml, hown, hts⟩ (ct_X6_lengthOf l D cI cZ cO a_t a_t_lengths a_t_times a_t_players a_t_minutes t_sections t_things t_noteTold t_toldSection t_toldBar t_lengths r1 r7 e8) (cwV 1 hts gX6_noteBarWith_X6_lengthOf rfl rfl rfl (by decide +kernel) ⟨Nat.le_of_ble_eq_true rfl, Nat.le_of_ble_eq_true rfl⟩) hK hN hP [0, 1] rfl (va_recv hK hP (ci := 6) (q0 := 0) rfl rfl) rfl hl.1 rfl (Nat.le_of_ble_eq_true rfl) dX6_noteBarWith_19 ⟨Nat.zero_le _, Nat.zero_le _⟩ ?_
  refine lv_isub hx hb dX6_noteBarWith_22 ?_
  refine lv_istore_n (lv' := [(3, .int ((r3 + r5) - r7)), (2, .int r1), (0, .ref a_t), (1, .int p1)]) hx hb dX6_noteBarWith_23 rfl hl (by decide) rfl (fun ls hl => ?_)
  refine lv_iload_n hx hb dX6_noteBarWith_24 rfl (lv_at hl 0 rfl) ?_
  refine lv_aload_n hx hb dX6_noteBarWith_25 rfl (lv_at hl 2 rfl) ?_
  refine va_get (D := D) (ci := 6) (v := .int t_toldBar) (C := RX6) (T := TX6) (N := 9) hx hb hts hi_X6 hown hK hP 0 rfl rfl 8 (by decide) (hts (.fieldLink RX6 38 "TriangleRest$Score" "toldBar" "I") (List.mem_of_getElem? (i := 1) rfl)) (fun _ h9 => h9) rfl dX6_noteBarWith_26 ?_
  refine lv_iadd hx hb dX6_noteBarWith_29 ?_
  cases h
  exact hret 30 ls rfl dX6_noteBarWith_30
def mi_X6_sectionAt_b40 (k_l5 : Int32 → Int32 → Option (Int32)) (x3 : Int32) (x4 : Int32) : Option (Int32) := k_l5 x3 (x4 + 1)
def mi_X6_sectionAt_l5 (t_sections : Int32) (t_lengths : Nat → Int32) (t_times : Nat → Int32) (p1 : Int32) (p2 : Int32) : Nat → Int32 → Int32 → Option (Int32)
  | 0, _, _ => none
  | n + 1, x3, x4 => if t_sections ≤ x4 then (some ((-9 : Int32))) else (jx_b1 (mi_X11_isIn p2 x4) fun r2 => (if r2 = 0 then (jx_b1 (mi_X6_barsOf t_sections t_lengths t_times x4) fun r5 => (if (x3 + r5) ≤ p1 then (mi_X6_sectionAt_b40 (mi_X6_sectionAt_l5 t_sections t_lengths t_times p1 p2 n) (x3 + r5) x4) else (some (x4)))) else (mi_X6_sectionAt_b40 (mi_X6_sectionAt_l5 t_sections t_lengths t_times p1 p2 n) x3 x4)))
def mi_X6_sectionAt (t_sections : Int32) (t_lengths : Nat → Int32) (t_times : Nat → Int32) (p1 : Int32) (p2 : Int32) : Option (Int32) := mi_X6_sectionAt_l5 t_sections t_lengths t_times p1 p2 jx_F (0 : Int32) (0 : Int32)
abbrev rm_X6_sectionAt : Room := { frames := 2, cells := 0, slots := 0, locals := 42 }
set_option maxRecDepth 100000 in
set_option maxHeartbeats 4000000 in
theorem ct_X6_sectionAt (l : Launch) (D : va_G) (cI cZ cO : ClassId) (a_t a_t_lengths a_t_times a_t_players a_t_minutes : Nat) (t_sections : Int32) (t_things : Int32) (t_noteTold : Int32) (t_toldSection : Int32) (t_toldBar : Int32) (t_lengths : Nat → Int32) (t_times : Nat → Int32) (p1 : Int32) (p2 : Int32) (r : Int32) (hm : mi_X6_sectionAt t_sections t_lengths t_times p1 p2 = some r) : Met l yX6_sectionAt wsX6_sectionAt rm_X6_sectionAt (va_Pc [.ref a_t, .int p1, .int p2] (jx_R D (jx_T cI cZ cO) [(a_t, .inr (6, [.ref a_t_lengths, .ref a_t_times, .ref a_t_players, .ref a_t_minutes, .int t_sections, .int t_things, .int t_noteTold, .int t_toldSection, .int t_toldBar])), (a_t_lengths, .inl (cI, 8, .inl t_lengths)), (a_t_times, .inl (cI, 8, .inl t_times))])) (jx_S (some (.int r))) 0 0 (fun _ => False) := by
  refine jx_metR (ty := .int) (own := RX6) (cc := cX6_sectionAt) (maxL := 5) (by decide) rfl rfl (Nat.le_of_ble_eq_true rfl) ?_
  intro p e s m args below meth c Q ls hx hb hml hown hts hK hN hP hl hret
  have hi_X6 : ∀ w ∈ u_ws RX6 TX6 9, w ∈ wsX6_sectionAt := by decide +kernel
  have hl : lv_has ls 5 [(0, .ref a_t), (1, .int p1), (2, .int p2)] := hl
  have bl_l5 : ∀ (n : Nat) (x3 : Int32) (x4 : Int32) (ls : Array Slot), lv_has ls 5 [(0, .ref a_t), (1, .int p1), (2, .int p2), (3, .int x3), (4, .int x4)] → mi_X6_sectionAt_l5 t_sections t_lengths t_times p1 p2 n x3 x4 = some r → W p l e (headSpec wsX6_sectionAt rm_X6_sectionAt).room s m args below meth c s.heap [] 0 0 Q (F0 m 5 ls []) := by
    intro n
    induction n with
    | zero =>
      intro x3 x4 ls hl h
      rw [mi_X6_sectionAt_l5] at h
      cases h
    | succ n_l5 ih_l5 =>
      have bl_b40 : ∀ (x3 : Int32) (x4 : Int32) (ls : Array Slot), lv_has ls 5 [(0, .ref a_t), (1, .int p1), (2, .int p2), (3, .int x3), (4, .int x4)] → mi_X6_sectionAt_b40 (mi_X6_sectionAt_l5 t_sections t_lengths t_times p1 p2 n_l5) x3 x4 = some r → W p l e (headSpec wsX6_sectionAt rm_X6_sectionAt).room s m args below meth c s.heap [] 0 0 Q (F0 m 40 ls []) := by
        intro x3 x4 ls hl h
        unfold mi_X6_sectionAt_b40 at h
        refine lv_iinc (v := (x4 + 1)) (lv' := [(4, .int (x4 + 1)), (0, .ref a_t), (1, .int p1), (2, .int p2), (3, .int x3)]) hx hb dX6_sectionAt_40 hl (k := 4) rfl rfl (by decide) rfl (fun ls hl => ?_)
        refine lv_goto (tgt := 5) hx hb dX6_sectionAt_43 (by decide) ?_
        exact ih_l5 x3 (x4 + 1) _ (lv_sub hl [1, 2, 3, 4, 0] rfl) h
      intro x3 x4 ls hl h
      rw [mi_X6_sectionAt_l5] at h
      refine lv_iload hx hb dX6_sectionAt_5 (lv_at hl 4 rfl) ?_
      refine lv_aload_n hx hb dX6_sectionAt_7 rfl (lv_at hl 0 rfl) ?_
      refine va_get (D := D) (ci := 6) (v := .int t_sections) (C := RX6) (T := TX6) (N := 9) hx hb hts hi_X6 hown hK hP 0 rfl rfl 4 (by decide) (hts (.fieldLink RX6 24 "TriangleRest$Score" "sections" "I") (List.mem_of_getElem? (i := 1) rfl)) (fun _ h9 => h9) rfl dX6_sectionAt_8 ?_
      refine lv_icmp_ge (tgt := 46) hx hb dX6_sectionAt_11 (by decide) (fun c1 => ?_) (fun c1 => ?_)
      · have h := jx_t h c1
        refine lv_bipush (v := (-9 : Int32)) hx hb dX6_sectionAt_46 (by decide) ?_
        cases h
        exact hret 48 ls rfl dX6_sectionAt_48
      · have h := jx_f h c1
        refine lv_iload_n hx hb dX6_sectionAt_14 rfl (lv_at hl 2 rfl) ?_
        refine lv_iload hx hb dX6_sectionAt_15 (lv_at hl 4 rfl) ?_
        obtain ⟨r2, e3, h⟩ := jx_b1_of h
        refine jx_cSN (o := some (.int r2)) (As := [.int p2, .int x4]) (rest := []) ⟨hx, hb, hml, hown, hts⟩ (ct_X11_isIn l p2 x4 r2 e3) ⟨va_cnB 2 hts gX6_sectionAt_X11_isIn_n54 rfl rfl rfl (jx_Nm hN 17 rfl) (hts (.initialized RX11) (List.mem_of_getElem? (i := 3) rfl)) (by decide +kernel) ⟨Nat.le_of_ble_eq_true rfl, Nat.le_of_ble_eq_true rfl⟩, (hts (.static yX11_isIn) (List.mem_of_getElem? (i := 2) rfl)), trivial⟩ rfl hl.1 rfl (Nat.le_of_ble_eq_true rfl) dX6_sectionAt_17 ⟨Nat.zero_le _, Nat.zero_le _⟩ ?_
        refine lv_if_ne (tgt := 40) hx hb dX6_sectionAt_20 (by decide) (fun c4 => ?_) (fun c4 => ?_)
        · have h := jx_f h c4
          exact bl_b40 x3 x4 _ (lv_sub hl [0, 1, 2, 3, 4] rfl) h
        · have h := jx_t h c4
          refine lv_iload_n hx hb dX6_sectionAt_23 rfl (lv_at hl 3 rfl) ?_
          refine lv_aload_n hx hb dX6_sectionAt_24 rfl (lv_at hl 0 rfl) ?_
          refine lv_iload hx hb dX6_sectionAt_25 (lv_at hl 4 rfl) ?_
          obtain ⟨r5, e6, h⟩ := jx_b1_of h
          refine jx_cV (o := some (.int r5)) (As := [.int x4]) (rest := [.int x3]) (b := a_t) ⟨hx, hb, hml, hown, hts⟩ (ct_X6_barsOf l D cI cZ cO a_t a_t_lengths a_t_times a_t_players a_t_minutes t_sections t_things t_noteTold t_toldSection t_toldBar t_lengths t_times x4 r5 e6) (cwV 1 hts gX6_sectionAt_X6_barsOf rfl rfl rfl (by decide +kernel) ⟨Nat.le_of_ble_eq_true rfl, Nat.le_of_ble_eq_true rfl⟩) hK hN hP [0, 1, 2] rfl (va_recv hK hP (ci := 6) (q0 := 0) rfl rfl) rfl hl.1 rfl (Nat.le_of_ble_eq_true rfl) dX6_sectionAt_27 ⟨Nat.zero_le _, Nat.zero_le _⟩ ?_
          refine lv_iadd hx hb dX6_sectionAt_30 ?_
          refine lv_istore_n (lv' := [(3, .int (x3 + r5)), (0, .ref a_t), (1, .int p1), (2, .int p2), (4, .int x4)]) hx hb dX6_sectionAt_31 rfl hl (by decide) rfl (fun ls hl => ?_)
          refine lv_iload_n hx hb dX6_sectionAt_32 rfl (lv_at hl 2 rfl) ?_
          refine lv_iload_n hx hb dX6_sectionAt_33 rfl (lv_at hl 0 rfl) ?_
          refine lv_icmp_ge (tgt := 40) hx hb dX6_sectionAt_34 (by decide) (fun c7 => ?_) (fun c7 => ?_)
          · have h := jx_t h c7
            exact bl_b40 (x3 + r5) x4 _ (lv_sub hl [1, 2, 3, 0, 4] rfl) h
          · have h := jx_f h c7
            refine lv_iload hx hb dX6_sectionAt_37 (lv_at hl 4 rfl) ?_
            cases h
            exact hret 39 ls rfl dX6_sectionAt_39
  have h := hm
  unfold mi_X6_sectionAt at h
  refine lv_iconst (v := (0 : Int32)) hx hb dX6_sectionAt_0 (by decide) ?_
  refine lv_istore_n (lv' := [(3, .int (0 : Int32)), (0, .ref a_t), (1, .int p1), (2, .int p2)]) hx hb dX6_sectionAt_1 rfl hl (by decide) rfl (fun ls hl => ?_)
  refine lv_iconst (v := (0 : Int32)) hx hb dX6_sectionAt_2 (by decide) ?_
  refine lv_istore (lv' := [(4, .int (0 : Int32)), (3, .int (0 : Int32)), (0, .ref a_t), (1, .int p1), (2, .int p2)]) hx hb dX6_sectionAt_3 hl (by decide) rfl (fun ls hl => ?_)
  exact bl_l5 jx_F (0 : Int32) (0 : Int32) _ (lv_sub hl [2, 3, 4, 1, 0] rfl) h
def mi_X6_sectionBegunBy (t_sections : Int32) (t_lengths : Nat → Int32) (t_times : Nat → Int32) (p1 : Int32) (p2 : Int32) : Option (Int32) := jx_b1 (mi_X6_sectionAt t_sections t_lengths t_times p1 p2) fun r1 => (jx_b1 (mi_X6_hasSection t_sections r1) fun r3 => (if r3 = 0 then (some ((-9 : Int32))) else (jx_b1 (mi_X6_firstOf t_sections t_lengths t_times r1 p2) fun r6 => (if r6 = p1 then (some (r1)) else (some ((-9 : Int32)))))))
abbrev rm_X6_sectionBegunBy : Room := { frames := 3, cells := 0, slots := 0, locals := 66 }
set_option maxRecDepth 100000 in
set_option maxHeartbeats 4000000 in
theorem ct_X6_sectionBegunBy (l : Launch) (D : va_G) (cI cZ cO : ClassId) (a_t a_t_lengths a_t_times a_t_players a_t_minutes : Nat) (t_sections : Int32) (t_things : Int32) (t_noteTold : Int32) (t_toldSection : Int32) (t_toldBar : Int32) (t_lengths : Nat → Int32) (t_times : Nat → Int32) (p1 : Int32) (p2 : Int32) (r : Int32) (hm : mi_X6_sectionBegunBy t_sections t_lengths t_times p1 p2 = some r) : Met l yX6_sectionBegunBy wsX6_sectionBegunBy rm_X6_sectionBegunBy (va_Pc [.ref a_t, .int p1, .int p2] (jx_R D (jx_T cI cZ cO) [(a_t, .inr (6, [.ref a_t_lengths, .ref a_t_times, .ref a_t_players, .ref a_t_minutes, .int t_sections, .int t_things, .int t_noteTold, .int t_toldSection, .int t_toldBar])), (a_t_lengths, .inl (cI, 8, .inl t_lengths)), (a_t_times, .inl (cI, 8, .inl t_times))])) (jx_S (some (.int r))) 0 0 (fun _ => False) := by
  refine jx_metR (ty := .int) (own := RX6) (cc := cX6_sectionBegunBy) (maxL := 4) (by decide) rfl rfl (Nat.le_of_ble_eq_true rfl) ?_
  intro p e s m args below meth c Q ls hx hb hml hown hts hK hN hP hl hret
  have hl : lv_has ls 4 [(0, .ref a_t), (1, .int p1), (2, .int p2)] := hl
  have h := hm
  unfold mi_X6_sectionBegunBy at h
  refine lv_aload_n hx hb dX6_sectionBegunBy_0 rfl (lv_at hl 0 rfl) ?_
  refine lv_iload_n hx hb dX6_sectionBegunBy_1 rfl (lv_at hl 1 rfl) ?_
  refine lv_iload_n hx hb dX6_sectionBegunBy_2 rfl (lv_at hl 2 rfl) ?_
  obtain ⟨r1, e2, h⟩ := jx_b1_of h
  refine jx_cV (o := some (.int r1)) (As := [.int p1, .int p2]) (rest := []) (b := a_t) ⟨hx, hb, hml, hown, hts⟩ (ct_X6_sectionAt l D cI cZ cO a_t a_t_lengths a_t_times a_t_players a_t_minutes t_sections t_things t_noteTold t_toldSection t_toldBar t_lengths t_times p1 p2 r1 e2) (cwV 2 hts gX6_sectionBegunBy_X6_sectionAt rfl rfl rfl (by decide +kernel) ⟨Nat.le_of_ble_eq_true rfl, Nat.le_of_ble_eq_true rfl⟩) hK hN hP [0, 1, 2] rfl (va_recv hK hP (ci := 6) (q0 := 0) rfl rfl) rfl hl.1 rfl (Nat.le_of_ble_eq_true rfl) dX6_sectionBegunBy_3 ⟨Nat.zero_le _, Nat.zero_le _⟩ ?_
  refine lv_istore_n (lv' := [(3, .int r1), (0, .ref a_t), (1, .int p1), (2, .int p2)]) hx hb dX6_sectionBegunBy_6 rfl hl (by decide) rfl (fun ls hl => ?_)
  refine lv_aload_n hx hb dX6_sectionBegunBy_7 rfl (lv_at hl 1 rfl) ?_
  refine lv_iload_n hx hb dX6_sectionBegunBy_8 rfl (lv_at hl 0 rfl) ?_
  obtain ⟨r3, e4, h⟩ := jx_b1_of h
  refine jx_cV (o := some (.int r3)) (As := [.int r1]) (rest := []) (b := a_t) ⟨hx, hb, hml, hown, hts⟩ (ct_X6_hasSection l D cI cZ cO a_t a_t_lengths a_t_times a_t_players a_t_minutes t_sections t_things t_noteTold t_toldSection t_toldBar r1 r3 e4) (cwV 1 hts gX6_sectionBegunBy_X6_hasSection rfl rfl rfl (by decide +kernel) ⟨Nat.le_of_ble_eq_true rfl, Nat.le_of_ble_eq_true rfl⟩) hK hN hP [0] rfl (va_recv hK hP (ci := 6) (q0 := 0) rfl rfl) rfl hl.1 rfl (Nat.le_of_ble_eq_true rfl) dX6_sectionBegunBy_9 ⟨Nat.zero_le _, Nat.zero_le _⟩ ?_
  refine lv_if_eq (tgt := 29) hx hb dX6_sectionBegunBy_12 (by decide) (fun c5 => ?_) (fun c5 => ?_)
  · have h := jx_t h c5
    refine lv_bipush (v := (-9 : Int32)) hx hb dX6_sectionBegunBy_29 (by decide) ?_
    cases h
    exact hret 31 ls rfl dX6_sectionBegunBy_31
  · have h := jx_f h c5
    refine lv_aload_n hx hb dX6_sectionBegunBy_15 rfl (lv_at hl 1 rfl) ?_
    refine lv_iload_n hx hb dX6_sectionBegunBy_16 rfl (lv_at hl 0 rfl) ?_
    refine lv_iload_n hx hb dX6_sectionBegunBy_17 rfl (lv_at hl 3 rfl) ?_
    obtain ⟨r6, e7, h⟩ := jx_b1_of h
    refine jx_cV (o := some (.int r6)) (As := [.int r1, .int p2]) (rest := []) (b := a_t) ⟨hx, hb, hml, hown, hts⟩ (ct_X6_firstOf l D cI cZ cO a_t a_t_lengths a_t_times a_t_players a_t_minutes t_sections t_things t_noteTold t_toldSection t_toldBar t_lengths t_times r1 p2 r6 e7) (cwV 2 hts gX6_sectionBegunBy_X6_firstOf rfl rfl rfl (by decide +kernel) ⟨Nat.le_of_ble_eq_true rfl, Nat.le_of_ble_eq_true rfl⟩) hK hN hP [0, 1, 2] rfl (va_recv hK hP (ci := 6) (q0 := 0) rfl rfl) rfl hl.1 rfl (Nat.le_of_ble_eq_true rfl) dX6_sectionBegunBy_18 ⟨Nat.zero_le _, Nat.zero_le _⟩ ?_
    refine lv_iload_n hx hb dX6_sectionBegunBy_21 rfl (lv_at hl 2 rfl) ?_
    refine lv_icmp_ne (tgt := 29) hx hb dX6_sectionBegunBy_22 (by decide) (fun c8 => ?_) (fun c8 => ?_)
    · have h := jx_f h c8
      refine lv_bipush (v := (-9 : Int32)) hx hb dX6_sectionBegunBy_29 (by decide) ?_
      cases h
      exact hret 31 ls rfl dX6_sectionBegunBy_31
    · have h := jx_t h c8
      refine lv_iload_n hx hb dX6_sectionBegunBy_25 rfl (lv_at hl 0 rfl) ?_
      refine lv_goto (tgt := 31) hx hb dX6_sectionBegunBy_26 (by decide) ?_
      cases h
      exact hret 31 ls rfl dX6_sectionBegunBy_31
def mi_X6_nearestFirst_b72 (k_l7 : Int32 → Int32 → Option (Int32)) (x4 : Int32) (x5 : Int32) : Option (Int32) := k_l7 x4 (x5 + 1)
def mi_X6_nearestFirst_b68 (k_l7 : Int32 → Int32 → Option (Int32)) (x5 : Int32) (x6 : Int32) : Option (Int32) := mi_X6_nearestFirst_b72 k_l7 x6 x5
def mi_X6_nearestFirst_l7 (t_sections : Int32) (t_lengths : Nat → Int32) (t_times : Nat → Int32) (t_players : Nat → Int32) (p1 : Int32) (p2 : Int32) (p3 : Int32) : Nat → Int32 → Int32 → Option (Int32)
  | 0, _, _ => none
  | n + 1, x4, x5 => if t_sections ≤ x5 then (some (x4)) else (jx_b1 (mi_X11_isIn p3 x5) fun r2 => (if r2 = 0 then (jx_b1 (mi_X6_whoOf t_sections t_players x5) fun r5 => (if r5 = p1 then (jx_b1 (mi_X6_firstOf t_sections t_lengths t_times x5 p3) fun r8 => (if x4 = (-1000000 : Int32) then (mi_X6_nearestFirst_b68 (mi_X6_nearestFirst_l7 t_sections t_lengths t_times t_players p1 p2 p3 n) x5 r8) else (if (if 0 ≤ (x4 - p2) then (x4 - p2) else 0 - (x4 - p2)) ≤ (if 0 ≤ (r8 - p2) then (r8 - p2) else 0 - (r8 - p2)) then (mi_X6_nearestFirst_b72 (mi_X6_nearestFirst_l7 t_sections t_lengths t_times t_players p1 p2 p3 n) x4 x5) else (mi_X6_nearestFirst_b68 (mi_X6_nearestFirst_l7 t_sections t_lengths t_times t_players p1 p2 p3 n) x5 r8)))) else (mi_X6_nearestFirst_b72 (mi_X6_nearestFirst_l7 t_sections t_lengths t_times t_players p1 p2 p3 n) x4 x5))) else (mi_X6_nearestFirst_b72 (mi_X6_nearestFirst_l7 t_sections t_lengths t_times t_players p1 p2 p3 n) x4 x5)))
def mi_X6_nearestFirst (t_sections : Int32) (t_lengths : Nat → Int32) (t_times : Nat → Int32) (t_players : Nat → Int32) (p1 : Int32) (p2 : Int32) (p3 : Int32) : Option (Int32) := mi_X6_nearestFirst_l7 t_sections t_lengths t_times t_players p1 p2 p3 jx_F (-1000000 : Int32) (0 : Int32)
abbrev rm_X6_nearestFirst : Room := { frames := 3, cells := 0, slots := 0, locals := 66 }
set_option maxRecDepth 100000 in
set_option maxHeartbeats 4000000 in
theorem ct_X6_nearestFirst (l : Launch) (D : va_G) (cI cZ cO : ClassId) (a_t a_t_lengths a_t_times a_t_players a_t_minutes : Nat) (t_sections : Int32) (t_things : Int32) (t_noteTold : Int32) (t_toldSection : Int32) (t_toldBar : Int32) (t_lengths : Nat → Int32) (t_times : Nat → Int32) (t_players : Nat → Int32) (p1 : Int32) (p2 : Int32) (p3 : Int32) (r : Int32) (hm : mi_X6_nearestFirst t_sections t_lengths t_times t_players p1 p2 p3 = some r) : Met l yX6_nearestFirst wsX6_nearestFirst rm_X6_nearestFirst (va_Pc [.ref a_t, .int p1, .int p2, .int p3] (jx_R D (jx_T cI cZ cO) [(a_t, .inr (6, [.ref a_t_lengths, .ref a_t_times, .ref a_t_players, .ref a_t_minutes, .int t_sections, .int t_things, .int t_noteTold, .int t_toldSection, .int t_toldBar])), (a_t_lengths, .inl (cI, 8, .inl t_lengths)), (a_t_times, .inl (cI, 8, .inl t_times)), (a_t_players, .inl (cI, 8, .inl t_players))])) (jx_S (some (.int r))) 0 0 (fun _ => False) := by
  refine jx_metR (ty := .int) (own := RX6) (cc := cX6_nearestFirst) (maxL := 7) (by decide) rfl rfl (Nat.le_of_ble_eq_true rfl) ?_
  intro p e s m args below meth c Q ls hx hb hml hown hts hK hN hP hl hret
  have hi_X6 : ∀ w ∈ u_ws RX6 TX6 9, w ∈ wsX6_nearestFirst := by decide +kernel
  have hl : lv_has ls 7 [(0, .ref a_t), (1, .int p1), (2, .int p2), (3, .int p3)] := hl
  have bl_l7 : ∀ (n : Nat) (x4 : Int32) (x5 : Int32) (ls : Array Slot), lv_has ls 7 [(0, .ref a_t), (1, .int p1), (2, .int p2), (3, .int p3), (4, .int x4), (5, .int x5)] → mi_X6_nearestFirst_l7 t_sections t_lengths t_times t_players p1 p2 p3 n x4 x5 = some r → W p l e (headSpec wsX6_nearestFirst rm_X6_nearestFirst).room s m args below meth c s.heap [] 0 0 Q (F0 m 7 ls []) := by
    intro n
    induction n with
    | zero =>
      intro x4 x5 ls hl h
      rw [mi_X6_nearestFirst_l7] at h
      cases h
    | succ n_l7 ih_l7 =>
      have bl_b72 : ∀ (x4 : Int32) (x5 : Int32) (ls : Array Slot), lv_has ls 7 [(0, .ref a_t), (1, .int p1), (2, .int p2), (3, .int p3), (4, .int x4), (5, .int x5)] → mi_X6_nearestFirst_b72 (mi_X6_nearestFirst_l7 t_sections t_lengths t_times t_players p1 p2 p3 n_l7) x4 x5 = some r → W p l e (headSpec wsX6_nearestFirst rm_X6_nearestFirst).room s m args below meth c s.heap [] 0 0 Q (F0 m 72 ls []) := by
        intro x4 x5 ls hl h
        unfold mi_X6_nearestFirst_b72 at h
        refine lv_iinc (v := (x5 + 1)) (lv' := [(5, .int (x5 + 1)), (0, .ref a_t), (1, .int p1), (2, .int p2), (3, .int p3), (4, .int x4)]) hx hb dX6_nearestFirst_72 hl (k := 5) rfl rfl (by decide) rfl (fun ls hl => ?_)
        refine lv_goto (tgt := 7) hx hb dX6_nearestFirst_75 (by decide) ?_
        exact ih_l7 x4 (x5 + 1) _ (lv_sub hl [1, 2, 3, 4, 5, 0] rfl) h
      have bl_b68 : ∀ (x5 : Int32) (x6 : Int32) (ls : Array Slot), lv_has ls 7 [(0, .ref a_t), (1, .int p1), (2, .int p2), (3, .int p3), (5, .int x5), (6, .int x6)] → mi_X6_nearestFirst_b68 (mi_X6_nearestFirst_l7 t_sections t_lengths t_times t_players p1 p2 p3 n_l7) x5 x6 = some r → W p l e (headSpec wsX6_nearestFirst rm_X6_nearestFirst).room s m args below meth c s.heap [] 0 0 Q (F0 m 68 ls []) := by
        intro x5 x6 ls hl h
        unfold mi_X6_nearestFirst_b68 at h
        refine lv_iload hx hb dX6_nearestFirst_68 (lv_at hl 5 rfl) ?_
        refine lv_istore (lv' := [(4, .int x6), (0, .ref a_t), (1, .int p1), (2, .int p2), (3, .int p3), (5, .int x5), (6, .int x6)]) hx hb dX6_nearestFirst_70 hl (by decide) rfl (fun ls hl => ?_)
        exact bl_b72 x6 x5 _ (lv_sub hl [1, 2, 3, 4, 0, 5] rfl) h
      intro x4 x5 ls hl h
      rw [mi_X6_nearestFirst_l7] at h
      refine lv_iload hx hb dX6_nearestFirst_7 (lv_at hl 5 rfl) ?_
      refine lv_aload_n hx hb dX6_nearestFirst_9 rfl (lv_at hl 0 rfl) ?_
      refine va_get (D := D) (ci := 6) (v := .int t_sections) (C := RX6) (T := TX6) (N := 9) hx hb hts hi_X6 hown hK hP 0 rfl rfl 4 (by decide) (hts (.fieldLink RX6 24 "TriangleRest$Score" "sections" "I") (List.mem_of_getElem? (i := 2) rfl)) (fun _ h9 => h9) rfl dX6_nearestFirst_10 ?_
      refine lv_icmp_ge (tgt := 78) hx hb dX6_nearestFirst_13 (by decide) (fun c1 => ?_) (fun c1 => ?_)
      · have h := jx_t h c1
        refine lv_iload hx hb dX6_nearestFirst_78 (lv_at hl 4 rfl) ?_
        cases h
        exact hret 80 ls rfl dX6_nearestFirst_80
      · have h := jx_f h c1
        refine lv_iload_n hx hb dX6_nearestFirst_16 rfl (lv_at hl 3 rfl) ?_
        refine lv_iload hx hb dX6_nearestFirst_17 (lv_at hl 5 rfl) ?_
        obtain ⟨r2, e3, h⟩ := jx_b1_of h
        refine jx_cSN (o := some (.int r2)) (As := [.int p3, .int x5]) (rest := []) ⟨hx, hb, hml, hown, hts⟩ (ct_X11_isIn l p3 x5 r2 e3) ⟨va_cnB 2 hts gX6_nearestFirst_X11_isIn_n54 rfl rfl rfl (jx_Nm hN 17 rfl) (hts (.initialized RX11) (List.mem_of_getElem? (i := 8) rfl)) (by decide +kernel) ⟨Nat.le_of_ble_eq_true rfl, Nat.le_of_ble_eq_true rfl⟩, (hts (.static yX11_isIn) (List.mem_of_getElem? (i := 7) rfl)), trivial⟩ rfl hl.1 rfl (Nat.le_of_ble_eq_true rfl) dX6_nearestFirst_19 ⟨Nat.zero_le _, Nat.zero_le _⟩ ?_
        refine lv_if_ne (tgt := 72) hx hb dX6_nearestFirst_22 (by decide) (fun c4 => ?_) (fun c4 => ?_)
        · have h := jx_f h c4
          exact bl_b72 x4 x5 _ (lv_sub hl [0, 1, 2, 3, 4, 5] rfl) h
        · have h := jx_t h c4
          refine lv_aload_n hx hb dX6_nearestFirst_25 rfl (lv_at hl 0 rfl) ?_
          refine lv_iload hx hb dX6_nearestFirst_26 (lv_at hl 5 rfl) ?_
          obtain ⟨r5, e6, h⟩ := jx_b1_of h
          refine jx_cV (o := some (.int r5)) (As := [.int x5]) (rest := []) (b := a_t) ⟨hx, hb, hml, hown, hts⟩ (ct_X6_whoOf l D cI cZ cO a_t a_t_lengths a_t_times a_t_players a_t_minutes t_sections t_things t_noteTold t_toldSection t_toldBar t_players x5 r5 e6) (cwV 1 hts gX6_nearestFirst_X6_whoOf rfl rfl rfl (by decide +kernel) ⟨Nat.le_of_ble_eq_true rfl, Nat.le_of_ble_eq_true rfl⟩) hK hN hP [0, 3] rfl (va_recv hK hP (ci := 6) (q0 := 0) rfl rfl) rfl hl.1 rfl (Nat.le_of_ble_eq_true rfl) dX6_nearestFirst_28 ⟨Nat.zero_le _, Nat.zero_le _⟩ ?_
          refine lv_iload_n hx hb dX6_nearestFirst_31 rfl (lv_at hl 1 rfl) ?_
          refine lv_icmp_ne (tgt := 72) hx hb dX6_nearestFirst_32 (by decide) (fun c7 => ?_) (fun c7 => ?_)
          · have h := jx_f h c7
            exact bl_b72 x4 x5 _ (lv_sub hl [0, 1, 2, 3, 4, 5] rfl) h
          · have h := jx_t h c7
            refine lv_aload_n hx hb dX6_nearestFirst_35 rfl (lv_at hl 0 rfl) ?_
            refine lv_iload hx hb dX6_nearestFirst_36 (lv_at hl 5 rfl) ?_
            refine lv_iload_n hx hb dX6_nearestFirst_38 rfl (lv_at hl 3 rfl) ?_
            obtain ⟨r8, e9, h⟩ := jx_b1_of h
            refine jx_cV (o := some (.int r8)) (As := [.int x5, .int p3]) (rest := []) (b := a_t) ⟨hx, hb, hml, hown, hts⟩ (ct_X6_firstOf l D cI cZ cO a_t a_t_lengths a_t_times a_t_players a_t_minutes t_sections t_things t_noteTold t_toldSection t_toldBar t_lengths t_times x5 p3 r8 e9) (cwV 2 hts gX6_nearestFirst_X6_firstOf rfl rfl rfl (by decide +kernel) ⟨Nat.le_of_ble_eq_true rfl, Nat.le_of_ble_eq_true rfl⟩) hK hN hP [0, 1, 2] rfl (va_recv hK hP (ci := 6) (q0 := 0) rfl rfl) rfl hl.1 rfl (Nat.le_of_ble_eq_true rfl) dX6_nearestFirst_39 ⟨Nat.zero_le _, Nat.zero_le _⟩ ?_
            refine lv_istore (lv' := [(6, .int r8), (0, .ref a_t), (1, .int p1), (2, .int p2), (3, .int p3), (4, .int x4), (5, .int x5)]) hx hb dX6_nearestFirst_42 hl (by decide) rfl (fun ls hl => ?_)
            refine lv_iload hx hb dX6_nearestFirst_44 (lv_at hl 5 rfl) ?_
            refine lv_ldc (v := (-1000000 : Int32)) hx hb hown (hts (.constant RX6 76 (-1000000)) (List.mem_of_getElem? (i := 1) rfl)) dX6_nearestFirst_46 ?_
            refine lv_icmp_eq (tgt := 68) hx hb dX6_nearestFirst_48 (by decide) (fun c10 => ?_) (fun c10 => ?_)
            · have h := jx_t h c10
              exact bl_b68 x5 r8 _ (lv_sub hl [1, 2, 3, 4, 6, 0] rfl) h
            · have h := jx_f h c10
              refine lv_iload hx hb dX6_nearestFirst_51 (lv_at hl 0 rfl) ?_
              refine lv_iload_n hx hb dX6_nearestFirst_53 rfl (lv_at hl 3 rfl) ?_
              refine lv_isub hx hb dX6_nearestFirst_54 ?_
              refine va_mabs hx hb (hml.trans hl.1.symm) hown (hts (.methodLink RX6 80 Lib.Math.abs.name) (List.mem_of_getElem? (i := 3) rfl)) (hts (.static Lib.Math.abs.name) (List.mem_of_getElem? (i := 4) rfl)) (hts (.initialized "java/lang/Math") (List.mem_of_getElem? (i := 5) rfl)) (hts (.code Lib.Math.abs.name Lib.Math.abs.code 1 (some .int)) (List.mem_of_getElem? (i := 6) rfl)) (Nat.le_of_ble_eq_true rfl) (Nat.le_of_ble_eq_true rfl) (Nat.zero_le _) (Nat.zero_le _) dX6_nearestFirst_55 ?_
              refine lv_iload hx hb dX6_nearestFirst_58 (lv_at hl 5 rfl) ?_
              refine lv_iload_n hx hb dX6_nearestFirst_60 rfl (lv_at hl 3 rfl) ?_
              refine lv_isub hx hb dX6_nearestFirst_61 ?_
              refine va_mabs hx hb (hml.trans hl.1.symm) hown (hts (.methodLink RX6 80 Lib.Math.abs.name) (List.mem_of_getElem? (i := 3) rfl)) (hts (.static Lib.Math.abs.name) (List.mem_of_getElem? (i := 4) rfl)) (hts (.initialized "java/lang/Math") (List.mem_of_getElem? (i := 5) rfl)) (hts (.code Lib.Math.abs.name Lib.Math.abs.code 1 (some .int)) (List.mem_of_getElem? (i := 6) rfl)) (Nat.le_of_ble_eq_true rfl) (Nat.le_of_ble_eq_true rfl) (Nat.zero_le _) (Nat.zero_le _) dX6_nearestFirst_62 ?_
              refine lv_icmp_ge (tgt := 72) hx hb dX6_nearestFirst_65 (by decide) (fun c11 => ?_) (fun c11 => ?_)
              · have h := jx_t h c11
                exact bl_b72 x4 x5 _ (lv_sub hl [1, 2, 3, 4, 5, 6] rfl) h
              · have h := jx_f h c11
                exact bl_b68 x5 r8 _ (lv_sub hl [1, 2, 3, 4, 6, 0] rfl) h
  have h := hm
  unfold mi_X6_nearestFirst at h
  refine lv_ldc (v := (-1000000 : Int32)) hx hb hown (hts (.constant RX6 76 (-1000000)) (List.mem_of_getElem? (i := 1) rfl)) dX6_nearestFirst_0 ?_
  refine lv_istore (lv' := [(4, .int (-1000000 : Int32)), (0, .ref a_t), (1, .int p1), (2, .int p2), (3, .int p3)]) hx hb dX6_nearestFirst_2 hl (by decide) rfl (fun ls hl => ?_)
  refine lv_iconst (v := (0 : Int32)) hx hb dX6_nearestFirst_4 (by decide) ?_
  refine lv_istore (lv' := [(5, .int (0 : Int32)), (4, .int (-1000000 : Int32)), (0, .ref a_t), (1, .int p1), (2, .int p2), (3, .int p3)]) hx hb dX6_nearestFirst_5 hl (by decide) rfl (fun ls hl => ?_)
  exact bl_l7 jx_F (-1000000 : Int32) (0 : Int32) _ (lv_sub hl [2, 3, 4, 5, 1, 0] rfl) h
def mi_X6_canBeCut (t_sections : Int32) (t_noteTold : Int32) (t_toldSection : Int32) (t_lengths : Nat → Int32) (t_times : Nat → Int32) (p1 : Int32) (p2 : Int32) (p3 : Int32) : Option (Int32) := jx_b1 (mi_X11_isIn p2 p1) fun r1 => (if r1 = 0 then (jx_b1 (mi_X6_noteSection t_sections t_noteTold t_toldSection) fun r4 => (if p1 = r4 then (some ((0 : Int32))) else (jx_b1 (mi_X6_firstOf t_sections t_lengths t_times p1 p2) fun r7 => (if r7 < p3 then (some ((0 : Int32))) else (some ((1 : Int32))))))) else (some ((0 : Int32))))
abbrev rm_X6_canBeCut : Room := { frames := 3, cells := 0, slots := 0, locals := 66 }
set_option maxRecDepth 100000 in
set_option maxHeartbeats 4000000 in
theorem ct_X6_canBeCut (l : Launch) (D : va_G) (cI cZ cO : ClassId) (a_t a_t_lengths a_t_times a_t_players a_t_minutes : Nat) (t_sections : Int32) (t_things : Int32) (t_noteTold : Int32) (t_toldSection : Int32) (t_toldBar : Int32) (t_lengths : Nat → Int32) (t_times : Nat → Int32) (p1 : Int32) (p2 : Int32) (p3 : Int32) (r : Int32) (hm : mi_X6_canBeCut t_sections t_noteTold t_toldSection t_lengths t_times p1 p2 p3 = some r) : Met l yX6_canBeCut wsX6_canBeCut rm_X6_canBeCut (va_Pc [.ref a_t, .int p1, .int p2, .int p3] (jx_R D (jx_T cI cZ cO) [(a_t, .inr (6, [.ref a_t_lengths, .ref a_t_times, .ref a_t_players, .ref a_t_minutes, .int t_sections, .int t_things, .int t_noteTold, .int t_toldSection, .int t_toldBar])), (a_t_lengths, .inl (cI, 8, .inl t_lengths)), (a_t_times, .inl (cI, 8, .inl t_times))])) (jx_S (some (.int r))) 0 0 (fun _ => False) := by
  refine jx_metR (ty := .boolean) (own := RX6) (cc := cX6_canBeCut) (maxL := 4) (by decide) rfl rfl (Nat.le_of_ble_eq_true rfl) ?_
  intro p e s m args below meth c Q ls hx hb hml hown hts hK hN hP hl hret
  have hl : lv_has ls 4 [(0, .ref a_t), (1, .int p1), (2, .int p2), (3, .int p3)] := hl
  have h := hm
  unfold mi_X6_canBeCut at h
  refine lv_iload_n hx hb dX6_canBeCut_0 rfl (lv_at hl 2 rfl) ?_
  refine lv_iload_n hx hb dX6_canBeCut_1 rfl (lv_at hl 1 rfl) ?_
  obtain ⟨r1, e2, h⟩ := jx_b1_of h
  refine jx_cSN (o := some (.int r1)) (As := [.int p2, .int p1]) (rest := []) ⟨hx, hb, hml, hown, hts⟩ (ct_X11_isIn l p2 p1 r1 e2) ⟨va_cnB 2 hts gX6_canBeCut_X11_isIn_n54 rfl rfl rfl (jx_Nm hN 17 rfl) (hts (.initialized RX11) (List.mem_of_getElem? (i := 2) rfl)) (by decide +kernel) ⟨Nat.le_of_ble_eq_true rfl, Nat.le_of_ble_eq_true rfl⟩, (hts (.static yX11_isIn) (List.mem_of_getElem? (i := 1) rfl)), trivial⟩ rfl hl.1 rfl (Nat.le_of_ble_eq_true rfl) dX6_canBeCut_2 ⟨Nat.zero_le _, Nat.zero_le _⟩ ?_
  refine lv_if_ne (tgt := 30) hx hb dX6_canBeCut_5 (by decide) (fun c3 => ?_) (fun c3 => ?_)
  · have h := jx_f h c3
    refine lv_iconst (v := (0 : Int32)) hx hb dX6_canBeCut_30 (by decide) ?_
    cases h
    exact hret 31 ls rfl dX6_canBeCut_31
  · have h := jx_t h c3
    refine lv_iload_n hx hb dX6_canBeCut_8 rfl (lv_at hl 1 rfl) ?_
    refine lv_aload_n hx hb dX6_canBeCut_9 rfl (lv_at hl 0 rfl) ?_
    obtain ⟨r4, e5, h⟩ := jx_b1_of h
    refine jx_cV (o := some (.int r4)) (As := []) (rest := [.int p1]) (b := a_t) ⟨hx, hb, hml, hown, hts⟩ (ct_X6_noteSection l D cI cZ cO a_t a_t_lengths a_t_times a_t_players a_t_minutes t_sections t_things t_noteTold t_toldSection t_toldBar r4 e5) (cwV 0 hts gX6_canBeCut_X6_noteSection rfl rfl rfl (by decide +kernel) ⟨Nat.le_of_ble_eq_true rfl, Nat.le_of_ble_eq_true rfl⟩) hK hN hP [0] rfl (va_recv hK hP (ci := 6) (q0 := 0) rfl rfl) rfl hl.1 rfl (Nat.le_of_ble_eq_true rfl) dX6_canBeCut_10 ⟨Nat.zero_le _, Nat.zero_le _⟩ ?_
    refine lv_icmp_eq (tgt := 30) hx hb dX6_canBeCut_13 (by decide) (fun c6 => ?_) (fun c6 => ?_)
    · have h := jx_t h c6
      refine lv_iconst (v := (0 : Int32)) hx hb dX6_canBeCut_30 (by decide) ?_
      cases h
      exact hret 31 ls rfl dX6_canBeCut_31
    · have h := jx_f h c6
      refine lv_aload_n hx hb dX6_canBeCut_16 rfl (lv_at hl 0 rfl) ?_
      refine lv_iload_n hx hb dX6_canBeCut_17 rfl (lv_at hl 1 rfl) ?_
      refine lv_iload_n hx hb dX6_canBeCut_18 rfl (lv_at hl 2 rfl) ?_
      obtain ⟨r7, e8, h⟩ := jx_b1_of h
      refine jx_cV (o := some (.int r7)) (As := [.int p1, .int p2]) (rest := []) (b := a_t) ⟨hx, hb, hml, hown, hts⟩ (ct_X6_firstOf l D cI cZ cO a_t a_t_lengths a_t_times a_t_players a_t_minutes t_sections t_things t_noteTold t_toldSection t_toldBar t_lengths t_times p1 p2 r7 e8) (cwV 2 hts gX6_canBeCut_X6_firstOf rfl rfl rfl (by decide +kernel) ⟨Nat.le_of_ble_eq_true rfl, Nat.le_of_ble_eq_true rfl⟩) hK hN hP [0, 1, 2] rfl (va_recv hK hP (ci := 6) (q0 := 0) rfl rfl) rfl hl.1 rfl (Nat.le_of_ble_eq_true rfl) dX6_canBeCut_19 ⟨Nat.zero_le _, Nat.zero_le _⟩ ?_
      refine lv_iload_n hx hb dX6_canBeCut_22 rfl (lv_at hl 3 rfl) ?_
      refine lv_icmp_lt (tgt := 30) hx hb dX6_canBeCut_23 (by decide) (fun c9 => ?_) (fun c9 => ?_)
      · have h := jx_t h c9
        refine lv_iconst (v := (0 : Int32)) hx hb dX6_canBeCut_30 (by decide) ?_
        cases h
        exact hret 31 ls rfl dX6_canBeCut_31
      · have h := jx_f h c9
        refine lv_iconst (v := (1 : Int32)) hx hb dX6_canBeCut_26 (by decide) ?_
        refine lv_goto (tgt := 31) hx hb dX6_canBeCut_27 (by decide) ?_
        cases h
        exact hret 31 ls rfl dX6_canBeCut_31
def mi_X6_allCuttable_b32 (k_l5 : Int32 → Int32 → Option (Int32)) (x3 : Int32) (x4 : Int32) : Option (Int32) := k_l5 x3 (x4 + 1)
def mi_X6_allCuttable_l5 (t_sections : Int32) (t_noteTold : Int32) (t_toldSection : Int32) (t_lengths : Nat → Int32) (t_times : Nat → Int32) (p1 : Int32) (p2 : Int32) : Nat → Int32 → Int32 → Option (Int32)
  | 0, _, _ => none
  | n + 1, x3, x4 => if t_sections ≤ x4 then (some (x3)) else (jx_b1 (mi_X6_canBeCut t_sections t_noteTold t_toldSection t_lengths t_times x4 p1 p2) fun r2 => (if r2 = 0 then (mi_X6_allCuttable_b32 (mi_X6_allCuttable_l5 t_sections t_noteTold t_toldSection t_lengths t_times p1 p2 n) x3 x4) else (mi_X6_allCuttable_b32 (mi_X6_allCuttable_l5 t_sections t_noteTold t_toldSection t_lengths t_times p1 p2 n) (x3 ||| ((1 : Int32) <<< (x4 &&& 31))) x4)))
def mi_X6_allCuttable (t_sections : Int32) (t_noteTold : Int32) (t_toldSection : Int32) (t_lengths : Nat → Int32) (t_times : Nat → Int32) (p1 : Int32) (p2 : Int32) : Option (Int32) := mi_X6_allCuttable_l5 t_sections t_noteTold t_toldSection t_lengths t_times p1 p2 jx_F (0 : Int32) (0 : Int32)
abbrev rm_X6_allCuttable : Room := { frames := 4, cells := 0, slots := 0, locals := 89 }
set_option maxRecDepth 100000 in
set_option maxHeartbeats 4000000 in
theorem ct_X6_allCuttable (l : Launch) (D : va_G) (cI cZ cO : ClassId) (a_t a_t_lengths a_t_times a_t_players a_t_minutes : Nat) (t_sections : Int32) (t_things : Int32) (t_noteTold : Int32) (t_toldSection : Int32) (t_toldBar : Int32) (t_lengths : Nat → Int32) (t_times : Nat → Int32) (p1 : Int32) (p2 : Int32) (r : Int32) (hm : mi_X6_allCuttable t_sections t_noteTold t_toldSection t_lengths t_times p1 p2 = some r) : Met l yX6_allCuttable wsX6_allCuttable rm_X6_allCuttable (va_Pc [.ref a_t, .int p1, .int p2] (jx_R D (jx_T cI cZ cO) [(a_t, .inr (6, [.ref a_t_lengths, .ref a_t_times, .ref a_t_players, .ref a_t_minutes, .int t_sections, .int t_things, .int t_noteTold, .int t_toldSection, .int t_toldBar])), (a_t_lengths, .inl (cI, 8, .inl t_lengths)), (a_t_times, .inl (cI, 8, .inl t_times))])) (jx_S (some (.int r))) 0 0 (fun _ => False) := by
  refine jx_metR (ty := .int) (own := RX6) (cc := cX6_allCuttable) (maxL := 5) (by decide) rfl rfl (Nat.le_of_ble_eq_true rfl) ?_
  intro p e s m args below meth c Q ls hx hb hml hown hts hK hN hP hl hret
  have hi_X6 : ∀ w ∈ u_ws RX6 TX6 9, w ∈ wsX6_allCuttable := by decide +kernel
  have hl : lv_has ls 5 [(0, .ref a_t), (1, .int p1), (2, .int p2)] := hl
  have bl_l5 : ∀ (n : Nat) (x3 : Int32) (x4 : Int32) (ls : Array Slot), lv_has ls 5 [(0, .ref a_t), (1, .int p1), (2, .int p2), (3, .int x3), (4, .int x4)] → mi_X6_allCuttable_l5 t_sections t_noteTold t_toldSection t_lengths t_times p1 p2 n x3 x4 = some r → W p l e (headSpec wsX6_allCuttable rm_X6_allCuttable).room s m args below meth c s.heap [] 0 0 Q (F0 m 5 ls []) := by
    intro n
    induction n with
    | zero =>
      intro x3 x4 ls hl h
      rw [mi_X6_allCuttable_l5] at h
      cases h
    | succ n_l5 ih_l5 =>
      have bl_b32 : ∀ (x3 : Int32) (x4 : Int32) (ls : Array Slot), lv_has ls 5 [(0, .ref a_t), (1, .int p1), (2, .int p2), (3, .int x3), (4, .int x4)] → mi_X6_allCuttable_b32 (mi_X6_allCuttable_l5 t_sections t_noteTold t_toldSection t_lengths t_times p1 p2 n_l5) x3 x4 = some r → W p l e (headSpec wsX6_allCuttable rm_X6_allCuttable).room s m args below meth c s.heap [] 0 0 Q (F0 m 32 ls []) := by
        intro x3 x4 ls hl h
        unfold mi_X6_allCuttable_b32 at h
        refine lv_iinc (v := (x4 + 1)) (lv' := [(4, .int (x4 + 1)), (0, .ref a_t), (1, .int p1), (2, .int p2), (3, .int x3)]) hx hb dX6_allCuttable_32 hl (k := 4) rfl rfl (by decide) rfl (fun ls hl => ?_)
        refine lv_goto (tgt := 5) hx hb dX6_allCuttable_35 (by decide) ?_
        exact ih_l5 x3 (x4 + 1) _ (lv_sub hl [1, 2, 3, 4, 0] rfl) h
      intro x3 x4 ls hl h
      rw [mi_X6_allCuttable_l5] at h
      refine lv_iload hx hb dX6_allCuttable_5 (lv_at hl 4 rfl) ?_
      refine lv_aload_n hx hb dX6_allCuttable_7 rfl (lv_at hl 0 rfl) ?_
      refine va_get (D := D) (ci := 6) (v := .int t_sections) (C := RX6) (T := TX6) (N := 9) hx hb hts hi_X6 hown hK hP 0 rfl rfl 4 (by decide) (hts (.fieldLink RX6 24 "TriangleRest$Score" "sections" "I") (List.mem_of_getElem? (i := 1) rfl)) (fun _ h9 => h9) rfl dX6_allCuttable_8 ?_
      refine lv_icmp_ge (tgt := 38) hx hb dX6_allCuttable_11 (by decide) (fun c1 => ?_) (fun c1 => ?_)
      · have h := jx_t h c1
        refine lv_iload_n hx hb dX6_allCuttable_38 rfl (lv_at hl 3 rfl) ?_
        cases h
        exact hret 39 ls rfl dX6_allCuttable_39
      · have h := jx_f h c1
        refine lv_aload_n hx hb dX6_allCuttable_14 rfl (lv_at hl 0 rfl) ?_
        refine lv_iload hx hb dX6_allCuttable_15 (lv_at hl 4 rfl) ?_
        refine lv_iload_n hx hb dX6_allCuttable_17 rfl (lv_at hl 1 rfl) ?_
        refine lv_iload_n hx hb dX6_allCuttable_18 rfl (lv_at hl 2 rfl) ?_
        obtain ⟨r2, e3, h⟩ := jx_b1_of h
        refine jx_cV (o := some (.int r2)) (As := [.int x4, .int p1, .int p2]) (rest := []) (b := a_t) ⟨hx, hb, hml, hown, hts⟩ (ct_X6_canBeCut l D cI cZ cO a_t a_t_lengths a_t_times a_t_players a_t_minutes t_sections t_things t_noteTold t_toldSection t_toldBar t_lengths t_times x4 p1 p2 r2 e3) (cwV 3 hts gX6_allCuttable_X6_canBeCut rfl rfl rfl (by decide +kernel) ⟨Nat.le_of_ble_eq_true rfl, Nat.le_of_ble_eq_true rfl⟩) hK hN hP [0, 1, 2] rfl (va_recv hK hP (ci := 6) (q0 := 0) rfl rfl) rfl hl.1 rfl (Nat.le_of_ble_eq_true rfl) dX6_allCuttable_19 ⟨Nat.zero_le _, Nat.zero_le _⟩ ?_
        refine lv_if_eq (tgt := 32) hx hb dX6_allCuttable_22 (by decide) (fun c4 => ?_) (fun c4 => ?_)
        · have h := jx_t h c4
          exact bl_b32 x3 x4 _ (lv_sub hl [0, 1, 2, 3, 4] rfl) h
        · have h := jx_f h c4
          refine lv_iload_n hx hb dX6_allCuttable_25 rfl (lv_at hl 3 rfl) ?_
          refine lv_iconst (v := (1 : Int32)) hx hb dX6_allCuttable_26 (by decide) ?_
          refine lv_iload hx hb dX6_allCuttable_27 (lv_at hl 4 rfl) ?_
          refine lv_ishl hx hb dX6_allCuttable_29 ?_
          refine lv_ior hx hb dX6_allCuttable_30 ?_
          refine lv_istore_n (lv' := [(3, .int (x3 ||| ((1 : Int32) <<< (x4 &&& 31)))), (0, .ref a_t), (1, .int p1), (2, .int p2), (4, .int x4)]) hx hb dX6_allCuttable_31 rfl hl (by decide) rfl (fun ls hl => ?_)
          exact bl_b32 (x3 ||| ((1 : Int32) <<< (x4 &&& 31))) x4 _ (lv_sub hl [1, 2, 3, 0, 4] rfl) h
  have h := hm
  unfold mi_X6_allCuttable at h
  refine lv_iconst (v := (0 : Int32)) hx hb dX6_allCuttable_0 (by decide) ?_
  refine lv_istore_n (lv' := [(3, .int (0 : Int32)), (0, .ref a_t), (1, .int p1), (2, .int p2)]) hx hb dX6_allCuttable_1 rfl hl (by decide) rfl (fun ls hl => ?_)
  refine lv_iconst (v := (0 : Int32)) hx hb dX6_allCuttable_2 (by decide) ?_
  refine lv_istore (lv' := [(4, .int (0 : Int32)), (3, .int (0 : Int32)), (0, .ref a_t), (1, .int p1), (2, .int p2)]) hx hb dX6_allCuttable_3 hl (by decide) rfl (fun ls hl => ?_)
  exact bl_l5 jx_F (0 : Int32) (0 : Int32) _ (lv_sub hl [2, 3, 4, 1, 0] rfl) h
def mi_X6_weightOf_b46 (k_l6 : Int32 → Int32 → Option (Int32)) (x4 : Int32) (x5 : Int32) : Option (Int32) := k_l6 x4 (x5 + 1)
def mi_X6_weightOf_b43 (k_l6 : Int32 → Int32 → Option (Int32)) (x5 : Int32) (k0 : Int32) (k1 : Int32) : Option (Int32) := mi_X6_weightOf_b46 k_l6 (k0 * k1) x5
def mi_X6_weightOf_l6 (t_sections : Int32) (p1 : Int32) (p2 : Int32) (p3 : Int32) : Nat → Int32 → Int32 → Option (Int32)
  | 0, _, _ => none
  | n + 1, x4, x5 => if t_sections ≤ x5 then (some (x4)) else (jx_b1 (mi_X11_isIn p2 x5) fun r2 => (if r2 = 0 then (mi_X6_weightOf_b46 (mi_X6_weightOf_l6 t_sections p1 p2 p3 n) x4 x5) else (jx_b1 (mi_X11_isIn p1 x5) fun r5 => (if r5 = 0 then (mi_X6_weightOf_b43 (mi_X6_weightOf_l6 t_sections p1 p2 p3 n) x5 x4 ((10 : Int32) - p3)) else (mi_X6_weightOf_b43 (mi_X6_weightOf_l6 t_sections p1 p2 p3 n) x5 x4 p3)))))
def mi_X6_weightOf (t_sections : Int32) (p1 : Int32) (p2 : Int32) (p3 : Int32) : Option (Int32) := mi_X6_weightOf_l6 t_sections p1 p2 p3 jx_F (1 : Int32) (0 : Int32)
abbrev rm_X6_weightOf : Room := { frames := 1, cells := 0, slots := 0, locals := 21 }
set_option maxRecDepth 100000 in
set_option maxHeartbeats 4000000 in
theorem ct_X6_weightOf (l : Launch) (D : va_G) (cI cZ cO : ClassId) (a_t a_t_lengths a_t_times a_t_players a_t_minutes : Nat) (t_sections : Int32) (t_things : Int32) (t_noteTold : Int32) (t_toldSection : Int32) (t_toldBar : Int32) (p1 : Int32) (p2 : Int32) (p3 : Int32) (r : Int32) (hm : mi_X6_weightOf t_sections p1 p2 p3 = some r) : Met l yX6_weightOf wsX6_weightOf rm_X6_weightOf (va_Pc [.ref a_t, .int p1, .int p2, .int p3] (jx_R D (jx_T cI cZ cO) [(a_t, .inr (6, [.ref a_t_lengths, .ref a_t_times, .ref a_t_players, .ref a_t_minutes, .int t_sections, .int t_things, .int t_noteTold, .int t_toldSection, .int t_toldBar]))])) (jx_S (some (.int r))) 0 0 (fun _ => False) := by
  refine jx_metR (ty := .int) (own := RX6) (cc := cX6_weightOf) (maxL := 6) (by decide) rfl rfl (Nat.le_of_ble_eq_true rfl) ?_
  intro p e s m args below meth c Q ls hx hb hml hown hts hK hN hP hl hret
  have hi_X6 : ∀ w ∈ u_ws RX6 TX6 9, w ∈ wsX6_weightOf := by decide +kernel
  have hl : lv_has ls 6 [(0, .ref a_t), (1, .int p1), (2, .int p2), (3, .int p3)] := hl
  have bl_l6 : ∀ (n : Nat) (x4 : Int32) (x5 : Int32) (ls : Array Slot), lv_has ls 6 [(0, .ref a_t), (1, .int p1), (2, .int p2), (3, .int p3), (4, .int x4), (5, .int x5)] → mi_X6_weightOf_l6 t_sections p1 p2 p3 n x4 x5 = some r → W p l e (headSpec wsX6_weightOf rm_X6_weightOf).room s m args below meth c s.heap [] 0 0 Q (F0 m 6 ls []) := by
    intro n
    induction n with
    | zero =>
      intro x4 x5 ls hl h
      rw [mi_X6_weightOf_l6] at h
      cases h
    | succ n_l6 ih_l6 =>
      have bl_b46 : ∀ (x4 : Int32) (x5 : Int32) (ls : Array Slot), lv_has ls 6 [(0, .ref a_t), (1, .int p1), (2, .int p2), (3, .int p3), (4, .int x4), (5, .int x5)] → mi_X6_weightOf_b46 (mi_X6_weightOf_l6 t_sections p1 p2 p3 n_l6) x4 x5 = some r → W p l e (headSpec wsX6_weightOf rm_X6_weightOf).room s m args below meth c s.heap [] 0 0 Q (F0 m 46 ls []) := by
        intro x4 x5 ls hl h
        unfold mi_X6_weightOf_b46 at h
        refine lv_iinc (v := (x5 + 1)) (lv' := [(5, .int (x5 + 1)), (0, .ref a_t), (1, .int p1), (2, .int p2), (3, .int p3), (4, .int x4)]) hx hb dX6_weightOf_46 hl (k := 5) rfl rfl (by decide) rfl (fun ls hl => ?_)
        refine lv_goto (tgt := 6) hx hb dX6_weightOf_49 (by decide) ?_
        exact ih_l6 x4 (x5 + 1) _ (lv_sub hl [1, 2, 3, 4, 5, 0] rfl) h
      have bl_b43 : ∀ (x5 : Int32) (k0 : Int32) (k1 : Int32) (ls : Array Slot), lv_has ls 6 [(0, .ref a_t), (1, .int p1), (2, .int p2), (3, .int p3), (5, .int x5)] → mi_X6_weightOf_b43 (mi_X6_weightOf_l6 t_sections p1 p2 p3 n_l6) x5 k0 k1 = some r → W p l e (headSpec wsX6_weightOf rm_X6_weightOf).room s m args below meth c s.heap [] 0 0 Q (F0 m 43 ls [.int k1, .int k0]) := by
        intro x5 k0 k1 ls hl h
        unfold mi_X6_weightOf_b43 at h
        refine lv_imul hx hb dX6_weightOf_43 ?_
        refine lv_istore (lv' := [(4, .int (k0 * k1)), (0, .ref a_t), (1, .int p1), (2, .int p2), (3, .int p3), (5, .int x5)]) hx hb dX6_weightOf_44 hl (by decide) rfl (fun ls hl => ?_)
        exact bl_b46 (k0 * k1) x5 _ (lv_sub hl [1, 2, 3, 4, 0, 5] rfl) h
      intro x4 x5 ls hl h
      rw [mi_X6_weightOf_l6] at h
      refine lv_iload hx hb dX6_weightOf_6 (lv_at hl 5 rfl) ?_
      refine lv_aload_n hx hb dX6_weightOf_8 rfl (lv_at hl 0 rfl) ?_
      refine va_get (D := D) (ci := 6) (v := .int t_sections) (C := RX6) (T := TX6) (N := 9) hx hb hts hi_X6 hown hK hP 0 rfl rfl 4 (by decide) (hts (.fieldLink RX6 24 "TriangleRest$Score" "sections" "I") (List.mem_of_getElem? (i := 1) rfl)) (fun _ h9 => h9) rfl dX6_weightOf_9 ?_
      refine lv_icmp_ge (tgt := 52) hx hb dX6_weightOf_12 (by decide) (fun c1 => ?_) (fun c1 => ?_)
      · have h := jx_t h c1
        refine lv_iload hx hb dX6_weightOf_52 (lv_at hl 4 rfl) ?_
        cases h
        exact hret 54 ls rfl dX6_weightOf_54
      · have h := jx_f h c1
        refine lv_iload_n hx hb dX6_weightOf_15 rfl (lv_at hl 2 rfl) ?_
        refine lv_iload hx hb dX6_weightOf_16 (lv_at hl 5 rfl) ?_
        obtain ⟨r2, e3, h⟩ := jx_b1_of h
        refine jx_cSN (o := some (.int r2)) (As := [.int p2, .int x5]) (rest := []) ⟨hx, hb, hml, hown, hts⟩ (ct_X11_isIn l p2 x5 r2 e3) ⟨va_cnB 2 hts gX6_weightOf_X11_isIn_n54 rfl rfl rfl (jx_Nm hN 17 rfl) (hts (.initialized RX11) (List.mem_of_getElem? (i := 3) rfl)) (by decide +kernel) ⟨Nat.le_of_ble_eq_true rfl, Nat.le_of_ble_eq_true rfl⟩, (hts (.static yX11_isIn) (List.mem_of_getElem? (i := 2) rfl)), trivial⟩ rfl hl.1 rfl (Nat.le_of_ble_eq_true rfl) dX6_weightOf_18 ⟨Nat.zero_le _, Nat.zero_le _⟩ ?_
        refine lv_if_eq (tgt := 46) hx hb dX6_weightOf_21 (by decide) (fun c4 => ?_) (fun c4 => ?_)
        · have h := jx_t h c4
          exact bl_b46 x4 x5 _ (lv_sub hl [0, 1, 2, 3, 4, 5] rfl) h
        · have h := jx_f h c4
          refine lv_iload hx hb dX6_weightOf_24 (lv_at hl 4 rfl) ?_
          refine lv_iload_n hx hb dX6_weightOf_26 rfl (lv_at hl 1 rfl) ?_
          refine lv_iload hx hb dX6_weightOf_27 (lv_at hl 5 rfl) ?_
          obtain ⟨r5, e6, h⟩ := jx_b1_of h
          refine jx_cSN (o := some (.int r5)) (As := [.int p1, .int x5]) (rest := [.int x4]) ⟨hx, hb, hml, hown, hts⟩ (ct_X11_isIn l p1 x5 r5 e6) ⟨va_cnB 2 hts gX6_weightOf_X11_isIn_n54 rfl rfl rfl (jx_Nm hN 17 rfl) (hts (.initialized RX11) (List.mem_of_getElem? (i := 3) rfl)) (by decide +kernel) ⟨Nat.le_of_ble_eq_true rfl, Nat.le_of_ble_eq_true rfl⟩, (hts (.static yX11_isIn) (List.mem_of_getElem? (i := 2) rfl)), trivial⟩ rfl hl.1 rfl (Nat.le_of_ble_eq_true rfl) dX6_weightOf_29 ⟨Nat.zero_le _, Nat.zero_le _⟩ ?_
          refine lv_if_eq (tgt := 39) hx hb dX6_weightOf_32 (by decide) (fun c7 => ?_) (fun c7 => ?_)
          · have h := jx_t h c7
            refine lv_bipush (v := (10 : Int32)) hx hb dX6_weightOf_39 (by decide) ?_
            refine lv_iload_n hx hb dX6_weightOf_41 rfl (lv_at hl 3 rfl) ?_
            refine lv_isub hx hb dX6_weightOf_42 ?_
            exact bl_b43 x5 x4 ((10 : Int32) - p3) _ (lv_sub hl [0, 1, 2, 3, 5] rfl) h
          · have h := jx_f h c7
            refine lv_iload_n hx hb dX6_weightOf_35 rfl (lv_at hl 3 rfl) ?_
            refine lv_goto (tgt := 43) hx hb dX6_weightOf_36 (by decide) ?_
            exact bl_b43 x5 x4 p3 _ (lv_sub hl [0, 1, 2, 3, 5] rfl) h
  have h := hm
  unfold mi_X6_weightOf at h
  refine lv_iconst (v := (1 : Int32)) hx hb dX6_weightOf_0 (by decide) ?_
  refine lv_istore (lv' := [(4, .int (1 : Int32)), (0, .ref a_t), (1, .int p1), (2, .int p2), (3, .int p3)]) hx hb dX6_weightOf_1 hl (by decide) rfl (fun ls hl => ?_)
  refine lv_iconst (v := (0 : Int32)) hx hb dX6_weightOf_3 (by decide) ?_
  refine lv_istore (lv' := [(5, .int (0 : Int32)), (4, .int (1 : Int32)), (0, .ref a_t), (1, .int p1), (2, .int p2), (3, .int p3)]) hx hb dX6_weightOf_4 hl (by decide) rfl (fun ls hl => ?_)
  exact bl_l6 jx_F (1 : Int32) (0 : Int32) _ (lv_sub hl [2, 3, 4, 5, 1, 0] rfl) h
def mi_X6_chancesBy_b49 (k_l6 : Int32 → Int32 → Option (Int32)) (x5 : Int32) (x6 : Int32) : Option (Int32) := k_l6 x5 (x6 + 1)
def mi_X6_chancesBy_l6 (t_sections : Int32) (t_noteTold : Int32) (t_toldSection : Int32) (t_toldBar : Int32) (t_lengths : Nat → Int32) (t_times : Nat → Int32) (p1 : Int32) (p2 : Int32) (p3 : Int32) (p4 : Int32) : Nat → Int32 → Int32 → Option (Int32)
  | 0, _, _ => none
  | n + 1, x5, x6 => if p4 < x6 then (some (x5)) else (if (x6 &&& (p4 ^^^ (-1 : Int32))) = 0 then (jx_b1 (mi_X6_noteBarWith t_sections t_noteTold t_toldSection t_toldBar t_lengths t_times (p3 ||| x6)) fun r3 => (if p1 < r3 then (mi_X6_chancesBy_b49 (mi_X6_chancesBy_l6 t_sections t_noteTold t_toldSection t_toldBar t_lengths t_times p1 p2 p3 p4 n) x5 x6) else (jx_b1 (mi_X6_weightOf t_sections x6 p4 p2) fun r6 => (mi_X6_chancesBy_b49 (mi_X6_chancesBy_l6 t_sections t_noteTold t_toldSection t_toldBar t_lengths t_times p1 p2 p3 p4 n) (x5 + r6) x6)))) else (mi_X6_chancesBy_b49 (mi_X6_chancesBy_l6 t_sections t_noteTold t_toldSection t_toldBar t_lengths t_times p1 p2 p3 p4 n) x5 x6))
def mi_X6_chancesBy (t_sections : Int32) (t_noteTold : Int32) (t_toldSection : Int32) (t_toldBar : Int32) (t_lengths : Nat → Int32) (t_times : Nat → Int32) (p1 : Int32) (p2 : Int32) (p3 : Int32) (p4 : Int32) : Option (Int32) := mi_X6_chancesBy_l6 t_sections t_noteTold t_toldSection t_toldBar t_lengths t_times p1 p2 p3 p4 jx_F (0 : Int32) (0 : Int32)
abbrev rm_X6_chancesBy : Room := { frames := 4, cells := 0, slots := 0, locals := 89 }
set_option maxRecDepth 100000 in
set_option maxHeartbeats 4000000 in
theorem ct_X6_chancesBy (l : Launch) (D : va_G) (cI cZ cO : ClassId) (a_t a_t_lengths a_t_times a_t_players a_t_minutes : Nat) (t_sections : Int32) (t_things : Int32) (t_noteTold : Int32) (t_toldSection : Int32) (t_toldBar : Int32) (t_lengths : Nat → Int32) (t_times : Nat → Int32) (p1 : Int32) (p2 : Int32) (p3 : Int32) (p4 : Int32) (r : Int32) (hm : mi_X6_chancesBy t_sections t_noteTold t_toldSection t_toldBar t_lengths t_times p1 p2 p3 p4 = some r) : Met l yX6_chancesBy wsX6_chancesBy rm_X6_chancesBy (va_Pc [.ref a_t, .int p1, .int p2, .int p3, .int p4] (jx_R D (jx_T cI cZ cO) [(a_t, .inr (6, [.ref a_t_lengths, .ref a_t_times, .ref a_t_players, .ref a_t_minutes, .int t_sections, .int t_things, .int t_noteTold, .int t_toldSection, .int t_toldBar])), (a_t_lengths, .inl (cI, 8, .inl t_lengths)), (a_t_times, .inl (cI, 8, .inl t_times))])) (jx_S (some (.int r))) 0 0 (fun _ => False) := by
  refine jx_metR (ty := .int) (own := RX6) (cc := cX6_chancesBy) (maxL := 7) (by decide) rfl rfl (Nat.le_of_ble_eq_true rfl) ?_
  intro p e s m args below meth c Q ls hx hb hml hown hts hK hN hP hl hret
  have hl : lv_has ls 7 [(0, .ref a_t), (1, .int p1), (2, .int p2), (3, .int p3), (4, .int p4)] := hl
  have bl_l6 : ∀ (n : Nat) (x5 : Int32) (x6 : Int32) (ls : Array Slot), lv_has ls 7 [(0, .ref a_t), (1, .int p1), (2, .int p2), (3, .int p3), (4, .int p4), (5, .int x5), (6, .int x6)] → mi_X6_chancesBy_l6 t_sections t_noteTold t_toldSection t_toldBar t_lengths t_times p1 p2 p3 p4 n x5 x6 = some r → W p l e (headSpec wsX6_chancesBy rm_X6_chancesBy).room s m args below meth c s.heap [] 0 0 Q (F0 m 6 ls []) := by
    intro n
    induction n with
    | zero =>
      intro x5 x6 ls hl h
      rw [mi_X6_chancesBy_l6] at h
      cases h
    | succ n_l6 ih_l6 =>
      have bl_b49 : ∀ (x5 : Int32) (x6 : Int32) (ls : Array Slot), lv_has ls 7 [(0, .ref a_t), (1, .int p1), (2, .int p2), (3, .int p3), (4, .int p4), (5, .int x5), (6, .int x6)] → mi_X6_chancesBy_b49 (mi_X6_chancesBy_l6 t_sections t_noteTold t_toldSection t_toldBar t_lengths t_times p1 p2 p3 p4 n_l6) x5 x6 = some r → W p l e (headSpec wsX6_chancesBy rm_X6_chancesBy).room s m args below meth c s.heap [] 0 0 Q (F0 m 49 ls []) := by
        intro x5 x6 ls hl h
        unfold mi_X6_chancesBy_b49 at h
        refine lv_iinc (v := (x6 + 1)) (lv' := [(6, .int (x6 + 1)), (0, .ref a_t), (1, .int p1), (2, .int p2), (3, .int p3), (4, .int p4), (5, .int x5)]) hx hb dX6_chancesBy_49 hl (k := 6) rfl rfl (by decide) rfl (fun ls hl => ?_)
        refine lv_goto (tgt := 6) hx hb dX6_chancesBy_52 (by decide) ?_
        exact ih_l6 x5 (x6 + 1) _ (lv_sub hl [1, 2, 3, 4, 5, 6, 0] rfl) h
      intro x5 x6 ls hl h
      rw [mi_X6_chancesBy_l6] at h
      refine lv_iload hx hb dX6_chancesBy_6 (lv_at hl 6 rfl) ?_
      refine lv_iload hx hb dX6_chancesBy_8 (lv_at hl 4 rfl) ?_
      refine lv_icmp_gt (tgt := 55) hx hb dX6_chancesBy_10 (by decide) (fun c1 => ?_) (fun c1 => ?_)
      · have h := jx_t h c1
        refine lv_iload hx hb dX6_chancesBy_55 (lv_at hl 5 rfl) ?_
        cases h
        exact hret 57 ls rfl dX6_chancesBy_57
      · have h := jx_f h c1
        refine lv_iload hx hb dX6_chancesBy_13 (lv_at hl 6 rfl) ?_
        refine lv_iload hx hb dX6_chancesBy_15 (lv_at hl 4 rfl) ?_
        refine lv_iconst (v := (-1 : Int32)) hx hb dX6_chancesBy_17 (by decide) ?_
        refine lv_ixor hx hb dX6_chancesBy_18 ?_
        refine lv_iand hx hb dX6_chancesBy_19 ?_
        refine lv_if_ne (tgt := 49) hx hb dX6_chancesBy_20 (by decide) (fun c2 => ?_) (fun c2 => ?_)
        · have h := jx_f h c2
          exact bl_b49 x5 x6 _ (lv_sub hl [0, 1, 2, 3, 4, 5, 6] rfl) h
        · have h := jx_t h c2
          refine lv_aload_n hx hb dX6_chancesBy_23 rfl (lv_at hl 0 rfl) ?_
          refine lv_iload_n hx hb dX6_chancesBy_24 rfl (lv_at hl 3 rfl) ?_
          refine lv_iload hx hb dX6_chancesBy_25 (lv_at hl 6 rfl) ?_
          refine lv_ior hx hb dX6_chancesBy_27 ?_
          obtain ⟨r3, e4, h⟩ := jx_b1_of h
          refine jx_cV (o := some (.int r3)) (As := [.int (p3 ||| x6)]) (rest := []) (b := a_t) ⟨hx, hb, hml, hown, hts⟩ (ct_X6_noteBarWith l D cI cZ cO a_t a_t_lengths a_t_times a_t_players a_t_minutes t_sections t_things t_noteTold t_toldSection t_toldBar t_lengths t_times (p3 ||| x6) r3 e4) (cwV 1 hts gX6_chancesBy_X6_noteBarWith rfl rfl rfl (by decide +kernel) ⟨Nat.le_of_ble_eq_true rfl, Nat.le_of_ble_eq_true rfl⟩) hK hN hP [0, 1, 2] rfl (va_recv hK hP (ci := 6) (q0 := 0) rfl rfl) rfl hl.1 rfl (Nat.le_of_ble_eq_true rfl) dX6_chancesBy_28 ⟨Nat.zero_le _, Nat.zero_le _⟩ ?_
          refine lv_iload_n hx hb dX6_chancesBy_31 rfl (lv_at hl 1 rfl) ?_
          refine lv_icmp_gt (tgt := 49) hx hb dX6_chancesBy_32 (by decide) (fun c5 => ?_) (fun c5 => ?_)
          · have h := jx_t h c5
            exact bl_b49 x5 x6 _ (lv_sub hl [0, 1, 2, 3, 4, 5, 6] rfl) h
          · have h := jx_f h c5
            refine lv_iload hx hb dX6_chancesBy_35 (lv_at hl 5 rfl) ?_
            refine lv_aload_n hx hb dX6_chancesBy_37 rfl (lv_at hl 0 rfl) ?_
            refine lv_iload hx hb dX6_chancesBy_38 (lv_at hl 6 rfl) ?_
            refine lv_iload hx hb dX6_chancesBy_40 (lv_at hl 4 rfl) ?_
            refine lv_iload_n hx hb dX6_chancesBy_42 rfl (lv_at hl 2 rfl) ?_
            obtain ⟨r6, e7, h⟩ := jx_b1_of h
            refine jx_cV (o := some (.int r6)) (As := [.int x6, .int p4, .int p2]) (rest := [.int x5]) (b := a_t) ⟨hx, hb, hml, hown, hts⟩ (ct_X6_weightOf l D cI cZ cO a_t a_t_lengths a_t_times a_t_players a_t_minutes t_sections t_things t_noteTold t_toldSection t_toldBar x6 p4 p2 r6 e7) (cwV 3 hts gX6_chancesBy_X6_weightOf rfl rfl rfl (by decide +kernel) ⟨Nat.le_of_ble_eq_true rfl, Nat.le_of_ble_eq_true rfl⟩) hK hN hP [0] rfl (va_recv hK hP (ci := 6) (q0 := 0) rfl rfl) rfl hl.1 rfl (Nat.le_of_ble_eq_true rfl) dX6_chancesBy_43 ⟨Nat.zero_le _, Nat.zero_le _⟩ ?_
            refine lv_iadd hx hb dX6_chancesBy_46 ?_
            refine lv_istore (lv' := [(5, .int (x5 + r6)), (0, .ref a_t), (1, .int p1), (2, .int p2), (3, .int p3), (4, .int p4), (6, .int x6)]) hx hb dX6_chancesBy_47 hl (by decide) rfl (fun ls hl => ?_)
            exact bl_b49 (x5 + r6) x6 _ (lv_sub hl [1, 2, 3, 4, 5, 0, 6] rfl) h
  have h := hm
  unfold mi_X6_chancesBy at h
  refine lv_iconst (v := (0 : Int32)) hx hb dX6_chancesBy_0 (by decide) ?_
  refine lv_istore (lv' := [(5, .int (0 : Int32)), (0, .ref a_t), (1, .int p1), (2, .int p2), (3, .int p3), (4, .int p4)]) hx hb dX6_chancesBy_1 hl (by decide) rfl (fun ls hl => ?_)
  refine lv_iconst (v := (0 : Int32)) hx hb dX6_chancesBy_3 (by decide) ?_
  refine lv_istore (lv' := [(6, .int (0 : Int32)), (5, .int (0 : Int32)), (0, .ref a_t), (1, .int p1), (2, .int p2), (3, .int p3), (4, .int p4)]) hx hb dX6_chancesBy_4 hl (by decide) rfl (fun ls hl => ?_)
  exact bl_l6 jx_F (0 : Int32) (0 : Int32) _ (lv_sub hl [2, 3, 4, 5, 6, 1, 0] rfl) h
def mi_X6_fewestCuts_b70 (k_l7 : Int32 → Int32 → Option (Int32)) (x4 : Int32) (x5 : Int32) : Option (Int32) := k_l7 x4 (x5 + 1)
def mi_X6_fewestCuts_b38 (t_sections : Int32) (t_noteTold : Int32) (t_toldSection : Int32) (t_toldBar : Int32) (t_lengths : Nat → Int32) (t_times : Nat → Int32) (p1 : Int32) (p2 : Int32) (p3 : Int32) (k_l7 : Int32 → Int32 → Option (Int32)) (x4 : Int32) (x5 : Int32) (k0 : Int32) : Option (Int32) := if k0 = 0 then (mi_X6_fewestCuts_b70 k_l7 x4 x5) else (if (x5 &&& (p3 ^^^ (-1 : Int32))) = 0 then (jx_b1 (mi_X6_noteBarWith t_sections t_noteTold t_toldSection t_toldBar t_lengths t_times (p2 ||| x5)) fun r10 => (if r10 = p1 then (mi_X6_fewestCuts_b70 k_l7 x5 x5) else (mi_X6_fewestCuts_b70 k_l7 x4 x5))) else (mi_X6_fewestCuts_b70 k_l7 x4 x5))
def mi_X6_fewestCuts_b33 (t_sections : Int32) (t_noteTold : Int32) (t_toldSection : Int32) (t_toldBar : Int32) (t_lengths : Nat → Int32) (t_times : Nat → Int32) (p1 : Int32) (p2 : Int32) (p3 : Int32) (k_l7 : Int32 → Int32 → Option (Int32)) (x4 : Int32) (x5 : Int32) : Option (Int32) := mi_X6_fewestCuts_b38 t_sections t_noteTold t_toldSection t_toldBar t_lengths t_times p1 p2 p3 k_l7 x4 x5 (1 : Int32)
def mi_X6_fewestCuts_l7 (t_sections : Int32) (t_noteTold : Int32) (t_toldSection : Int32) (t_toldBar : Int32) (t_lengths : Nat → Int32) (t_times : Nat → Int32) (p1 : Int32) (p2 : Int32) (p3 : Int32) : Nat → Int32 → Int32 → Option (Int32)
  | 0, _, _ => none
  | n + 1, x4, x5 => if p3 < x5 then (some (x4)) else (if x4 = (-9 : Int32) then (mi_X6_fewestCuts_b33 t_sections t_noteTold t_toldSection t_toldBar t_lengths t_times p1 p2 p3 (mi_X6_fewestCuts_l7 t_sections t_noteTold t_toldSection t_toldBar t_lengths t_times p1 p2 p3 n) x4 x5) else (jx_b1 (mi_J6_bitCount_0f7a4 x5) fun r3 => (jx_b1 (mi_J6_bitCount_0f7a4 x4) fun r5 => (if r5 ≤ r3 then (mi_X6_fewestCuts_b38 t_sections t_noteTold t_toldSection t_toldBar t_lengths t_times p1 p2 p3 (mi_X6_fewestCuts_l7 t_sections t_noteTold t_toldSection t_toldBar t_lengths t_times p1 p2 p3 n) x4 x5 (0 : Int32)) else (mi_X6_fewestCuts_b33 t_sections t_noteTold t_toldSection t_toldBar t_lengths t_times p1 p2 p3 (mi_X6_fewestCuts_l7 t_sections t_noteTold t_toldSection t_toldBar t_lengths t_times p1 p2 p3 n) x4 x5)))))
def mi_X6_fewestCuts (t_sections : Int32) (t_noteTold : Int32) (t_toldSection : Int32) (t_toldBar : Int32) (t_lengths : Nat → Int32) (t_times : Nat → Int32) (p1 : Int32) (p2 : Int32) (p3 : Int32) : Option (Int32) := mi_X6_fewestCuts_l7 t_sections t_noteTold t_toldSection t_toldBar t_lengths t_times p1 p2 p3 jx_F (-9 : Int32) (0 : Int32)
abbrev rm_X6_fewestCuts : Room := { frames := 4, cells := 0, slots := 0, locals := 89 }
set_option maxRecDepth 100000 in
set_option maxHeartbeats 4000000 in
theorem ct_X6_fewestCuts (l : Launch) (D : va_G) (cI cZ cO : ClassId) (a_t a_t_lengths a_t_times a_t_players a_t_minutes : Nat) (t_sections : Int32) (t_things : Int32) (t_noteTold : Int32) (t_toldSection : Int32) (t_toldBar : Int32) (t_lengths : Nat → Int32) (t_times : Nat → Int32) (p1 : Int32) (p2 : Int32) (p3 : Int32) (r : Int32) (hm : mi_X6_fewestCuts t_sections t_noteTold t_toldSection t_toldBar t_lengths t_times p1 p2 p3 = some r) : Met l yX6_fewestCuts wsX6_fewestCuts rm_X6_fewestCuts (va_Pc [.ref a_t, .int p1, .int p2, .int p3] (jx_R D (jx_T cI cZ cO) [(a_t, .inr (6, [.ref a_t_lengths, .ref a_t_times, .ref a_t_players, .ref a_t_minutes, .int t_sections, .int t_things, .int t_noteTold, .int t_toldSection, .int t_toldBar])), (a_t_lengths, .inl (cI, 8, .inl t_lengths)), (a_t_times, .inl (cI, 8, .inl t_times))])) (jx_S (some (.int r))) 0 0 (fun _ => False) := by
  refine jx_metR (ty := .int) (own := RX6) (cc := cX6_fewestCuts) (maxL := 7) (by decide) rfl rfl (Nat.le_of_ble_eq_true rfl) ?_
  intro p e s m args below meth c Q ls hx hb hml hown hts hK hN hP hl hret
  have hl : lv_has ls 7 [(0, .ref a_t), (1, .int p1), (2, .int p2), (3, .int p3)] := hl
  have bl_l7 : ∀ (n : Nat) (x4 : Int32) (x5 : Int32) (ls : Array Slot), lv_has ls 7 [(0, .ref a_t), (1, .int p1), (2, .int p2), (3, .int p3), (4, .int x4), (5, .int x5)] → mi_X6_fewestCuts_l7 t_sections t_noteTold t_toldSection t_toldBar t_lengths t_times p1 p2 p3 n x4 x5 = some r → W p l e (headSpec wsX6_fewestCuts rm_X6_fewestCuts).room s m args below meth c s.heap [] 0 0 Q (F0 m 7 ls []) := by
    intro n
    induction n with
    | zero =>
      intro x4 x5 ls hl h
      rw [mi_X6_fewestCuts_l7] at h
      cases h
    | succ n_l7 ih_l7 =>
      have bl_b70 : ∀ (x4 : Int32) (x5 : Int32) (ls : Array Slot), lv_has ls 7 [(0, .ref a_t), (1, .int p1), (2, .int p2), (3, .int p3), (4, .int x4), (5, .int x5)] → mi_X6_fewestCuts_b70 (mi_X6_fewestCuts_l7 t_sections t_noteTold t_toldSection t_toldBar t_lengths t_times p1 p2 p3 n_l7) x4 x5 = some r → W p l e (headSpec wsX6_fewestCuts rm_X6_fewestCuts).room s m args below meth c s.heap [] 0 0 Q (F0 m 70 ls []) := by
        intro x4 x5 ls hl h
        unfold mi_X6_fewestCuts_b70 at h
        refine lv_iinc (v := (x5 + 1)) (lv' := [(5, .int (x5 + 1)), (0, .ref a_t), (1, .int p1), (2, .int p2), (3, .int p3), (4, .int x4)]) hx hb dX6_fewestCuts_70 hl (k := 5) rfl rfl (by decide) rfl (fun ls hl => ?_)
        refine lv_goto (tgt := 7) hx hb dX6_fewestCuts_73 (by decide) ?_
        exact ih_l7 x4 (x5 + 1) _ (lv_sub hl [1, 2, 3, 4, 5, 0] rfl) h
      have bl_b38 : ∀ (x4 : Int32) (x5 : Int32) (k0 : Int32) (ls : Array Slot), lv_has ls 7 [(0, .ref a_t), (1, .int p1), (2, .int p2), (3, .int p3), (4, .int x4), (5, .int x5)] → mi_X6_fewestCuts_b38 t_sections t_noteTold t_toldSection t_toldBar t_lengths t_times p1 p2 p3 (mi_X6_fewestCuts_l7 t_sections t_noteTold t_toldSection t_toldBar t_lengths t_times p1 p2 p3 n_l7) x4 x5 k0 = some r → W p l e (headSpec wsX6_fewestCuts rm_X6_fewestCuts).room s m args below meth c s.heap [] 0 0 Q (F0 m 38 ls [.int k0]) := by
        intro x4 x5 k0 ls hl h
        unfold mi_X6_fewestCuts_b38 at h
        refine lv_istore (lv' := [(6, .int k0), (0, .ref a_t), (1, .int p1), (2, .int p2), (3, .int p3), (4, .int x4), (5, .int x5)]) hx hb dX6_fewestCuts_38 hl (by decide) rfl (fun ls hl => ?_)
        refine lv_iload hx hb dX6_fewestCuts_40 (lv_at hl 0 rfl) ?_
        refine lv_if_eq (tgt := 70) hx hb dX6_fewestCuts_42 (by decide) (fun c8 => ?_) (fun c8 => ?_)
        · have h := jx_t h c8
          exact bl_b70 x4 x5 _ (lv_sub hl [1, 2, 3, 4, 5, 6] rfl) h
        · have h := jx_f h c8
          refine lv_iload hx hb dX6_fewestCuts_45 (lv_at hl 6 rfl) ?_
          refine lv_iload_n hx hb dX6_fewestCuts_47 rfl (lv_at hl 4 rfl) ?_
          refine lv_iconst (v := (-1 : Int32)) hx hb dX6_fewestCuts_48 (by decide) ?_
          refine lv_ixor hx hb dX6_fewestCuts_49 ?_
          refine lv_iand hx hb dX6_fewestCuts_50 ?_
          refine lv_if_ne (tgt := 70) hx hb dX6_fewestCuts_51 (by decide) (fun c9 => ?_) (fun c9 => ?_)
          · have h := jx_f h c9
            exact bl_b70 x4 x5 _ (lv_sub hl [1, 2, 3, 4, 5, 6] rfl) h
          · have h := jx_t h c9
            refine lv_aload_n hx hb dX6_fewestCuts_54 rfl (lv_at hl 1 rfl) ?_
            refine lv_iload_n hx hb dX6_fewestCuts_55 rfl (lv_at hl 3 rfl) ?_
            refine lv_iload hx hb dX6_fewestCuts_56 (lv_at hl 6 rfl) ?_
            refine lv_ior hx hb dX6_fewestCuts_58 ?_
            obtain ⟨r10, e11, h⟩ := jx_b1_of h
            refine jx_cV (o := some (.int r10)) (As := [.int (p2 ||| x5)]) (rest := []) (b := a_t) ⟨hx, hb, hml, hown, hts⟩ (ct_X6_noteBarWith l D cI cZ cO a_t a_t_lengths a_t_times a_t_players a_t_minutes t_sections t_things t_noteTold t_toldSection t_toldBar t_lengths t_times (p2 ||| x5) r10 e11) (cwV 1 hts gX6_fewestCuts_X6_noteBarWith rfl rfl rfl (by decide +kernel) ⟨Nat.le_of_ble_eq_true rfl, Nat.le_of_ble_eq_true rfl⟩) hK hN hP [0, 1, 2] rfl (va_recv hK hP (ci := 6) (q0 := 0) rfl rfl) rfl hl.1 rfl (Nat.le_of_ble_eq_true rfl) dX6_fewestCuts_59 ⟨Nat.zero_le _, Nat.zero_le _⟩ ?_
            refine lv_iload_n hx hb dX6_fewestCuts_62 rfl (lv_at hl 2 rfl) ?_
            refine lv_icmp_ne (tgt := 70) hx hb dX6_fewestCuts_63 (by decide) (fun c12 => ?_) (fun c12 => ?_)
            · have h := jx_f h c12
              exact bl_b70 x4 x5 _ (lv_sub hl [1, 2, 3, 4, 5, 6] rfl) h
            · have h := jx_t h c12
              refine lv_iload hx hb dX6_fewestCuts_66 (lv_at hl 6 rfl) ?_
              refine lv_istore (lv' := [(4, .int x5), (6, .int k0), (0, .ref a_t), (1, .int p1), (2, .int p2), (3, .int p3), (5, .int x5)]) hx hb dX6_fewestCuts_68 hl (by decide) rfl (fun ls hl => ?_)
              exact bl_b70 x5 x5 _ (lv_sub hl [2, 3, 4, 5, 0, 6] rfl) h
      have bl_b33 : ∀ (x4 : Int32) (x5 : Int32) (ls : Array Slot), lv_has ls 7 [(0, .ref a_t), (1, .int p1), (2, .int p2), (3, .int p3), (4, .int x4), (5, .int x5)] → mi_X6_fewestCuts_b33 t_sections t_noteTold t_toldSection t_toldBar t_lengths t_times p1 p2 p3 (mi_X6_fewestCuts_l7 t_sections t_noteTold t_toldSection t_toldBar t_lengths t_times p1 p2 p3 n_l7) x4 x5 = some r → W p l e (headSpec wsX6_fewestCuts rm_X6_fewestCuts).room s m args below meth c s.heap [] 0 0 Q (F0 m 33 ls []) := by
        intro x4 x5 ls hl h
        unfold mi_X6_fewestCuts_b33 at h
        refine lv_iconst (v := (1 : Int32)) hx hb dX6_fewestCuts_33 (by decide) ?_
        refine lv_goto (tgt := 38) hx hb dX6_fewestCuts_34 (by decide) ?_
        exact bl_b38 x4 x5 (1 : Int32) _ (lv_sub hl [0, 1, 2, 3, 4, 5] rfl) h
      intro x4 x5 ls hl h
      rw [mi_X6_fewestCuts_l7] at h
      refine lv_iload hx hb dX6_fewestCuts_7 (lv_at hl 5 rfl) ?_
      refine lv_iload_n hx hb dX6_fewestCuts_9 rfl (lv_at hl 3 rfl) ?_
      refine lv_icmp_gt (tgt := 76) hx hb dX6_fewestCuts_10 (by decide) (fun c1 => ?_) (fun c1 => ?_)
      · have h := jx_t h c1
        refine lv_iload hx hb dX6_fewestCuts_76 (lv_at hl 4 rfl) ?_
        cases h
        exact hret 78 ls rfl dX6_fewestCuts_78
      · have h := jx_f h c1
        refine lv_iload hx hb dX6_fewestCuts_13 (lv_at hl 4 rfl) ?_
        refine lv_bipush (v := (-9 : Int32)) hx hb dX6_fewestCuts_15 (by decide) ?_
        refine lv_icmp_eq (tgt := 33) hx hb dX6_fewestCuts_17 (by decide) (fun c2 => ?_) (fun c2 => ?_)
        · have h := jx_t h c2
          exact bl_b33 x4 x5 _ (lv_sub hl [0, 1, 2, 3, 4, 5] rfl) h
        · have h := jx_f h c2
          refine lv_iload hx hb dX6_fewestCuts_20 (lv_at hl 5 rfl) ?_
          obtain ⟨r3, e4, h⟩ := jx_b1_of h
          refine jx_cS (o := some (.int r3)) (As := [.int x5]) (rest := []) ⟨hx, hb, hml, hown, hts⟩ (ct_J6_bitCount_0f7a4 l x5 r3 e4) (va_cwS 1 hts gX6_fewestCuts_J6_bitCount_0f7a4 rfl rfl rfl (by decide +kernel) ⟨Nat.le_of_ble_eq_true rfl, Nat.le_of_ble_eq_true rfl⟩) rfl hl.1 rfl (Nat.le_of_ble_eq_true rfl) dX6_fewestCuts_22 ⟨Nat.zero_le _, Nat.zero_le _⟩ ?_
          refine lv_iload hx hb dX6_fewestCuts_25 (lv_at hl 4 rfl) ?_
          obtain ⟨r5, e6, h⟩ := jx_b1_of h
          refine jx_cS (o := some (.int r5)) (As := [.int x4]) (rest := [.int r3]) ⟨hx, hb, hml, hown, hts⟩ (ct_J6_bitCount_0f7a4 l x4 r5 e6) (va_cwS 1 hts gX6_fewestCuts_J6_bitCount_0f7a4 rfl rfl rfl (by decide +kernel) ⟨Nat.le_of_ble_eq_true rfl, Nat.le_of_ble_eq_true rfl⟩) rfl hl.1 rfl (Nat.le_of_ble_eq_true rfl) dX6_fewestCuts_27 ⟨Nat.zero_le _, Nat.zero_le _⟩ ?_
          refine lv_icmp_ge (tgt := 37) hx hb dX6_fewestCuts_30 (by decide) (fun c7 => ?_) (fun c7 => ?_)
          · have h := jx_t h c7
            refine lv_iconst (v := (0 : Int32)) hx hb dX6_fewestCuts_37 (by decide) ?_
            exact bl_b38 x4 x5 (0 : Int32) _ (lv_sub hl [0, 1, 2, 3, 4, 5] rfl) h
          · have h := jx_f h c7
            exact bl_b33 x4 x5 _ (lv_sub hl [0, 1, 2, 3, 4, 5] rfl) h
  have h := hm
  unfold mi_X6_fewestCuts at h
  refine lv_bipush (v := (-9 : Int32)) hx hb dX6_fewestCuts_0 (by decide) ?_
  refine lv_istore (lv' := [(4, .int (-9 : Int32)), (0, .ref a_t), (1, .int p1), (2, .int p2), (3, .int p3)]) hx hb dX6_fewestCuts_2 hl (by decide) rfl (fun ls hl => ?_)
  refine lv_iconst (v := (0 : Int32)) hx hb dX6_fewestCuts_4 (by decide) ?_
  refine lv_istore (lv' := [(5, .int (0 : Int32)), (4, .int (-9 : Int32)), (0, .ref a_t), (1, .int p1), (2, .int p2), (3, .int p3)]) hx hb dX6_fewestCuts_5 hl (by decide) rfl (fun ls hl => ?_)
  exact bl_l7 jx_F (-9 : Int32) (0 : Int32) _ (lv_sub hl [2, 3, 4, 5, 1, 0] rfl) h
