/-! The ground: nest mates' links, what a method asks, the calls in one row each. -/
def jx_nM : List (String × Nat × MethodName × String) := [(RX11, 11, yX8_init, RX11), (RX11, 18, yX6_init, RX11), (RX11, 28, yX2_init, RX11), (RX11, 41, yX3_init, RX11), (RX11, 48, yX4_init, RX11), (RX11, 59, yX5_init, RX11), (RX11, 62, yX9_init, RX11), (RX9, 1, yX5_init, RX11), (RX11, 65, yX0_init, RX11), (RX0, 1, yX5_init, RX11), (RX11, 68, yX7_init, RX11), (RX7, 1, yX9_init, RX11), (RX11, 71, yX10_init, RX11), (RX10, 1, yX0_init, RX11), (RX11, 74, yX1_init, RX11), (RX1, 1, yX5_init, RX11), (RX8, 79, yX11_isWithin, RX11), (RX6, 54, yX11_isIn, RX11), (RX2, 39, yX11_oneIf, RX11), (RX3, 51, yX11_isIn, RX11), (RX3, 42, yX11_oneIf, RX11), (RX3, 78, yX11_isWithin, RX11), (RX4, 50, yX11_isIn, RX11)]
def jx_nF : List (String × Nat × String × String × String × String) := [(RX5, 13, RX11, "score", "LTriangleRest$Score;", RX11), (RX0, 19, RX11, "score", "LTriangleRest$Score;", RX11), (RX9, 19, RX11, "score", "LTriangleRest$Score;", RX11), (RX1, 19, RX11, "course", "LTriangleRest$Course;", RX11), (RX5, 7, RX11, "traced", "J", RX11), (RX0, 7, RX11, "traced", "J", RX11), (RX1, 7, RX11, "traced", "J", RX11), (RX7, 7, RX11, "traced", "J", RX11), (RX9, 7, RX11, "traced", "J", RX11), (RX10, 7, RX11, "traced", "J", RX11)]
def jx_N (U : State) : Prop := (∀ q ∈ jx_nM, va_Nw (.methodLinkNest q.1 q.2.1 q.2.2.1 q.2.2.2) U) ∧ ∀ q ∈ jx_nF, va_Nw (.fieldLinkNest q.1 q.2.1 q.2.2.1 q.2.2.2.1 q.2.2.2.2.1 q.2.2.2.2.2) U
theorem jx_N_warm {s U : State} (hW : s.WarmedH U.vm) (h : jx_N s) : jx_N U := ⟨fun q hq => va_Nw.warmM hW (h.1 q hq), fun q hq => va_Nw.warmF hW (h.2 q hq)⟩
theorem jx_N_same {u U : State} (e : u.vm = U.vm) (h : jx_N u) : jx_N U := ⟨fun q hq => va_Nw.same rfl e (h.1 q hq), fun q hq => va_Nw.same rfl e (h.2 q hq)⟩
theorem jx_Nm {U : State} (h : jx_N U) (i : Nat) {a : String} {k : Nat} {y : MethodName} {b : String} (hq : jx_nM[i]? = some (a, k, y, b)) : va_Nw (.methodLinkNest a k y b) U := h.1 _ (List.mem_of_getElem? hq)
theorem jx_Nf {U : State} (h : jx_N U) (i : Nat) {a : String} {k : Nat} {b n d g : String} (hq : jx_nF[i]? = some (a, k, b, n, d, g)) (A : Array Value) : (Cond.fieldLinkNest a k b n d g).before A U = true := va_Nw.use rfl (h.2 _ (List.mem_of_getElem? hq))
abbrev jx_T (cI cZ cO : ClassId) : List (ClassId × FieldType) := [(cI, .int), (cZ, .boolean), (cO, .object RX5)]
/-- what a reading method asks of the state -/
def jx_R (D : va_G) (tys : List (ClassId × FieldType)) (W0 : va_W) (U : State) : Prop := va_P D vwCl W0 U.heap ∧ va_K D vwCl tys U ∧ jx_N U
/-- what a writing method asks of the state -/
def jx_W (D : va_G) (tys : List (ClassId × FieldType)) (sz : Nat) (W0 : va_W) (U : State) : Prop := U.heap.size = sz ∧ va_P D vwCl W0 U.heap ∧ va_K D vwCl tys U ∧ jx_N U ∧ va_D (fun _ => True) W0
/-- how a writing method ends -/
def jx_Q (o : Option Value) (D : va_G) (W1 : va_W) (A : Nat → Prop) : Array Value → State → Outcome → State → Prop := fun _ st oc t => (oc = .returned o ∧ va_P D vwCl W1 t.heap ∧ va_D A W1) ∧ va_F A st t
/-- how a reading method ends -/
def jx_S (o : Option Value) : Array Value → State → Outcome → State → Prop := fun _ st oc t => oc = .returned o ∧ t.heap = st.heap
theorem jx_R_blind {av : List Value} {D : va_G} {tys : List (ClassId × FieldType)} {W0 : va_W} : FrameBlind (va_Pc av (jx_R D tys W0)) := fun a U g mk q => ⟨q.1, q.2.1, va_K.moved (u := U) (U := U.calling g mk a) (Vm.Alike.refl U.vm) q.2.2.1, jx_N_same (u := U) (U := U.calling g mk a) rfl q.2.2.2⟩
theorem jx_W_blind {av : List Value} {D : va_G} {tys : List (ClassId × FieldType)} {sz : Nat} {W0 : va_W} : FrameBlind (va_Pc av (jx_W D tys sz W0)) := fun a U g mk q => ⟨q.1, q.2.1, q.2.2.1, va_K.moved (u := U) (U := U.calling g mk a) (Vm.Alike.refl U.vm) q.2.2.2.1, jx_N_same (u := U) (U := U.calling g mk a) rfl q.2.2.2.2.1, q.2.2.2.2.2⟩
theorem jx_R_pre {s : State} {H : Heap} {av : List Value} {D : va_G} {tys : List (ClassId × FieldType)} {W0 : va_W} (hP : va_P D vwCl W0 H) (hK : va_K D vwCl tys s) (hN : jx_N s) : ∀ U : State, U.heap = H → s.WarmedH U.vm → va_Pc av (jx_R D tys W0) av.toArray U := fun U hU hW => ⟨rfl, by rw [hU]; exact hP, va_K.moved hW.alike hK, jx_N_warm hW hN⟩
theorem jx_W_pre {s : State} {H : Heap} {av : List Value} {D : va_G} {tys : List (ClassId × FieldType)} {W0 : va_W} {A : Nat → Prop} (hP : va_P D vwCl W0 H) (hK : va_K D vwCl tys s) (hN : jx_N s) (hD : va_D A W0) : ∀ U : State, U.heap = H → s.WarmedH U.vm → va_Pc av (jx_W D tys H.size W0) av.toArray U := fun U hU hW => ⟨rfl, by rw [hU], by rw [hU]; exact hP, va_K.moved hW.alike hK, jx_N_warm hW hN, hD.weaken (fun _ _ _ _ => trivial)⟩
/-- pieces of the pure text -/
def jx_b1 {a1 ρ : Type} (o : Option a1) (k : a1 → Option ρ) : Option ρ := match o with
  | none => none
  | some x1 => k x1
theorem jx_b1_of {a1 ρ : Type} {o : Option a1} {k : a1 → Option ρ} {r : ρ} (h : jx_b1 o k = some r) : ∃ x1, o = some x1 ∧ k x1 = some r := by
  match o, h with
  | some x1, h => exact ⟨x1, rfl, h⟩
theorem jx_b1_eq {a1 ρ : Type} {o : Option a1} {k : a1 → Option ρ} {x1 : a1} (h : o = some x1) : jx_b1 o k = k x1 := by
  subst h
  rfl
def jx_b2 {a1 a2 ρ : Type} (o : Option (a1 × a2)) (k : a1 → a2 → Option ρ) : Option ρ := match o with
  | none => none
  | some (x1, x2) => k x1 x2
theorem jx_b2_of {a1 a2 ρ : Type} {o : Option (a1 × a2)} {k : a1 → a2 → Option ρ} {r : ρ} (h : jx_b2 o k = some r) : ∃ x1 x2, o = some (x1, x2) ∧ k x1 x2 = some r := by
  match o, h with
  | some (x1, x2), h => exact ⟨x1, x2, rfl, h⟩
theorem jx_b2_eq {a1 a2 ρ : Type} {o : Option (a1 × a2)} {k : a1 → a2 → Option ρ} {x1 : a1} {x2 : a2} (h : o = some (x1, x2)) : jx_b2 o k = k x1 x2 := by
  subst h
  rfl
def jx_b3 {a1 a2 a3 ρ : Type} (o : Option (a1 × a2 × a3)) (k : a1 → a2 → a3 → Option ρ) : Option ρ := match o with
  | none => none
  | some (x1, x2, x3) => k x1 x2 x3
theorem jx_b3_of {a1 a2 a3 ρ : Type} {o : Option (a1 × a2 × a3)} {k : a1 → a2 → a3 → Option ρ} {r : ρ} (h : jx_b3 o k = some r) : ∃ x1 x2 x3, o = some (x1, x2, x3) ∧ k x1 x2 x3 = some r := by
  match o, h with
  | some (x1, x2, x3), h => exact ⟨x1, x2, x3, rfl, h⟩
theorem jx_b3_eq {a1 a2 a3 ρ : Type} {o : Option (a1 × a2 × a3)} {k : a1 → a2 → a3 → Option ρ} {x1 : a1} {x2 : a2} {x3 : a3} (h : o = some (x1, x2, x3)) : jx_b3 o k = k x1 x2 x3 := by
  subst h
  rfl
def jx_b4 {a1 a2 a3 a4 ρ : Type} (o : Option (a1 × a2 × a3 × a4)) (k : a1 → a2 → a3 → a4 → Option ρ) : Option ρ := match o with
  | none => none
  | some (x1, x2, x3, x4) => k x1 x2 x3 x4
theorem jx_b4_of {a1 a2 a3 a4 ρ : Type} {o : Option (a1 × a2 × a3 × a4)} {k : a1 → a2 → a3 → a4 → Option ρ} {r : ρ} (h : jx_b4 o k = some r) : ∃ x1 x2 x3 x4, o = some (x1, x2, x3, x4) ∧ k x1 x2 x3 x4 = some r := by
  match o, h with
  | some (x1, x2, x3, x4), h => exact ⟨x1, x2, x3, x4, rfl, h⟩
theorem jx_b4_eq {a1 a2 a3 a4 ρ : Type} {o : Option (a1 × a2 × a3 × a4)} {k : a1 → a2 → a3 → a4 → Option ρ} {x1 : a1} {x2 : a2} {x3 : a3} {x4 : a4} (h : o = some (x1, x2, x3, x4)) : jx_b4 o k = k x1 x2 x3 x4 := by
  subst h
  rfl
def jx_b5 {a1 a2 a3 a4 a5 ρ : Type} (o : Option (a1 × a2 × a3 × a4 × a5)) (k : a1 → a2 → a3 → a4 → a5 → Option ρ) : Option ρ := match o with
  | none => none
  | some (x1, x2, x3, x4, x5) => k x1 x2 x3 x4 x5
theorem jx_b5_of {a1 a2 a3 a4 a5 ρ : Type} {o : Option (a1 × a2 × a3 × a4 × a5)} {k : a1 → a2 → a3 → a4 → a5 → Option ρ} {r : ρ} (h : jx_b5 o k = some r) : ∃ x1 x2 x3 x4 x5, o = some (x1, x2, x3, x4, x5) ∧ k x1 x2 x3 x4 x5 = some r := by
  match o, h with
  | some (x1, x2, x3, x4, x5), h => exact ⟨x1, x2, x3, x4, x5, rfl, h⟩
theorem jx_b5_eq {a1 a2 a3 a4 a5 ρ : Type} {o : Option (a1 × a2 × a3 × a4 × a5)} {k : a1 → a2 → a3 → a4 → a5 → Option ρ} {x1 : a1} {x2 : a2} {x3 : a3} {x4 : a4} {x5 : a5} (h : o = some (x1, x2, x3, x4, x5)) : jx_b5 o k = k x1 x2 x3 x4 x5 := by
  subst h
  rfl
def jx_b6 {a1 a2 a3 a4 a5 a6 ρ : Type} (o : Option (a1 × a2 × a3 × a4 × a5 × a6)) (k : a1 → a2 → a3 → a4 → a5 → a6 → Option ρ) : Option ρ := match o with
  | none => none
  | some (x1, x2, x3, x4, x5, x6) => k x1 x2 x3 x4 x5 x6
theorem jx_b6_of {a1 a2 a3 a4 a5 a6 ρ : Type} {o : Option (a1 × a2 × a3 × a4 × a5 × a6)} {k : a1 → a2 → a3 → a4 → a5 → a6 → Option ρ} {r : ρ} (h : jx_b6 o k = some r) : ∃ x1 x2 x3 x4 x5 x6, o = some (x1, x2, x3, x4, x5, x6) ∧ k x1 x2 x3 x4 x5 x6 = some r := by
  match o, h with
  | some (x1, x2, x3, x4, x5, x6), h => exact ⟨x1, x2, x3, x4, x5, x6, rfl, h⟩
theorem jx_b6_eq {a1 a2 a3 a4 a5 a6 ρ : Type} {o : Option (a1 × a2 × a3 × a4 × a5 × a6)} {k : a1 → a2 → a3 → a4 → a5 → a6 → Option ρ} {x1 : a1} {x2 : a2} {x3 : a3} {x4 : a4} {x5 : a5} {x6 : a6} (h : o = some (x1, x2, x3, x4, x5, x6)) : jx_b6 o k = k x1 x2 x3 x4 x5 x6 := by
  subst h
  rfl
def jx_b7 {a1 a2 a3 a4 a5 a6 a7 ρ : Type} (o : Option (a1 × a2 × a3 × a4 × a5 × a6 × a7)) (k : a1 → a2 → a3 → a4 → a5 → a6 → a7 → Option ρ) : Option ρ := match o with
  | none => none
  | some (x1, x2, x3, x4, x5, x6, x7) => k x1 x2 x3 x4 x5 x6 x7
theorem jx_b7_of {a1 a2 a3 a4 a5 a6 a7 ρ : Type} {o : Option (a1 × a2 × a3 × a4 × a5 × a6 × a7)} {k : a1 → a2 → a3 → a4 → a5 → a6 → a7 → Option ρ} {r : ρ} (h : jx_b7 o k = some r) : ∃ x1 x2 x3 x4 x5 x6 x7, o = some (x1, x2, x3, x4, x5, x6, x7) ∧ k x1 x2 x3 x4 x5 x6 x7 = some r := by
  match o, h with
  | some (x1, x2, x3, x4, x5, x6, x7), h => exact ⟨x1, x2, x3, x4, x5, x6, x7, rfl, h⟩
theorem jx_b7_eq {a1 a2 a3 a4 a5 a6 a7 ρ : Type} {o : Option (a1 × a2 × a3 × a4 × a5 × a6 × a7)} {k : a1 → a2 → a3 → a4 → a5 → a6 → a7 → Option ρ} {x1 : a1} {x2 : a2} {x3 : a3} {x4 : a4} {x5 : a5} {x6 : a6} {x7 : a7} (h : o = some (x1, x2, x3, x4, x5, x6, x7)) : jx_b7 o k = k x1 x2 x3 x4 x5 x6 x7 := by
  subst h
  rfl
def jx_b8 {a1 a2 a3 a4 a5 a6 a7 a8 ρ : Type} (o : Option (a1 × a2 × a3 × a4 × a5 × a6 × a7 × a8)) (k : a1 → a2 → a3 → a4 → a5 → a6 → a7 → a8 → Option ρ) : Option ρ := match o with
  | none => none
  | some (x1, x2, x3, x4, x5, x6, x7, x8) => k x1 x2 x3 x4 x5 x6 x7 x8
theorem jx_b8_of {a1 a2 a3 a4 a5 a6 a7 a8 ρ : Type} {o : Option (a1 × a2 × a3 × a4 × a5 × a6 × a7 × a8)} {k : a1 → a2 → a3 → a4 → a5 → a6 → a7 → a8 → Option ρ} {r : ρ} (h : jx_b8 o k = some r) : ∃ x1 x2 x3 x4 x5 x6 x7 x8, o = some (x1, x2, x3, x4, x5, x6, x7, x8) ∧ k x1 x2 x3 x4 x5 x6 x7 x8 = some r := by
  match o, h with
  | some (x1, x2, x3, x4, x5, x6, x7, x8), h => exact ⟨x1, x2, x3, x4, x5, x6, x7, x8, rfl, h⟩
theorem jx_b8_eq {a1 a2 a3 a4 a5 a6 a7 a8 ρ : Type} {o : Option (a1 × a2 × a3 × a4 × a5 × a6 × a7 × a8)} {k : a1 → a2 → a3 → a4 → a5 → a6 → a7 → a8 → Option ρ} {x1 : a1} {x2 : a2} {x3 : a3} {x4 : a4} {x5 : a5} {x6 : a6} {x7 : a7} {x8 : a8} (h : o = some (x1, x2, x3, x4, x5, x6, x7, x8)) : jx_b8 o k = k x1 x2 x3 x4 x5 x6 x7 x8 := by
  subst h
  rfl
def jx_b9 {a1 a2 a3 a4 a5 a6 a7 a8 a9 ρ : Type} (o : Option (a1 × a2 × a3 × a4 × a5 × a6 × a7 × a8 × a9)) (k : a1 → a2 → a3 → a4 → a5 → a6 → a7 → a8 → a9 → Option ρ) : Option ρ := match o with
  | none => none
  | some (x1, x2, x3, x4, x5, x6, x7, x8, x9) => k x1 x2 x3 x4 x5 x6 x7 x8 x9
theorem jx_b9_of {a1 a2 a3 a4 a5 a6 a7 a8 a9 ρ : Type} {o : Option (a1 × a2 × a3 × a4 × a5 × a6 × a7 × a8 × a9)} {k : a1 → a2 → a3 → a4 → a5 → a6 → a7 → a8 → a9 → Option ρ} {r : ρ} (h : jx_b9 o k = some r) : ∃ x1 x2 x3 x4 x5 x6 x7 x8 x9, o = some (x1, x2, x3, x4, x5, x6, x7, x8, x9) ∧ k x1 x2 x3 x4 x5 x6 x7 x8 x9 = some r := by
  match o, h with
  | some (x1, x2, x3, x4, x5, x6, x7, x8, x9), h => exact ⟨x1, x2, x3, x4, x5, x6, x7, x8, x9, rfl, h⟩
theorem jx_b9_eq {a1 a2 a3 a4 a5 a6 a7 a8 a9 ρ : Type} {o : Option (a1 × a2 × a3 × a4 × a5 × a6 × a7 × a8 × a9)} {k : a1 → a2 → a3 → a4 → a5 → a6 → a7 → a8 → a9 → Option ρ} {x1 : a1} {x2 : a2} {x3 : a3} {x4 : a4} {x5 : a5} {x6 : a6} {x7 : a7} {x8 : a8} {x9 : a9} (h : o = some (x1, x2, x3, x4, x5, x6, x7, x8, x9)) : jx_b9 o k = k x1 x2 x3 x4 x5 x6 x7 x8 x9 := by
  subst h
  rfl
def jx_b10 {a1 a2 a3 a4 a5 a6 a7 a8 a9 a10 ρ : Type} (o : Option (a1 × a2 × a3 × a4 × a5 × a6 × a7 × a8 × a9 × a10)) (k : a1 → a2 → a3 → a4 → a5 → a6 → a7 → a8 → a9 → a10 → Option ρ) : Option ρ := match o with
  | none => none
  | some (x1, x2, x3, x4, x5, x6, x7, x8, x9, x10) => k x1 x2 x3 x4 x5 x6 x7 x8 x9 x10
theorem jx_b10_of {a1 a2 a3 a4 a5 a6 a7 a8 a9 a10 ρ : Type} {o : Option (a1 × a2 × a3 × a4 × a5 × a6 × a7 × a8 × a9 × a10)} {k : a1 → a2 → a3 → a4 → a5 → a6 → a7 → a8 → a9 → a10 → Option ρ} {r : ρ} (h : jx_b10 o k = some r) : ∃ x1 x2 x3 x4 x5 x6 x7 x8 x9 x10, o = some (x1, x2, x3, x4, x5, x6, x7, x8, x9, x10) ∧ k x1 x2 x3 x4 x5 x6 x7 x8 x9 x10 = some r := by
  match o, h with
  | some (x1, x2, x3, x4, x5, x6, x7, x8, x9, x10), h => exact ⟨x1, x2, x3, x4, x5, x6, x7, x8, x9, x10, rfl, h⟩
theorem jx_b10_eq {a1 a2 a3 a4 a5 a6 a7 a8 a9 a10 ρ : Type} {o : Option (a1 × a2 × a3 × a4 × a5 × a6 × a7 × a8 × a9 × a10)} {k : a1 → a2 → a3 → a4 → a5 → a6 → a7 → a8 → a9 → a10 → Option ρ} {x1 : a1} {x2 : a2} {x3 : a3} {x4 : a4} {x5 : a5} {x6 : a6} {x7 : a7} {x8 : a8} {x9 : a9} {x10 : a10} (h : o = some (x1, x2, x3, x4, x5, x6, x7, x8, x9, x10)) : jx_b10 o k = k x1 x2 x3 x4 x5 x6 x7 x8 x9 x10 := by
  subst h
  rfl
def jx_b11 {a1 a2 a3 a4 a5 a6 a7 a8 a9 a10 a11 ρ : Type} (o : Option (a1 × a2 × a3 × a4 × a5 × a6 × a7 × a8 × a9 × a10 × a11)) (k : a1 → a2 → a3 → a4 → a5 → a6 → a7 → a8 → a9 → a10 → a11 → Option ρ) : Option ρ := match o with
  | none => none
  | some (x1, x2, x3, x4, x5, x6, x7, x8, x9, x10, x11) => k x1 x2 x3 x4 x5 x6 x7 x8 x9 x10 x11
theorem jx_b11_of {a1 a2 a3 a4 a5 a6 a7 a8 a9 a10 a11 ρ : Type} {o : Option (a1 × a2 × a3 × a4 × a5 × a6 × a7 × a8 × a9 × a10 × a11)} {k : a1 → a2 → a3 → a4 → a5 → a6 → a7 → a8 → a9 → a10 → a11 → Option ρ} {r : ρ} (h : jx_b11 o k = some r) : ∃ x1 x2 x3 x4 x5 x6 x7 x8 x9 x10 x11, o = some (x1, x2, x3, x4, x5, x6, x7, x8, x9, x10, x11) ∧ k x1 x2 x3 x4 x5 x6 x7 x8 x9 x10 x11 = some r := by
  match o, h with
  | some (x1, x2, x3, x4, x5, x6, x7, x8, x9, x10, x11), h => exact ⟨x1, x2, x3, x4, x5, x6, x7, x8, x9, x10, x11, rfl, h⟩
theorem jx_b11_eq {a1 a2 a3 a4 a5 a6 a7 a8 a9 a10 a11 ρ : Type} {o : Option (a1 × a2 × a3 × a4 × a5 × a6 × a7 × a8 × a9 × a10 × a11)} {k : a1 → a2 → a3 → a4 → a5 → a6 → a7 → a8 → a9 → a10 → a11 → Option ρ} {x1 : a1} {x2 : a2} {x3 : a3} {x4 : a4} {x5 : a5} {x6 : a6} {x7 : a7} {x8 : a8} {x9 : a9} {x10 : a10} {x11 : a11} (h : o = some (x1, x2, x3, x4, x5, x6, x7, x8, x9, x10, x11)) : jx_b11 o k = k x1 x2 x3 x4 x5 x6 x7 x8 x9 x10 x11 := by
  subst h
  rfl
def jx_b12 {a1 a2 a3 a4 a5 a6 a7 a8 a9 a10 a11 a12 ρ : Type} (o : Option (a1 × a2 × a3 × a4 × a5 × a6 × a7 × a8 × a9 × a10 × a11 × a12)) (k : a1 → a2 → a3 → a4 → a5 → a6 → a7 → a8 → a9 → a10 → a11 → a12 → Option ρ) : Option ρ := match o with
  | none => none
  | some (x1, x2, x3, x4, x5, x6, x7, x8, x9, x10, x11, x12) => k x1 x2 x3 x4 x5 x6 x7 x8 x9 x10 x11 x12
theorem jx_b12_of {a1 a2 a3 a4 a5 a6 a7 a8 a9 a10 a11 a12 ρ : Type} {o : Option (a1 × a2 × a3 × a4 × a5 × a6 × a7 × a8 × a9 × a10 × a11 × a12)} {k : a1 → a2 → a3 → a4 → a5 → a6 → a7 → a8 → a9 → a10 → a11 → a12 → Option ρ} {r : ρ} (h : jx_b12 o k = some r) : ∃ x1 x2 x3 x4 x5 x6 x7 x8 x9 x10 x11 x12, o = some (x1, x2, x3, x4, x5, x6, x7, x8, x9, x10, x11, x12) ∧ k x1 x2 x3 x4 x5 x6 x7 x8 x9 x10 x11 x12 = some r := by
  match o, h with
  | some (x1, x2, x3, x4, x5, x6, x7, x8, x9, x10, x11, x12), h => exact ⟨x1, x2, x3, x4, x5, x6, x7, x8, x9, x10, x11, x12, rfl, h⟩
theorem jx_b12_eq {a1 a2 a3 a4 a5 a6 a7 a8 a9 a10 a11 a12 ρ : Type} {o : Option (a1 × a2 × a3 × a4 × a5 × a6 × a7 × a8 × a9 × a10 × a11 × a12)} {k : a1 → a2 → a3 → a4 → a5 → a6 → a7 → a8 → a9 → a10 → a11 → a12 → Option ρ} {x1 : a1} {x2 : a2} {x3 : a3} {x4 : a4} {x5 : a5} {x6 : a6} {x7 : a7} {x8 : a8} {x9 : a9} {x10 : a10} {x11 : a11} {x12 : a12} (h : o = some (x1, x2, x3, x4, x5, x6, x7, x8, x9, x10, x11, x12)) : jx_b12 o k = k x1 x2 x3 x4 x5 x6 x7 x8 x9 x10 x11 x12 := by
  subst h
  rfl
def jx_b13 {a1 a2 a3 a4 a5 a6 a7 a8 a9 a10 a11 a12 a13 ρ : Type} (o : Option (a1 × a2 × a3 × a4 × a5 × a6 × a7 × a8 × a9 × a10 × a11 × a12 × a13)) (k : a1 → a2 → a3 → a4 → a5 → a6 → a7 → a8 → a9 → a10 → a11 → a12 → a13 → Option ρ) : Option ρ := match o with
  | none => none
  | some (x1, x2, x3, x4, x5, x6, x7, x8, x9, x10, x11, x12, x13) => k x1 x2 x3 x4 x5 x6 x7 x8 x9 x10 x11 x12 x13
theorem jx_b13_of {a1 a2 a3 a4 a5 a6 a7 a8 a9 a10 a11 a12 a13 ρ : Type} {o : Option (a1 × a2 × a3 × a4 × a5 × a6 × a7 × a8 × a9 × a10 × a11 × a12 × a13)} {k : a1 → a2 → a3 → a4 → a5 → a6 → a7 → a8 → a9 → a10 → a11 → a12 → a13 → Option ρ} {r : ρ} (h : jx_b13 o k = some r) : ∃ x1 x2 x3 x4 x5 x6 x7 x8 x9 x10 x11 x12 x13, o = some (x1, x2, x3, x4, x5, x6, x7, x8, x9, x10, x11, x12, x13) ∧ k x1 x2 x3 x4 x5 x6 x7 x8 x9 x10 x11 x12 x13 = some r := by
  match o, h with
  | some (x1, x2, x3, x4, x5, x6, x7, x8, x9, x10, x11, x12, x13), h => exact ⟨x1, x2, x3, x4, x5, x6, x7, x8, x9, x10, x11, x12, x13, rfl, h⟩
theorem jx_b13_eq {a1 a2 a3 a4 a5 a6 a7 a8 a9 a10 a11 a12 a13 ρ : Type} {o : Option (a1 × a2 × a3 × a4 × a5 × a6 × a7 × a8 × a9 × a10 × a11 × a12 × a13)} {k : a1 → a2 → a3 → a4 → a5 → a6 → a7 → a8 → a9 → a10 → a11 → a12 → a13 → Option ρ} {x1 : a1} {x2 : a2} {x3 : a3} {x4 : a4} {x5 : a5} {x6 : a6} {x7 : a7} {x8 : a8} {x9 : a9} {x10 : a10} {x11 : a11} {x12 : a12} {x13 : a13} (h : o = some (x1, x2, x3, x4, x5, x6, x7, x8, x9, x10, x11, x12, x13)) : jx_b13 o k = k x1 x2 x3 x4 x5 x6 x7 x8 x9 x10 x11 x12 x13 := by
  subst h
  rfl
def jx_b14 {a1 a2 a3 a4 a5 a6 a7 a8 a9 a10 a11 a12 a13 a14 ρ : Type} (o : Option (a1 × a2 × a3 × a4 × a5 × a6 × a7 × a8 × a9 × a10 × a11 × a12 × a13 × a14)) (k : a1 → a2 → a3 → a4 → a5 → a6 → a7 → a8 → a9 → a10 → a11 → a12 → a13 → a14 → Option ρ) : Option ρ := match o with
  | none => none
  | some (x1, x2, x3, x4, x5, x6, x7, x8, x9, x10, x11, x12, x13, x14) => k x1 x2 x3 x4 x5 x6 x7 x8 x9 x10 x11 x12 x13 x14
theorem jx_b14_of {a1 a2 a3 a4 a5 a6 a7 a8 a9 a10 a11 a12 a13 a14 ρ : Type} {o : Option (a1 × a2 × a3 × a4 × a5 × a6 × a7 × a8 × a9 × a10 × a11 × a12 × a13 × a14)} {k : a1 → a2 → a3 → a4 → a5 → a6 → a7 → a8 → a9 → a10 → a11 → a12 → a13 → a14 → Option ρ} {r : ρ} (h : jx_b14 o k = some r) : ∃ x1 x2 x3 x4 x5 x6 x7 x8 x9 x10 x11 x12 x13 x14, o = some (x1, x2, x3, x4, x5, x6, x7, x8, x9, x10, x11, x12, x13, x14) ∧ k x1 x2 x3 x4 x5 x6 x7 x8 x9 x10 x11 x12 x13 x14 = some r := by
  match o, h with
  | some (x1, x2, x3, x4, x5, x6, x7, x8, x9, x10, x11, x12, x13, x14), h => exact ⟨x1, x2, x3, x4, x5, x6, x7, x8, x9, x10, x11, x12, x13, x14, rfl, h⟩
theorem jx_b14_eq {a1 a2 a3 a4 a5 a6 a7 a8 a9 a10 a11 a12 a13 a14 ρ : Type} {o : Option (a1 × a2 × a3 × a4 × a5 × a6 × a7 × a8 × a9 × a10 × a11 × a12 × a13 × a14)} {k : a1 → a2 → a3 → a4 → a5 → a6 → a7 → a8 → a9 → a10 → a11 → a12 → a13 → a14 → Option ρ} {x1 : a1} {x2 : a2} {x3 : a3} {x4 : a4} {x5 : a5} {x6 : a6} {x7 : a7} {x8 : a8} {x9 : a9} {x10 : a10} {x11 : a11} {x12 : a12} {x13 : a13} {x14 : a14} (h : o = some (x1, x2, x3, x4, x5, x6, x7, x8, x9, x10, x11, x12, x13, x14)) : jx_b14 o k = k x1 x2 x3 x4 x5 x6 x7 x8 x9 x10 x11 x12 x13 x14 := by
  subst h
  rfl
def jx_b15 {a1 a2 a3 a4 a5 a6 a7 a8 a9 a10 a11 a12 a13 a14 a15 ρ : Type} (o : Option (a1 × a2 × a3 × a4 × a5 × a6 × a7 × a8 × a9 × a10 × a11 × a12 × a13 × a14 × a15)) (k : a1 → a2 → a3 → a4 → a5 → a6 → a7 → a8 → a9 → a10 → a11 → a12 → a13 → a14 → a15 → Option ρ) : Option ρ := match o with
  | none => none
  | some (x1, x2, x3, x4, x5, x6, x7, x8, x9, x10, x11, x12, x13, x14, x15) => k x1 x2 x3 x4 x5 x6 x7 x8 x9 x10 x11 x12 x13 x14 x15
theorem jx_b15_of {a1 a2 a3 a4 a5 a6 a7 a8 a9 a10 a11 a12 a13 a14 a15 ρ : Type} {o : Option (a1 × a2 × a3 × a4 × a5 × a6 × a7 × a8 × a9 × a10 × a11 × a12 × a13 × a14 × a15)} {k : a1 → a2 → a3 → a4 → a5 → a6 → a7 → a8 → a9 → a10 → a11 → a12 → a13 → a14 → a15 → Option ρ} {r : ρ} (h : jx_b15 o k = some r) : ∃ x1 x2 x3 x4 x5 x6 x7 x8 x9 x10 x11 x12 x13 x14 x15, o = some (x1, x2, x3, x4, x5, x6, x7, x8, x9, x10, x11, x12, x13, x14, x15) ∧ k x1 x2 x3 x4 x5 x6 x7 x8 x9 x10 x11 x12 x13 x14 x15 = some r := by
  match o, h with
  | some (x1, x2, x3, x4, x5, x6, x7, x8, x9, x10, x11, x12, x13, x14, x15), h => exact ⟨x1, x2, x3, x4, x5, x6, x7, x8, x9, x10, x11, x12, x13, x14, x15, rfl, h⟩
theorem jx_b15_eq {a1 a2 a3 a4 a5 a6 a7 a8 a9 a10 a11 a12 a13 a14 a15 ρ : Type} {o : Option (a1 × a2 × a3 × a4 × a5 × a6 × a7 × a8 × a9 × a10 × a11 × a12 × a13 × a14 × a15)} {k : a1 → a2 → a3 → a4 → a5 → a6 → a7 → a8 → a9 → a10 → a11 → a12 → a13 → a14 → a15 → Option ρ} {x1 : a1} {x2 : a2} {x3 : a3} {x4 : a4} {x5 : a5} {x6 : a6} {x7 : a7} {x8 : a8} {x9 : a9} {x10 : a10} {x11 : a11} {x12 : a12} {x13 : a13} {x14 : a14} {x15 : a15} (h : o = some (x1, x2, x3, x4, x5, x6, x7, x8, x9, x10, x11, x12, x13, x14, x15)) : jx_b15 o k = k x1 x2 x3 x4 x5 x6 x7 x8 x9 x10 x11 x12 x13 x14 x15 := by
  subst h
  rfl
def jx_b16 {a1 a2 a3 a4 a5 a6 a7 a8 a9 a10 a11 a12 a13 a14 a15 a16 ρ : Type} (o : Option (a1 × a2 × a3 × a4 × a5 × a6 × a7 × a8 × a9 × a10 × a11 × a12 × a13 × a14 × a15 × a16)) (k : a1 → a2 → a3 → a4 → a5 → a6 → a7 → a8 → a9 → a10 → a11 → a12 → a13 → a14 → a15 → a16 → Option ρ) : Option ρ := match o with
  | none => none
  | some (x1, x2, x3, x4, x5, x6, x7, x8, x9, x10, x11, x12, x13, x14, x15, x16) => k x1 x2 x3 x4 x5 x6 x7 x8 x9 x10 x11 x12 x13 x14 x15 x16
theorem jx_b16_of {a1 a2 a3 a4 a5 a6 a7 a8 a9 a10 a11 a12 a13 a14 a15 a16 ρ : Type} {o : Option (a1 × a2 × a3 × a4 × a5 × a6 × a7 × a8 × a9 × a10 × a11 × a12 × a13 × a14 × a15 × a16)} {k : a1 → a2 → a3 → a4 → a5 → a6 → a7 → a8 → a9 → a10 → a11 → a12 → a13 → a14 → a15 → a16 → Option ρ} {r : ρ} (h : jx_b16 o k = some r) : ∃ x1 x2 x3 x4 x5 x6 x7 x8 x9 x10 x11 x12 x13 x14 x15 x16, o = some (x1, x2, x3, x4, x5, x6, x7, x8, x9, x10, x11, x12, x13, x14, x15, x16) ∧ k x1 x2 x3 x4 x5 x6 x7 x8 x9 x10 x11 x12 x13 x14 x15 x16 = some r := by
  match o, h with
  | some (x1, x2, x3, x4, x5, x6, x7, x8, x9, x10, x11, x12, x13, x14, x15, x16), h => exact ⟨x1, x2, x3, x4, x5, x6, x7, x8, x9, x10, x11, x12, x13, x14, x15, x16, rfl, h⟩
theorem jx_b16_eq {a1 a2 a3 a4 a5 a6 a7 a8 a9 a10 a11 a12 a13 a14 a15 a16 ρ : Type} {o : Option (a1 × a2 × a3 × a4 × a5 × a6 × a7 × a8 × a9 × a10 × a11 × a12 × a13 × a14 × a15 × a16)} {k : a1 → a2 → a3 → a4 → a5 → a6 → a7 → a8 → a9 → a10 → a11 → a12 → a13 → a14 → a15 → a16 → Option ρ} {x1 : a1} {x2 : a2} {x3 : a3} {x4 : a4} {x5 : a5} {x6 : a6} {x7 : a7} {x8 : a8} {x9 : a9} {x10 : a10} {x11 : a11} {x12 : a12} {x13 : a13} {x14 : a14} {x15 : a15} {x16 : a16} (h : o = some (x1, x2, x3, x4, x5, x6, x7, x8, x9, x10, x11, x12, x13, x14, x15, x16)) : jx_b16 o k = k x1 x2 x3 x4 x5 x6 x7 x8 x9 x10 x11 x12 x13 x14 x15 x16 := by
  subst h
  rfl
def jx_b17 {a1 a2 a3 a4 a5 a6 a7 a8 a9 a10 a11 a12 a13 a14 a15 a16 a17 ρ : Type} (o : Option (a1 × a2 × a3 × a4 × a5 × a6 × a7 × a8 × a9 × a10 × a11 × a12 × a13 × a14 × a15 × a16 × a17)) (k : a1 → a2 → a3 → a4 → a5 → a6 → a7 → a8 → a9 → a10 → a11 → a12 → a13 → a14 → a15 → a16 → a17 → Option ρ) : Option ρ := match o with
  | none => none
  | some (x1, x2, x3, x4, x5, x6, x7, x8, x9, x10, x11, x12, x13, x14, x15, x16, x17) => k x1 x2 x3 x4 x5 x6 x7 x8 x9 x10 x11 x12 x13 x14 x15 x16 x17
theorem jx_b17_of {a1 a2 a3 a4 a5 a6 a7 a8 a9 a10 a11 a12 a13 a14 a15 a16 a17 ρ : Type} {o : Option (a1 × a2 × a3 × a4 × a5 × a6 × a7 × a8 × a9 × a10 × a11 × a12 × a13 × a14 × a15 × a16 × a17)} {k : a1 → a2 → a3 → a4 → a5 → a6 → a7 → a8 → a9 → a10 → a11 → a12 → a13 → a14 → a15 → a16 → a17 → Option ρ} {r : ρ} (h : jx_b17 o k = some r) : ∃ x1 x2 x3 x4 x5 x6 x7 x8 x9 x10 x11 x12 x13 x14 x15 x16 x17, o = some (x1, x2, x3, x4, x5, x6, x7, x8, x9, x10, x11, x12, x13, x14, x15, x16, x17) ∧ k x1 x2 x3 x4 x5 x6 x7 x8 x9 x10 x11 x12 x13 x14 x15 x16 x17 = some r := by
  match o, h with
  | some (x1, x2, x3, x4, x5, x6, x7, x8, x9, x10, x11, x12, x13, x14, x15, x16, x17), h => exact ⟨x1, x2, x3, x4, x5, x6, x7, x8, x9, x10, x11, x12, x13, x14, x15, x16, x17, rfl, h⟩
theorem jx_b17_eq {a1 a2 a3 a4 a5 a6 a7 a8 a9 a10 a11 a12 a13 a14 a15 a16 a17 ρ : Type} {o : Option (a1 × a2 × a3 × a4 × a5 × a6 × a7 × a8 × a9 × a10 × a11 × a12 × a13 × a14 × a15 × a16 × a17)} {k : a1 → a2 → a3 → a4 → a5 → a6 → a7 → a8 → a9 → a10 → a11 → a12 → a13 → a14 → a15 → a16 → a17 → Option ρ} {x1 : a1} {x2 : a2} {x3 : a3} {x4 : a4} {x5 : a5} {x6 : a6} {x7 : a7} {x8 : a8} {x9 : a9} {x10 : a10} {x11 : a11} {x12 : a12} {x13 : a13} {x14 : a14} {x15 : a15} {x16 : a16} {x17 : a17} (h : o = some (x1, x2, x3, x4, x5, x6, x7, x8, x9, x10, x11, x12, x13, x14, x15, x16, x17)) : jx_b17 o k = k x1 x2 x3 x4 x5 x6 x7 x8 x9 x10 x11 x12 x13 x14 x15 x16 x17 := by
  subst h
  rfl
def jx_b18 {a1 a2 a3 a4 a5 a6 a7 a8 a9 a10 a11 a12 a13 a14 a15 a16 a17 a18 ρ : Type} (o : Option (a1 × a2 × a3 × a4 × a5 × a6 × a7 × a8 × a9 × a10 × a11 × a12 × a13 × a14 × a15 × a16 × a17 × a18)) (k : a1 → a2 → a3 → a4 → a5 → a6 → a7 → a8 → a9 → a10 → a11 → a12 → a13 → a14 → a15 → a16 → a17 → a18 → Option ρ) : Option ρ := match o with
  | none => none
  | some (x1, x2, x3, x4, x5, x6, x7, x8, x9, x10, x11, x12, x13, x14, x15, x16, x17, x18) => k x1 x2 x3 x4 x5 x6 x7 x8 x9 x10 x11 x12 x13 x14 x15 x16 x17 x18
theorem jx_b18_of {a1 a2 a3 a4 a5 a6 a7 a8 a9 a10 a11 a12 a13 a14 a15 a16 a17 a18 ρ : Type} {o : Option (a1 × a2 × a3 × a4 × a5 × a6 × a7 × a8 × a9 × a10 × a11 × a12 × a13 × a14 × a15 × a16 × a17 × a18)} {k : a1 → a2 → a3 → a4 → a5 → a6 → a7 → a8 → a9 → a10 → a11 → a12 → a13 → a14 → a15 → a16 → a17 → a18 → Option ρ} {r : ρ} (h : jx_b18 o k = some r) : ∃ x1 x2 x3 x4 x5 x6 x7 x8 x9 x10 x11 x12 x13 x14 x15 x16 x17 x18, o = some (x1, x2, x3, x4, x5, x6, x7, x8, x9, x10, x11, x12, x13, x14, x15, x16, x17, x18) ∧ k x1 x2 x3 x4 x5 x6 x7 x8 x9 x10 x11 x12 x13 x14 x15 x16 x17 x18 = some r := by
  match o, h with
  | some (x1, x2, x3, x4, x5, x6, x7, x8, x9, x10, x11, x12, x13, x14, x15, x16, x17, x18), h => exact ⟨x1, x2, x3, x4, x5, x6, x7, x8, x9, x10, x11, x12, x13, x14, x15, x16, x17, x18, rfl, h⟩
theorem jx_b18_eq {a1 a2 a3 a4 a5 a6 a7 a8 a9 a10 a11 a12 a13 a14 a15 a16 a17 a18 ρ : Type} {o : Option (a1 × a2 × a3 × a4 × a5 × a6 × a7 × a8 × a9 × a10 × a11 × a12 × a13 × a14 × a15 × a16 × a17 × a18)} {k : a1 → a2 → a3 → a4 → a5 → a6 → a7 → a8 → a9 → a10 → a11 → a12 → a13 → a14 → a15 → a16 → a17 → a18 → Option ρ} {x1 : a1} {x2 : a2} {x3 : a3} {x4 : a4} {x5 : a5} {x6 : a6} {x7 : a7} {x8 : a8} {x9 : a9} {x10 : a10} {x11 : a11} {x12 : a12} {x13 : a13} {x14 : a14} {x15 : a15} {x16 : a16} {x17 : a17} {x18 : a18} (h : o = some (x1, x2, x3, x4, x5, x6, x7, x8, x9, x10, x11, x12, x13, x14, x15, x16, x17, x18)) : jx_b18 o k = k x1 x2 x3 x4 x5 x6 x7 x8 x9 x10 x11 x12 x13 x14 x15 x16 x17 x18 := by
  subst h
  rfl
def jx_b19 {a1 a2 a3 a4 a5 a6 a7 a8 a9 a10 a11 a12 a13 a14 a15 a16 a17 a18 a19 ρ : Type} (o : Option (a1 × a2 × a3 × a4 × a5 × a6 × a7 × a8 × a9 × a10 × a11 × a12 × a13 × a14 × a15 × a16 × a17 × a18 × a19)) (k : a1 → a2 → a3 → a4 → a5 → a6 → a7 → a8 → a9 → a10 → a11 → a12 → a13 → a14 → a15 → a16 → a17 → a18 → a19 → Option ρ) : Option ρ := match o with
  | none => none
  | some (x1, x2, x3, x4, x5, x6, x7, x8, x9, x10, x11, x12, x13, x14, x15, x16, x17, x18, x19) => k x1 x2 x3 x4 x5 x6 x7 x8 x9 x10 x11 x12 x13 x14 x15 x16 x17 x18 x19
theorem jx_b19_of {a1 a2 a3 a4 a5 a6 a7 a8 a9 a10 a11 a12 a13 a14 a15 a16 a17 a18 a19 ρ : Type} {o : Option (a1 × a2 × a3 × a4 × a5 × a6 × a7 × a8 × a9 × a10 × a11 × a12 × a13 × a14 × a15 × a16 × a17 × a18 × a19)} {k : a1 → a2 → a3 → a4 → a5 → a6 → a7 → a8 → a9 → a10 → a11 → a12 → a13 → a14 → a15 → a16 → a17 → a18 → a19 → Option ρ} {r : ρ} (h : jx_b19 o k = some r) : ∃ x1 x2 x3 x4 x5 x6 x7 x8 x9 x10 x11 x12 x13 x14 x15 x16 x17 x18 x19, o = some (x1, x2, x3, x4, x5, x6, x7, x8, x9, x10, x11, x12, x13, x14, x15, x16, x17, x18, x19) ∧ k x1 x2 x3 x4 x5 x6 x7 x8 x9 x10 x11 x12 x13 x14 x15 x16 x17 x18 x19 = some r := by
  match o, h with
  | some (x1, x2, x3, x4, x5, x6, x7, x8, x9, x10, x11, x12, x13, x14, x15, x16, x17, x18, x19), h => exact ⟨x1, x2, x3, x4, x5, x6, x7, x8, x9, x10, x11, x12, x13, x14, x15, x16, x17, x18, x19, rfl, h⟩
theorem jx_b19_eq {a1 a2 a3 a4 a5 a6 a7 a8 a9 a10 a11 a12 a13 a14 a15 a16 a17 a18 a19 ρ : Type} {o : Option (a1 × a2 × a3 × a4 × a5 × a6 × a7 × a8 × a9 × a10 × a11 × a12 × a13 × a14 × a15 × a16 × a17 × a18 × a19)} {k : a1 → a2 → a3 → a4 → a5 → a6 → a7 → a8 → a9 → a10 → a11 → a12 → a13 → a14 → a15 → a16 → a17 → a18 → a19 → Option ρ} {x1 : a1} {x2 : a2} {x3 : a3} {x4 : a4} {x5 : a5} {x6 : a6} {x7 : a7} {x8 : a8} {x9 : a9} {x10 : a10} {x11 : a11} {x12 : a12} {x13 : a13} {x14 : a14} {x15 : a15} {x16 : a16} {x17 : a17} {x18 : a18} {x19 : a19} (h : o = some (x1, x2, x3, x4, x5, x6, x7, x8, x9, x10, x11, x12, x13, x14, x15, x16, x17, x18, x19)) : jx_b19 o k = k x1 x2 x3 x4 x5 x6 x7 x8 x9 x10 x11 x12 x13 x14 x15 x16 x17 x18 x19 := by
  subst h
  rfl
def jx_b20 {a1 a2 a3 a4 a5 a6 a7 a8 a9 a10 a11 a12 a13 a14 a15 a16 a17 a18 a19 a20 ρ : Type} (o : Option (a1 × a2 × a3 × a4 × a5 × a6 × a7 × a8 × a9 × a10 × a11 × a12 × a13 × a14 × a15 × a16 × a17 × a18 × a19 × a20)) (k : a1 → a2 → a3 → a4 → a5 → a6 → a7 → a8 → a9 → a10 → a11 → a12 → a13 → a14 → a15 → a16 → a17 → a18 → a19 → a20 → Option ρ) : Option ρ := match o with
  | none => none
  | some (x1, x2, x3, x4, x5, x6, x7, x8, x9, x10, x11, x12, x13, x14, x15, x16, x17, x18, x19, x20) => k x1 x2 x3 x4 x5 x6 x7 x8 x9 x10 x11 x12 x13 x14 x15 x16 x17 x18 x19 x20
theorem jx_b20_of {a1 a2 a3 a4 a5 a6 a7 a8 a9 a10 a11 a12 a13 a14 a15 a16 a17 a18 a19 a20 ρ : Type} {o : Option (a1 × a2 × a3 × a4 × a5 × a6 × a7 × a8 × a9 × a10 × a11 × a12 × a13 × a14 × a15 × a16 × a17 × a18 × a19 × a20)} {k : a1 → a2 → a3 → a4 → a5 → a6 → a7 → a8 → a9 → a10 → a11 → a12 → a13 → a14 → a15 → a16 → a17 → a18 → a19 → a20 → Option ρ} {r : ρ} (h : jx_b20 o k = some r) : ∃ x1 x2 x3 x4 x5 x6 x7 x8 x9 x10 x11 x12 x13 x14 x15 x16 x17 x18 x19 x20, o = some (x1, x2, x3, x4, x5, x6, x7, x8, x9, x10, x11, x12, x13, x14, x15, x16, x17, x18, x19, x20) ∧ k x1 x2 x3 x4 x5 x6 x7 x8 x9 x10 x11 x12 x13 x14 x15 x16 x17 x18 x19 x20 = some r := by
  match o, h with
  | some (x1, x2, x3, x4, x5, x6, x7, x8, x9, x10, x11, x12, x13, x14, x15, x16, x17, x18, x19, x20), h => exact ⟨x1, x2, x3, x4, x5, x6, x7, x8, x9, x10, x11, x12, x13, x14, x15, x16, x17, x18, x19, x20, rfl, h⟩
theorem jx_b20_eq {a1 a2 a3 a4 a5 a6 a7 a8 a9 a10 a11 a12 a13 a14 a15 a16 a17 a18 a19 a20 ρ : Type} {o : Option (a1 × a2 × a3 × a4 × a5 × a6 × a7 × a8 × a9 × a10 × a11 × a12 × a13 × a14 × a15 × a16 × a17 × a18 × a19 × a20)} {k : a1 → a2 → a3 → a4 → a5 → a6 → a7 → a8 → a9 → a10 → a11 → a12 → a13 → a14 → a15 → a16 → a17 → a18 → a19 → a20 → Option ρ} {x1 : a1} {x2 : a2} {x3 : a3} {x4 : a4} {x5 : a5} {x6 : a6} {x7 : a7} {x8 : a8} {x9 : a9} {x10 : a10} {x11 : a11} {x12 : a12} {x13 : a13} {x14 : a14} {x15 : a15} {x16 : a16} {x17 : a17} {x18 : a18} {x19 : a19} {x20 : a20} (h : o = some (x1, x2, x3, x4, x5, x6, x7, x8, x9, x10, x11, x12, x13, x14, x15, x16, x17, x18, x19, x20)) : jx_b20 o k = k x1 x2 x3 x4 x5 x6 x7 x8 x9 x10 x11 x12 x13 x14 x15 x16 x17 x18 x19 x20 := by
  subst h
  rfl
def jx_b21 {a1 a2 a3 a4 a5 a6 a7 a8 a9 a10 a11 a12 a13 a14 a15 a16 a17 a18 a19 a20 a21 ρ : Type} (o : Option (a1 × a2 × a3 × a4 × a5 × a6 × a7 × a8 × a9 × a10 × a11 × a12 × a13 × a14 × a15 × a16 × a17 × a18 × a19 × a20 × a21)) (k : a1 → a2 → a3 → a4 → a5 → a6 → a7 → a8 → a9 → a10 → a11 → a12 → a13 → a14 → a15 → a16 → a17 → a18 → a19 → a20 → a21 → Option ρ) : Option ρ := match o with
  | none => none
  | some (x1, x2, x3, x4, x5, x6, x7, x8, x9, x10, x11, x12, x13, x14, x15, x16, x17, x18, x19, x20, x21) => k x1 x2 x3 x4 x5 x6 x7 x8 x9 x10 x11 x12 x13 x14 x15 x16 x17 x18 x19 x20 x21
theorem jx_b21_of {a1 a2 a3 a4 a5 a6 a7 a8 a9 a10 a11 a12 a13 a14 a15 a16 a17 a18 a19 a20 a21 ρ : Type} {o : Option (a1 × a2 × a3 × a4 × a5 × a6 × a7 × a8 × a9 × a10 × a11 × a12 × a13 × a14 × a15 × a16 × a17 × a18 × a19 × a20 × a21)} {k : a1 → a2 → a3 → a4 → a5 → a6 → a7 → a8 → a9 → a10 → a11 → a12 → a13 → a14 → a15 → a16 → a17 → a18 → a19 → a20 → a21 → Option ρ} {r : ρ} (h : jx_b21 o k = some r) : ∃ x1 x2 x3 x4 x5 x6 x7 x8 x9 x10 x11 x12 x13 x14 x15 x16 x17 x18 x19 x20 x21, o = some (x1, x2, x3, x4, x5, x6, x7, x8, x9, x10, x11, x12, x13, x14, x15, x16, x17, x18, x19, x20, x21) ∧ k x1 x2 x3 x4 x5 x6 x7 x8 x9 x10 x11 x12 x13 x14 x15 x16 x17 x18 x19 x20 x21 = some r := by
  match o, h with
  | some (x1, x2, x3, x4, x5, x6, x7, x8, x9, x10, x11, x12, x13, x14, x15, x16, x17, x18, x19, x20, x21), h => exact ⟨x1, x2, x3, x4, x5, x6, x7, x8, x9, x10, x11, x12, x13, x14, x15, x16, x17, x18, x19, x20, x21, rfl, h⟩
theorem jx_b21_eq {a1 a2 a3 a4 a5 a6 a7 a8 a9 a10 a11 a12 a13 a14 a15 a16 a17 a18 a19 a20 a21 ρ : Type} {o : Option (a1 × a2 × a3 × a4 × a5 × a6 × a7 × a8 × a9 × a10 × a11 × a12 × a13 × a14 × a15 × a16 × a17 × a18 × a19 × a20 × a21)} {k : a1 → a2 → a3 → a4 → a5 → a6 → a7 → a8 → a9 → a10 → a11 → a12 → a13 → a14 → a15 → a16 → a17 → a18 → a19 → a20 → a21 → Option ρ} {x1 : a1} {x2 : a2} {x3 : a3} {x4 : a4} {x5 : a5} {x6 : a6} {x7 : a7} {x8 : a8} {x9 : a9} {x10 : a10} {x11 : a11} {x12 : a12} {x13 : a13} {x14 : a14} {x15 : a15} {x16 : a16} {x17 : a17} {x18 : a18} {x19 : a19} {x20 : a20} {x21 : a21} (h : o = some (x1, x2, x3, x4, x5, x6, x7, x8, x9, x10, x11, x12, x13, x14, x15, x16, x17, x18, x19, x20, x21)) : jx_b21 o k = k x1 x2 x3 x4 x5 x6 x7 x8 x9 x10 x11 x12 x13 x14 x15 x16 x17 x18 x19 x20 x21 := by
  subst h
  rfl
def jx_b22 {a1 a2 a3 a4 a5 a6 a7 a8 a9 a10 a11 a12 a13 a14 a15 a16 a17 a18 a19 a20 a21 a22 ρ : Type} (o : Option (a1 × a2 × a3 × a4 × a5 × a6 × a7 × a8 × a9 × a10 × a11 × a12 × a13 × a14 × a15 × a16 × a17 × a18 × a19 × a20 × a21 × a22)) (k : a1 → a2 → a3 → a4 → a5 → a6 → a7 → a8 → a9 → a10 → a11 → a12 → a13 → a14 → a15 → a16 → a17 → a18 → a19 → a20 → a21 → a22 → Option ρ) : Option ρ := match o with
  | none => none
  | some (x1, x2, x3, x4, x5, x6, x7, x8, x9, x10, x11, x12, x13, x14, x15, x16, x17, x18, x19, x20, x21, x22) => k x1 x2 x3 x4 x5 x6 x7 x8 x9 x10 x11 x12 x13 x14 x15 x16 x17 x18 x19 x20 x21 x22
theorem jx_b22_of {a1 a2 a3 a4 a5 a6 a7 a8 a9 a10 a11 a12 a13 a14 a15 a16 a17 a18 a19 a20 a21 a22 ρ : Type} {o : Option (a1 × a2 × a3 × a4 × a5 × a6 × a7 × a8 × a9 × a10 × a11 × a12 × a13 × a14 × a15 × a16 × a17 × a18 × a19 × a20 × a21 × a22)} {k : a1 → a2 → a3 → a4 → a5 → a6 → a7 → a8 → a9 → a10 → a11 → a12 → a13 → a14 → a15 → a16 → a17 → a18 → a19 → a20 → a21 → a22 → Option ρ} {r : ρ} (h : jx_b22 o k = some r) : ∃ x1 x2 x3 x4 x5 x6 x7 x8 x9 x10 x11 x12 x13 x14 x15 x16 x17 x18 x19 x20 x21 x22, o = some (x1, x2, x3, x4, x5, x6, x7, x8, x9, x10, x11, x12, x13, x14, x15, x16, x17, x18, x19, x20, x21, x22) ∧ k x1 x2 x3 x4 x5 x6 x7 x8 x9 x10 x11 x12 x13 x14 x15 x16 x17 x18 x19 x20 x21 x22 = some r := by
  match o, h with
  | some (x1, x2, x3, x4, x5, x6, x7, x8, x9, x10, x11, x12, x13, x14, x15, x16, x17, x18, x19, x20, x21, x22), h => exact ⟨x1, x2, x3, x4, x5, x6, x7, x8, x9, x10, x11, x12, x13, x14, x15, x16, x17, x18, x19, x20, x21, x22, rfl, h⟩
theorem jx_b22_eq {a1 a2 a3 a4 a5 a6 a7 a8 a9 a10 a11 a12 a13 a14 a15 a16 a17 a18 a19 a20 a21 a22 ρ : Type} {o : Option (a1 × a2 × a3 × a4 × a5 × a6 × a7 × a8 × a9 × a10 × a11 × a12 × a13 × a14 × a15 × a16 × a17 × a18 × a19 × a20 × a21 × a22)} {k : a1 → a2 → a3 → a4 → a5 → a6 → a7 → a8 → a9 → a10 → a11 → a12 → a13 → a14 → a15 → a16 → a17 → a18 → a19 → a20 → a21 → a22 → Option ρ} {x1 : a1} {x2 : a2} {x3 : a3} {x4 : a4} {x5 : a5} {x6 : a6} {x7 : a7} {x8 : a8} {x9 : a9} {x10 : a10} {x11 : a11} {x12 : a12} {x13 : a13} {x14 : a14} {x15 : a15} {x16 : a16} {x17 : a17} {x18 : a18} {x19 : a19} {x20 : a20} {x21 : a21} {x22 : a22} (h : o = some (x1, x2, x3, x4, x5, x6, x7, x8, x9, x10, x11, x12, x13, x14, x15, x16, x17, x18, x19, x20, x21, x22)) : jx_b22 o k = k x1 x2 x3 x4 x5 x6 x7 x8 x9 x10 x11 x12 x13 x14 x15 x16 x17 x18 x19 x20 x21 x22 := by
  subst h
  rfl
def jx_b23 {a1 a2 a3 a4 a5 a6 a7 a8 a9 a10 a11 a12 a13 a14 a15 a16 a17 a18 a19 a20 a21 a22 a23 ρ : Type} (o : Option (a1 × a2 × a3 × a4 × a5 × a6 × a7 × a8 × a9 × a10 × a11 × a12 × a13 × a14 × a15 × a16 × a17 × a18 × a19 × a20 × a21 × a22 × a23)) (k : a1 → a2 → a3 → a4 → a5 → a6 → a7 → a8 → a9 → a10 → a11 → a12 → a13 → a14 → a15 → a16 → a17 → a18 → a19 → a20 → a21 → a22 → a23 → Option ρ) : Option ρ := match o with
  | none => none
  | some (x1, x2, x3, x4, x5, x6, x7, x8, x9, x10, x11, x12, x13, x14, x15, x16, x17, x18, x19, x20, x21, x22, x23) => k x1 x2 x3 x4 x5 x6 x7 x8 x9 x10 x11 x12 x13 x14 x15 x16 x17 x18 x19 x20 x21 x22 x23
theorem jx_b23_of {a1 a2 a3 a4 a5 a6 a7 a8 a9 a10 a11 a12 a13 a14 a15 a16 a17 a18 a19 a20 a21 a22 a23 ρ : Type} {o : Option (a1 × a2 × a3 × a4 × a5 × a6 × a7 × a8 × a9 × a10 × a11 × a12 × a13 × a14 × a15 × a16 × a17 × a18 × a19 × a20 × a21 × a22 × a23)} {k : a1 → a2 → a3 → a4 → a5 → a6 → a7 → a8 → a9 → a10 → a11 → a12 → a13 → a14 → a15 → a16 → a17 → a18 → a19 → a20 → a21 → a22 → a23 → Option ρ} {r : ρ} (h : jx_b23 o k = some r) : ∃ x1 x2 x3 x4 x5 x6 x7 x8 x9 x10 x11 x12 x13 x14 x15 x16 x17 x18 x19 x20 x21 x22 x23, o = some (x1, x2, x3, x4, x5, x6, x7, x8, x9, x10, x11, x12, x13, x14, x15, x16, x17, x18, x19, x20, x21, x22, x23) ∧ k x1 x2 x3 x4 x5 x6 x7 x8 x9 x10 x11 x12 x13 x14 x15 x16 x17 x18 x19 x20 x21 x22 x23 = some r := by
  match o, h with
  | some (x1, x2, x3, x4, x5, x6, x7, x8, x9, x10, x11, x12, x13, x14, x15, x16, x17, x18, x19, x20, x21, x22, x23), h => exact ⟨x1, x2, x3, x4, x5, x6, x7, x8, x9, x10, x11, x12, x13, x14, x15, x16, x17, x18, x19, x20, x21, x22, x23, rfl, h⟩
theorem jx_b23_eq {a1 a2 a3 a4 a5 a6 a7 a8 a9 a10 a11 a12 a13 a14 a15 a16 a17 a18 a19 a20 a21 a22 a23 ρ : Type} {o : Option (a1 × a2 × a3 × a4 × a5 × a6 × a7 × a8 × a9 × a10 × a11 × a12 × a13 × a14 × a15 × a16 × a17 × a18 × a19 × a20 × a21 × a22 × a23)} {k : a1 → a2 → a3 → a4 → a5 → a6 → a7 → a8 → a9 → a10 → a11 → a12 → a13 → a14 → a15 → a16 → a17 → a18 → a19 → a20 → a21 → a22 → a23 → Option ρ} {x1 : a1} {x2 : a2} {x3 : a3} {x4 : a4} {x5 : a5} {x6 : a6} {x7 : a7} {x8 : a8} {x9 : a9} {x10 : a10} {x11 : a11} {x12 : a12} {x13 : a13} {x14 : a14} {x15 : a15} {x16 : a16} {x17 : a17} {x18 : a18} {x19 : a19} {x20 : a20} {x21 : a21} {x22 : a22} {x23 : a23} (h : o = some (x1, x2, x3, x4, x5, x6, x7, x8, x9, x10, x11, x12, x13, x14, x15, x16, x17, x18, x19, x20, x21, x22, x23)) : jx_b23 o k = k x1 x2 x3 x4 x5 x6 x7 x8 x9 x10 x11 x12 x13 x14 x15 x16 x17 x18 x19 x20 x21 x22 x23 := by
  subst h
  rfl
def jx_b24 {a1 a2 a3 a4 a5 a6 a7 a8 a9 a10 a11 a12 a13 a14 a15 a16 a17 a18 a19 a20 a21 a22 a23 a24 ρ : Type} (o : Option (a1 × a2 × a3 × a4 × a5 × a6 × a7 × a8 × a9 × a10 × a11 × a12 × a13 × a14 × a15 × a16 × a17 × a18 × a19 × a20 × a21 × a22 × a23 × a24)) (k : a1 → a2 → a3 → a4 → a5 → a6 → a7 → a8 → a9 → a10 → a11 → a12 → a13 → a14 → a15 → a16 → a17 → a18 → a19 → a20 → a21 → a22 → a23 → a24 → Option ρ) : Option ρ := match o with
  | none => none
  | some (x1, x2, x3, x4, x5, x6, x7, x8, x9, x10, x11, x12, x13, x14, x15, x16, x17, x18, x19, x20, x21, x22, x23, x24) => k x1 x2 x3 x4 x5 x6 x7 x8 x9 x10 x11 x12 x13 x14 x15 x16 x17 x18 x19 x20 x21 x22 x23 x24
theorem jx_b24_of {a1 a2 a3 a4 a5 a6 a7 a8 a9 a10 a11 a12 a13 a14 a15 a16 a17 a18 a19 a20 a21 a22 a23 a24 ρ : Type} {o : Option (a1 × a2 × a3 × a4 × a5 × a6 × a7 × a8 × a9 × a10 × a11 × a12 × a13 × a14 × a15 × a16 × a17 × a18 × a19 × a20 × a21 × a22 × a23 × a24)} {k : a1 → a2 → a3 → a4 → a5 → a6 → a7 → a8 → a9 → a10 → a11 → a12 → a13 → a14 → a15 → a16 → a17 → a18 → a19 → a20 → a21 → a22 → a23 → a24 → Option ρ} {r : ρ} (h : jx_b24 o k = some r) : ∃ x1 x2 x3 x4 x5 x6 x7 x8 x9 x10 x11 x12 x13 x14 x15 x16 x17 x18 x19 x20 x21 x22 x23 x24, o = some (x1, x2, x3, x4, x5, x6, x7, x8, x9, x10, x11, x12, x13, x14, x15, x16, x17, x18, x19, x20, x21, x22, x23, x24) ∧ k x1 x2 x3 x4 x5 x6 x7 x8 x9 x10 x11 x12 x13 x14 x15 x16 x17 x18 x19 x20 x21 x22 x23 x24 = some r := by
  match o, h with
  | some (x1, x2, x3, x4, x5, x6, x7, x8, x9, x10, x11, x12, x13, x14, x15, x16, x17, x18, x19, x20, x21, x22, x23, x24), h => exact ⟨x1, x2, x3, x4, x5, x6, x7, x8, x9, x10, x11, x12, x13, x14, x15, x16, x17, x18, x19, x20, x21, x22, x23, x24, rfl, h⟩
theorem jx_b24_eq {a1 a2 a3 a4 a5 a6 a7 a8 a9 a10 a11 a12 a13 a14 a15 a16 a17 a18 a19 a20 a21 a22 a23 a24 ρ : Type} {o : Option (a1 × a2 × a3 × a4 × a5 × a6 × a7 × a8 × a9 × a10 × a11 × a12 × a13 × a14 × a15 × a16 × a17 × a18 × a19 × a20 × a21 × a22 × a23 × a24)} {k : a1 → a2 → a3 → a4 → a5 → a6 → a7 → a8 → a9 → a10 → a11 → a12 → a13 → a14 → a15 → a16 → a17 → a18 → a19 → a20 → a21 → a22 → a23 → a24 → Option ρ} {x1 : a1} {x2 : a2} {x3 : a3} {x4 : a4} {x5 : a5} {x6 : a6} {x7 : a7} {x8 : a8} {x9 : a9} {x10 : a10} {x11 : a11} {x12 : a12} {x13 : a13} {x14 : a14} {x15 : a15} {x16 : a16} {x17 : a17} {x18 : a18} {x19 : a19} {x20 : a20} {x21 : a21} {x22 : a22} {x23 : a23} {x24 : a24} (h : o = some (x1, x2, x3, x4, x5, x6, x7, x8, x9, x10, x11, x12, x13, x14, x15, x16, x17, x18, x19, x20, x21, x22, x23, x24)) : jx_b24 o k = k x1 x2 x3 x4 x5 x6 x7 x8 x9 x10 x11 x12 x13 x14 x15 x16 x17 x18 x19 x20 x21 x22 x23 x24 := by
  subst h
  rfl
theorem jx_t {c : Prop} [Decidable c] {α : Type} {a b r : α} (h : (if c then a else b) = r) (hc : c) : a = r := by rw [if_pos hc] at h; exact h
theorem jx_f {c : Prop} [Decidable c] {α : Type} {a b r : α} (h : (if c then a else b) = r) (hc : ¬ c) : b = r := by rw [if_neg hc] at h; exact h
/-- a check of the machine: what fails it has no answer -/
def jx_g {α : Type} (b : Bool) (k : Option α) : Option α := match b with
  | true => k
  | false => none
theorem jx_g_of {α : Type} {b : Bool} {k : Option α} {r : α} (h : jx_g b k = some r) : b = true ∧ k = some r := by
  match b, h with
  | true, h => exact ⟨rfl, h⟩
/-- an index lies within a row -/
def jx_in (i : Int32) (n : Nat) : Bool := !decide (i < 0) && decide (i.toNatClampNeg < n)
theorem jx_in_of {i : Int32} {n : Nat} (h : jx_in i n = true) : vp_in i n := by
  simp only [jx_in, Bool.and_eq_true, Bool.not_eq_true', decide_eq_false_iff_not, decide_eq_true_eq] at h
  intro q
  rcases q with q | q
  · exact h.1 q
  · omega
def jx_nz (i : Int32) : Bool := !decide (i = 0)
theorem jx_nz_of {i : Int32} (h : jx_nz i = true) : ¬ i = 0 := by simpa [jx_nz] using h
/-- a number that is a truth value -/
def jx_tf (i : Int32) : Bool := decide (i = 0) || decide (i = 1)
theorem jx_tf_of {i : Int32} (h : jx_tf i = true) : narrow .boolean (.int i) = .int i := by
  simp only [jx_tf, Bool.or_eq_true, decide_eq_true_eq] at h
  rcases h with h | h <;> subst h <;> rfl
theorem jx_tf_fit {i : Int32} (h : jx_tf i = true) : fits .boolean (.int i) = true := by
  simp only [jx_tf, Bool.or_eq_true, decide_eq_true_eq] at h
  rcases h with h | h <;> subst h <;> rfl
/-- a copy's bounds -/
def jx_cp (sp dp n : Int32) (n0 n1 : Nat) : Bool := !decide (sp < 0) && !decide (dp < 0) && !decide (n < 0) && decide (sp.toNatClampNeg + n.toNatClampNeg ≤ n0) && decide (dp.toNatClampNeg + n.toNatClampNeg ≤ n1)
theorem jx_cp_of {sp dp n : Int32} {n0 n1 : Nat} (h : jx_cp sp dp n n0 n1 = true) : (¬ sp < 0) ∧ (¬ dp < 0) ∧ (¬ n < 0) ∧ sp.toNatClampNeg + n.toNatClampNeg ≤ n0 ∧ dp.toNatClampNeg + n.toNatClampNeg ≤ n1 := by
  simp only [jx_cp, Bool.and_eq_true, Bool.not_eq_true', decide_eq_false_iff_not, decide_eq_true_eq] at h
  exact ⟨h.1.1.1.1, h.1.1.1.2, h.1.1.2, h.1.2, h.2⟩
/-- how often a loop may turn, far above what any does -/
def jx_F : Nat := 100000000
section JXC
variable {p : Program} {l : Launch} {e : Env} {R : Room} {s : State} {m : MethodId} {args : Array Value} {below : List Frame} {meth : Method} {c : Code} {H : Heap} {locs : List Loc} {cells slots : Nat} {Q : State → Prop}
variable {y : MethodName} {bytes cc : ByteArray} {maxL nL n index pc : Nat} {ret : Option FieldType} {ws : List Cond} {rm : Room} {Ts : List Cond} {own C : String} {b : Addr} {As rest st0 : List Value} {ls : Array Slot} {D : va_G} {tys : List (ClassId × FieldType)} {wd wc : va_W}
theorem jx_read {o : Option Value} {a : Array Value} {mc ms : Nat} (hr : CallRun p l e R s m args below meth c H locs cells slots 0 0 (F0 m pc ls st0) rest (jx_S o a) (fun _ => False)) (kk : W p l e R s m args below meth c H locs cells slots Q (F0 m (pc + 3) ls (o.toList ++ rest))) : W p l e R s m args below meth c H locs cells slots Q (F0 m pc ls st0) := by
  intro T hT X
  obtain ⟨v, st₀, t, T', L, h0, X', hL, e1, ⟨hv, hh⟩, st⟩ := hr T hT X
  cases hv
  obtain ⟨t2, a1, b1⟩ := kk T' (by rw [e1, hh, h0]) (Stand.forget X' (fun q h => (hL q h).elim))
  exact ⟨t2, st t2 a1, b1⟩
theorem jx_run {mc ms : Nat} {g : JFrame} {Qa : State → Outcome → State → Prop} {free : Addr → Prop} (h : va_Run p l e R s m args below meth c H locs cells slots mc ms g rest Qa free) : CallRun p l e R s m args below meth c H locs cells slots mc ms g rest Qa free := by
  intro T hT X
  obtain ⟨v, st₀, t, T', L, h0, X', hL, e1, -, hq, st⟩ := h T hT X
  exact ⟨v, st₀, t, T', L, h0, X', hL, e1, hq, st⟩
/-- a virtual call that reads -/
theorem jx_cV {o : Option Value} (S : CallFix p m c cc nL s args Ts own) (hM : Met l y ws rm (va_Pc (.ref b :: As) (jx_R D tys wc)) (jx_S o) 0 0 (fun _ => False)) (cw : CallW R s args own C index y bytes maxL ret ws rm 0 0 n)
    (hK : va_K D vwCl tys s) (hN : jx_N s) (hP : va_P D vwCl wd H) (is : List Nat) (hs : is.filterMap (fun i => wd[i]?) = wc) (hrecv : ∃ cell : Cell, H[b]? = some cell ∧ cell.vm.isStatics = false ∧ s.vm.findClass C = some cell.cls)
    (hn : As.length = n) (hsize : ls.size = nL) (hstack : st0 = As.reverse ++ .ref b :: rest) (hW : (rest.map fun v => v.category).sum ≤ 8) (hdg : decode cc pc = .ok (.invokevirtual index, 3)) (hf : cells ≤ R.cells ∧ slots ≤ R.slots)
    (kk : W p l e R s m args below meth c H locs cells slots Q (F0 m (pc + 3) ls (o.toList ++ rest))) : W p l e R s m args below meth c H locs cells slots Q (F0 m pc ls st0) :=
  jx_read (mc := 0) (ms := 0) (W.runV (As := As) (rest := rest) (b := b) S hM cw ⟨jx_R_blind, hrecv, jx_R_pre (hP.sub is hs) hK hN⟩ rfl hn hsize hstack (lv_room hW) hdg hf) kk
/-- a static call (it reads its numbers alone) -/
theorem jx_cS {o : Option Value} (S : CallFix p m c cc nL s args Ts own) (hM : Met l y ws rm (fun v _ => v = As.toArray) (jx_S o) 0 0 (fun _ => False)) (cw : CallB R s args own index y bytes maxL ret ws rm 0 0 n ∧ (Cond.static y).before args s = true)
    (hn : As.length = n) (hsize : ls.size = nL) (hstack : st0 = As.reverse ++ rest) (hW : (rest.map fun v => v.category).sum ≤ 8) (hdg : decode cc pc = .ok (.invokestatic index, 3)) (hf : cells ≤ R.cells ∧ slots ≤ R.slots)
    (kk : W p l e R s m args below meth c H locs cells slots Q (F0 m (pc + 3) ls (o.toList ++ rest))) : W p l e R s m args below meth c H locs cells slots Q (F0 m pc ls st0) :=
  jx_read (mc := 0) (ms := 0) (W.runS (As := As) (rest := rest) S hM cw preEq rfl hn hsize hstack (lv_room hW) hdg hf) kk
/-- the same of a nest mate -/
theorem jx_cSN {o : Option Value} {host : String} (S : CallFix p m c cc nL s args Ts own) (hM : Met l y ws rm (fun v _ => v = As.toArray) (jx_S o) 0 0 (fun _ => False)) (cw : va_CN R s args own index y host bytes maxL ret ws rm 0 0 n ∧ (Cond.static y).before args s = true ∧ True)
    (hn : As.length = n) (hsize : ls.size = nL) (hstack : st0 = As.reverse ++ rest) (hW : (rest.map fun v => v.category).sum ≤ 8) (hdg : decode cc pc = .ok (.invokestatic index, 3)) (hf : cells ≤ R.cells ∧ slots ≤ R.slots)
    (kk : W p l e R s m args below meth c H locs cells slots Q (F0 m (pc + 3) ls (o.toList ++ rest))) : W p l e R s m args below meth c H locs cells slots Q (F0 m pc ls st0) :=
  jx_read (mc := 0) (ms := 0) (jx_run (va_runSN (As := As) (rest := rest) S hM cw preEq rfl hn hsize hstack (lv_room hW) hdg hf)) kk
/-- behind a call that writes: the callee's cells as it left them, the others as they were -/
theorem jx_wrote {o : Option Value} {a : Array Value} {w1 wr wd' : va_W} {A : Nat → Prop} {H0 : Heap} (hr : va_Run p l e R s m args below meth c H locs cells slots 0 0 (F0 m pc ls st0) rest (jx_Q o D w1 (va_A wc H.size) a) (va_A wc H.size))
    (hP : va_P D vwCl wd H) (hD : va_D A wd) (hS : va_S A H0 H locs) (hA : ∀ q, H0.size ≤ q → A q) (is isR : List Nat) (hC : is.map (fun i => wd[i]?) = wc.map some) (hR : isR.map (fun i => wd[i]?) = wr.map some) (hn : va_nd isR = true) (hdis : ∀ i ∈ isR, i ∉ is)
    (pm : List Nat) (hpn : va_nd pm = true) (hpm : pm.map (fun i => (wr ++ w1)[i]?) = wd'.map some)
    (kk : ∀ (H1 : Heap) (locs1 : List Loc), va_P D vwCl wd' H1 → va_D A wd' → va_S A H0 H1 locs1 → W p l e R s m args below meth c H1 locs1 cells slots Q (F0 m (pc + 3) ls (o.toList ++ rest))) : W p l e R s m args below meth c H locs cells slots Q (F0 m pc ls st0) := by
  have hF : ∀ q, va_A wc H.size q → A q := va_free hD hS hA is hC
  intro T hT X
  obtain ⟨v, st₀, t, T', L, h0, X', hL, e1, e2, ⟨⟨hv, hP1, hD1⟩, hz, hk⟩, st⟩ := hr T hT X
  cases hv
  rw [h0] at hz hk
  obtain ⟨gP, gD⟩ := va_join hP hD is isR hC hR hn hdis hk hF hP1 hD1
  have gP' : va_P D vwCl wd' t.heap := fun k q hq => by
    have h1 : (wd'.map some)[k]? = some (some q) := by rw [List.getElem?_map, hq]; rfl
    rw [← hpm, List.getElem?_map] at h1
    cases hi : pm[k]? with
    | none => rw [hi] at h1; cases h1
    | some i => rw [hi] at h1; exact gP i q (Option.some.inj h1)
  have gD' : va_D A wd' := gD.sub pm hpn hpm
  obtain ⟨t2, a1, b1⟩ := kk T'.heap (locs ++ L) (by rw [e1]; exact gP') gD'
    ⟨Nat.le_trans hS.1 (by rw [e1]; exact hz), fun q h1 h2 => by rw [e1, hk q (Nat.lt_of_lt_of_le h1 hS.1) (fun z => h2 (hF q z))]; exact hS.2.1 q h1 h2, fun q hq => by
      rcases List.mem_append.mp hq with h | h
      · exact hS.2.2 q h
      · exact hF _ (hL q h)⟩ T' rfl X'
  exact ⟨t2, st t2 a1, b1⟩
/-- a virtual call that writes -/
theorem jx_cW {o : Option Value} {w1 wr wd' : va_W} {A : Nat → Prop} {H0 : Heap} (S : CallFix p m c cc nL s args Ts own) (hM : Met l y ws rm (va_Pc (.ref b :: As) (jx_W D tys H.size wc)) (jx_Q o D w1 (va_A wc H.size)) 0 0 (va_A wc H.size)) (cw : CallW R s args own C index y bytes maxL ret ws rm 0 0 n)
    (hK : va_K D vwCl tys s) (hN : jx_N s) (hP : va_P D vwCl wd H) (hD : va_D A wd) (hS : va_S A H0 H locs) (hA : ∀ q, H0.size ≤ q → A q) (is isR : List Nat) (hnd : va_nd is = true) (hC : is.map (fun i => wd[i]?) = wc.map some) (hR : isR.map (fun i => wd[i]?) = wr.map some) (hnR : va_nd isR = true) (hdis : ∀ i ∈ isR, i ∉ is)
    (hcs : is.filterMap (fun i => wd[i]?) = wc) (hrecv : ∃ cell : Cell, H[b]? = some cell ∧ cell.vm.isStatics = false ∧ s.vm.findClass C = some cell.cls)
    (hn : As.length = n) (hsize : ls.size = nL) (hstack : st0 = As.reverse ++ .ref b :: rest) (hW : (rest.map fun v => v.category).sum ≤ 8) (hdg : decode cc pc = .ok (.invokevirtual index, 3)) (hf : cells ≤ R.cells ∧ slots ≤ R.slots)
    (pm : List Nat) (hpn : va_nd pm = true) (hpm : pm.map (fun i => (wr ++ w1)[i]?) = wd'.map some)
    (kk : ∀ (H1 : Heap) (locs1 : List Loc), va_P D vwCl wd' H1 → va_D A wd' → va_S A H0 H1 locs1 → W p l e R s m args below meth c H1 locs1 cells slots Q (F0 m (pc + 3) ls (o.toList ++ rest))) : W p l e R s m args below meth c H locs cells slots Q (F0 m pc ls st0) :=
  jx_wrote (va_runV (As := As) (rest := rest) (b := b) S hM cw ⟨jx_W_blind, hrecv, jx_W_pre (hP.sub is hcs) hK hN (hD.sub is hnd hC)⟩ rfl hn hsize hstack (lv_room hW) hdg hf) hP hD hS hA is isR hC hR hnR hdis pm hpn hpm kk
end JXC
section JXM
variable {l : Launch} {y : MethodName} {ws ws' : List Cond} {rm : Room} {cc : ByteArray} {maxL : Nat} {ty : FieldType} {own : String} {D : va_G} {tys : List (ClassId × FieldType)} {W0 W1 : va_W} {av : List Value} {sz : Nat}
/-- a method that reads and answers a number -/
theorem jx_metR {r : Int32} (hy : plainName y.cls = true) (hw : ws = Cond.code y cc maxL (some ty) :: ws') (hcls : y.cls = own) (hav : (lg_sl av).length ≤ maxL)
    (body : ∀ (p : Program) (e : Env) (s : State) (m : MethodId) (args : Array Value) (below : List Frame) (meth : Method) (c : Code) (Q : State → Prop) (ls : Array Slot), p.tables.exec = Jvm.exec → c.code = cc → c.maxLocals = maxL → s.vm.findClass own = some m.cls → (∀ w ∈ ws, w.before args s = true) → va_K D vwCl tys s → jx_N s → va_P D vwCl W0 s.heap → lv_has ls maxL (lv_args 0 av) →
      (∀ (pc : Nat) (ls : Array Slot), narrow ty (.int r) = .int r → decode cc pc = .ok (.ireturn, 1) → W p l e (headSpec ws rm).room s m args below meth c s.heap [] 0 0 Q (F0 m pc ls [.int r])) →
      W p l e (headSpec ws rm).room s m args below meth c s.heap [] 0 0 Q (F0 m 0 ls [])) :
    Met l y ws rm (va_Pc av (jx_R D tys W0)) (jx_S (some (.int r))) 0 0 (fun _ => False) := by
  refine Met.ofW (cc := cc) (maxL := maxL) (ret := some ty) hy hw ?_
  intro p e s m args below meth c s₁ B hml hv
  obtain ⟨rfl, hP, hK, hN⟩ := hv
  have hl := lv_entry av (n := maxL) hav
  rw [lg_entry_eq]
  exact body p e s m _ below meth c _ _ B.exec B.bytes hml (hcls ▸ findClass_of_methodNamed B.named) (atoms_spec (ws := ws) B.pre) hK hN hP hl (fun pc ls hn hd => W.zret B.exec B.bytes B.returns hn (fun t ht hW => ⟨rfl, ht⟩) (fun q hq => by cases hq) hd B.notSynchronized)
/-- a method that reads and answers a long -/
theorem jx_metL {r : Int64} (hy : plainName y.cls = true) (hw : ws = Cond.code y cc maxL (some .long) :: ws') (hcls : y.cls = own) (hav : (lg_sl av).length ≤ maxL)
    (body : ∀ (p : Program) (e : Env) (s : State) (m : MethodId) (args : Array Value) (below : List Frame) (meth : Method) (c : Code) (Q : State → Prop) (ls : Array Slot), p.tables.exec = Jvm.exec → c.code = cc → c.maxLocals = maxL → s.vm.findClass own = some m.cls → (∀ w ∈ ws, w.before args s = true) → va_K D vwCl tys s → jx_N s → va_P D vwCl W0 s.heap → lv_has ls maxL (lv_args 0 av) →
      (∀ (pc : Nat) (ls : Array Slot), decode cc pc = .ok (.lreturn, 1) → W p l e (headSpec ws rm).room s m args below meth c s.heap [] 0 0 Q (F0 m pc ls [.long r])) →
      W p l e (headSpec ws rm).room s m args below meth c s.heap [] 0 0 Q (F0 m 0 ls [])) :
    Met l y ws rm (va_Pc av (jx_R D tys W0)) (jx_S (some (.long r))) 0 0 (fun _ => False) := by
  refine Met.ofW (cc := cc) (maxL := maxL) (ret := some .long) hy hw ?_
  intro p e s m args below meth c s₁ B hml hv
  obtain ⟨rfl, hP, hK, hN⟩ := hv
  have hlocks := B.notSynchronized
  have hl := lv_entry av (n := maxL) hav
  rw [lg_entry_eq]
  exact body p e s m _ below meth c _ _ B.exec B.bytes hml (hcls ▸ findClass_of_methodNamed B.named) (atoms_spec (ws := ws) B.pre) hK hN hP hl (fun pc ls hd => W.lret B.exec B.bytes B.returns (fun t ht hW => ⟨rfl, ht⟩) (fun q hq => by cases hq) hd)
/-- a static method of numbers -/
theorem jx_metS {r : Int32} (hy : plainName y.cls = true) (hw : ws = Cond.code y cc maxL (some ty) :: ws') (hcls : y.cls = own) (hav : (lg_sl av).length ≤ maxL)
    (body : ∀ (p : Program) (e : Env) (s : State) (m : MethodId) (args : Array Value) (below : List Frame) (meth : Method) (c : Code) (Q : State → Prop) (ls : Array Slot), p.tables.exec = Jvm.exec → c.code = cc → c.maxLocals = maxL → s.vm.findClass own = some m.cls → (∀ w ∈ ws, w.before args s = true) → lv_has ls maxL (lv_args 0 av) →
      (∀ (pc : Nat) (ls : Array Slot), narrow ty (.int r) = .int r → decode cc pc = .ok (.ireturn, 1) → W p l e (headSpec ws rm).room s m args below meth c s.heap [] 0 0 Q (F0 m pc ls [.int r])) →
      W p l e (headSpec ws rm).room s m args below meth c s.heap [] 0 0 Q (F0 m 0 ls [])) :
    Met l y ws rm (fun v _ => v = av.toArray) (jx_S (some (.int r))) 0 0 (fun _ => False) := by
  refine Met.ofW (cc := cc) (maxL := maxL) (ret := some ty) hy hw ?_
  intro p e s m args below meth c s₁ B hml hv
  obtain rfl := hv
  have hl := lv_entry av (n := maxL) hav
  rw [lg_entry_eq]
  exact body p e s m _ below meth c _ _ B.exec B.bytes hml (hcls ▸ findClass_of_methodNamed B.named) (atoms_spec (ws := ws) B.pre) hl (fun pc ls hn hd => W.zret B.exec B.bytes B.returns hn (fun t ht hW => ⟨rfl, ht⟩) (fun q hq => by cases hq) hd B.notSynchronized)
/-- a method that reads and answers one of the cells -/
theorem jx_metA {r : Nat} {C : String} (hy : plainName y.cls = true) (hw : ws = Cond.code y cc maxL (some (.object C)) :: ws') (hcls : y.cls = own) (hav : (lg_sl av).length ≤ maxL)
    (body : ∀ (p : Program) (e : Env) (s : State) (m : MethodId) (args : Array Value) (below : List Frame) (meth : Method) (c : Code) (Q : State → Prop) (ls : Array Slot), p.tables.exec = Jvm.exec → c.code = cc → c.maxLocals = maxL → s.vm.findClass own = some m.cls → (∀ w ∈ ws, w.before args s = true) → va_K D vwCl tys s → jx_N s → va_P D vwCl W0 s.heap → lv_has ls maxL (lv_args 0 av) →
      (∀ (pc : Nat) (ls : Array Slot), decode cc pc = .ok (.areturn, 1) → W p l e (headSpec ws rm).room s m args below meth c s.heap [] 0 0 Q (F0 m pc ls [.ref r])) →
      W p l e (headSpec ws rm).room s m args below meth c s.heap [] 0 0 Q (F0 m 0 ls [])) :
    Met l y ws rm (va_Pc av (jx_R D tys W0)) (jx_S (some (.ref r))) 0 0 (fun _ => False) := by
  refine Met.ofW (cc := cc) (maxL := maxL) (ret := some (.object C)) hy hw ?_
  intro p e s m args below meth c s₁ B hml hv
  obtain ⟨rfl, hP, hK, hN⟩ := hv
  have hlocks := B.notSynchronized
  have hl := lv_entry av (n := maxL) hav
  rw [lg_entry_eq]
  exact body p e s m _ below meth c _ _ B.exec B.bytes hml (hcls ▸ findClass_of_methodNamed B.named) (atoms_spec (ws := ws) B.pre) hK hN hP hl (fun pc ls hd => W.aret B.exec B.bytes B.returns (Or.inl ⟨_, rfl⟩) (Or.inr ⟨_, rfl⟩) (fun t ht hW => ⟨rfl, ht⟩) (fun q hq => by cases hq) hd)
/-- a method that writes and answers a number -/
theorem jx_metW {r : Int32} (hy : plainName y.cls = true) (hw : ws = Cond.code y cc maxL (some ty) :: ws') (hcls : y.cls = own) (hav : (lg_sl av).length ≤ maxL)
    (body : ∀ (p : Program) (e : Env) (s : State) (m : MethodId) (args : Array Value) (below : List Frame) (meth : Method) (c : Code) (Q : State → Prop) (ls : Array Slot) (A : Nat → Prop), p.tables.exec = Jvm.exec → c.code = cc → c.maxLocals = maxL → s.vm.findClass own = some m.cls → (∀ w ∈ ws, w.before args s = true) → va_K D vwCl tys s → jx_N s → (∀ q : Nat, s.heap.size ≤ q → A q) → va_P D vwCl W0 s.heap → va_D A W0 → va_S A s.heap s.heap [] → lv_has ls maxL (lv_args 0 av) →
      (∀ (pc : Nat) (ls : Array Slot) (H : Heap) (locs : List Loc), va_P D vwCl W1 H → va_D A W1 → va_S A s.heap H locs → narrow ty (.int r) = .int r → decode cc pc = .ok (.ireturn, 1) → W p l e (headSpec ws rm).room s m args below meth c H locs 0 0 Q (F0 m pc ls [.int r])) →
      W p l e (headSpec ws rm).room s m args below meth c s.heap [] 0 0 Q (F0 m 0 ls [])) :
    Met l y ws rm (va_Pc av (jx_W D tys sz W0)) (jx_Q (some (.int r)) D W1 (va_A W0 sz)) 0 0 (va_A W0 sz) := by
  refine Met.ofW (cc := cc) (maxL := maxL) (ret := some ty) hy hw ?_
  intro p e s m args below meth c s₁ B hml hv
  obtain ⟨rfl, hsz, hP, hK, hN, hD0⟩ := hv
  subst hsz
  have hl := lv_entry av (n := maxL) hav
  rw [lg_entry_eq]
  exact body p e s m _ below meth c _ _ _ B.exec B.bytes hml (hcls ▸ findClass_of_methodNamed B.named) (atoms_spec (ws := ws) B.pre) hK hN (fun q h => Or.inr h) hP (hD0.self (sz := s.heap.size)) va_S.rf hl (fun pc ls H locs hP1 hD1 hS1 hn hd => W.zret B.exec B.bytes B.returns hn (fun t ht hW => ⟨⟨rfl, by rw [ht]; exact hP1, hD1⟩, hS1.F ht⟩) hS1.2.2 hd B.notSynchronized)
/-- a method that writes and answers nothing -/
theorem jx_metV (hy : plainName y.cls = true) (hw : ws = Cond.code y cc maxL none :: ws') (hcls : y.cls = own) (hav : (lg_sl av).length ≤ maxL)
    (body : ∀ (p : Program) (e : Env) (s : State) (m : MethodId) (args : Array Value) (below : List Frame) (meth : Method) (c : Code) (Q : State → Prop) (ls : Array Slot) (A : Nat → Prop), p.tables.exec = Jvm.exec → c.code = cc → c.maxLocals = maxL → s.vm.findClass own = some m.cls → (∀ w ∈ ws, w.before args s = true) → va_K D vwCl tys s → jx_N s → (∀ q : Nat, s.heap.size ≤ q → A q) → va_P D vwCl W0 s.heap → va_D A W0 → va_S A s.heap s.heap [] → lv_has ls maxL (lv_args 0 av) →
      (∀ (pc : Nat) (ls : Array Slot) (H : Heap) (locs : List Loc), va_P D vwCl W1 H → va_D A W1 → va_S A s.heap H locs → decode cc pc = .ok (.return_, 1) → W p l e (headSpec ws rm).room s m args below meth c H locs 0 0 Q (F0 m pc ls [])) →
      W p l e (headSpec ws rm).room s m args below meth c s.heap [] 0 0 Q (F0 m 0 ls [])) :
    Met l y ws rm (va_Pc av (jx_W D tys sz W0)) (jx_Q none D W1 (va_A W0 sz)) 0 0 (va_A W0 sz) := by
  refine Met.ofW (cc := cc) (maxL := maxL) (ret := none) hy hw ?_
  intro p e s m args below meth c s₁ B hml hv
  obtain ⟨rfl, hsz, hP, hK, hN, hD0⟩ := hv
  subst hsz
  have hlocks := B.notSynchronized
  have hl := lv_entry av (n := maxL) hav
  rw [lg_entry_eq]
  exact body p e s m _ below meth c _ _ _ B.exec B.bytes hml (hcls ▸ findClass_of_methodNamed B.named) (atoms_spec (ws := ws) B.pre) hK hN (fun q h => Or.inr h) hP (hD0.self (sz := s.heap.size)) va_S.rf hl (fun pc ls H locs hP1 hD1 hS1 hd => W.vret B.exec B.bytes B.returns (fun t ht hW => ⟨⟨rfl, by rw [ht]; exact hP1, hD1⟩, hS1.F ht⟩) hS1.2.2 hd)
end JXM
def jx_l {α β : Type} (a : α) (k : α → Option β) : Option β := k a
theorem jx_l_of {α β : Type} {a v : α} {k : α → Option β} {r : Option β} (ev : v = a) (h : jx_l a k = r) : k v = r := by subst ev; exact h
theorem jx_ne {x c : Int32} {k : Int} (h : ¬ x = c) (hc : c.toInt = k) : x.toInt ≠ k := fun e => h (Int32.toInt_inj.mp (e.trans hc.symm))
