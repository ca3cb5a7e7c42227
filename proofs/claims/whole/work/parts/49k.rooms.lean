/-! room by room: the class's table -/
def sp_R (P : Nat → Nat → Nat) (c q : Nat) : Nat := if q < pc_N P then (if c.testBit q then 0 else if pc_W P q = 2 then 0 else pc_L P q * pc_T P q) else 0
def sp_Mx (P : Nat → Nat → Nat) (i : Nat) : Nat := if i < pc_nt P then pc_M P i else 0
def pg_dx (M R : Nat → Nat) (x : Nat) (s : Nat → Bool) : Prop := ∃ A : Nat → Nat, (∀ i, i < 6 → s i = true → x ≤ A i ∧ A i < 8) ∧ ∀ q, x ≤ q → q < 8 → pg_sm M (fun i => s i && decide (A i = q)) 6 ≤ R q
theorem pg_dx_0 {M R : Nat → Nat} {s : Nat → Bool} : pg_dx M R 0 s ↔ pg_ok M s R :=
  ⟨fun ⟨A, h1, h2⟩ => ⟨A, fun i hi hs => (h1 i hi hs).2, fun q hq => h2 q (Nat.zero_le _) hq⟩, fun ⟨A, h1, h2⟩ => ⟨A, fun i hi hs => ⟨Nat.zero_le _, h1 i hi hs⟩, fun q _ hq => h2 q hq⟩⟩
theorem pg_dx_8 {M R : Nat → Nat} {s : Nat → Bool} : pg_dx M R 8 s ↔ ∀ i, i < 6 → s i = false := by
  constructor
  · rintro ⟨A, h1, -⟩ i hi
    cases h : s i
    · rfl
    · have := h1 i hi h; omega
  · intro h
    exact ⟨fun _ => 0, fun i hi hs => by rw [h i hi] at hs; exact absurd hs (by decide), fun q h1 h2 => absurd h1 (by omega)⟩
theorem pg_dx_cong {M R : Nat → Nat} {x : Nat} {s s' : Nat → Bool} (hs : ∀ i, i < 6 → s i = s' i) (h : pg_dx M R x s) : pg_dx M R x s' := by
  obtain ⟨A, h1, h2⟩ := h
  refine ⟨A, fun i hi hs2 => h1 i hi (by rw [hs i hi]; exact hs2), fun q hq hq2 => ?_⟩
  rw [← pg_sm_cong (p := fun i => s i && decide (A i = q)) (fun i hi => by show (s i && decide (A i = q)) = _; rw [hs i hi])]
  exact h2 q hq hq2
theorem pg_dx_step {M R : Nat → Nat} {x : Nat} {s : Nat → Bool} (hx : x < 8) : pg_dx M R x s ↔ ∃ u : Nat → Bool, (∀ i, i < 6 → u i = true → s i = true) ∧ pg_sm M u 6 ≤ R x ∧ pg_dx M R (x + 1) (fun i => s i && !u i) := by
  constructor
  · rintro ⟨A, h1, h2⟩
    refine ⟨fun i => s i && decide (A i = x), fun i _ h => ?_, h2 x (Nat.le_refl _) hx, A, fun i hi h => ?_, fun q hq hq2 => ?_⟩
    · simp only [Bool.and_eq_true] at h
      exact h.1
    · simp only [Bool.and_eq_true, Bool.not_eq_true', Bool.and_eq_false_iff, decide_eq_false_iff_not] at h
      have h3 := h1 i hi h.1
      rcases h.2 with h4 | h4
      · rw [h.1] at h4; exact absurd h4 (by decide)
      · omega
    · have h3 := h2 q (by omega) hq2
      rw [pg_sm_cong (p' := fun i => s i && decide (A i = q)) (fun i hi => by
        show ((s i && !(s i && decide (A i = x))) && decide (A i = q)) = (s i && decide (A i = q))
        by_cases hq3 : A i = q
        · rw [decide_eq_true hq3, decide_eq_false (show ¬ A i = x by omega), Bool.and_false]
          simp
        · rw [decide_eq_false hq3, Bool.and_false, Bool.and_false])]
      exact h3
  · rintro ⟨u, hu, hm, A, h1, h2⟩
    refine ⟨fun i => if u i then x else A i, fun i hi h => ?_, fun q hq hq2 => ?_⟩
    · show x ≤ (if u i then x else A i) ∧ (if u i then x else A i) < 8
      cases hui : u i
      · have h3 := h1 i hi (by show (s i && !u i) = true; rw [h, hui]; rfl)
        rw [if_neg (by decide)]
        omega
      · rw [if_pos rfl]
        omega
    · by_cases hqx : q = x
      · subst hqx
        rw [pg_sm_cong (p' := u) (fun i hi => by
          show (s i && decide ((if u i then q else A i) = q)) = u i
          cases hui : u i
          · rw [if_neg (by decide)]
            cases hsi : s i
            · rfl
            · have h3 := h1 i hi (by show (s i && !u i) = true; rw [hsi, hui]; rfl)
              rw [decide_eq_false (by omega)]; rfl
          · rw [hu i hi hui, if_pos rfl, decide_eq_true rfl]; rfl)]
        exact hm
      · rw [pg_sm_cong (p' := fun i => (s i && !u i) && decide (A i = q)) (fun i hi => by
          show (s i && decide ((if u i then x else A i) = q)) = ((s i && !u i) && decide (A i = q))
          cases hui : u i
          · rw [if_neg (by decide), Bool.not_false, Bool.and_true]
          · rw [if_pos rfl, decide_eq_false (fun z => hqx z.symm), Bool.and_false, Bool.not_true, Bool.and_false, Bool.false_and])]
        exact h2 q (by omega) hq2
theorem pg_num : ∀ b0 b1 b2 b3 b4 b5 : Bool, ∃ U, U < 64 ∧ U.testBit 0 = b0 ∧ U.testBit 1 = b1 ∧ U.testBit 2 = b2 ∧ U.testBit 3 = b3 ∧ U.testBit 4 = b4 ∧ U.testBit 5 = b5 := by
  intro b0 b1 b2 b3 b4 b5
  refine ⟨b0.toNat + 2 * b1.toNat + 4 * b2.toNat + 8 * b3.toNat + 16 * b4.toNat + 32 * b5.toNat, ?_⟩
  cases b0 <;> cases b1 <;> cases b2 <;> cases b3 <;> cases b4 <;> cases b5 <;> decide
theorem pg_set (u : Nat → Bool) : ∃ U, U < 64 ∧ ∀ i, i < 6 → U.testBit i = u i := by
  obtain ⟨U, h, h0, h1, h2, h3, h4, h5⟩ := pg_num (u 0) (u 1) (u 2) (u 3) (u 4) (u 5)
  refine ⟨U, h, fun i hi => ?_⟩
  rcases (show i = 0 ∨ i = 1 ∨ i = 2 ∨ i = 3 ∨ i = 4 ∨ i = 5 by omega) with e | e | e | e | e | e <;> subst e <;> assumption
theorem pg_hi {U i : Nat} (h : U < 64) (hi : 6 ≤ i) : U.testBit i = false := Nat.testBit_lt_two_pow (Nat.lt_of_lt_of_le h (show 2 ^ 6 ≤ 2 ^ i from Nat.pow_le_pow_right (by omega) hi))
theorem pg_sub {U S : Nat} (hU : U < 64) (h : ∀ i, i < 6 → U.testBit i = true → S.testBit i = true) : U &&& S = U := by
  refine Nat.eq_of_testBit_eq (fun i => ?_)
  rw [Nat.testBit_and]
  by_cases hi : i < 6
  · cases hb : U.testBit i
    · rfl
    · rw [h i hi hb]; rfl
  · rw [pg_hi hU (by omega), Bool.false_and]
theorem pg_sub_of {U S : Nat} (h : U &&& S = U) {i : Nat} (hi : U.testBit i = true) : S.testBit i = true := by
  rw [← h, Nat.testBit_and, Bool.and_eq_true] at hi
  exact hi.2
theorem pg_dx_num {M R : Nat → Nat} {x S : Nat} (hx : x < 8) (hS : S < 64) : pg_dx M R x S.testBit ↔ ∃ U, U < 64 ∧ U &&& S = U ∧ pg_sm M U.testBit 6 ≤ R x ∧ pg_dx M R (x + 1) (S ^^^ U).testBit := by
  have hb : ∀ U, U &&& S = U → ∀ i, i < 6 → (S.testBit i && !U.testBit i) = (S ^^^ U).testBit i := fun U hU i _ => by
    rw [Nat.testBit_xor]
    cases hb : U.testBit i
    · rw [Bool.not_false, Bool.and_true, Bool.xor_false]
    · rw [pg_sub_of hU hb]; rfl
  rw [pg_dx_step hx]
  constructor
  · rintro ⟨u, h1, h2, h3⟩
    obtain ⟨U, hU, hu⟩ := pg_set u
    have hs := pg_sub (S := S) hU (fun i hi hb => h1 i hi (by rw [← hu i hi]; exact hb))
    refine ⟨U, hU, hs, by rw [pg_sm_cong hu]; exact h2, pg_dx_cong (fun i hi => ?_) h3⟩
    rw [← hb U hs i hi, hu i hi]
  · rintro ⟨U, hU, hs, h2, h3⟩
    exact ⟨U.testBit, fun i _ h => pg_sub_of hs h, h2, pg_dx_cong (fun i hi => (hb U hs i hi).symm) h3⟩
set_option maxRecDepth 100000 in
theorem ev_xr : ∀ S, S < 64 → ∀ U, U < 64 → U &&& S = U → nI S &&& (nI U ^^^ (-1)) = nI (S ^^^ U) := by decide +kernel
set_option maxRecDepth 100000 in
theorem ev_dn : ∀ x, x < 64 → ∀ S, S < 64 → 0 < x → (nI x - 1) &&& nI S = nI ((x - 1) &&& S) := by decide +kernel
