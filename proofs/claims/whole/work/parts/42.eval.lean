/-! The pure functions at small numbers: their answers. -/
def ev_b (b : Bool) : Int32 := if b then 1 else 0
theorem ev_bt : ev_b true = 1 := rfl
theorem ev_bf : ev_b false = 0 := rfl
theorem ev_b0 (b : Bool) : ev_b b = 0 ↔ b = false := by cases b <;> simp [ev_b]
theorem ev_b1 (b : Bool) : ev_b b = 1 ↔ b = true := by cases b <;> simp [ev_b]
theorem ev_btf (b : Bool) : jx_tf (ev_b b) = true := by cases b <;> rfl
theorem ev_g {α : Type} {b : Bool} {k : Option α} (h : b = true) : jx_g b k = k := by rw [h]; rfl
theorem ev_in {q n : Nat} (h : q < n) (hn : n < 2 ^ 31) : jx_in (nI q) n = true := by
  have h1 : ¬ nI q < 0 := nI_pos (by omega)
  have h2 : (nI q).toNatClampNeg = q := nI_clamp (by omega)
  simp [jx_in, h1, h2, h]
theorem ev_cl {q : Nat} (h : q < 2 ^ 31) : Int32.toNatClampNeg (nI q) = q := nI_clamp h
theorem ev_n0 : Int32.toNatClampNeg (0 : Int32) = 0 := by decide
theorem ev_n1 : Int32.toNatClampNeg (1 : Int32) = 1 := by decide
theorem ev_n2 : Int32.toNatClampNeg (2 : Int32) = 2 := by decide
theorem ev_n3 : Int32.toNatClampNeg (3 : Int32) = 3 := by decide
theorem ev_n4 : Int32.toNatClampNeg (4 : Int32) = 4 := by decide
theorem ev_n5 : Int32.toNatClampNeg (5 : Int32) = 5 := by decide
theorem ev_n6 : Int32.toNatClampNeg (6 : Int32) = 6 := by decide
theorem ev_n8 : Int32.toNatClampNeg (8 : Int32) = 8 := by decide
theorem ev_n45 : Int32.toNatClampNeg (45 : Int32) = 45 := by decide
theorem ev_n50 : Int32.toNatClampNeg (50 : Int32) = 50 := by decide
theorem ev_bit {c q : Nat} (hc : c < 2 ^ 31) (hq : q < 32) : (nI c >>> (nI q &&& 31)) &&& 1 = ev_b (c.testBit q) := by
  have h1 : nI c >>> (nI q &&& 31) = nI (c / 2 ^ q) := pk_shrN hc _ q (s_l q hq)
  have h2 : nI (c / 2 ^ q) &&& 1 = nI (c / 2 ^ q % 2) := fa_mask (c / 2 ^ q) 1
  rw [h1, h2, Nat.testBit_eq_decide_div_mod_eq]
  have h3 : c / 2 ^ q % 2 = 0 ∨ c / 2 ^ q % 2 = 1 := by omega
  rcases h3 with h3 | h3 <;> rw [h3] <;> rfl
theorem ev_isIn {c q : Nat} (hc : c < 2 ^ 31) (hq : q < 32) : mi_X11_isIn (nI c) (nI q) = some (ev_b (c.testBit q)) := by
  unfold mi_X11_isIn
  rw [ev_bit hc hq]
  cases c.testBit q <;> rfl
theorem ev_has {c q : Nat} (hc : c < 2 ^ 31) (hq : q < 32) : mi_X12_has (nI c) (nI q) = some (ev_b (c.testBit q)) := ev_isIn hc hq
theorem ev_oneIf (b : Bool) : mi_X11_oneIf (ev_b b) = some (ev_b b) := by cases b <;> rfl
theorem ev_within (x a b : Int32) : mi_X11_isWithin x a b = some (ev_b (decide (a ≤ x) && decide (x ≤ b))) := by
  unfold mi_X11_isWithin
  by_cases h1 : x < a
  · have h2 : ¬ a ≤ x := Int32.not_le.mpr h1
    rw [if_pos h1]; simp [h2, ev_b]
  · have h2 : a ≤ x := Int32.not_lt.mp h1
    rw [if_neg h1]
    by_cases h3 : b < x
    · have h4 : ¬ x ≤ b := Int32.not_le.mpr h3
      rw [if_pos h3]; simp [h4, ev_b]
    · have h4 : x ≤ b := Int32.not_lt.mp h3
      rw [if_neg h3]; simp [h2, h4, ev_b]
theorem ev_inn (x a b : Int32) : mi_X12_in x a b = some (ev_b (decide (a ≤ x) && decide (x ≤ b))) := ev_within x a b
/-- a number between two small ones -/
theorem ev_rng {x : Int32} {a b : Nat} (hb : b < 2 ^ 31) (hab : a ≤ b) (h : (decide (nI a ≤ x) && decide (x ≤ nI b)) = true) : ∃ n, x = nI n ∧ a ≤ n ∧ n ≤ b := by
  simp only [Bool.and_eq_true, decide_eq_true_eq] at h
  have h1 := Int32.le_iff_toInt_le.mp h.1
  have h2 := Int32.le_iff_toInt_le.mp h.2
  rw [nI_toInt hb] at h2
  rw [nI_toInt (by omega)] at h1
  refine ⟨x.toInt.toNat, ?_, by omega, by omega⟩
  apply Int32.toInt_inj.mp
  rw [nI_toInt (by omega)]
  omega
theorem ev_pow {q : Nat} (hq : q < 31) : (1 : Int32) <<< (nI q &&& 31) = nI (2 ^ q) := by
  have h := pk_shlN (n := 1) (nI q &&& 31) q (s_l q (by omega)) (by rw [Nat.one_mul]; exact Nat.pow_lt_pow_right (by decide) (by omega))
  rw [Nat.one_mul] at h
  exact h
theorem ev_fuel {n : Nat} (h : n ≤ 100000000) : ∃ k, jx_F = n + k := ⟨100000000 - n, by show (100000000 : Nat) = n + (100000000 - n); omega⟩
theorem ev_win (x : Int32) {A B : Int32} (a b : Nat) (hA : A = nI a) (hB : B = nI b) (hb : b < 2 ^ 31) (hab : a ≤ b) :
    (mi_X11_isWithin x A B = some 0 ∧ mi_X12_in x A B = some 0) ∨ ∃ n, x = nI n ∧ a ≤ n ∧ n ≤ b ∧ mi_X11_isWithin x A B = some 1 ∧ mi_X12_in x A B = some 1 := by
  rw [ev_within, ev_inn]
  subst hA; subst hB
  cases h : (decide (nI a ≤ x) && decide (x ≤ nI b)) with
  | false => exact Or.inl ⟨rfl, rfl⟩
  | true =>
    obtain ⟨n, h1, h2, h3⟩ := ev_rng hb hab h
    exact Or.inr ⟨n, h1, h2, h3, rfl, rfl⟩
theorem ev_1ne0 : ¬ (1 : Int32) = 0 := by decide
