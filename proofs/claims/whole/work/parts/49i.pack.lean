/-! packing: what it means that a set of things goes into the rooms -/
def pg_sm (M : Nat → Nat) (p : Nat → Bool) : Nat → Nat
  | 0 => 0
  | n + 1 => pg_sm M p n + (if p n then M n else 0)
def pg_rm (s : Nat → Bool) (i : Nat) : Nat → Bool := fun j => if j = i then false else s j
def pg_tk (R : Nat → Nat) (q m : Nat) : Nat → Nat := fun x => if x = q then R q - m else R x
def pg_ok (M : Nat → Nat) (s : Nat → Bool) (R : Nat → Nat) : Prop := ∃ A : Nat → Nat, (∀ i, i < 6 → s i = true → A i < 8) ∧ ∀ q, q < 8 → pg_sm M (fun i => s i && decide (A i = q)) 6 ≤ R q
theorem pg_sm_cong {M : Nat → Nat} {p p' : Nat → Bool} : ∀ {n : Nat}, (∀ i, i < n → p i = p' i) → pg_sm M p n = pg_sm M p' n
  | 0, _ => rfl
  | n + 1, h => by
    rw [pg_sm, pg_sm, pg_sm_cong (fun i hi => h i (by omega)), h n (by omega)]
theorem pg_sm_rm {M : Nat → Nat} {p : Nat → Bool} {i : Nat} : ∀ {n : Nat}, i < n → pg_sm M p n = pg_sm M (pg_rm p i) n + (if p i then M i else 0)
  | 0, h => absurd h (Nat.not_lt_zero _)
  | n + 1, h => by
    rw [pg_sm, pg_sm]
    by_cases hi : i = n
    · subst hi
      rw [pg_sm_cong (p' := pg_rm p i) (fun j hj => by unfold pg_rm; rw [if_neg (by omega)])]
      have : pg_rm p i i = false := by unfold pg_rm; rw [if_pos rfl]
      rw [this]
      rfl
    · have : pg_rm p i n = p n := by unfold pg_rm; rw [if_neg (by omega)]
      rw [pg_sm_rm (show i < n by omega), this]
      omega
theorem pg_sm_zero {M : Nat → Nat} {p : Nat → Bool} : ∀ {n : Nat}, (∀ i, i < n → p i = false) → pg_sm M p n = 0
  | 0, _ => rfl
  | n + 1, h => by
    rw [pg_sm, pg_sm_zero (fun i hi => h i (by omega)), h n (by omega)]
    rfl
theorem pg_ok_cong {M : Nat → Nat} {s s' : Nat → Bool} {R R' : Nat → Nat} (hs : ∀ i, i < 6 → s i = s' i) (hR : ∀ q, q < 8 → R q = R' q) (h : pg_ok M s R) : pg_ok M s' R' := by
  obtain ⟨A, h1, h2⟩ := h
  refine ⟨A, fun i hi hs2 => h1 i hi (by rw [hs i hi]; exact hs2), fun q hq => ?_⟩
  rw [← hR q hq, ← pg_sm_cong (p := fun i => s i && decide (A i = q)) (fun i hi => by show (s i && decide (A i = q)) = _; rw [hs i hi])]
  exact h2 q hq
theorem pg_ok_none {M : Nat → Nat} {s : Nat → Bool} {R : Nat → Nat} (hs : ∀ i, i < 6 → s i = false) : pg_ok M s R := by
  refine ⟨fun _ => 0, fun i hi h => ?_, fun q hq => ?_⟩
  · rw [hs i hi] at h; exact absurd h (by decide)
  · rw [pg_sm_zero (fun i hi => by show (s i && _) = false; rw [hs i hi, Bool.false_and])]
    omega
theorem pg_ok_take {M : Nat → Nat} {s : Nat → Bool} {R : Nat → Nat} {i : Nat} (hi : i < 6) (hs : s i = true) : pg_ok M s R ↔ ∃ q, q < 8 ∧ M i ≤ R q ∧ pg_ok M (pg_rm s i) (pg_tk R q (M i)) := by
  have key : ∀ (A : Nat → Nat) (q : Nat), pg_sm M (fun j => s j && decide (A j = q)) 6 = pg_sm M (fun j => pg_rm s i j && decide (A j = q)) 6 + (if A i = q then M i else 0) := fun A q => by
    rw [pg_sm_rm hi, pg_sm_cong (p' := fun j => pg_rm s i j && decide (A j = q)) (fun j hj => by
      unfold pg_rm
      by_cases hj2 : j = i
      · simp only [if_pos hj2, Bool.false_and]
      · simp only [if_neg hj2])]
    congr 1
    by_cases hq : A i = q
    · rw [if_pos hq, hs, decide_eq_true hq]; rfl
    · rw [if_neg hq, hs, decide_eq_false hq]; rfl
  constructor
  · rintro ⟨A, h1, h2⟩
    have h3 := h2 (A i) (h1 i hi hs)
    rw [key, if_pos rfl] at h3
    refine ⟨A i, h1 i hi hs, by omega, A, fun j hj hs2 => ?_, fun q hq => ?_⟩
    · refine h1 j hj ?_
      unfold pg_rm at hs2
      by_cases hj2 : j = i
      · rw [if_pos hj2] at hs2; exact absurd hs2 (by decide)
      · rw [if_neg hj2] at hs2; exact hs2
    · have h4 := h2 q hq
      rw [key] at h4
      unfold pg_tk
      by_cases hqa : q = A i
      · rw [if_pos hqa]
        rw [if_pos hqa.symm] at h4
        rw [hqa] at h4 ⊢
        omega
      · rw [if_neg hqa]
        omega
  · rintro ⟨q, hq, hm, A, h1, h2⟩
    have hA : ∀ x, pg_sm M (fun j => pg_rm s i j && decide ((if j = i then q else A j) = x)) 6 = pg_sm M (fun j => pg_rm s i j && decide (A j = x)) 6 := fun x => pg_sm_cong (fun j hj => by
      unfold pg_rm
      by_cases hj2 : j = i
      · simp only [if_pos hj2, Bool.false_and]
      · simp only [if_neg hj2])
    refine ⟨fun j => if j = i then q else A j, fun j hj hs2 => ?_, fun x hx => ?_⟩
    · show (if j = i then q else A j) < 8
      by_cases hj2 : j = i
      · rw [if_pos hj2]; exact hq
      · rw [if_neg hj2]
        exact h1 j hj (by unfold pg_rm; rw [if_neg hj2]; exact hs2)
    · rw [key, hA x, if_pos rfl]
      have h3 := h2 x hx
      unfold pg_tk at h3
      by_cases hxq : x = q
      · rw [if_pos hxq] at h3
        rw [if_pos hxq.symm]
        rw [hxq] at h3 ⊢
        omega
      · rw [if_neg hxq] at h3
        rw [if_neg (fun z => hxq z.symm)]
        omega
/-- the lowest room that leaves the rest packable -/
def pg_lw (M : Nat → Nat) (s : Nat → Bool) (i : Nat) (R : Nat → Nat) (q : Nat) : Prop := q < 8 ∧ (M i ≤ R q ∧ pg_ok M (pg_rm s i) (pg_tk R q (M i))) ∧ ∀ x, x < q → ¬ (M i ≤ R x ∧ pg_ok M (pg_rm s i) (pg_tk R x (M i)))
theorem pg_lw_one {M : Nat → Nat} {s : Nat → Bool} {i : Nat} {R : Nat → Nat} {q x : Nat} (h1 : pg_lw M s i R q) (h2 : pg_lw M s i R x) : q = x := by
  rcases Nat.lt_trichotomy q x with h | h | h
  · exact absurd h1.2.1 (h2.2.2 q h)
  · exact h
  · exact absurd h2.2.1 (h1.2.2 x h)
/-- the things from i on -/
def pg_fr (S : Nat) (i : Nat) : Nat → Bool := fun j => decide (i ≤ j) && S.testBit j
theorem pg_fr_rm {S i : Nat} : ∀ j, pg_rm (pg_fr S i) i j = pg_fr S (i + 1) j := fun j => by
  unfold pg_rm pg_fr
  by_cases h : j = i
  · rw [if_pos h, decide_eq_false (by omega), Bool.false_and]
  · rw [if_neg h]
    by_cases h2 : i ≤ j
    · rw [decide_eq_true h2, decide_eq_true (by omega)]
    · rw [decide_eq_false h2, decide_eq_false (by omega)]
theorem pg_fr_skip {S i : Nat} (h : S.testBit i = false) : ∀ j, pg_fr S i j = pg_fr S (i + 1) j := fun j => by
  unfold pg_fr
  by_cases h1 : j = i
  · rw [h1, h, Bool.and_false, Bool.and_false]
  · by_cases h2 : i ≤ j
    · rw [decide_eq_true h2, decide_eq_true (by omega)]
    · rw [decide_eq_false h2, decide_eq_false (by omega)]
/-- the packing that takes the lowest room for each thing in turn -/
def pg_fp (M : Nat → Nat) (S : Nat) : Nat → Nat → (Nat → Nat) → (Nat → Nat) → Prop
  | 0, _, _, _ => True
  | k + 1, i, R, A => if S.testBit i then pg_lw M (pg_fr S i) i R (A i) ∧ pg_fp M S k (i + 1) (pg_tk R (A i) (M i)) A else pg_fp M S k (i + 1) R A
theorem pg_fp_cong {M : Nat → Nat} {S : Nat} : ∀ {k i : Nat} {R A B : Nat → Nat}, (∀ j, i ≤ j → A j = B j) → pg_fp M S k i R A → pg_fp M S k i R B
  | 0, _, _, _, _, _, _ => trivial
  | k + 1, i, R, A, B, h, h2 => by
    rw [pg_fp] at h2 ⊢
    by_cases hb : S.testBit i = true
    · rw [if_pos hb] at h2 ⊢
      rw [← h i (Nat.le_refl _)]
      exact ⟨h2.1, pg_fp_cong (fun j hj => h j (by omega)) h2.2⟩
    · rw [if_neg hb] at h2 ⊢
      exact pg_fp_cong (fun j hj => h j (by omega)) h2
/-- subsets, downward -/
theorem pg_down : ∀ (x S U : Nat), x &&& S = x → U &&& S = U → U < x → U ≤ (x - 1) &&& S := by
  intro x
  induction x using Nat.strongRecOn with
  | _ x ih =>
    intro S U hx hU h
    have e1 : ((x - 1) &&& S) / 2 = (x - 1) / 2 &&& S / 2 := Nat.and_div_two
    have e2 : (x &&& S) / 2 = x / 2 &&& S / 2 := Nat.and_div_two
    have e3 : (U &&& S) / 2 = U / 2 &&& S / 2 := Nat.and_div_two
    rw [hx] at e2
    rw [hU] at e3
    rcases Nat.mod_two_eq_zero_or_one x with hp | hp
    · have hd : (x - 1) / 2 = x / 2 - 1 := by omega
      have hi := ih (x / 2) (by omega) (S / 2) (U / 2) e2.symm e3.symm (by omega)
      rw [hd] at e1
      by_cases hu : U % 2 = 1
      · have hs : S % 2 = 1 := by
          have := (Nat.and_mod_two_eq_one (a := U) (b := S)).mp (by rw [hU]; exact hu)
          exact this.2
        have := (Nat.and_mod_two_eq_one (a := x - 1) (b := S)).mpr ⟨by omega, hs⟩
        omega
      · omega
    · have hd : (x - 1) / 2 = x / 2 := by omega
      rw [hd, ← e2] at e1
      omega
