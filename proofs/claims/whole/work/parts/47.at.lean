/-! in which section a bar is -/
def sp_in (P : Nat → Nat → Nat) (c b q : Nat) : Prop := c.testBit q = false ∧ sp_ah P c q ≤ b ∧ b < sp_ah P c (q + 1)
theorem sp_in_one {P : Nat → Nat → Nat} {c b q r : Nat} (h1 : sp_in P c b q) (h2 : sp_in P c b r) : q = r := by
  rcases Nat.lt_trichotomy q r with h | h | h
  · have := sp_ah_mono (P := P) c (show q + 1 ≤ r from h)
    have a1 := h1.2.2
    have a2 := h2.2.1
    omega
  · exact h
  · have := sp_ah_mono (P := P) c (show r + 1 ≤ q from h)
    have a1 := h2.2.2
    have a2 := h1.2.1
    omega
section AT
variable {P : Nat → Nat → Nat} {sections things noteTold toldSection toldBar : Int32} {lengths times players minutes : Nat → Int32} {told s : Nat → Int32}
theorem ev_sectionAt_l (hP : rl_P P) (hS : rl_S P sections things noteTold toldSection toldBar lengths times players minutes) {c b : Nat} (hc : c < 2 ^ 31) (hb : b < 2 ^ 31) : ∀ (n i : Nat), i ≤ pc_N P → pc_N P - i < n → sp_ah P c i ≤ b →
    (∃ q, q < pc_N P ∧ sp_in P c b q ∧ mi_X6_sectionAt_l5 sections lengths times (nI b) (nI c) n (nI (sp_ah P c i)) (nI i) = some (nI q)) ∨ (sp_ah P c (pc_N P) ≤ b ∧ mi_X6_sectionAt_l5 sections lengths times (nI b) (nI c) n (nI (sp_ah P c i)) (nI i) = some (-9)) := by
  have h8 := hP.1
  intro n
  induction n with
  | zero => intro i h1 h2; exact absurd h2 (Nat.not_lt_zero _)
  | succ n ih =>
    intro i h1 h2 h3
    rw [mi_X6_sectionAt_l5]
    by_cases hi : i = pc_N P
    · right
      refine ⟨by rw [← hi]; exact h3, ?_⟩
      rw [if_pos (by rw [hS.1, hi]; exact nI_le (Nat.le_refl _) (by omega))]
    · rw [if_neg (by rw [hS.1]; exact nI_ge (by omega) (by omega)), jx_b1_eq (ev_isIn hc (by omega))]
      have hu : sp_ah P c (i + 1) = sp_ah P c i + (if c.testBit i then 0 else pc_L P i * pc_T P i) := rfl
      have hn := ih (i + 1) (by omega) (by omega)
      have h960 := sp_ah_960 hP c (q := i + 1) (by omega)
      cases hbt : c.testBit i with
      | true =>
        rw [hbt, if_pos rfl, Nat.add_zero] at hu
        rw [if_neg (by decide)]
        unfold mi_X6_sectionAt_b40
        rw [nI_1]
        rw [hu] at hn
        exact hn h3
      | false =>
        rw [hbt, if_neg (by decide)] at hu
        rw [if_pos ev_bf, jx_b1_eq (ev_barsOf hP hS (by omega)), nI_add, ← hu]
        by_cases hle : sp_ah P c (i + 1) ≤ b
        · rw [if_pos (nI_le hle hb)]
          unfold mi_X6_sectionAt_b40
          rw [nI_1]
          exact hn hle
        · rw [if_neg (nI_ge (by omega) (by omega))]
          exact Or.inl ⟨i, by omega, ⟨hbt, h3, by omega⟩, rfl⟩
theorem ev_sectionAt (hP : rl_P P) (hS : rl_S P sections things noteTold toldSection toldBar lengths times players minutes) {c b : Nat} (hc : c < 2 ^ 31) (hb : b < 2 ^ 31) :
    (∃ q, q < pc_N P ∧ sp_in P c b q ∧ mi_X6_sectionAt sections lengths times (nI b) (nI c) = some (nI q)) ∨ (sp_ah P c (pc_N P) ≤ b ∧ mi_X6_sectionAt sections lengths times (nI b) (nI c) = some (-9)) := by
  have h8 := hP.1
  exact ev_sectionAt_l hP hS hc hb jx_F 0 (Nat.zero_le _) (by show pc_N P - 0 < 100000000; omega) (Nat.zero_le _)
theorem ev_msectionAt_l (hP : rl_P P) (hT : rl_T P told) {c b : Nat} {R : Int32} (hc : c < 2 ^ 31) (hb : b < 2 ^ 31) (h3 : s 3 = nI c) (hR : ∀ q, q < pc_N P → sp_in P c b q → R = nI q) : ∀ (n i : Nat) (x : Int32), i ≤ pc_N P → pc_N P - i < n → (x = R ∨ ∃ q, i ≤ q ∧ q < pc_N P ∧ sp_in P c b q) →
    mi_X12_sectionAt_l5 told s (nI b) n x (nI i) = some R := by
  have h8 := hP.1
  intro n
  induction n with
  | zero => intro i x h1 h2; exact absurd h2 (Nat.not_lt_zero _)
  | succ n ih =>
    intro i x h1 h2 hx
    rw [mi_X12_sectionAt_l5, ev_n0, ev_n3, hT.1, h3]
    by_cases hi : i = pc_N P
    · rw [if_pos (by rw [hi]; exact nI_le (Nat.le_refl _) (by omega))]
      rcases hx with hx | ⟨q, q1, q2, -⟩
      · rw [hx]
      · omega
    · rw [if_neg (nI_ge (by omega) (by omega)), jx_b1_eq (ev_has hc (by omega))]
      have hu : sp_ah P c (i + 1) = sp_ah P c i + (if c.testBit i then 0 else pc_L P i * pc_T P i) := rfl
      have h960 := sp_ah_960 hP c (q := i + 1) (by omega)
      have hkeep : ¬ sp_in P c b i → mi_X12_sectionAt_l5 told s (nI b) n x (nI i + 1) = some R := fun hni => by
        rw [nI_1]
        refine ih (i + 1) x (by omega) (by omega) ?_
        rcases hx with hx | ⟨q, q1, q2, q3⟩
        · exact Or.inl hx
        · have : q ≠ i := fun z => hni (z ▸ q3)
          exact Or.inr ⟨q, by omega, q2, q3⟩
      cases hbt : c.testBit i with
      | true =>
        rw [if_neg (by decide)]
        unfold mi_X12_sectionAt_b56 mi_X12_sectionAt_b57
        exact hkeep (fun z => by rw [z.1] at hbt; cases hbt)
      | false =>
        have hf := ev_first hP hT hc h3 (q := i) (by omega)
        rw [hbt, if_neg (by decide)] at hf hu
        rw [if_pos ev_bf, jx_b1_eq hf, jx_b1_eq hf, jx_b1_eq (ev_minutes hP hT (by omega)), nI_add, ← hu]
        unfold mi_X12_sectionAt_b56 mi_X12_sectionAt_b57
        by_cases c1 : b < sp_ah P c i
        · rw [if_pos (nI_lt c1 (by omega))]
          exact hkeep (fun z => by have := z.2.1; omega)
        · rw [if_neg (nI_nlt (by omega) hb)]
          by_cases c2 : sp_ah P c (i + 1) ≤ b
          · rw [if_pos (nI_le c2 hb)]
            exact hkeep (fun z => by have := z.2.2; omega)
          · rw [if_neg (nI_ge (by omega) (by omega)), nI_1]
            exact ih (i + 1) _ (by omega) (by omega) (Or.inl (hR i (by omega) ⟨hbt, by omega, by omega⟩).symm)
theorem ev_msectionAt (hP : rl_P P) (hT : rl_T P told) {c b : Nat} {R : Int32} (hc : c < 2 ^ 31) (hb : b < 2 ^ 31) (h3 : s 3 = nI c) (hR : ∀ q, q < pc_N P → sp_in P c b q → R = nI q) (h : R = -9 ∨ ∃ q, q < pc_N P ∧ sp_in P c b q) : mi_X12_sectionAt told s (nI b) = some R := by
  have h8 := hP.1
  refine ev_msectionAt_l hP hT hc hb h3 hR jx_F 0 (-9) (Nat.zero_le _) (by show pc_N P - 0 < 100000000; omega) ?_
  rcases h with h | ⟨q, h1, h2⟩
  · exact Or.inl h.symm
  · exact Or.inr ⟨q, Nat.zero_le _, h1, h2⟩
end AT
