/-! the same on the reference's side -/
section MO
variable {P : Nat → Nat → Nat} {told s : Nat → Int32}
theorem ev_a6 (q : Nat) : (6 : Int32) + nI q = nI (6 + q) := nI_add 6 q
theorem ev_a14 (q : Nat) : (14 : Int32) + nI q = nI (14 + q) := nI_add 14 q
theorem ev_a22 (q : Nat) : (22 : Int32) + nI q = nI (22 + q) := nI_add 22 q
theorem ev_a30 (q : Nat) : (30 : Int32) + nI q = nI (30 + q) := nI_add 30 q
theorem ev_minutes (hP : rl_P P) (hT : rl_T P told) {q : Nat} (hq : q < pc_N P) : mi_X12_minutes told (nI q) = some (nI (pc_L P q * pc_T P q)) := by
  have h8 := hP.1
  unfold mi_X12_minutes
  rw [ev_a6, ev_a14, ev_g (ev_in (by omega) (by decide)), ev_g (ev_in (by omega) (by decide)), ev_cl (by omega), ev_cl (by omega), (hT.2.2.1 q hq).1, (hT.2.2.1 q hq).2.1, pk_mul]
theorem ev_ahead_l (hP : rl_P P) (hT : rl_T P told) {c k : Nat} (hc : c < 2 ^ 31) (hk : k ≤ pc_N P) : ∀ (n i : Nat), i ≤ k → k - i < n → mi_X12_ahead_l5 told (nI k) (nI c) n (nI (sp_ah P c i)) (nI i) = some (nI (sp_ah P c k)) := by
  have h8 := hP.1
  intro n
  induction n with
  | zero => intro i h1 h2; exact absurd h2 (Nat.not_lt_zero _)
  | succ n ih =>
    intro i h1 h2
    rw [mi_X12_ahead_l5]
    by_cases hi : i = k
    · subst hi
      rw [if_pos (nI_le (Nat.le_refl i) (by omega))]
    · rw [if_neg (nI_ge (by omega) (by omega)), jx_b1_eq (ev_has hc (by omega))]
      have hn := ih (i + 1) (by omega) (by omega)
      rw [sp_ah] at hn
      cases hb : c.testBit i with
      | true =>
        rw [hb] at hn
        rw [if_neg (by decide)]
        unfold mi_X12_ahead_b31
        rw [nI_1, show nI (sp_ah P c i) + (0 : Int32) = nI (sp_ah P c i + 0) from nI_add _ 0]
        exact hn
      | false =>
        rw [hb] at hn
        rw [if_pos ev_bf, jx_b1_eq (ev_minutes hP hT (by omega))]
        unfold mi_X12_ahead_b31
        rw [nI_1, nI_add]
        exact hn
theorem ev_ahead (hP : rl_P P) (hT : rl_T P told) {c k : Nat} (hc : c < 2 ^ 31) (hk : k ≤ pc_N P) : mi_X12_ahead told (nI k) (nI c) = some (nI (sp_ah P c k)) := by
  have h8 := hP.1
  unfold mi_X12_ahead
  exact ev_ahead_l hP hT hc hk jx_F 0 (Nat.zero_le k) (by show k - 0 < 100000000; omega)
theorem ev_length (hP : rl_P P) (hT : rl_T P told) {c : Nat} (hc : c < 2 ^ 31) (h3 : s 3 = nI c) : mi_X12_length told s = some (nI (sp_ah P c (pc_N P))) := by
  unfold mi_X12_length
  rw [ev_n0, ev_n3, hT.1, h3, jx_b1_eq (ev_ahead hP hT hc (Nat.le_refl _))]
theorem ev_first (hP : rl_P P) (hT : rl_T P told) {c q : Nat} (hc : c < 2 ^ 31) (h3 : s 3 = nI c) (hq : q < pc_N P) : mi_X12_first told s (nI q) = some (if c.testBit q then -9 else nI (sp_ah P c q)) := by
  have h8 := hP.1
  unfold mi_X12_first
  rw [ev_n3, h3, jx_b1_eq (ev_has hc (by omega))]
  cases hb : c.testBit q with
  | true => rw [if_neg (by decide)]; rfl
  | false => rw [if_pos ev_bf, jx_b1_eq (ev_ahead hP hT hc (by omega))]; rfl
theorem ev_noteBar (hP : rl_P P) (hT : rl_T P told) (h0 : 0 < pc_N P) {c : Nat} (hc : c < 2 ^ 31) : mi_X12_noteBar told (nI c) = some (nI (sp_nb P c)) := by
  obtain ⟨h1, h2⟩ := hP.2.2.2.2 h0
  have h3 := sp_mul hP h1
  have h8 := hP.1
  unfold mi_X12_noteBar
  rw [ev_n4, ev_n5, hT.2.2.2.2.2 h0, hT.2.2.2.2.1, jx_b1_eq (ev_ahead hP hT hc (by omega)), jx_b1_eq (ev_minutes hP hT h1), ev_a6, ev_g (ev_in (by omega) (by decide)), ev_cl (by omega), (hT.2.2.1 _ h1).1, nI_add, pk_sub (by omega), nI_add]
  rfl
theorem ev_mayCut (hP : rl_P P) (hT : rl_T P told) {c b q : Nat} (hc : c < 2 ^ 31) (hb : b ≤ 960) (h3 : s 3 = nI c) (h0 : s 0 = nI b) (hq : q < pc_N P) : mi_X12_mayCut told s (nI q) = some (ev_b (sp_can P c b q)) := by
  have h8 := hP.1
  have hN : 0 < pc_N P := by omega
  obtain ⟨h1, -⟩ := hP.2.2.2.2 hN
  have h9 := sp_ah_960 hP c (q := q) (by omega)
  unfold mi_X12_mayCut sp_can
  rw [ev_n3, ev_n4, ev_n0, h3, h0, hT.2.2.2.2.2 hN, jx_b1_eq (ev_has hc (by omega))]
  cases ht : c.testBit q with
  | true => rw [if_neg (by decide)]; rfl
  | false =>
    rw [if_pos ev_bf]
    by_cases hn : q = pc_ns P
    · rw [if_pos (by rw [hn])]; simp [hn, ev_b]
    · have hf := ev_first hP hT hc h3 hq
      rw [ht, if_neg (by decide)] at hf
      rw [if_neg (fun z => hn ((nI_eq (by omega) (by omega)).mp z)), jx_b1_eq hf]
      by_cases hl : b ≤ sp_ah P c q
      · rw [if_neg (nI_nlt hl (by omega))]; simp [hn, hl, ev_b]
      · rw [if_pos (nI_lt (by omega) (by omega))]; simp [hn, hl, ev_b]
theorem ev_allThatMay_l (hP : rl_P P) (hT : rl_T P told) {c b : Nat} (hc : c < 2 ^ 31) (hb : b ≤ 960) (h3 : s 3 = nI c) (h0 : s 0 = nI b) : ∀ (n i : Nat), i ≤ pc_N P → pc_N P - i < n → mi_X12_allThatMay_l4 told s n (nI (sp_all P c b i)) (nI i) = some (nI (sp_all P c b (pc_N P))) := by
  have h8 := hP.1
  intro n
  induction n with
  | zero => intro i h1 h2; exact absurd h2 (Nat.not_lt_zero _)
  | succ n ih =>
    intro i h1 h2
    rw [mi_X12_allThatMay_l4, ev_n0, hT.1]
    by_cases hi : i = pc_N P
    · rw [if_pos (by rw [hi]; exact nI_le (Nat.le_refl _) (by omega)), hi]
    · rw [if_neg (nI_ge (by omega) (by omega)), jx_b1_eq (ev_mayCut hP hT hc hb h3 h0 (by omega))]
      have hn := ih (i + 1) (by omega) (by omega)
      rw [sp_all] at hn
      cases hb2 : sp_can P c b i with
      | true =>
        rw [hb2, if_pos rfl] at hn
        rw [if_neg (by decide)]
        unfold mi_X12_allThatMay_b30
        rw [nI_1, ev_pow (by omega), fa_or]
        exact hn
      | false =>
        rw [hb2, if_neg (by decide)] at hn
        rw [if_pos ev_bf]
        unfold mi_X12_allThatMay_b30
        rw [nI_1, show nI (sp_all P c b i) ||| (0 : Int32) = nI (sp_all P c b i ||| 0) from fa_or _ 0, Nat.or_zero]
        exact hn
theorem ev_allThatMay (hP : rl_P P) (hT : rl_T P told) {c b : Nat} (hc : c < 2 ^ 31) (hb : b ≤ 960) (h3 : s 3 = nI c) (h0 : s 0 = nI b) : mi_X12_allThatMay told s = some (nI (sp_all P c b (pc_N P))) := by
  have h8 := hP.1
  unfold mi_X12_allThatMay
  exact ev_allThatMay_l hP hT hc hb h3 h0 jx_F 0 (Nat.zero_le _) (by show pc_N P - 0 < 100000000; omega)
end MO
