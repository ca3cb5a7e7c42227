/-! sums of bars, the note's bar, what can be cut: the class and the reference come to one number -/
def sp_ah (P : Nat → Nat → Nat) (c : Nat) : Nat → Nat
  | 0 => 0
  | q + 1 => sp_ah P c q + (if c.testBit q then 0 else pc_L P q * pc_T P q)
theorem sp_mul {P : Nat → Nat → Nat} (hP : rl_P P) {q : Nat} (hq : q < pc_N P) : pc_L P q * pc_T P q ≤ 120 ∧ 1 ≤ pc_L P q * pc_T P q ∧ pc_L P q ≤ pc_L P q * pc_T P q := by
  obtain ⟨h1, h2, h3, h4, -⟩ := hP.2.2.1 q hq
  refine ⟨Nat.mul_le_mul h2 h4, Nat.mul_le_mul h1 h3, ?_⟩
  exact Nat.le_mul_of_pos_right _ h3
theorem sp_ah_le {P : Nat → Nat → Nat} (hP : rl_P P) (c : Nat) : ∀ {q : Nat}, q ≤ pc_N P → sp_ah P c q ≤ 120 * q
  | 0, _ => Nat.le_refl 0
  | q + 1, h => by
    have h1 := sp_ah_le hP c (q := q) (by omega)
    have h2 := (sp_mul hP (q := q) (by omega)).1
    rw [sp_ah]
    split <;> omega
theorem sp_ah_960 {P : Nat → Nat → Nat} (hP : rl_P P) (c : Nat) {q : Nat} (h : q ≤ pc_N P) : sp_ah P c q ≤ 960 := by
  have h1 := sp_ah_le hP c h
  have h2 := hP.1
  omega
theorem sp_ah_mono {P : Nat → Nat → Nat} (c : Nat) {a : Nat} : ∀ {b : Nat}, a ≤ b → sp_ah P c a ≤ sp_ah P c b
  | 0, h => by rw [Nat.le_zero.mp h]; exact Nat.le_refl _
  | b + 1, h => by
    rcases Nat.lt_or_ge b a with q | q
    · have : a = b + 1 := by omega
      rw [this]; exact Nat.le_refl _
    · exact Nat.le_trans (sp_ah_mono c q) (by rw [sp_ah]; omega)
def sp_nb (P : Nat → Nat → Nat) (c : Nat) : Nat := sp_ah P c (pc_ns P) + pc_L P (pc_ns P) * pc_T P (pc_ns P) - pc_L P (pc_ns P) + pc_nb P
def sp_can (P : Nat → Nat → Nat) (c b q : Nat) : Bool := !c.testBit q && !decide (q = pc_ns P) && decide (b ≤ sp_ah P c q)
def sp_all (P : Nat → Nat → Nat) (c b : Nat) : Nat → Nat
  | 0 => 0
  | q + 1 => if sp_can P c b q then sp_all P c b q ||| 2 ^ q else sp_all P c b q
theorem sp_all_lt (P : Nat → Nat → Nat) (c b : Nat) : ∀ q, sp_all P c b q < 2 ^ q
  | 0 => Nat.one_pos
  | q + 1 => by
    have h := sp_all_lt P c b q
    rw [sp_all]
    have h2 : 2 ^ q < 2 ^ (q + 1) := Nat.pow_lt_pow_right (by decide) (by omega)
    split
    · exact Nat.or_lt_two_pow (by omega) h2
    · omega
theorem sp_all_bit (P : Nat → Nat → Nat) (c b : Nat) : ∀ (n q : Nat), (sp_all P c b n).testBit q = (decide (q < n) && sp_can P c b q)
  | 0, q => by simp [sp_all]
  | n + 1, q => by
    have ih := sp_all_bit P c b n q
    rw [sp_all]
    by_cases hq : q = n
    · subst hq
      have h0 : (sp_all P c b q).testBit q = false := Nat.testBit_lt_two_pow (sp_all_lt P c b q)
      cases hc : sp_can P c b q
      · simp [h0]
      · simp [h0, Nat.testBit_two_pow_self]
    · have hd : decide (q < n + 1) = decide (q < n) := by
        by_cases h : q < n
        · simp [h, Nat.lt_succ_of_lt h]
        · have : ¬ q < n + 1 := by omega
          simp [h, this]
      rw [hd, ← ih]
      cases hc : sp_can P c b n
      · simp
      · simp [Nat.testBit_two_pow_of_ne (Ne.symm hq)]
section SC
variable {P : Nat → Nat → Nat} {sections things noteTold toldSection toldBar : Int32} {lengths times players minutes : Nat → Int32}
theorem ev_hasSection (hN : pc_N P ≤ 8) {q : Nat} (hq : q < pc_N P) : mi_X6_hasSection (nI (pc_N P)) (nI q) = some 1 := by
  unfold mi_X6_hasSection
  rw [if_neg (nI_pos (by omega)), if_neg (nI_ge hq (by omega))]
theorem ev_hasThing (hN : pc_nt P ≤ 6) {q : Nat} (hq : q < pc_nt P) : mi_X6_hasThing (nI (pc_nt P)) (nI q) = some 1 := by
  unfold mi_X6_hasThing
  rw [if_neg (nI_pos (by omega)), if_neg (nI_ge hq (by omega))]
theorem ev_lengthOf (hP : rl_P P) (hS : rl_S P sections things noteTold toldSection toldBar lengths times players minutes) {q : Nat} (hq : q < pc_N P) : mi_X6_lengthOf sections lengths (nI q) = some (nI (pc_L P q)) := by
  have h8 := hP.1
  unfold mi_X6_lengthOf
  rw [hS.1, jx_b1_eq (ev_hasSection h8 hq), if_neg (by decide), ev_g (ev_in (by omega) (by decide)), ev_cl (by omega), (hS.2.2.1 q hq).1]
theorem ev_timesOf (hP : rl_P P) (hS : rl_S P sections things noteTold toldSection toldBar lengths times players minutes) {q : Nat} (hq : q < pc_N P) : mi_X6_timesOf sections times (nI q) = some (nI (pc_T P q)) := by
  have h8 := hP.1
  unfold mi_X6_timesOf
  rw [hS.1, jx_b1_eq (ev_hasSection h8 hq), if_neg (by decide), ev_g (ev_in (by omega) (by decide)), ev_cl (by omega), (hS.2.2.1 q hq).2.1]
theorem ev_whoOf (hP : rl_P P) (hS : rl_S P sections things noteTold toldSection toldBar lengths times players minutes) {q : Nat} (hq : q < pc_N P) : mi_X6_whoOf sections players (nI q) = some (nI (pc_W P q)) := by
  have h8 := hP.1
  unfold mi_X6_whoOf
  rw [hS.1, jx_b1_eq (ev_hasSection h8 hq), if_neg (by decide), ev_g (ev_in (by omega) (by decide)), ev_cl (by omega), (hS.2.2.1 q hq).2.2]
theorem ev_minutesOf (hP : rl_P P) (hS : rl_S P sections things noteTold toldSection toldBar lengths times players minutes) {q : Nat} (hq : q < pc_nt P) : mi_X6_minutesOf things minutes (nI q) = some (nI (pc_M P q)) := by
  have h6 := hP.2.1
  unfold mi_X6_minutesOf
  rw [hS.2.1, jx_b1_eq (ev_hasThing h6 hq), if_neg (by decide), ev_g (ev_in (by omega) (by decide)), ev_cl (by omega), hS.2.2.2.1 q hq]
theorem ev_barsOf (hP : rl_P P) (hS : rl_S P sections things noteTold toldSection toldBar lengths times players minutes) {q : Nat} (hq : q < pc_N P) : mi_X6_barsOf sections lengths times (nI q) = some (nI (pc_L P q * pc_T P q)) := by
  have h8 := hP.1
  unfold mi_X6_barsOf
  rw [hS.1, jx_b1_eq (ev_hasSection h8 hq), if_neg (by decide), ev_g (ev_in (by omega) (by decide)), ev_g (ev_in (by omega) (by decide)), ev_cl (by omega), (hS.2.2.1 q hq).1, (hS.2.2.1 q hq).2.1, pk_mul]
theorem ev_noteSection (hP : rl_P P) (hS : rl_S P sections things noteTold toldSection toldBar lengths times players minutes) (h0 : 0 < pc_N P) : mi_X6_noteSection sections noteTold toldSection = some (nI (pc_ns P)) := by
  unfold mi_X6_noteSection
  rcases hS.2.2.2.2.2 with ⟨h1, h2⟩ | ⟨h1, h2⟩
  · rw [h1, if_pos rfl, hS.1, h2]
    have h3 : nI (pc_N P) - 1 = nI (pc_N P - 1) := pk_sub (a := pc_N P) (b := 1) h0
    rw [h3]
  · rw [h1, if_neg (by decide), h2]
theorem ev_firstOf_l (hP : rl_P P) (hS : rl_S P sections things noteTold toldSection toldBar lengths times players minutes) {c s : Nat} (hc : c < 2 ^ 31) (hs : s ≤ pc_N P) : ∀ (n i : Nat), i ≤ s → s - i < n → mi_X6_firstOf_l5 sections lengths times (nI s) (nI c) n (nI (sp_ah P c i)) (nI i) = some (nI (sp_ah P c s)) := by
  have h8 := hP.1
  intro n
  induction n with
  | zero => intro i h1 h2; exact absurd h2 (Nat.not_lt_zero _)
  | succ n ih =>
    intro i h1 h2
    rw [mi_X6_firstOf_l5]
    by_cases hi : i = s
    · subst hi
      rw [if_pos (nI_le (Nat.le_refl i) (by omega))]
    · rw [if_neg (nI_ge (by omega) (by omega)), jx_b1_eq (ev_isIn hc (by omega))]
      have hn := ih (i + 1) (by omega) (by omega)
      rw [sp_ah] at hn
      cases hb : c.testBit i with
      | true =>
        rw [hb] at hn
        rw [if_neg (by decide)]
        unfold mi_X6_firstOf_b29
        rw [nI_1]
        exact hn
      | false =>
        rw [hb] at hn
        rw [if_pos ev_bf, jx_b1_eq (ev_barsOf hP hS (by omega))]
        unfold mi_X6_firstOf_b29
        rw [nI_1, nI_add]
        exact hn
theorem ev_firstOf (hP : rl_P P) (hS : rl_S P sections things noteTold toldSection toldBar lengths times players minutes) {c s : Nat} (hc : c < 2 ^ 31) (hs : s ≤ pc_N P) : mi_X6_firstOf sections lengths times (nI s) (nI c) = some (nI (sp_ah P c s)) := by
  have h8 := hP.1
  unfold mi_X6_firstOf
  exact ev_firstOf_l hP hS hc hs jx_F 0 (Nat.zero_le s) (by show s - 0 < 100000000; omega)
theorem ev_barsWith (hP : rl_P P) (hS : rl_S P sections things noteTold toldSection toldBar lengths times players minutes) {c : Nat} (hc : c < 2 ^ 31) : mi_X6_barsWith sections lengths times (nI c) = some (nI (sp_ah P c (pc_N P))) := by
  unfold mi_X6_barsWith
  have h := ev_firstOf hP hS hc (Nat.le_refl (pc_N P))
  rw [hS.1] at h ⊢
  rw [jx_b1_eq h]
theorem ev_noteBarWith (hP : rl_P P) (hS : rl_S P sections things noteTold toldSection toldBar lengths times players minutes) (h0 : 0 < pc_N P) {c : Nat} (hc : c < 2 ^ 31) : mi_X6_noteBarWith sections noteTold toldSection toldBar lengths times (nI c) = some (nI (sp_nb P c)) := by
  obtain ⟨h1, h2⟩ := hP.2.2.2.2 h0
  have h3 := sp_mul hP h1
  unfold mi_X6_noteBarWith
  rw [jx_b1_eq (ev_noteSection hP hS h0), jx_b1_eq (ev_firstOf hP hS hc (by omega)), jx_b1_eq (ev_barsOf hP hS h1), jx_b1_eq (ev_lengthOf hP hS h1), hS.2.2.2.2.1, nI_add, pk_sub (by omega), nI_add]
  rfl
theorem sp_nb_le (hP : rl_P P) (h0 : 0 < pc_N P) (c : Nat) : sp_nb P c ≤ 1100 := by
  obtain ⟨h1, h2⟩ := hP.2.2.2.2 h0
  have h3 := sp_mul hP h1
  have h4 := sp_ah_960 hP c (q := pc_ns P) (by omega)
  have h5 := (hP.2.2.1 _ h1).2.1
  unfold sp_nb
  omega
theorem ev_canBeCut (hP : rl_P P) (hS : rl_S P sections things noteTold toldSection toldBar lengths times players minutes) {c b q : Nat} (hc : c < 2 ^ 31) (hb : b ≤ 960) (hq : q < pc_N P) : mi_X6_canBeCut sections noteTold toldSection lengths times (nI q) (nI c) (nI b) = some (ev_b (sp_can P c b q)) := by
  have h8 := hP.1
  have h0 : 0 < pc_N P := by omega
  obtain ⟨h1, -⟩ := hP.2.2.2.2 h0
  have h9 := sp_ah_960 hP c (q := q) (by omega)
  unfold mi_X6_canBeCut sp_can
  rw [jx_b1_eq (ev_isIn hc (by omega))]
  cases ht : c.testBit q with
  | true => rw [if_neg (by decide)]; rfl
  | false =>
    rw [if_pos ev_bf, jx_b1_eq (ev_noteSection hP hS h0)]
    by_cases hn : q = pc_ns P
    · rw [if_pos (by rw [hn])]; simp [hn, ev_b]
    · rw [if_neg (fun z => hn ((nI_eq (by omega) (by omega)).mp z)), jx_b1_eq (ev_firstOf hP hS hc (by omega))]
      by_cases hl : b ≤ sp_ah P c q
      · rw [if_neg (nI_nlt hl (by omega))]; simp [hn, hl, ev_b]
      · rw [if_pos (nI_lt (by omega) (by omega))]; simp [hn, hl, ev_b]
theorem ev_allCuttable_l (hP : rl_P P) (hS : rl_S P sections things noteTold toldSection toldBar lengths times players minutes) {c b : Nat} (hc : c < 2 ^ 31) (hb : b ≤ 960) : ∀ (n i : Nat), i ≤ pc_N P → pc_N P - i < n → mi_X6_allCuttable_l5 sections noteTold toldSection lengths times (nI c) (nI b) n (nI (sp_all P c b i)) (nI i) = some (nI (sp_all P c b (pc_N P))) := by
  have h8 := hP.1
  intro n
  induction n with
  | zero => intro i h1 h2; exact absurd h2 (Nat.not_lt_zero _)
  | succ n ih =>
    intro i h1 h2
    rw [mi_X6_allCuttable_l5]
    by_cases hi : i = pc_N P
    · rw [if_pos (by rw [hS.1, hi]; exact nI_le (Nat.le_refl _) (by omega)), hi]
    · rw [if_neg (by rw [hS.1]; exact nI_ge (by omega) (by omega)), jx_b1_eq (ev_canBeCut hP hS hc hb (by omega))]
      have hn := ih (i + 1) (by omega) (by omega)
      rw [sp_all] at hn
      cases hb2 : sp_can P c b i with
      | true =>
        rw [hb2, if_pos rfl] at hn
        rw [if_neg (by decide)]
        unfold mi_X6_allCuttable_b32
        rw [nI_1, ev_pow (by omega), fa_or]
        exact hn
      | false =>
        rw [hb2, if_neg (by decide)] at hn
        rw [if_pos ev_bf]
        unfold mi_X6_allCuttable_b32
        rw [nI_1]
        exact hn
theorem ev_allCuttable (hP : rl_P P) (hS : rl_S P sections things noteTold toldSection toldBar lengths times players minutes) {c b : Nat} (hc : c < 2 ^ 31) (hb : b ≤ 960) : mi_X6_allCuttable sections noteTold toldSection lengths times (nI c) (nI b) = some (nI (sp_all P c b (pc_N P))) := by
  have h8 := hP.1
  unfold mi_X6_allCuttable
  exact ev_allCuttable_l hP hS hc hb jx_F 0 (Nat.zero_le _) (by show pc_N P - 0 < 100000000; omega)
end SC
