/-! who plays which bar; the places at which all that was heard is so -/
def sp_wb (P : Nat → Nat → Nat) (c : Nat) : Nat → Nat → Nat
  | 0, _ => 4
  | q + 1, b => if sp_ah P c q ≤ b ∧ b < sp_ah P c (q + 1) then pc_W P q else sp_wb P c q b
theorem sp_wb_in {P : Nat → Nat → Nat} {c b i : Nat} (h1 : sp_ah P c i ≤ b) (h2 : b < sp_ah P c (i + 1)) : ∀ {q : Nat}, i < q → sp_wb P c q b = pc_W P i
  | 0, h => absurd h (Nat.not_lt_zero _)
  | q + 1, h => by
    rw [sp_wb]
    by_cases hq : q = i
    · rw [hq, if_pos ⟨h1, h2⟩]
    · have h3 := sp_ah_mono (P := P) c (show i + 1 ≤ q from by omega)
      rw [if_neg (by omega)]
      exact sp_wb_in h1 h2 (by omega)
theorem sp_wb_out {P : Nat → Nat → Nat} {c b : Nat} : ∀ {q : Nat}, sp_ah P c q ≤ b → sp_wb P c q b = 4
  | 0, _ => rfl
  | q + 1, h => by
    have h3 := sp_ah_mono (P := P) c (show q ≤ q + 1 from by omega)
    rw [sp_wb, if_neg (by omega)]
    exact sp_wb_out (by omega)
def sp_who (P : Nat → Nat → Nat) (c b : Nat) : Nat := sp_wb P c (pc_N P) b
theorem sp_who_le {P : Nat → Nat → Nat} (hP : rl_P P) (c b : Nat) : sp_who P c b ≤ 4 := by
  unfold sp_who
  have : ∀ q, q ≤ pc_N P → sp_wb P c q b ≤ 4 := by
    intro q
    induction q with
    | zero => intro _; exact Nat.le_refl 4
    | succ q ih =>
      intro h
      have h1 := (hP.2.2.1 q (by omega)).2.2.2.2
      have h2 := ih (by omega)
      rw [sp_wb]
      split <;> omega
  exact this _ (Nat.le_refl _)
section EA
variable {P : Nat → Nat → Nat} {sections things noteTold toldSection toldBar : Int32} {lengths times players minutes : Nat → Int32} {told s : Nat → Int32}
theorem ev_layOut_l37 (hP : rl_P P) (hS : rl_S P sections things noteTold toldSection toldBar lengths times players minutes) {i m base : Nat} {K : Int32 → Int32 → (Nat → Int32) → Option (Int32 × (Nat → Int32))} (hi : i < pc_N P) (hm : base + m ≤ 960) : ∀ (n j : Nat) (pl : Nat → Int32), j ≤ m → m - j < n →
    ∃ pl', mi_X3_layOut_l37 sections players K n (nI i) (nI m) (nI j) (nI (base + j)) pl = K (nI (i + 1)) (nI (base + m)) pl' ∧ (∀ b, b < base + j → pl' b = pl b) ∧ (∀ b, base + j ≤ b → b < base + m → pl' b = nI (pc_W P i)) := by
  have h8 := hP.1
  intro n
  induction n with
  | zero => intro j pl h1 h2; exact absurd h2 (Nat.not_lt_zero _)
  | succ n ih =>
    intro j pl h1 h2
    rw [mi_X3_layOut_l37]
    by_cases hj : j = m
    · subst hj
      rw [if_pos (nI_le (Nat.le_refl _) (by omega))]
      unfold mi_X3_layOut_b84
      rw [nI_1]
      exact ⟨pl, rfl, fun b _ => rfl, fun b g1 g2 => by omega⟩
    · rw [if_neg (nI_ge (by omega) (by omega)), if_neg (show ¬ (960 : Int32) ≤ nI (base + j) from nI_ge (b := 960) (by omega) (by omega)), jx_b1_eq (ev_whoOf hP hS hi), ev_g (ev_in (by omega) (by decide)), nI_1, ev_p1, ev_cl (by omega)]
      obtain ⟨pl', e1, e2, e3⟩ := ih (j + 1) (upd pl (base + j) (nI (pc_W P i))) (by omega) (by omega)
      refine ⟨pl', e1, fun b hb => ?_, fun b g1 g2 => ?_⟩
      · rw [e2 b (by omega), pk_un (by omega)]
      · by_cases hb : b = base + j
        · rw [hb, e2 _ (by omega), pk_us]
        · exact e3 b (by omega) g2
theorem ev_layOut_l7 (hP : rl_P P) (hS : rl_S P sections things noteTold toldSection toldBar lengths times players minutes) {c : Nat} (hc : c < 2 ^ 31) : ∀ (n i : Nat) (pl : Nat → Int32), i ≤ pc_N P → pc_N P - i < n → (∀ b, b < sp_ah P c i → pl b = nI (sp_who P c b)) →
    ∃ pl', mi_X3_layOut_l7 sections lengths times players (nI c) n (nI i) (nI (sp_ah P c i)) pl = some (nI (sp_ah P c (pc_N P)), pl') ∧ ∀ b, b < sp_ah P c (pc_N P) → pl' b = nI (sp_who P c b) := by
  have h8 := hP.1
  intro n
  induction n with
  | zero => intro i pl h1 h2; exact absurd h2 (Nat.not_lt_zero _)
  | succ n ih =>
    intro i pl h1 h2 h3
    rw [mi_X3_layOut_l7]
    by_cases hi : i = pc_N P
    · subst hi
      rw [if_pos (by rw [hS.1]; exact nI_le (Nat.le_refl _) (by omega))]
      exact ⟨pl, rfl, h3⟩
    · have hu : sp_ah P c (i + 1) = sp_ah P c i + (if c.testBit i then 0 else pc_L P i * pc_T P i) := rfl
      have h960 := sp_ah_960 hP c (q := i + 1) (by omega)
      have hgo : ∀ m, sp_ah P c (i + 1) = sp_ah P c i + m → ∃ pl', mi_X3_layOut_b32 sections players (mi_X3_layOut_l7 sections lengths times players (nI c) n) (nI i) (nI m) (nI (sp_ah P c i)) pl = some (nI (sp_ah P c (pc_N P)), pl') ∧ ∀ b, b < sp_ah P c (pc_N P) → pl' b = nI (sp_who P c b) := fun m hm => by
        unfold mi_X3_layOut_b32
        obtain ⟨pl', e1, e2, e3⟩ := ev_layOut_l37 hP hS (i := i) (m := m) (base := sp_ah P c i) (K := mi_X3_layOut_l7 sections lengths times players (nI c) n) (by omega) (by omega) jx_F 0 pl (Nat.zero_le _) (by show m - 0 < 100000000; omega)
        obtain ⟨pl2, f1, f2⟩ := ih (i + 1) pl' (by omega) (by omega) (fun b hb => by
          by_cases hb2 : b < sp_ah P c i
          · rw [e2 b (by omega), h3 b hb2]
          · rw [e3 b (by omega) (by omega)]
            unfold sp_who
            rw [sp_wb_in (i := i) (by omega) hb (by omega)])
        rw [hm] at f1
        exact ⟨pl2, e1.trans f1, f2⟩
      rw [if_neg (by rw [hS.1]; exact nI_ge (by omega) (by omega)), jx_b1_eq (ev_isIn hc (by omega))]
      cases hb : c.testBit i with
      | true =>
        rw [hb, if_pos rfl] at hu
        rw [if_neg (by decide)]
        exact hgo 0 hu
      | false =>
        rw [hb, if_neg (by decide)] at hu
        rw [if_pos ev_bf, jx_b1_eq (ev_barsOf hP hS (by omega))]
        exact hgo _ hu
theorem ev_layOut (hP : rl_P P) (hS : rl_S P sections things noteTold toldSection toldBar lengths times players minutes) {c : Nat} (hc : c < 2 ^ 31) (pl : Nat → Int32) : ∃ pl', mi_X3_layOut pl sections lengths times players (nI c) = some (nI (sp_ah P c (pc_N P)), pl') ∧ ∀ b, b < sp_ah P c (pc_N P) → pl' b = nI (sp_who P c b) := by
  have h8 := hP.1
  exact ev_layOut_l7 hP hS hc jx_F 0 pl (Nat.zero_le _) (by show pc_N P - 0 < 100000000; omega) (fun b hb => absurd hb (Nat.not_lt_zero b))
theorem ev_writes_l68 : ∀ (n i : Nat) (pl : Nat → Int32), i ≤ 1100 → 1100 - i < n → ∃ pl', mi_X12_writes_l68 n (nI i) pl = some pl' ∧ (∀ b, b < i → pl' b = pl b) ∧ ∀ b, i ≤ b → b < 1100 → pl' b = nI 4 := by
  intro n
  induction n with
  | zero => intro i pl h1 h2; exact absurd h2 (Nat.not_lt_zero _)
  | succ n ih =>
    intro i pl h1 h2
    rw [mi_X12_writes_l68]
    by_cases hi : i = 1100
    · subst hi
      rw [if_pos (show (1100 : Int32) ≤ nI 1100 from by decide)]
      exact ⟨pl, rfl, fun b _ => rfl, fun b g1 g2 => by omega⟩
    · rw [if_neg (show ¬ (1100 : Int32) ≤ nI i from nI_ge (b := 1100) (by omega) (by omega)), ev_g (ev_in (by omega) (by decide)), nI_1, ev_cl (by omega)]
      obtain ⟨pl', e1, e2, e3⟩ := ih (i + 1) (upd pl i 4) (by omega) (by omega)
      refine ⟨pl', e1, fun b hb => ?_, fun b g1 g2 => ?_⟩
      · rw [e2 b (by omega), pk_un (by omega)]
      · by_cases hb : b = i
        · rw [hb, e2 _ (by omega), pk_us]; rfl
        · exact e3 b (by omega) g2
theorem ev_writes_l16 (hP : rl_P P) (hT : rl_T P told) {c i base : Nat} {K : Int32 → Int32 → (Nat → Int32) → Option (Nat → Int32)} (hc : c < 2 ^ 31) (h3 : s 3 = nI c) (hi : i < pc_N P) (hb : c.testBit i = false) (hm : base + pc_L P i * pc_T P i ≤ 960) : ∀ (n j : Nat) (pl : Nat → Int32), j ≤ pc_L P i * pc_T P i → pc_L P i * pc_T P i - j < n →
    ∃ pl', mi_X12_writes_l16 told s K n (nI (base + j)) (nI i) (nI j) pl = K (nI (base + pc_L P i * pc_T P i)) (nI (i + 1)) pl' ∧ (∀ b, b < base + j → pl' b = pl b) ∧ (∀ b, base + j ≤ b → b < base + pc_L P i * pc_T P i → pl' b = nI (pc_W P i)) := by
  have h8 := hP.1
  intro n
  induction n with
  | zero => intro j pl h1 h2; exact absurd h2 (Nat.not_lt_zero _)
  | succ n ih =>
    intro j pl h1 h2
    rw [mi_X12_writes_l16, jx_b1_eq (ev_minutes hP hT hi)]
    by_cases hj : j = pc_L P i * pc_T P i
    · rw [hj, if_pos (nI_le (Nat.le_refl _) (by omega))]
      unfold mi_X12_writes_b62
      rw [nI_1]
      exact ⟨pl, rfl, fun b _ => rfl, fun b g1 g2 => by omega⟩
    · rw [if_neg (nI_ge (by omega) (by omega)), ev_n3, h3, jx_b1_eq (ev_has hc (by omega)), hb, if_pos ev_bf, ev_a22, ev_g (ev_in (by omega) (by decide)), ev_g (ev_in (by omega) (by decide)), nI_1, nI_1, ev_cl (by omega), ev_cl (by omega), (hT.2.2.1 i hi).2.2]
      obtain ⟨pl', e1, e2, e3⟩ := ih (j + 1) (upd pl (base + j) (nI (pc_W P i))) (by omega) (by omega)
      refine ⟨pl', e1, fun b hb => ?_, fun b g1 g2 => ?_⟩
      · rw [e2 b (by omega), pk_un (by omega)]
      · by_cases hb : b = base + j
        · rw [hb, e2 _ (by omega), pk_us]
        · exact e3 b (by omega) g2
theorem ev_writes_l4 (hP : rl_P P) (hT : rl_T P told) {c : Nat} (hc : c < 2 ^ 31) (h3 : s 3 = nI c) : ∀ (n i : Nat) (pl : Nat → Int32), i ≤ pc_N P → pc_N P - i < n → (∀ b, b < sp_ah P c i → pl b = nI (sp_who P c b)) →
    ∃ pl', mi_X12_writes_l4 told s n (nI (sp_ah P c i)) (nI i) pl = some pl' ∧ ∀ b, b < 1100 → pl' b = nI (sp_who P c b) := by
  have h8 := hP.1
  intro n
  induction n with
  | zero => intro i pl h1 h2; exact absurd h2 (Nat.not_lt_zero _)
  | succ n ih =>
    intro i pl h1 h2 h4
    rw [mi_X12_writes_l4, ev_n0, hT.1]
    by_cases hi : i = pc_N P
    · subst hi
      have h960 := sp_ah_960 hP c (Nat.le_refl (pc_N P))
      rw [if_pos (nI_le (Nat.le_refl _) (by omega))]
      obtain ⟨pl', e1, e2, e3⟩ := ev_writes_l68 jx_F (sp_ah P c (pc_N P)) pl (by omega) (by show _ < 100000000; omega)
      refine ⟨pl', e1, fun b hb => ?_⟩
      by_cases hb2 : b < sp_ah P c (pc_N P)
      · rw [e2 b hb2, h4 b hb2]
      · rw [e3 b (by omega) hb]
        unfold sp_who
        rw [sp_wb_out (by omega)]
    · have hu : sp_ah P c (i + 1) = sp_ah P c i + (if c.testBit i then 0 else pc_L P i * pc_T P i) := rfl
      have h960 := sp_ah_960 hP c (q := i + 1) (by omega)
      rw [if_neg (nI_ge (by omega) (by omega))]
      cases hb : c.testBit i with
      | true =>
        have hu2 : sp_ah P c (i + 1) = sp_ah P c i := by rw [hu, hb]; simp
        have hmul := sp_mul hP (q := i) (by omega)
        have hst : mi_X12_writes_l16 told s (mi_X12_writes_l4 told s n) jx_F (nI (sp_ah P c i)) (nI i) 0 pl = mi_X12_writes_l4 told s n (nI (sp_ah P c i)) (nI (i + 1)) pl := by
          obtain ⟨F, hF⟩ := ev_fuel (n := 1) (by omega)
          rw [hF, Nat.add_comm 1 F, mi_X12_writes_l16, jx_b1_eq (ev_minutes hP hT (by omega)), if_neg (show ¬ nI (pc_L P i * pc_T P i) ≤ (0 : Int32) from nI_nle (by omega) (by omega)), ev_n3, h3, jx_b1_eq (ev_has hc (by omega)), hb, if_neg (by decide)]
          unfold mi_X12_writes_b62
          rw [nI_1]
        rw [hst]
        have hi2 := ih (i + 1) pl (by omega) (by omega) (fun b hb => h4 b (by omega))
        rw [hu2] at hi2
        exact hi2
      | false =>
        rw [hb, if_neg (by decide)] at hu
        obtain ⟨pl', e1, e2, e3⟩ := ev_writes_l16 hP hT (s := s) (i := i) (base := sp_ah P c i) (K := mi_X12_writes_l4 told s n) hc h3 (by omega) hb (by omega) jx_F 0 pl (Nat.zero_le _) (by show _ < 100000000; omega)
        obtain ⟨pl2, f1, f2⟩ := ih (i + 1) pl' (by omega) (by omega) (fun b hb => by
          by_cases hb2 : b < sp_ah P c i
          · rw [e2 b (by omega), h4 b hb2]
          · rw [e3 b (by omega) (by omega)]
            unfold sp_who
            rw [sp_wb_in (i := i) (by omega) hb (by omega)])
        rw [hu] at f1
        exact ⟨pl2, e1.trans f1, f2⟩
theorem ev_writes (hP : rl_P P) (hT : rl_T P told) {c : Nat} (hc : c < 2 ^ 31) (h3 : s 3 = nI c) (pl : Nat → Int32) : ∃ pl', mi_X12_writes told s pl = some pl' ∧ ∀ b, b < 1100 → pl' b = nI (sp_who P c b) := by
  have h8 := hP.1
  exact ev_writes_l4 hP hT hc h3 jx_F 0 pl (Nat.zero_le _) (by show pc_N P - 0 < 100000000; omega) (fun b hb => absurd hb (Nat.not_lt_zero b))
end EA
/-- all that was heard is so at b -/
def sp_so (P : Nat → Nat → Nat) (c h : Nat) (A B : Nat → Nat) (b : Nat) : Bool := decide (∀ j, j < h → sp_who P c (b + A j) = B j)
def rl_AB (h : Nat) (A B : Nat → Nat) (laters players notes : Nat → Int32) : Prop := h ≤ 4 ∧ ∀ j, j < h → A j ≤ 60 ∧ B j ≤ 3 ∧ laters j = nI (A j) ∧ players j = nI (B j) ∧ notes (2 * j) = nI (A j) ∧ notes (2 * j + 1) = nI (B j)
theorem rl_H_AB {heard noted : Int32} {laters players notes : Nat → Int32} (h : rl_H heard laters players noted notes) : ∃ (k : Nat) (A B : Nat → Nat), heard = nI k ∧ noted = nI k ∧ rl_AB k A B laters players notes := by
  obtain ⟨k, h1, h2, h3, h4⟩ := h
  refine ⟨k, fun j => (laters j).toNatClampNeg, fun j => (players j).toNatClampNeg, h1, h3, h2, fun j hj => ?_⟩
  obtain ⟨a, w, g1, g2, g3, g4, g5, g6⟩ := h4 j hj
  have e1 : (laters j).toNatClampNeg = a := by rw [g3]; exact nI_clamp (by omega)
  have e2 : (players j).toNatClampNeg = w := by rw [g4]; exact nI_clamp (by omega)
  show (laters j).toNatClampNeg ≤ 60 ∧ (players j).toNatClampNeg ≤ 3 ∧ laters j = nI (laters j).toNatClampNeg ∧ players j = nI (players j).toNatClampNeg ∧ notes (2 * j) = nI (laters j).toNatClampNeg ∧ notes (2 * j + 1) = nI (players j).toNatClampNeg
  rw [e1, e2]
  exact ⟨g1, g2, g3, g4, g5, g6⟩
section EB
variable {P : Nat → Nat → Nat} {c h : Nat} {A B : Nat → Nat} {laters players notes playing mpl : Nat → Int32}
theorem ev_isPlace_l2 (hP : rl_P P) (hAB : rl_AB h A B laters players notes) (hpl : ∀ b, b < sp_ah P c (pc_N P) → playing b = nI (sp_who P c b)) {b : Nat} (hb : b < sp_ah P c (pc_N P)) : ∀ (n j : Nat), j ≤ h → h - j < n → (∀ i, i < j → sp_who P c (b + A i) = B i) →
    mi_X3_isPlace_l2 (nI h) (nI (sp_ah P c (pc_N P))) laters players playing (nI b) n (nI j) = some (ev_b (sp_so P c h A B b)) := by
  have h960 := sp_ah_960 hP c (Nat.le_refl (pc_N P))
  have h4 := hAB.1
  intro n
  induction n with
  | zero => intro j h1 h2; exact absurd h2 (Nat.not_lt_zero _)
  | succ n ih =>
    intro j h1 h2 h3
    rw [mi_X3_isPlace_l2]
    by_cases hj : j = h
    · subst hj
      have ht : sp_so P c j A B b = true := by unfold sp_so; simpa using h3
      rw [if_pos (nI_le (Nat.le_refl _) (by omega)), ht]; rfl
    · obtain ⟨a1, a2, a3, a4, -, -⟩ := hAB.2 j (by omega)
      rw [if_neg (nI_ge (by omega) (by omega)), if_neg (show ¬ (4 : Int32) ≤ nI j from nI_ge (b := 4) (by omega) (by omega)), ev_g (ev_in (by omega) (by decide)), ev_g (ev_in (by omega) (by decide)), ev_cl (by omega), a3, a4, nI_add, if_neg (nI_pos (by omega))]
      have hbad : ¬ sp_who P c (b + A j) = B j → sp_so P c h A B b = false := fun hn => by
        unfold sp_so
        simp only [decide_eq_false_iff_not]
        exact fun z => hn (z j (by omega))
      by_cases hin : b + A j < sp_ah P c (pc_N P)
      · have hw := sp_who_le hP c (b + A j)
        rw [if_neg (nI_ge hin (by omega)), ev_g (ev_in (by omega) (by decide)), ev_cl (by omega), hpl _ hin]
        by_cases he : sp_who P c (b + A j) = B j
        · rw [if_pos (by rw [he]), nI_1]
          exact ih (j + 1) (by omega) (by omega) (fun i hi => by
            by_cases hij : i = j
            · rw [hij]; exact he
            · exact h3 i (by omega))
        · rw [if_neg (fun z => he ((nI_eq (by omega) (by omega)).mp z)), hbad he]; rfl
      · have hw : sp_who P c (b + A j) = 4 := sp_wb_out (by omega)
        rw [if_pos (nI_le (by omega) (by omega)), hbad (by omega)]; rfl
theorem ev_isPlace (hP : rl_P P) (hAB : rl_AB h A B laters players notes) (hpl : ∀ b, b < sp_ah P c (pc_N P) → playing b = nI (sp_who P c b)) {b : Nat} (hb : b < sp_ah P c (pc_N P)) : mi_X3_isPlace (nI h) (nI (sp_ah P c (pc_N P))) laters players playing (nI b) = some (ev_b (sp_so P c h A B b)) := by
  have h4 := hAB.1
  exact ev_isPlace_l2 hP hAB hpl hb jx_F 0 (Nat.zero_le _) (by show h - 0 < 100000000; omega) (fun i hi => absurd hi (Nat.not_lt_zero i))
theorem ev_isSo_l4 (hP : rl_P P) (hAB : rl_AB h A B laters players notes) (hpl : ∀ b, b < 1100 → mpl b = nI (sp_who P c b)) {b : Nat} (hb : b < 960) : ∀ (n j : Nat) (x : Int32), j ≤ h → h - j < n → ((x = 1 ∧ ∀ i, i < j → sp_who P c (b + A i) = B i) ∨ (x = 0 ∧ sp_so P c h A B b = false)) →
    mi_X12_isSo_l4 (nI h) notes mpl (nI b) n x (nI j) = some (ev_b (sp_so P c h A B b)) := by
  have h4 := hAB.1
  intro n
  induction n with
  | zero => intro j x h1 h2; exact absurd h2 (Nat.not_lt_zero _)
  | succ n ih =>
    intro j x h1 h2 hx
    rw [mi_X12_isSo_l4]
    by_cases hj : j = h
    · subst hj
      rw [if_pos (nI_le (Nat.le_refl _) (by omega))]
      rcases hx with ⟨rfl, h3⟩ | ⟨rfl, h3⟩
      · have ht : sp_so P c j A B b = true := by unfold sp_so; simpa using h3
        rw [ht]; rfl
      · rw [h3]; rfl
    · obtain ⟨a1, a2, -, -, a5, a6⟩ := hAB.2 j (by omega)
      rw [if_neg (nI_ge (by omega) (by omega))]
      rcases hx with ⟨rfl, h3⟩ | ⟨rfl, h3⟩
      · have hw := sp_who_le hP c (b + A j)
        rw [if_neg ev_1ne0, show (2 : Int32) * nI j = nI (2 * j) from pk_mul 2 j, ev_p1, ev_g (ev_in (by omega) (by decide)), ev_cl (by omega), ev_cl (by omega), a5, a6, nI_add, ev_g (ev_in (by omega) (by decide)), ev_g (ev_in (by omega) (by decide)), ev_cl (by omega), hpl _ (by omega)]
        unfold mi_X12_isSo_b48 mi_X12_isSo_b49
        rw [nI_1]
        by_cases he : sp_who P c (b + A j) = B j
        · rw [if_pos (by rw [he])]
          exact ih (j + 1) 1 (by omega) (by omega) (Or.inl ⟨rfl, fun i hi => by
            by_cases hij : i = j
            · rw [hij]; exact he
            · exact h3 i (by omega)⟩)
        · rw [if_neg (fun z => he ((nI_eq (by omega) (by omega)).mp z))]
          refine ih (j + 1) 0 (by omega) (by omega) (Or.inr ⟨rfl, ?_⟩)
          unfold sp_so
          simp only [decide_eq_false_iff_not]
          exact fun z => he (z j (by omega))
      · rw [if_pos rfl]
        unfold mi_X12_isSo_b48 mi_X12_isSo_b49
        rw [nI_1]
        exact ih (j + 1) 0 (by omega) (by omega) (Or.inr ⟨rfl, h3⟩)
theorem ev_isSo (hP : rl_P P) (hAB : rl_AB h A B laters players notes) (hpl : ∀ b, b < 1100 → mpl b = nI (sp_who P c b)) {b : Nat} (hb : b < 960) : mi_X12_isSo (nI h) notes mpl (nI b) = some (ev_b (sp_so P c h A B b)) := by
  have h4 := hAB.1
  exact ev_isSo_l4 hP hAB hpl hb jx_F 0 1 (Nat.zero_le _) (by show h - 0 < 100000000; omega) (Or.inl ⟨rfl, fun i hi => absurd hi (Nat.not_lt_zero i)⟩)
theorem ev_find_l15 (hP : rl_P P) (hAB : rl_AB h A B laters players notes) (hpl : ∀ b, b < sp_ah P c (pc_N P) → playing b = nI (sp_who P c b)) : ∀ (n b : Nat) (pa : Nat → Int32), b ≤ sp_ah P c (pc_N P) → sp_ah P c (pc_N P) - b < n → (∀ q, q ≤ b → pa q = nI (fb_ct (sp_so P c h A B) q)) →
    ∃ pa', mi_X3_findPlaces_l15 (nI h) laters players n (nI b) (nI (sp_ah P c (pc_N P))) playing pa = some (nI (sp_ah P c (pc_N P)), playing, pa') ∧ ∀ q, q ≤ sp_ah P c (pc_N P) → pa' q = nI (fb_ct (sp_so P c h A B) q) := by
  have h960 := sp_ah_960 hP c (Nat.le_refl (pc_N P))
  intro n
  induction n with
  | zero => intro b pa h1 h2; exact absurd h2 (Nat.not_lt_zero _)
  | succ n ih =>
    intro b pa h1 h2 h3
    rw [mi_X3_findPlaces_l15]
    by_cases hb : b = sp_ah P c (pc_N P)
    · rw [hb, if_pos (nI_le (Nat.le_refl _) (by omega))]
      exact ⟨pa, rfl, fun q hq => h3 q (by omega)⟩
    · rw [if_neg (nI_ge (by omega) (by omega)), if_neg (show ¬ (960 : Int32) ≤ nI b from nI_ge (b := 960) (by omega) (by omega)), ev_g (ev_in (by omega) (by decide)), jx_b1_eq (ev_isPlace hP hAB hpl (by omega)), jx_b1_eq (ev_oneIf _), ev_p1, ev_g (ev_in (by omega) (by decide)), ev_cl (by omega), ev_cl (by omega), h3 b (Nat.le_refl _)]
      have hct : nI (fb_ct (sp_so P c h A B) b) + ev_b (sp_so P c h A B b) = nI (fb_ct (sp_so P c h A B) (b + 1)) := by
        rw [fb_ct_succ]
        cases sp_so P c h A B b
        · exact nI_add _ 0
        · exact nI_add _ 1
      rw [hct]
      exact ih (b + 1) _ (by omega) (by omega) (fun q hq => by
        by_cases hqb : q = b + 1
        · rw [hqb, pk_us]
        · rw [pk_un hqb]; exact h3 q (by omega))
theorem ev_aheadOf {bars m : Nat} {pa : Nat → Int32} {x : Int32} (hb : bars ≤ 960) (hx : x = nI m) (hm : m ≤ bars) : mi_X3_placesAheadOf (nI bars) pa x = some (pa m) := by
  subst hx
  unfold mi_X3_placesAheadOf
  have e1 : (if nI bars < nI m then nI bars else nI m) = nI m := by rw [if_neg (nI_nlt (by omega) (by omega))]
  have e2 : (if (0 : Int32) < nI m then nI m else 0) = nI m := by
    rcases Nat.eq_zero_or_pos m with h | h
    · subst h; rfl
    · rw [if_pos (show (0 : Int32) < nI m from nI_lt (a := 0) h (by omega))]
  rw [e1, e2, if_neg (show ¬ (960 : Int32) < nI m from nI_nlt (a := 960) (by omega) (by omega)), ev_g (ev_in (by omega) (by decide)), ev_cl (by omega)]
theorem ev_placeOf_l2 {bars k : Nat} {pa : Nat → Int32} {p : Nat → Bool} {R : Int32} (hb : bars ≤ 960) (hk : k ≤ 9) (hpa : ∀ q, q ≤ bars → pa q = nI (fb_ct p q)) (hR : (∃ q, q < bars ∧ p q = true ∧ fb_ct p q = k ∧ R = nI q) ∨ ((∀ q, q < bars → p q = true → ¬ fb_ct p q = k) ∧ R = -9)) : ∀ (n b : Nat), b ≤ bars → bars - b < n → (∀ q, q < b → ¬ fb_ct p (q + 1) = k + 1) →
    mi_X3_placeOf_l2 (nI bars) pa (nI k) n (nI b) = some R := by
  intro n
  induction n with
  | zero => intro b h1 h2; exact absurd h2 (Nat.not_lt_zero _)
  | succ n ih =>
    intro b h1 h2 h3
    rw [mi_X3_placeOf_l2]
    by_cases hbb : b = bars
    · subst hbb
      rw [if_pos (nI_le (Nat.le_refl _) (by omega))]
      rcases hR with ⟨q, q1, q2, q3, -⟩ | ⟨-, e⟩
      · exact absurd (by rw [fb_ct_succ, q2, q3]; rfl) (h3 q q1)
      · rw [e]
    · have hle1 := fb_ct_le p (b + 1)
      rw [if_neg (nI_ge (by omega) (by omega)), jx_b1_eq (ev_aheadOf (m := b + 1) hb (ev_p1 b) (by omega)), hpa _ (by omega), ev_p1]
      by_cases he : fb_ct p (b + 1) = k + 1
      · rw [if_pos (by rw [he])]
        have hs := fb_ct_succ p b
        have hpb : p b = true ∧ fb_ct p b = k := by
          cases hp : p b with
          | true => rw [hp] at hs; exact ⟨rfl, by simp at hs; omega⟩
          | false =>
            rw [hp] at hs
            have hs2 : fb_ct p (b + 1) = fb_ct p b := by simpa using hs
            exfalso
            cases b with
            | zero => rw [hs2] at he; simp [fb_ct] at he
            | succ b => exact h3 b (by omega) (by rw [← hs2]; exact he)
        rcases hR with ⟨q, q1, q2, q3, q4⟩ | ⟨q1, -⟩
        · rw [q4, fb_ct_kth_one q2 hpb.1 (by rw [q3, hpb.2])]
        · exact absurd hpb.2 (q1 b (by omega) hpb.1)
      · rw [if_neg (fun z => he ((nI_eq (by omega) (by omega)).mp z)), nI_1]
        exact ih (b + 1) (by omega) (by omega) (fun q hq => by
          by_cases hqb : q = b
          · rw [hqb]; exact he
          · exact h3 q (by omega))
theorem ev_placesBy_l18 (hP : rl_P P) (hAB : rl_AB h A B laters players notes) (hpl : ∀ b, b < 1100 → mpl b = nI (sp_who P c b)) {bars : Nat} {p1 R : Int32} (hb : bars ≤ 960) (hR : ∀ q, q < bars → sp_so P c h A B q = true → nI (fb_ct (sp_so P c h A B) q) = p1 → R = nI q) : ∀ (n b : Nat) (x : Int32), b ≤ bars → bars - b < n → (x = R ∨ ∃ q, b ≤ q ∧ q < bars ∧ sp_so P c h A B q = true ∧ nI (fb_ct (sp_so P c h A B) q) = p1) →
    mi_X12_placesBy_l18 (nI h) notes p1 n (nI (fb_ct (sp_so P c h A B) b)) x (nI bars) (nI b) mpl = some (if p1 = -1 then nI (fb_ct (sp_so P c h A B) bars) else R, mpl) := by
  intro n
  induction n with
  | zero => intro b x h1 h2; exact absurd h2 (Nat.not_lt_zero _)
  | succ n ih =>
    intro b x h1 h2 hx
    rw [mi_X12_placesBy_l18]
    by_cases hbb : b = bars
    · subst hbb
      rw [if_pos (nI_le (Nat.le_refl _) (by omega))]
      rcases hx with hx | ⟨q, q1, q2, -⟩
      · rw [hx]; split <;> rfl
      · omega
    · rw [if_neg (nI_ge (by omega) (by omega)), jx_b1_eq (ev_isSo hP hAB hpl (by omega))]
      unfold mi_X12_placesBy_b45 mi_X12_placesBy_b49
      rw [nI_1, nI_1]
      have hs := fb_ct_succ (sp_so P c h A B) b
      have hskip : ¬ (sp_so P c h A B b = true ∧ nI (fb_ct (sp_so P c h A B) b) = p1) → (x = R ∨ ∃ q, b + 1 ≤ q ∧ q < bars ∧ sp_so P c h A B q = true ∧ nI (fb_ct (sp_so P c h A B) q) = p1) := fun hn => by
        rcases hx with hx | ⟨q, q1, q2, q3, q4⟩
        · exact Or.inl hx
        · have : q ≠ b := fun z => hn ⟨by rw [← z]; exact q3, by rw [← z]; exact q4⟩
          exact Or.inr ⟨q, by omega, q2, q3, q4⟩
      cases hp : sp_so P c h A B b with
      | false =>
        have hi := ih (b + 1) x (by omega) (by omega) (hskip (fun z => by rw [z.1] at hp; cases hp))
        rw [hs, hp] at hi
        rw [if_pos ev_bf]
        exact hi
      | true =>
        rw [if_neg (by decide)]
        by_cases he : nI (fb_ct (sp_so P c h A B) b) = p1
        · have hi := ih (b + 1) (nI b) (by omega) (by omega) (Or.inl (hR b (by omega) hp he).symm)
          rw [hs, hp] at hi
          rw [if_pos he]
          exact hi
        · have hi := ih (b + 1) x (by omega) (by omega) (hskip (fun z => he z.2))
          rw [hs, hp] at hi
          rw [if_neg he]
          exact hi
end EB
