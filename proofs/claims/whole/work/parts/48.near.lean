/-! the cue: which first bar is nearest -/
def sp_q (P : Nat → Nat → Nat) (c wv q : Nat) : Prop := q < pc_N P ∧ c.testBit q = false ∧ pc_W P q = wv
def sp_d (z : Int) (a : Nat) : Nat := ((a : Int) - z).natAbs
def sp_lex (z : Int) (a b : Nat) : Prop := sp_d z a < sp_d z b ∨ (sp_d z a = sp_d z b ∧ a ≤ b)
def sp_best (P : Nat → Nat → Nat) (c wv : Nat) (z : Int) (R : Nat) : Prop := (∃ q, sp_q P c wv q ∧ R = sp_ah P c q) ∧ ∀ r, sp_q P c wv r → sp_lex z R (sp_ah P c r)
theorem sp_best_one {P : Nat → Nat → Nat} {c wv R R' : Nat} {z : Int} (h : sp_best P c wv z R) (h' : sp_best P c wv z R') : R = R' := by
  obtain ⟨⟨q, q1, rfl⟩, h2⟩ := h
  obtain ⟨⟨r, r1, rfl⟩, h3⟩ := h'
  have a1 := h2 r r1
  have a2 := h3 q q1
  unfold sp_lex at a1 a2
  omega
theorem sp_lex_rf (z : Int) (a : Nat) : sp_lex z a a := Or.inr ⟨rfl, Nat.le_refl a⟩
theorem sp_lex_tr {z : Int} {a b c : Nat} (h1 : sp_lex z a b) (h2 : sp_lex z b c) : sp_lex z a c := by
  unfold sp_lex at *
  omega
theorem ev_subz {a : Nat} {cnt : Int32} (ha : a ≤ 2000) (h1 : -10000 ≤ cnt.toInt) (h2 : cnt.toInt ≤ 10000) : (nI a - cnt).toInt = (a : Int) - cnt.toInt := by
  have h3 : (nI a).toInt = (a : Int) := nI_toInt (by omega)
  rw [fb_subI (by omega) (by omega), h3]
theorem ev_abs {a : Nat} {cnt : Int32} (ha : a ≤ 2000) (h1 : -10000 ≤ cnt.toInt) (h2 : cnt.toInt ≤ 10000) : (if 0 ≤ nI a - cnt then nI a - cnt else 0 - (nI a - cnt)).toInt = (sp_d cnt.toInt a : Int) := by
  have h3 := ev_subz ha h1 h2
  have h0 : (0 : Int32).toInt = 0 := by decide
  unfold sp_d
  by_cases h : 0 ≤ nI a - cnt
  · rw [if_pos h, h3]
    have := Int32.le_iff_toInt_le.mp h
    omega
  · rw [if_neg h]
    have h4 : ¬ (0 : Int32).toInt ≤ (nI a - cnt).toInt := fun z => h (Int32.le_iff_toInt_le.mpr z)
    rw [fb_subI (by omega) (by omega), h3]
    omega
theorem ev_apart {a : Nat} {cnt : Int32} (ha : a ≤ 2000) (h1 : -10000 ≤ cnt.toInt) (h2 : cnt.toInt ≤ 10000) : ∃ v : Int32, mi_X12_apart (nI a) cnt = some v ∧ v.toInt = (sp_d cnt.toInt a : Int) := by
  have h3 := ev_subz ha h1 h2
  have h5 : (nI a).toInt = (a : Int) := nI_toInt (by omega)
  unfold mi_X12_apart sp_d
  by_cases h : cnt ≤ nI a
  · rw [if_pos h]
    have := Int32.le_iff_toInt_le.mp h
    exact ⟨_, rfl, by rw [h3]; omega⟩
  · rw [if_neg h]
    have h4 : ¬ cnt.toInt ≤ (nI a).toInt := fun z => h (Int32.le_iff_toInt_le.mpr z)
    exact ⟨_, rfl, by rw [fb_subI (by omega) (by omega)]; omega⟩
theorem ev_nn9 {a : Nat} (ha : a < 2 ^ 31) : ¬ nI a = (-9 : Int32) := fun z => by
  have h1 := congrArg Int32.toInt z
  rw [nI_toInt ha, show (-9 : Int32).toInt = -9 from by decide] at h1
  omega
theorem ev_nnM {a : Nat} (ha : a < 2 ^ 31) : ¬ nI a = (-1000000 : Int32) := fun z => by
  have h1 := congrArg Int32.toInt z
  rw [nI_toInt ha, show (-1000000 : Int32).toInt = -1000000 from by decide] at h1
  omega
section NR
variable {P : Nat → Nat → Nat} {sections things noteTold toldSection toldBar : Int32} {lengths times players minutes : Nat → Int32} {told s : Nat → Int32}
theorem ev_near_l (hP : rl_P P) (hS : rl_S P sections things noteTold toldSection toldBar lengths times players minutes) {c wv : Nat} {cnt : Int32} (hc : c < 2 ^ 31) (hw : wv ≤ 3) (h1 : -10000 ≤ cnt.toInt) (h2 : cnt.toInt ≤ 10000) (hex : ∃ q, sp_q P c wv q) : ∀ (n i : Nat) (x : Int32), i ≤ pc_N P → pc_N P - i < n →
    ((x = -1000000 ∧ ∀ r, r < i → ¬ sp_q P c wv r) ∨ ∃ q, q < i ∧ sp_q P c wv q ∧ x = nI (sp_ah P c q) ∧ ∀ r, r < i → sp_q P c wv r → sp_lex cnt.toInt (sp_ah P c q) (sp_ah P c r)) →
    ∃ R, mi_X6_nearestFirst_l7 sections lengths times players (nI wv) cnt (nI c) n x (nI i) = some (nI R) ∧ sp_best P c wv cnt.toInt R := by
  have h8 := hP.1
  intro n
  induction n with
  | zero => intro i x g1 g2; exact absurd g2 (Nat.not_lt_zero _)
  | succ n ih =>
    intro i x g1 g2 hx
    rw [mi_X6_nearestFirst_l7]
    by_cases hi : i = pc_N P
    · rw [if_pos (by rw [hS.1, hi]; exact nI_le (Nat.le_refl _) (by omega))]
      rcases hx with ⟨-, hx⟩ | ⟨q, q1, q2, q3, q4⟩
      · obtain ⟨q, hq⟩ := hex
        exact absurd hq (hx q (by have := hq.1; omega))
      · exact ⟨_, by rw [q3], ⟨q, q2, rfl⟩, fun r hr => q4 r (by have := hr.1; omega) hr⟩
    · rw [if_neg (by rw [hS.1]; exact nI_ge (by omega) (by omega)), jx_b1_eq (ev_isIn hc (by omega))]
      have hW := (hP.2.2.1 i (by omega)).2.2.2.2
      have hskip : ¬ sp_q P c wv i → ∃ R, mi_X6_nearestFirst_b72 (mi_X6_nearestFirst_l7 sections lengths times players (nI wv) cnt (nI c) n) x (nI i) = some (nI R) ∧ sp_best P c wv cnt.toInt R := fun hni => by
        unfold mi_X6_nearestFirst_b72
        rw [nI_1]
        refine ih (i + 1) x (by omega) (by omega) ?_
        rcases hx with ⟨x1, x2⟩ | ⟨q, q1, q2, q3, q4⟩
        · refine Or.inl ⟨x1, fun r hr => ?_⟩
          by_cases hri : r = i
          · rw [hri]; exact hni
          · exact x2 r (by omega)
        · refine Or.inr ⟨q, by omega, q2, q3, fun r hr hq => ?_⟩
          by_cases hri : r = i
          · rw [hri] at hq; exact absurd hq hni
          · exact q4 r (by omega) hq
      cases hbt : c.testBit i with
      | true =>
        rw [if_neg (by decide)]
        exact hskip (fun z => by rw [z.2.1] at hbt; cases hbt)
      | false =>
        rw [if_pos ev_bf, jx_b1_eq (ev_whoOf hP hS (by omega))]
        by_cases hwe : pc_W P i = wv
        · have hqi : sp_q P c wv i := ⟨by omega, hbt, hwe⟩
          have h960 := sp_ah_960 hP c (q := i) (by omega)
          rw [if_pos (by rw [hwe]), jx_b1_eq (ev_firstOf hP hS hc (by omega))]
          have htake : (∀ r, r < i → sp_q P c wv r → sp_lex cnt.toInt (sp_ah P c i) (sp_ah P c r)) → ∃ R, mi_X6_nearestFirst_b68 (mi_X6_nearestFirst_l7 sections lengths times players (nI wv) cnt (nI c) n) (nI i) (nI (sp_ah P c i)) = some (nI R) ∧ sp_best P c wv cnt.toInt R := fun hr0 => by
            unfold mi_X6_nearestFirst_b68 mi_X6_nearestFirst_b72
            rw [nI_1]
            refine ih (i + 1) _ (by omega) (by omega) (Or.inr ⟨i, by omega, hqi, rfl, fun r hr hq => ?_⟩)
            by_cases hri : r = i
            · rw [hri]; exact sp_lex_rf _ _
            · exact hr0 r (by omega) hq
          rcases hx with ⟨x1, x2⟩ | ⟨q, q1, q2, q3, q4⟩
          · rw [if_pos x1]
            exact htake (fun r hr hq => absurd hq (x2 r hr))
          · have h961 := sp_ah_960 hP c (q := q) (by omega)
            rw [q3, if_neg (ev_nnM (by omega))]
            have e1 := ev_abs (a := sp_ah P c q) (cnt := cnt) (by omega) h1 h2
            have e2 := ev_abs (a := sp_ah P c i) (cnt := cnt) (by omega) h1 h2
            have hm := sp_ah_mono (P := P) c (show q ≤ i from by omega)
            by_cases hle : sp_d cnt.toInt (sp_ah P c q) ≤ sp_d cnt.toInt (sp_ah P c i)
            · rw [if_pos (Int32.le_iff_toInt_le.mpr (by rw [e1, e2]; omega))]
              unfold mi_X6_nearestFirst_b72
              rw [nI_1]
              refine ih (i + 1) _ (by omega) (by omega) (Or.inr ⟨q, by omega, q2, rfl, fun r hr hq => ?_⟩)
              by_cases hri : r = i
              · rw [hri]; unfold sp_lex; omega
              · exact q4 r (by omega) hq
            · rw [if_neg (fun z => hle (by have := Int32.le_iff_toInt_le.mp z; rw [e1, e2] at this; omega))]
              exact htake (fun r hr hq => sp_lex_tr (b := sp_ah P c q) (Or.inl (by omega)) (q4 r hr hq))
        · rw [if_neg (fun z => hwe ((nI_eq (by omega) (by omega)).mp z))]
          exact hskip (fun z => hwe z.2.2)
theorem ev_near (hP : rl_P P) (hS : rl_S P sections things noteTold toldSection toldBar lengths times players minutes) {c wv : Nat} {cnt : Int32} (hc : c < 2 ^ 31) (hw : wv ≤ 3) (h1 : -10000 ≤ cnt.toInt) (h2 : cnt.toInt ≤ 10000) (hex : ∃ q, sp_q P c wv q) :
    ∃ R, mi_X6_nearestFirst sections lengths times players (nI wv) cnt (nI c) = some (nI R) ∧ sp_best P c wv cnt.toInt R := by
  have h8 := hP.1
  unfold mi_X6_nearestFirst
  exact ev_near_l hP hS hc hw h1 h2 hex jx_F 0 _ (Nat.zero_le _) (by show pc_N P - 0 < 100000000; omega) (Or.inl ⟨rfl, fun r hr => absurd hr (Nat.not_lt_zero r)⟩)
def sp_dn (j : Nat) : Int32 := match j with
  | 0 => -1
  | j + 1 => nI j
theorem sp_dn_pred (j : Nat) : nI j + (-1 : Int32) = sp_dn j := by
  cases j with
  | zero => decide
  | succ j => exact pk_m1 j
theorem ev_cue_l70 (hP : rl_P P) (hT : rl_T P told) {c wv s0 : Nat} {cnt : Int32} (hc : c < 2 ^ 31) (h3 : s 3 = nI c) (hs1 : s 1 = cnt) (h1 : -10000 ≤ cnt.toInt) (h2 : cnt.toInt ≤ 10000) (hq0 : sp_q P c wv s0) : ∀ (j n f : Nat), j ≤ pc_N P → j < n →
    (∃ q, sp_q P c wv q ∧ f = sp_ah P c q) → (∀ r, sp_q P c wv r → (j ≤ r ∨ r = s0) → sp_lex cnt.toInt f (sp_ah P c r)) → ∃ R, mi_X12_cue_l70 told n (nI s0) (nI f) (sp_dn j) s = some (nI R, upd s 1 (nI R)) ∧ sp_best P c wv cnt.toInt R := by
  have h8 := hP.1
  intro j
  induction j with
  | zero =>
    intro n f g1 g2 hf hb
    obtain ⟨n, rfl⟩ : ∃ n', n = n' + 1 := ⟨n - 1, by omega⟩
    refine ⟨f, ?_, hf, fun r hr => hb r hr (Or.inl (Nat.zero_le r))⟩
    rw [mi_X12_cue_l70, if_pos (show sp_dn 0 < (0 : Int32) from by decide), ev_n1]
  | succ j ih =>
    intro n f g1 g2 hf hb
    obtain ⟨n, rfl⟩ : ∃ n', n = n' + 1 := ⟨n - 1, by omega⟩
    have hs0 := hq0.1
    have hfle : f ≤ 960 := by obtain ⟨q, q1, rfl⟩ := hf; exact sp_ah_960 hP c (Nat.le_of_lt q1.1)
    have hWj := (hP.2.2.1 j (by omega)).2.2.2.2
    have hWs := (hP.2.2.1 s0 hs0).2.2.2.2
    show ∃ R, mi_X12_cue_l70 told (n + 1) (nI s0) (nI f) (nI j) s = _ ∧ _
    rw [mi_X12_cue_l70, if_neg (nI_pos (by omega)), ev_a22, ev_a22, ev_g (ev_in (by omega) (by decide)), ev_g (ev_in (by omega) (by decide)), ev_cl (by omega), ev_cl (by omega), (hT.2.2.1 j (by omega)).2.2, (hT.2.2.1 s0 hs0).2.2, hq0.2.2]
    have hwv : wv ≤ 3 := by rw [← hq0.2.2]; exact hWs
    have hskip : ¬ sp_q P c wv j → ∃ R, mi_X12_cue_b109 told (mi_X12_cue_l70 told n) (nI s0) (nI f) (nI j) s = some (nI R, upd s 1 (nI R)) ∧ sp_best P c wv cnt.toInt R := fun hnj => by
      unfold mi_X12_cue_b109 mi_X12_cue_b110
      rw [if_pos rfl]
      unfold mi_X12_cue_b152 mi_X12_cue_b153
      rw [if_pos rfl]
      unfold mi_X12_cue_b203 mi_X12_cue_b204
      rw [sp_dn_pred]
      refine ih n f (by omega) (by omega) hf (fun r hr h => hb r hr ?_)
      rcases h with h | h
      · have : r ≠ j := fun z => hnj (z ▸ hr)
        exact Or.inl (by omega)
      · exact Or.inr h
    by_cases hwe : pc_W P j = wv
    · rw [hwe, if_pos rfl]
      have hfj := ev_first hP hT hc h3 (q := j) (by omega)
      cases hbt : c.testBit j with
      | true =>
        rw [hbt, if_pos rfl] at hfj
        rw [jx_b1_eq hfj, if_pos rfl]
        exact hskip (fun z => by rw [z.2.1] at hbt; cases hbt)
      | false =>
        rw [hbt, if_neg (by decide)] at hfj
        have h960 := sp_ah_960 hP c (q := j) (by omega)
        have hqj : sp_q P c wv j := ⟨by omega, hbt, hwe⟩
        obtain ⟨v1, a1, a2⟩ := ev_apart (a := sp_ah P c j) (cnt := cnt) (by omega) h1 h2
        obtain ⟨v2, b1, b2⟩ := ev_apart (a := f) (cnt := cnt) (by omega) h1 h2
        rw [jx_b1_eq hfj, if_neg (ev_nn9 (by omega))]
        have hgo : ∀ f', (f' = f ∨ f' = sp_ah P c j) → sp_lex cnt.toInt f' f → sp_lex cnt.toInt f' (sp_ah P c j) → ∃ R, mi_X12_cue_b204 (mi_X12_cue_l70 told n) (nI s0) (nI j) (nI f') s = some (nI R, upd s 1 (nI R)) ∧ sp_best P c wv cnt.toInt R := fun f' hf' l1 l2 => by
          unfold mi_X12_cue_b204
          rw [sp_dn_pred]
          refine ih n f' (by omega) (by omega) ?_ (fun r hr h => ?_)
          · rcases hf' with e | e
            · rw [e]; exact hf
            · exact ⟨j, hqj, e⟩
          · by_cases hrj : r = j
            · rw [hrj]; exact l2
            · refine sp_lex_tr l1 (hb r hr ?_)
              rcases h with h | h
              · exact Or.inl (by omega)
              · exact Or.inr h
        unfold mi_X12_cue_b110
        rw [if_neg ev_1ne0, jx_b1_eq hfj, ev_n1, hs1, jx_b1_eq a1, jx_b1_eq b1, jx_b1_eq hfj]
        by_cases hle : sp_d cnt.toInt f ≤ sp_d cnt.toInt (sp_ah P c j)
        · rw [if_pos (Int32.le_iff_toInt_le.mpr (by rw [a2, b2]; omega))]
          unfold mi_X12_cue_b152 mi_X12_cue_b153
          rw [if_neg ev_1ne0, jx_b1_eq hfj, ev_n1, hs1, jx_b1_eq a1, jx_b1_eq b1, jx_b1_eq hfj, jx_b1_eq hfj]
          by_cases heq : sp_d cnt.toInt (sp_ah P c j) = sp_d cnt.toInt f
          · rw [if_pos (Int32.toInt_inj.mp (by rw [a2, b2, heq]))]
            by_cases hk : f ≤ sp_ah P c j
            · rw [if_pos (nI_le hk (by omega))]
              unfold mi_X12_cue_b203
              exact hgo f (Or.inl rfl) (sp_lex_rf _ _) (Or.inr ⟨heq.symm, hk⟩)
            · rw [if_neg (nI_ge (by omega) (by omega))]
              exact hgo _ (Or.inr rfl) (Or.inr ⟨heq, by omega⟩) (sp_lex_rf _ _)
          · rw [if_neg (fun z => heq (by have := congrArg Int32.toInt z; rw [a2, b2] at this; omega))]
            unfold mi_X12_cue_b203
            exact hgo f (Or.inl rfl) (sp_lex_rf _ _) (Or.inl (by omega))
        · rw [if_neg (fun z => hle (by have := Int32.le_iff_toInt_le.mp z; rw [a2, b2] at this; omega))]
          unfold mi_X12_cue_b153
          rw [if_neg ev_1ne0, jx_b1_eq hfj, ev_n1, hs1, jx_b1_eq a1, jx_b1_eq a1, if_pos rfl, jx_b1_eq hfj, if_pos (nI_le (Nat.le_refl _) (by omega))]
          unfold mi_X12_cue_b203
          exact hgo _ (Or.inr rfl) (Or.inl (by omega)) (sp_lex_rf _ _)
    · rw [if_neg (fun z => hwe ((nI_eq (by omega) (by omega)).mp z))]
      exact hskip (fun z => hwe z.2.2)
def sp_bg (P : Nat → Nat → Nat) (c b q : Nat) : Prop := c.testBit q = false ∧ sp_ah P c q = b
theorem ev_cue_l5 (hP : rl_P P) (hT : rl_T P told) {c b : Nat} {R : Int32} (hc : c < 2 ^ 31) (hb : b ≤ 960) (h3 : s 3 = nI c) (h0 : s 0 = nI b) (hR : ∀ q, q < pc_N P → sp_bg P c b q → R = nI q) : ∀ (n i : Nat) (x : Int32), i ≤ pc_N P → pc_N P - i < n → (x = R ∨ ∃ q, i ≤ q ∧ q < pc_N P ∧ sp_bg P c b q) →
    mi_X12_cue_l5 told n x (nI i) s = if R = -9 then some (-1000000, s) else jx_b1 (mi_X12_keeps s) fun t => mi_X12_cue_l70 told jx_F R (t 0) (nI (pc_N P) - 1) t := by
  have h8 := hP.1
  intro n
  induction n with
  | zero => intro i x g1 g2; exact absurd g2 (Nat.not_lt_zero _)
  | succ n ih =>
    intro i x g1 g2 hx
    rw [mi_X12_cue_l5, ev_n0, hT.1]
    by_cases hi : i = pc_N P
    · rw [if_pos (by rw [hi]; exact nI_le (Nat.le_refl _) (by omega))]
      rcases hx with hx | ⟨q, q1, q2, -⟩
      · rw [hx]
      · omega
    · rw [if_neg (nI_ge (by omega) (by omega)), jx_b1_eq (ev_first hP hT hc h3 (by omega)), h0]
      unfold mi_X12_cue_b34
      rw [nI_1]
      have h960 := sp_ah_960 hP c (q := i) (by omega)
      by_cases hbg : sp_bg P c b i
      · have he : (if c.testBit i then (-9 : Int32) else nI (sp_ah P c i)) = nI b := by rw [hbg.1, if_neg (by decide), hbg.2]
        rw [if_pos he]
        exact ih (i + 1) _ (by omega) (by omega) (Or.inl (hR i (by omega) hbg).symm)
      · have hne : ¬ (if c.testBit i then (-9 : Int32) else nI (sp_ah P c i)) = nI b := by
          cases hbt : c.testBit i with
          | true => rw [if_pos rfl]; exact fun z => ev_nn9 (by omega) z.symm
          | false => rw [if_neg (by decide)]; exact fun z => hbg ⟨hbt, (nI_eq (by omega) (by omega)).mp z⟩
        rw [if_neg hne]
        refine ih (i + 1) x (by omega) (by omega) ?_
        rcases hx with hx | ⟨q, q1, q2, q3⟩
        · exact Or.inl hx
        · have : q ≠ i := fun z => hbg (z ▸ q3)
          exact Or.inr ⟨q, by omega, q2, q3⟩
end NR
