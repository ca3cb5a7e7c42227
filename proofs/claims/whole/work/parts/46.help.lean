/-! small steps that many calls share -/
theorem ev_sec {n : Nat} (hn : n ≤ 8) (x : Int32) : (mi_X6_hasSection (nI n) x = some 0 ∧ mi_X12_in x 0 (nI n - 1) = some 0) ∨ ∃ q, q < n ∧ x = nI q ∧ mi_X6_hasSection (nI n) x = some 1 ∧ mi_X12_in x 0 (nI n - 1) = some 1 := by
  unfold mi_X6_hasSection mi_X12_in
  have hs : (nI n - (1 : Int32)).toInt = (n : Int) - 1 := pk_sub_toInt (a := n) (b := 1) (by omega) (by omega)
  by_cases h0 : x < 0
  · left; rw [if_pos h0, if_pos h0]; exact ⟨rfl, rfl⟩
  · rw [if_neg h0, if_neg h0]
    rcases pk_ix x (n := n) (by omega) with h | h | ⟨j, hj, rfl⟩
    · exact absurd h h0
    · left
      have h1 : nI n - (1 : Int32) < x := Int32.lt_iff_toInt_lt.mpr (by
        have h2 := Int32.le_iff_toInt_le.mp h
        rw [nI_toInt (by omega)] at h2
        rw [hs]; omega)
      rw [if_pos h, if_pos h1]
      exact ⟨rfl, rfl⟩
    · right
      have h1 : ¬ nI n - (1 : Int32) < nI j := fun z => by
        have h2 := Int32.lt_iff_toInt_lt.mp z
        rw [hs, nI_toInt (by omega)] at h2
        omega
      rw [if_neg (nI_ge hj (by omega)), if_neg h1]
      exact ⟨j, hj, rfl, rfl, rfl⟩
theorem ev_thg {n : Nat} (hn : n ≤ 8) (x : Int32) : (mi_X6_hasThing (nI n) x = some 0 ∧ mi_X12_in x 0 (nI n - 1) = some 0) ∨ ∃ q, q < n ∧ x = nI q ∧ mi_X6_hasThing (nI n) x = some 1 ∧ mi_X12_in x 0 (nI n - 1) = some 1 := ev_sec hn x
theorem ev_isSec {P : Nat → Nat → Nat} {told : Nat → Int32} (hT : rl_T P told) {x r : Int32} (h : mi_X12_in x 0 (nI (pc_N P) - 1) = some r) (hr : r = 0 ∨ r = 1) : mi_X12_isSection told x = some r := by
  unfold mi_X12_isSection
  rw [ev_n0, hT.1, jx_b1_eq h]
  rcases hr with h | h <;> subst h <;> rfl
theorem rl_C_set {N k : Nat} {b c w u st kw b' c' w' u' st' : Int32} {p s s' : Nat → Int32} (hC : rl_C N k b c w u st kw p s) (hE : rl_E N k b' c' w' u' st') (h0 : s' 0 = b') (h1 : s' 1 = c') (h2 : s' 2 = w') (h3 : s' 3 = u') (h4 : s' 4 = st') (h5 : ∀ i, 5 ≤ i → s' i = s i) : rl_C N k b' c' w' u' st' kw p s' := by
  obtain ⟨_, _, _, _, _, _, g5, kn, g6, g7, g8, g9⟩ := hC
  exact ⟨hE, h0, h1, h2, h3, h4, by rw [h5 5 (by omega), g5], kn, g6, g7, g8, fun i hi => by rw [h5 _ (by omega), g9 i hi]⟩
theorem rl_cnt {N k : Nat} {b c w u st d : Int32} (hk : k < 64) (hE : rl_E N k b c w u st) (h1 : -99 ≤ d.toInt) (h2 : d.toInt ≤ 99) : -(100 * ((k + 1 : Nat) : Int)) ≤ (c + d).toInt ∧ (c + d).toInt ≤ 960 + 100 * ((k + 1 : Nat) : Int) := by
  obtain ⟨_, _, _, -, -, -, -, -, -, -, g1, g2⟩ := hE
  rw [fb_addI (by omega) (by omega)]
  omega
theorem pow_le_256 {N : Nat} (h : N ≤ 8) : 2 ^ N ≤ 256 := by
  have := Nat.pow_le_pow_right (n := 2) (by decide) h
  omega
theorem rl_C_cong {N k : Nat} {b c w u st kw : Int32} {p s p' s' : Nat → Int32} (hC : rl_C N k b c w u st kw p s) (hp : ∀ i, i < 50 → p' i = p i) (hs : ∀ i, i < 56 → s' i = s i) : rl_C N k b c w u st kw p' s' := by
  obtain ⟨hE, g0, g1, g2, g3, g4, g5, kn, g6, g7, g8, g9⟩ := hC
  refine ⟨hE, by rw [hs 0 (by omega), g0], by rw [hs 1 (by omega), g1], by rw [hs 2 (by omega), g2], by rw [hs 3 (by omega), g3], by rw [hs 4 (by omega), g4], by rw [hs 5 (by omega), g5], kn, g6, g7, fun j hj => ?_, fun i hi => ?_⟩
  · rw [hp _ (by omega), hp _ (by omega), hp _ (by omega), hp _ (by omega), hp _ (by omega)]
    exact g8 j hj
  · rw [hs _ (by omega), hp _ (by omega)]
    exact g9 i hi
theorem ev_become {b c w u st kw : Int32} {tp p : Nat → Int32} (h : st = 0 ∨ st = 1) : mi_X2_becomeLike tp b c w u st kw p = some (b, c, w, u, st, kw, va_cpy p tp 0 0 50) := by
  unfold mi_X2_becomeLike
  have h1 : jx_tf st = true := by rcases h with h | h <;> subst h <;> rfl
  rw [ev_g h1, ev_g (show jx_cp 0 0 50 50 50 = true from by decide), ev_n0, ev_n50]
theorem ev_cpy50 (p tp : Nat → Int32) : ∀ i, i < 50 → va_cpy p tp 0 0 50 i = p i := fun i hi => by
  rw [pk_cpy_in (by omega) (by omega)]
  exact congrArg p (by omega)
theorem ev_56 (i j : Nat) : (56 : Int32) * nI i + nI j = nI (56 * i + j) := by
  rw [show (56 : Int32) * nI i = nI (56 * i) from pk_mul 56 i, nI_add]
theorem ev_keep_l13 {s im kp : Nat → Int32} {i : Nat} (hi : i ≤ 1) : ∀ (n j : Nat), j ≤ 56 → 56 - j < n → mi_X12_keep_l13 s (nI i) n (nI j) (fb_put im s (56 * i) j) kp = some (s 0, fb_put im s (56 * i) 56, upd kp i 1) := by
  intro n
  induction n with
  | zero => intro j h1 h2; exact absurd h2 (Nat.not_lt_zero _)
  | succ n ih =>
    intro j h1 h2
    rw [mi_X12_keep_l13]
    by_cases hj : j = 56
    · subst hj
      rw [if_pos (show (56 : Int32) ≤ nI 56 from by decide), ev_g (ev_in (by omega) (by decide)), ev_n0, ev_cl (by omega)]
      rfl
    · rw [if_neg (show ¬ (56 : Int32) ≤ nI j from nI_ge (b := 56) (by omega) (by omega)), ev_56, ev_g (ev_in (by omega) (by decide)), ev_g (ev_in (by omega) (by decide)), ev_cl (by omega), ev_cl (by omega), fb_put_succ, ev_p1]
      exact ih (j + 1) (by omega) (by omega)
theorem ev_back_l25 {s im : Nat → Int32} {i : Nat} (hi : i ≤ 1) : ∀ (n j : Nat), j ≤ 56 → 56 - j < n → mi_X12_back_l25 im (nI i) n (nI j) (fb_put s (fun q => im (56 * i + q)) 0 j) = some (im (56 * i), fb_put s (fun q => im (56 * i + q)) 0 56) := by
  intro n
  induction n with
  | zero => intro j h1 h2; exact absurd h2 (Nat.not_lt_zero _)
  | succ n ih =>
    intro j h1 h2
    rw [mi_X12_back_l25]
    by_cases hj : j = 56
    · subst hj
      rw [if_pos (show (56 : Int32) ≤ nI 56 from by decide), ev_n0, fb_put_in (by omega) (by omega)]
      rfl
    · have hsu := fb_put_succ s (fun q => im (56 * i + q)) 0 j
      rw [Nat.zero_add] at hsu
      rw [if_neg (show ¬ (56 : Int32) ≤ nI j from nI_ge (b := 56) (by omega) (by omega)), ev_56, ev_g (ev_in (by omega) (by decide)), ev_g (ev_in (by omega) (by decide)), ev_cl (by omega), ev_cl (by omega), hsu, ev_p1]
      exact ih (j + 1) (by omega) (by omega)
