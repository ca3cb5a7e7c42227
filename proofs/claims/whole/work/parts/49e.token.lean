/-! the words of the text, as both read them -/
theorem ev_nmul (a b : Nat) : nI a * nI b = nI (a * b) := (Int32.ofNat_mul a b).symm
def rl_Y (n : Nat) (T : Nat → Int32) : Prop := n ≤ 120 ∧ ∀ i, ∃ c : Nat, c ≤ 255 ∧ T i = nI c
/-- the kind and the number of a word: the class's, and the reference's -/
def rl_K (K V S W : Int32) : Prop := (K = 0 ∧ S = 0) ∨ (K = 1 ∧ S = 1 ∧ V = W) ∨ (∃ v : Nat, v ≤ 99 ∧ K = 2 ∧ S = 2 ∧ V = nI v ∧ W = nI v) ∨ (K = 3 ∧ S = 3) ∨ (K = 4 ∧ S = 4) ∨ (∃ w : Nat, 100 ≤ w ∧ w ≤ 1000 ∧ K = 4 ∧ S = 2 ∧ W = nI w)
section TK
variable {n : Nat} {T : Nat → Int32}
theorem ev_cByte (hY : rl_Y n T) {p : Nat} (hp : p ≤ 120) : ∃ r, mi_X8_byteAt T (nI p) = some r ∧ (p < 120 → r = T p) := by
  unfold mi_X8_byteAt
  rw [if_neg (nI_pos (by omega))]
  by_cases h : p = 120
  · subst h
    rw [if_pos (by decide)]
    exact ⟨0, rfl, fun z => absurd z (by omega)⟩
  · rw [if_neg (show ¬ (120 : Int32) ≤ nI p from nI_ge (b := 120) (by omega) (by omega)), ev_g (ev_in (by omega) (by decide)), ev_cl (by omega)]
    exact ⟨T p, rfl, fun _ => rfl⟩
theorem ev_cB (hY : rl_Y n T) {p : Nat} (hp : p < n) : mi_X8_byteAt T (nI p) = some (T p) := by
  have h := hY.1
  obtain ⟨r, h1, h2⟩ := ev_cByte hY (p := p) (by omega)
  rw [h1, h2 (by omega)]
theorem ev_mB (hY : rl_Y n T) {p : Nat} (hp : p < n) : mi_X12_byteAt (nI n) T (nI p) = some (T p) := by
  have h := hY.1
  unfold mi_X12_byteAt
  rw [if_neg (nI_ge hp (by omega)), ev_g (ev_in (by omega) (by decide)), ev_cl (by omega)]
theorem ev_mE (hY : rl_Y n T) : mi_X12_byteAt (nI n) T (nI n) = some (-1) := by
  have h := hY.1
  unfold mi_X12_byteAt
  rw [if_pos (nI_le (Nat.le_refl _) (by omega))]
theorem ev_isLet (x : Int32) : mi_X12_isLetter x = some (ev_b (decide ((97 : Int32) ≤ x) && decide (x ≤ 122))) := by
  unfold mi_X12_isLetter
  rw [jx_b1_eq (ev_inn x 97 122), ev_g (ev_btf _)]
theorem ev_isDig (x : Int32) : mi_X12_isDigit x = some (ev_b (decide ((48 : Int32) ≤ x) && decide (x ≤ 57))) := by
  unfold mi_X12_isDigit
  rw [jx_b1_eq (ev_inn x 48 57), ev_g (ev_btf _)]
def sp_let (c : Nat) : Bool := decide (97 ≤ c) && decide (c ≤ 122)
def sp_dig (c : Nat) : Bool := decide (48 ≤ c) && decide (c ≤ 57)
theorem sp_let_eq {c : Nat} (h : c ≤ 255) : (decide ((97 : Int32) ≤ nI c) && decide (nI c ≤ 122)) = sp_let c := by
  unfold sp_let
  rw [decide_eq_decide.mpr (show (97 : Int32) ≤ nI c ↔ 97 ≤ c from nI_leI (a := 97) (by omega) (by omega)), decide_eq_decide.mpr (show nI c ≤ (122 : Int32) ↔ c ≤ 122 from nI_leI (b := 122) (by omega) (by omega))]
theorem sp_dig_eq {c : Nat} (h : c ≤ 255) : (decide ((48 : Int32) ≤ nI c) && decide (nI c ≤ 57)) = sp_dig c := by
  unfold sp_dig
  rw [decide_eq_decide.mpr (show (48 : Int32) ≤ nI c ↔ 48 ≤ c from nI_leI (a := 48) (by omega) (by omega)), decide_eq_decide.mpr (show nI c ≤ (57 : Int32) ↔ c ≤ 57 from nI_leI (b := 57) (by omega) (by omega))]
theorem ev_cLet {c : Nat} (h : c ≤ 255) : mi_X11_isWithin (nI c) 97 122 = some (ev_b (sp_let c)) := by rw [ev_within, sp_let_eq h]
theorem ev_cDig {c : Nat} (h : c ≤ 255) : mi_X11_isWithin (nI c) 48 57 = some (ev_b (sp_dig c)) := by rw [ev_within, sp_dig_eq h]
theorem ev_mLet {c : Nat} (h : c ≤ 255) : mi_X12_isLetter (nI c) = some (ev_b (sp_let c)) := by rw [ev_isLet, sp_let_eq h]
theorem ev_mDig {c : Nat} (h : c ≤ 255) : mi_X12_isDigit (nI c) = some (ev_b (sp_dig c)) := by rw [ev_isDig, sp_dig_eq h]
theorem ev_bt0 : ¬ ev_b true = 0 := by decide
/-- the letters after the first -/
theorem ev_letters (hY : rl_Y n T) {a : Nat} (ha : a < n) : ∀ (f g p : Nat) (tv x : Int32), a + 1 ≤ p → p ≤ n → n - p < f → n - p < g →
    ∃ e v, e ≤ n ∧ mi_X8_takeLetters_l10 (nI n) (nI a) T f (nI p) (nI p) 1 tv = some (nI e, 1, v) ∧ mi_X12_token_l114 (nI n) T g x (nI p) 1 (nI a) (if p = a + 1 then T a else 0) = some (nI e, 1, nI a, v) := by
  have hn := hY.1
  intro f
  induction f with
  | zero => intro g p tv x h1 h2 h3; exact absurd h3 (Nat.not_lt_zero _)
  | succ f ih =>
    intro g p tv x h1 h2 h3 h4
    obtain ⟨g, rfl⟩ : ∃ k, g = k + 1 := ⟨g - 1, by omega⟩
    have stop1 : mi_X8_takeLetters_b46 (nI a) T (nI p) 1 tv = some (nI p, 1, if p = a + 1 then T a else 0) := by
      unfold mi_X8_takeLetters_b46
      rw [ev_nsub (by omega) (by omega)]
      by_cases hp : p = a + 1
      · rw [if_pos (show nI (p - a) = 1 by rw [hp, Nat.add_sub_cancel_left]; rfl), jx_b1_eq (ev_cB hY ha), if_pos hp]
      · rw [if_neg (show ¬ nI (p - a) = 1 from fun z => hp (by have := (nI_eq (b := 1) (by omega) (by omega)).mp z; omega)), if_neg hp]
    have stop2 : ∀ y, mi_X12_token_b154 (nI n) T x (nI p) 1 (nI a) y = some (nI p, 1, nI a, y) := fun y => by
      unfold mi_X12_token_b154
      rw [if_neg (by decide)]
    rw [mi_X8_takeLetters_l10, mi_X12_token_l114, if_pos rfl]
    by_cases hp : p = n
    · subst hp
      rw [if_pos (nI_le (Nat.le_refl _) (by omega)), jx_b1_eq (ev_mE hY), jx_b1_eq (ev_isLet _), if_pos (by decide), stop1, stop2]
      exact ⟨p, _, Nat.le_refl _, rfl, rfl⟩
    · obtain ⟨c, hc, hT⟩ := hY.2 p
      rw [if_neg (nI_ge (by omega) (by omega)), jx_b1_eq (ev_cB hY (by omega)), jx_b1_eq (ev_mB hY (by omega)), hT, jx_b1_eq (ev_cLet hc), jx_b1_eq (ev_mLet hc)]
      cases hl : sp_let c with
      | false =>
        rw [if_pos ev_bf, if_pos ev_bf, stop1, stop2]
        exact ⟨p, _, h2, rfl, rfl⟩
      | true =>
        rw [if_neg ev_bt0, if_neg ev_bt0, nI_1]
        have := ih g (p + 1) tv x (by omega) (by omega) (by omega) (by omega)
        rw [if_neg (by omega)] at this
        exact this
/-- the digits after the first -/
theorem ev_digits (hY : rl_Y n T) {a c0 : Nat} (ha : a < n) (hT0 : T a = nI c0) (hc0 : c0 ≤ 255) : ∀ (f g p u w : Nat) (ti tv : Int32), a + 1 ≤ p → p ≤ n → n - p < f → n - p < g → ((c0 ≠ 48 ∧ ((u = w ∧ w ≤ 99) ∨ (u = 100 ∧ 100 ≤ w ∧ w ≤ 1000))) ∨ (c0 = 48 ∧ ((p = a + 1 ∧ u = 0 ∧ w = 0) ∨ (a + 1 < p ∧ u ≤ 100 ∧ w = 1000)))) →
    ∃ e K V W, e ≤ n ∧ mi_X8_takeDigits_l7 (nI n) (nI a) T f (nI u) (nI p) (nI p) ti tv = some (nI e, K, V) ∧ mi_X12_token_l170 (nI n) T g (nI c0) (nI p) 2 (nI a) (nI w) = some (nI e, 2, nI a, W) ∧ rl_K K V 2 W := by
  have hn := hY.1
  intro f
  induction f with
  | zero => intro g p u w ti tv h1 h2 h3; exact absurd h3 (Nat.not_lt_zero _)
  | succ f ih =>
    intro g p u w ti tv h1 h2 h3 h4 h5
    obtain ⟨g, rfl⟩ : ∃ k, g = k + 1 := ⟨g - 1, by omega⟩
    have stop : ∃ K V, mi_X8_takeDigits_b62 (nI a) T (nI u) (nI p) ti tv = some (nI p, K, V) ∧ rl_K K V 2 (nI w) := by
      unfold mi_X8_takeDigits_b62 mi_X8_takeDigits_b92 mi_X8_takeDigits_b93 mi_X8_takeDigits_b105
      rw [jx_b1_eq (ev_cB hY ha), hT0, ev_nsub (by omega) (by omega), if_pos (rfl : (0 : Int32) = 0), if_neg ev_1ne0]
      rcases h5 with ⟨k1, ⟨k2, k3⟩ | ⟨k2, k3, k4⟩⟩ | ⟨k1, ⟨k2, k3, k4⟩ | ⟨k2, k3, k4⟩⟩
      · rw [if_neg (show ¬ nI c0 = 48 from fun z => k1 ((nI_eq (b := 48) (by omega) (by omega)).mp z)), if_pos (show nI u ≤ (99 : Int32) from nI_le (b := 99) (by omega) (by omega))]
        exact ⟨2, nI u, rfl, Or.inr (Or.inr (Or.inl ⟨u, by omega, rfl, rfl, rfl, by rw [k2]⟩))⟩
      · rw [if_neg (show ¬ nI c0 = 48 from fun z => k1 ((nI_eq (b := 48) (by omega) (by omega)).mp z)), if_neg (show ¬ nI u ≤ (99 : Int32) from nI_ge (a := 99) (by omega) (by omega))]
        exact ⟨4, nI u, rfl, Or.inr (Or.inr (Or.inr (Or.inr (Or.inr ⟨w, k3, k4, rfl, rfl, rfl⟩))))⟩
      · rw [if_pos (show nI c0 = 48 by rw [k1]; rfl), if_pos (show nI (p - a) ≤ (1 : Int32) from nI_le (b := 1) (by omega) (by omega)), if_pos (show nI u ≤ (99 : Int32) from nI_le (b := 99) (by omega) (by omega))]
        exact ⟨2, nI u, rfl, Or.inr (Or.inr (Or.inl ⟨u, by omega, rfl, rfl, rfl, by rw [k3, k4]⟩))⟩
      · rw [if_pos (show nI c0 = 48 by rw [k1]; rfl), if_neg (show ¬ nI (p - a) ≤ (1 : Int32) from nI_ge (a := 1) (by omega) (by omega))]
        exact ⟨4, nI u, rfl, Or.inr (Or.inr (Or.inr (Or.inr (Or.inr ⟨w, by omega, by omega, rfl, rfl, rfl⟩))))⟩
    rw [mi_X8_takeDigits_l7, mi_X12_token_l170]
    by_cases hp : p = n
    · subst hp
      rw [if_pos (nI_le (Nat.le_refl _) (by omega)), jx_b1_eq (ev_mE hY), jx_b1_eq (ev_isDig _), if_pos (by decide)]
      obtain ⟨K, V, e1, e2⟩ := stop
      exact ⟨p, K, V, _, Nat.le_refl _, e1, rfl, e2⟩
    · obtain ⟨c, hc, hT⟩ := hY.2 p
      rw [if_neg (nI_ge (by omega) (by omega)), jx_b1_eq (ev_cB hY (by omega)), jx_b1_eq (ev_mB hY (by omega)), hT, jx_b1_eq (ev_cDig hc), jx_b1_eq (ev_mDig hc)]
      cases hl : sp_dig c with
      | false =>
        rw [if_pos ev_bf, if_pos ev_bf]
        obtain ⟨K, V, e1, e2⟩ := stop
        exact ⟨p, K, V, _, h2, e1, rfl, e2⟩
      | true =>
        have hcd : 48 ≤ c ∧ c ≤ 57 := by
          unfold sp_dig at hl
          simp only [Bool.and_eq_true, decide_eq_true_eq] at hl
          exact hl
        have hu : u ≤ 100 := by omega
        have hsum : nI u * 10 + nI c - 48 = nI (u * 10 + c - 48) := by
          rw [show nI u * (10 : Int32) = nI (u * 10) from ev_nmul u 10, nI_add]
          exact ev_nsub (b := 48) (by omega) (by omega)
        have hcap : (if (100 : Int32) < nI (u * 10 + c - 48) then (100 : Int32) else nI (u * 10 + c - 48)) = nI (if 100 < u * 10 + c - 48 then 100 else u * 10 + c - 48) := by
          by_cases hz : 100 < u * 10 + c - 48
          · rw [if_pos hz, if_pos (show (100 : Int32) < nI (u * 10 + c - 48) from nI_lt (a := 100) hz (by omega))]; rfl
          · rw [if_neg hz, if_neg (show ¬ (100 : Int32) < nI (u * 10 + c - 48) from nI_nlt (a := 100) (by omega) (by omega))]
        rw [if_neg ev_bt0, if_neg ev_bt0, jx_b1_eq (ev_cB hY (by omega)), hT, hsum, hcap, nI_1]
        unfold mi_X12_token_b200 mi_X12_token_b226
        rw [nI_1]
        rcases h5 with ⟨k1, k2⟩ | ⟨k1, k2⟩
        · rw [if_neg (show ¬ nI c0 = 48 from fun z => k1 ((nI_eq (b := 48) (by omega) (by omega)).mp z))]
          rcases k2 with ⟨k2, k3⟩ | ⟨k2, k3, k4⟩
          · have hsum2 : 10 * nI w + nI c - 48 = nI (10 * w + c - 48) := by
              rw [show (10 : Int32) * nI w = nI (10 * w) from ev_nmul 10 w, nI_add]
              exact ev_nsub (b := 48) (by omega) (by omega)
            rw [if_pos (show nI w ≤ (99 : Int32) from nI_le (b := 99) (by omega) (by omega)), ev_g (ev_in (by omega) (by decide)), ev_cl (by omega), hT, hsum2]
            refine ih g (p + 1) _ _ ti tv (by omega) (by omega) (by omega) (by omega) (Or.inl ⟨k1, ?_⟩)
            by_cases hz : 100 < u * 10 + c - 48
            · rw [if_pos hz]; omega
            · rw [if_neg hz]; omega
          · rw [if_neg (show ¬ nI w ≤ (99 : Int32) from nI_ge (a := 99) (by omega) (by omega))]
            refine ih g (p + 1) _ 1000 ti tv (by omega) (by omega) (by omega) (by omega) (Or.inl ⟨k1, ?_⟩)
            rw [if_pos (by omega)]; omega
        · rw [if_pos (show nI c0 = 48 by rw [k1]; rfl)]
          refine ih g (p + 1) _ 1000 ti tv (by omega) (by omega) (by omega) (by omega) (Or.inr ⟨k1, Or.inr ⟨by omega, ?_, rfl⟩⟩)
          by_cases hz : 100 < u * 10 + c - 48
          · rw [if_pos hz]; omega
          · rw [if_neg hz]; omega
theorem ev_token (hY : rl_Y n T) : ∀ (f g a : Nat) (ta ti tv so st va : Int32), a ≤ n → n - a < f → n - a < g →
    ∃ b s K V S W, b ≤ n ∧ s ≤ n ∧ mi_X8_readToken_l5 (nI n) T f (nI a) (nI a) ta ti tv = some (nI b, nI s, K, V) ∧ mi_X12_token_l0 (nI n) T g (nI a) so st va = some (nI b, S, nI s, W) ∧ rl_K K V S W := by
  have hn := hY.1
  intro f
  induction f with
  | zero => intro g a ta ti tv so st va h1 h2; exact absurd h2 (Nat.not_lt_zero _)
  | succ f ih =>
    intro g a ta ti tv so st va h1 h2 h3
    obtain ⟨g, rfl⟩ : ∃ k, g = k + 1 := ⟨g - 1, by omega⟩
    rw [mi_X8_readToken_l5, mi_X12_token_l0]
    obtain ⟨F, hF⟩ := ev_fuel (n := 1) (by omega)
    have hF2 : jx_F = F + 1 := by omega
    by_cases ha : a = n
    · subst ha
      obtain ⟨r, r1, -⟩ := ev_cByte hY (p := a) (by omega)
      rw [if_pos (nI_le (Nat.le_refl _) (by omega)), jx_b1_eq (ev_mE hY), if_neg (by decide), jx_b1_eq (ev_mE hY), if_neg (by decide)]
      unfold mi_X8_readToken_b36 mi_X12_token_b85 mi_X12_token_b110
      rw [jx_b1_eq r1, if_neg (nI_nlt (Nat.le_refl _) (by omega)), if_pos rfl, hF2, mi_X12_token_l114, if_neg (by decide)]
      unfold mi_X12_token_b154
      rw [if_neg (by decide)]
      exact ⟨a, a, 0, tv, 0, -1, Nat.le_refl _, Nat.le_refl _, rfl, by rw [show nI a + 0 = nI a from nI_add a 0], Or.inl ⟨rfl, rfl⟩⟩
    · obtain ⟨c, hc, hT⟩ := hY.2 a
      rw [if_neg (nI_ge (by omega) (by omega)), jx_b1_eq (ev_cB hY (by omega)), jx_b1_eq (ev_mB hY (by omega)), hT]
      by_cases h32 : c = 32
      · rw [if_pos (show nI c = 32 by rw [h32]; rfl), if_pos (show nI c = 32 by rw [h32]; rfl), nI_1]
        exact ih g (a + 1) ta ti tv so st va (by omega) (by omega) (by omega)
      · have h32' : ¬ nI c = 32 := fun z => h32 ((nI_eq (b := 32) (by omega) (by omega)).mp z)
        rw [if_neg h32', if_neg h32', jx_b1_eq (ev_mB hY (by omega)), hT, if_pos (nI_pos' (by omega)), jx_b1_eq (ev_mLet hc)]
        unfold mi_X8_readToken_b36
        rw [jx_b1_eq (ev_cB hY (by omega)), hT, if_pos (nI_lt (by omega) (by omega)), jx_b1_eq (ev_cLet hc)]
        unfold mi_X12_token_b85 mi_X12_token_b110
        cases hl : sp_let c with
        | true =>
          rw [if_neg ev_bt0, if_neg ev_bt0, if_neg ev_1ne0, nI_1]
          have hpos : ∃ e v, e ≤ n ∧ mi_X8_takeLetters (nI n) (nI a) (nI a) tv T = some (nI e, 1, v) ∧ mi_X12_token_l114 (nI n) T jx_F (nI c) (nI (a + 1)) 1 (nI a) (nI c) = some (nI e, 1, nI a, v) := by
            obtain ⟨F', hF'⟩ := ev_fuel (n := 200) (by omega)
            obtain ⟨e, v, e1, e2, e3⟩ := ev_letters hY (a := a) (by omega) F jx_F (a + 1) tv (nI c) (Nat.le_refl _) (by omega) (by omega) (by omega)
            rw [if_pos rfl, hT] at e3
            refine ⟨e, v, e1, ?_, e3⟩
            unfold mi_X8_takeLetters
            rw [hF2, mi_X8_takeLetters_l10, if_neg (nI_ge (by omega) (by omega)), jx_b1_eq (ev_cB hY (by omega)), hT, jx_b1_eq (ev_cLet hc), hl, if_neg ev_bt0, nI_1]
            exact e2
          obtain ⟨e, v, e1, e2, e3⟩ := hpos
          rw [jx_b3_eq e2]
          exact ⟨e, a, 1, v, 1, v, e1, by omega, rfl, e3, Or.inr (Or.inl ⟨rfl, rfl, rfl⟩)⟩
        | false =>
          rw [if_pos ev_bf, if_pos ev_bf, jx_b1_eq (ev_cDig hc), jx_b1_eq (ev_mDig hc)]
          cases hd : sp_dig c with
          | true =>
            have hcd : 48 ≤ c ∧ c ≤ 57 := by
              unfold sp_dig at hd
              simp only [Bool.and_eq_true, decide_eq_true_eq] at hd
              exact hd
            rw [if_neg ev_bt0, if_neg ev_bt0, if_neg (show ¬ (2 : Int32) = 0 by decide), nI_1]
            have hpos : ∃ e K V W, e ≤ n ∧ mi_X8_takeDigits (nI n) (nI a) (nI a) ti tv T = some (nI e, K, V) ∧ mi_X12_token_l114 (nI n) T jx_F (nI c) (nI (a + 1)) 2 (nI a) (nI c) = some (nI e, 2, nI a, W) ∧ rl_K K V 2 W := by
              obtain ⟨F', hF'⟩ := ev_fuel (n := 200) (by omega)
              obtain ⟨e, K, V, W, e1, e2, e3, e4⟩ := ev_digits hY (a := a) (c0 := c) (by omega) hT hc F jx_F (a + 1) (c - 48) (c - 48) ti tv (Nat.le_refl _) (by omega) (by omega) (by omega) (by
                by_cases h48 : c = 48
                · exact Or.inr ⟨h48, Or.inl ⟨rfl, by omega, by omega⟩⟩
                · exact Or.inl ⟨h48, Or.inl ⟨rfl, by omega⟩⟩)
              refine ⟨e, K, V, W, e1, ?_, ?_, e4⟩
              · have hsum : (0 : Int32) * 10 + nI c - 48 = nI (c - 48) := by
                  rw [show (0 : Int32) * 10 + nI c = nI c from by rw [show (0 : Int32) * 10 = nI 0 from rfl, nI_add, Nat.zero_add]]
                  exact ev_nsub (b := 48) (by omega) (by omega)
                unfold mi_X8_takeDigits
                rw [hF2, mi_X8_takeDigits_l7, if_neg (nI_ge (by omega) (by omega)), jx_b1_eq (ev_cB hY (by omega)), hT, jx_b1_eq (ev_cDig hc), hd, if_neg ev_bt0, jx_b1_eq (ev_cB hY (by omega)), hT, hsum, if_neg (show ¬ (100 : Int32) < nI (c - 48) from nI_nlt (a := 100) (by omega) (by omega)), nI_1]
                exact e2
              · have h114 : ∀ m, mi_X12_token_l114 (nI n) T (m + 1) (nI c) (nI (a + 1)) 2 (nI a) (nI c) = mi_X12_token_b154 (nI n) T (nI c) (nI (a + 1)) 2 (nI a) (nI c) := fun m => by
                  rw [mi_X12_token_l114, if_neg (by decide)]
                rw [hF2, h114]
                unfold mi_X12_token_b154
                rw [if_pos rfl, show nI c - 48 = nI (c - 48) from ev_nsub (b := 48) (by omega) (by omega)]
                exact e3
            obtain ⟨e, K, V, W, e1, e2, e3, e4⟩ := hpos
            rw [jx_b3_eq e2]
            exact ⟨e, a, K, V, 2, W, e1, by omega, rfl, e3, e4⟩
          | false =>
            have h114 : ∀ (m : Nat) (k : Int32), ¬ k = 1 → ¬ k = 2 → mi_X12_token_l114 (nI n) T (m + 1) (nI c) (nI (a + 1)) k (nI a) (nI c) = some (nI (a + 1), k, nI a, nI c) := fun m k q1 q2 => by
              rw [mi_X12_token_l114, if_neg q1]
              unfold mi_X12_token_b154
              rw [if_neg q2]
            rw [if_pos ev_bf, if_pos ev_bf]
            unfold mi_X8_readToken_b120
            rw [nI_1, if_neg (show ¬ (3 : Int32) = 0 by decide), if_neg (show ¬ (4 : Int32) = 0 by decide), hF2]
            by_cases h59 : nI c = 59
            · rw [if_pos h59, if_pos h59, h114 _ _ (by decide) (by decide)]
              exact ⟨a + 1, a, 3, tv, 3, nI c, by omega, by omega, rfl, rfl, Or.inr (Or.inr (Or.inr (Or.inl ⟨rfl, rfl⟩)))⟩
            · rw [if_neg h59, if_neg h59, h114 _ _ (by decide) (by decide)]
              exact ⟨a + 1, a, 4, tv, 4, nI c, by omega, by omega, rfl, rfl, Or.inr (Or.inr (Or.inr (Or.inr (Or.inl ⟨rfl, rfl⟩))))⟩
theorem ev_tok (hY : rl_Y n T) {a : Nat} (ha : a ≤ n) (ta ti tv so st va : Int32) :
    ∃ b s K V S W, b ≤ n ∧ s ≤ n ∧ mi_X8_readToken (nI n) (nI a) ta ti tv T = some (nI b, nI s, K, V) ∧ mi_X12_token (nI n) (nI a) so st va T = some (nI b, S, nI s, W) ∧ rl_K K V S W := by
  have hn := hY.1
  exact ev_token hY jx_F jx_F a ta ti tv so st va ha (by show n - a < 100000000; omega) (by show n - a < 100000000; omega)
end TK
