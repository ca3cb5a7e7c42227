/-! the class's rooms, its sums, its table -/
section TB
variable {P : Nat → Nat → Nat} {sections things noteTold toldSection toldBar : Int32} {lengths times players minutes : Nat → Int32} {told s : Nat → Int32}
theorem ev_hasSec0 {N q : Nat} (hN : N ≤ 8) (hq : N ≤ q) (hq8 : q < 8) : mi_X6_hasSection (nI N) (nI q) = some 0 := by
  unfold mi_X6_hasSection
  rw [if_neg (nI_pos (by omega)), if_pos (nI_le hq (by omega))]
theorem ev_findRooms_l2 (hP : rl_P P) (hS : rl_S P sections things noteTold toldSection toldBar lengths times players minutes) {c : Nat} (hc : c < 2 ^ 31) : ∀ (n x : Nat) (rooms : Nat → Int32), x ≤ 8 → 8 - x < n → (∀ q, q < x → rooms q = nI (sp_R P c q)) → ∃ rooms', mi_X4_findRooms_l2 sections lengths times players (nI c) n (nI x) rooms = some rooms' ∧ ∀ q, q < 8 → rooms' q = nI (sp_R P c q) := by
  have h8 := hP.1
  intro n
  induction n with
  | zero => intro x rooms h1 h2; exact absurd h2 (Nat.not_lt_zero _)
  | succ n ih =>
    intro x rooms h1 h2 h3
    rw [mi_X4_findRooms_l2]
    by_cases hx : x = 8
    · subst hx
      rw [if_pos (show (8 : Int32) ≤ nI 8 by decide)]
      exact ⟨rooms, rfl, h3⟩
    · have fin : ∀ v : Int32, v = nI (sp_R P c x) → ∃ rooms', mi_X4_findRooms_b51 (mi_X4_findRooms_l2 sections lengths times players (nI c) n) (nI x) (nI x) v rooms = some rooms' ∧ ∀ q, q < 8 → rooms' q = nI (sp_R P c q) := fun v hv => by
        unfold mi_X4_findRooms_b51
        rw [ev_g (ev_in (by omega) (by decide)), ev_cl (by omega), nI_1]
        exact ih (x + 1) _ (by omega) (by omega) (fun q hq => by
          by_cases hqx : q = x
          · rw [hqx, pk_us, hv]
          · rw [pk_un hqx]; exact h3 q (by omega))
      rw [if_neg (show ¬ (8 : Int32) ≤ nI x from nI_ge (b := 8) (by omega) (by omega)), jx_b1_eq (ev_isIn hc (by omega))]
      unfold mi_X4_findRooms_b29 mi_X4_findRooms_b30
      rw [if_pos (rfl : (0 : Int32) = 0), if_neg ev_1ne0]
      by_cases hN : x < pc_N P
      · cases hb : c.testBit x with
        | true =>
          rw [if_neg ev_bt0]
          exact fin 0 (by unfold sp_R; rw [if_pos hN, if_pos hb]; rfl)
        | false =>
          have hW := (hP.2.2.1 x hN).2.2.2.2
          rw [if_pos ev_bf, jx_b1_eq (ev_whoOf hP hS hN)]
          by_cases hw : pc_W P x = 2
          · rw [if_pos (show nI (pc_W P x) = 2 by rw [hw]; rfl)]
            exact fin 0 (by unfold sp_R; rw [if_pos hN, if_neg (by rw [hb]; decide), if_pos hw]; rfl)
          · rw [if_neg (show ¬ nI (pc_W P x) = 2 from fun z => hw ((nI_eq (b := 2) (by omega) (by omega)).mp z)), jx_b1_eq (ev_barsOf hP hS hN)]
            exact fin _ (by unfold sp_R; rw [if_pos hN, if_neg (by rw [hb]; decide), if_neg hw])
      · have hR : sp_R P c x = 0 := by unfold sp_R; rw [if_neg hN]
        have hh := ev_hasSec0 (q := x) h8 (by omega) (by omega)
        have hwho : mi_X6_whoOf sections players (nI x) = some 0 := by
          unfold mi_X6_whoOf
          rw [hS.1, jx_b1_eq hh, if_pos rfl]
        have hbar : mi_X6_barsOf sections lengths times (nI x) = some 0 := by
          unfold mi_X6_barsOf
          rw [hS.1, jx_b1_eq hh, if_pos rfl]
        cases hb : c.testBit x with
        | true =>
          rw [if_neg ev_bt0]
          exact fin 0 (by rw [hR]; rfl)
        | false =>
          rw [if_pos ev_bf, jx_b1_eq hwho, if_neg (show ¬ (0 : Int32) = 2 by decide), jx_b1_eq hbar]
          exact fin 0 (by rw [hR]; rfl)
theorem ev_minutesX (hP : rl_P P) (hS : rl_S P sections things noteTold toldSection toldBar lengths times players minutes) {i : Nat} (hi : i < 6) : mi_X6_minutesOf things minutes (nI i) = some (nI (sp_Mx P i)) := by
  have h6 := hP.2.1
  unfold sp_Mx
  by_cases h : i < pc_nt P
  · rw [if_pos h]; exact ev_minutesOf hP hS h
  · rw [if_neg h]
    unfold mi_X6_minutesOf mi_X6_hasThing
    rw [hS.2.1, if_neg (nI_pos (by omega)), if_pos (nI_le (by omega) (by omega)), jx_b1_eq rfl, if_pos rfl]
    rfl
theorem sp_Mx_le (hP : rl_P P) (i : Nat) : sp_Mx P i ≤ 60 := by
  unfold sp_Mx
  by_cases h : i < pc_nt P
  · rw [if_pos h]; exact (hP.2.2.2.1 i h).2
  · rw [if_neg h]; omega
theorem pg_sm_le (hP : rl_P P) (p : Nat → Bool) : ∀ n, pg_sm (sp_Mx P) p n ≤ 60 * n
  | 0 => Nat.le_refl _
  | n + 1 => by
    have h1 := pg_sm_le hP p n
    have h2 := sp_Mx_le hP n
    rw [pg_sm]
    split <;> omega
theorem ev_setMin_l13 (hP : rl_P P) (hS : rl_S P sections things noteTold toldSection toldBar lengths times players minutes) {x : Nat} (hx : x < 64) {K : Int32 → (Nat → Int32) → Option (Nat → Int32)} {sm : Nat → Int32} : ∀ (n i : Nat), i ≤ 6 → 6 - i < n → mi_X4_findSetMinutes_l13 things minutes K n (nI x) (nI (pg_sm (sp_Mx P) x.testBit i)) (nI i) sm = K (nI (x + 1)) (upd sm x (nI (pg_sm (sp_Mx P) x.testBit 6))) := by
  intro n
  induction n with
  | zero => intro i h1 h2; exact absurd h2 (Nat.not_lt_zero _)
  | succ n ih =>
    intro i h1 h2
    rw [mi_X4_findSetMinutes_l13]
    by_cases hi : i = 6
    · subst hi
      rw [if_pos (show (6 : Int32) ≤ nI 6 by decide), ev_g (ev_in (by omega) (by decide)), ev_cl (by omega), nI_1]
    · rw [if_neg (show ¬ (6 : Int32) ≤ nI i from nI_ge (b := 6) (by omega) (by omega)), jx_b1_eq (ev_isIn (by omega) (by omega))]
      unfold mi_X4_findSetMinutes_b40
      have hs : pg_sm (sp_Mx P) x.testBit (i + 1) = pg_sm (sp_Mx P) x.testBit i + (if x.testBit i then sp_Mx P i else 0) := rfl
      have hi2 := ih (i + 1) (by omega) (by omega)
      cases hb : x.testBit i with
      | false =>
        rw [if_pos ev_bf, nI_1]
        rw [hs, hb, if_neg (by decide), Nat.add_zero] at hi2
        rw [show nI (pg_sm (sp_Mx P) x.testBit i) + 0 = nI (pg_sm (sp_Mx P) x.testBit i) from nI_add _ 0]
        exact hi2
      | true =>
        rw [if_neg ev_bt0, jx_b1_eq (ev_minutesX hP hS (by omega)), nI_1, nI_add]
        rw [hs, hb, if_pos rfl] at hi2
        exact hi2
theorem ev_setMin (hP : rl_P P) (hS : rl_S P sections things noteTold toldSection toldBar lengths times players minutes) : ∀ (n x : Nat) (sm : Nat → Int32), x ≤ 64 → 64 - x < n → (∀ U, U < x → sm U = nI (pg_sm (sp_Mx P) U.testBit 6)) → ∃ sm', mi_X4_findSetMinutes_l2 things minutes n (nI x) sm = some sm' ∧ ∀ U, U < 64 → sm' U = nI (pg_sm (sp_Mx P) U.testBit 6) := by
  intro n
  induction n with
  | zero => intro x sm h1 h2; exact absurd h2 (Nat.not_lt_zero _)
  | succ n ih =>
    intro x sm h1 h2 h3
    rw [mi_X4_findSetMinutes_l2]
    by_cases hx : x = 64
    · subst hx
      rw [if_pos (show (64 : Int32) ≤ nI 64 by decide)]
      exact ⟨sm, rfl, h3⟩
    · rw [if_neg (show ¬ (64 : Int32) ≤ nI x from nI_ge (b := 64) (by omega) (by omega))]
      have h4 := ev_setMin_l13 hP hS (x := x) (by omega) (K := mi_X4_findSetMinutes_l2 things minutes n) (sm := sm) jx_F 0 (by omega) (by show 6 - 0 < 100000000; omega)
      have h4 : mi_X4_findSetMinutes_l13 things minutes (mi_X4_findSetMinutes_l2 things minutes n) jx_F (nI x) 0 0 sm = _ := h4
      rw [h4]
      exact ih (x + 1) _ (by omega) (by omega) (fun U hU => by
        by_cases hUx : U = x
        · rw [hUx, pk_us]
        · rw [pk_un hUx]; exact h3 U (by omega))
/-- a cell of the table -/
def pg_b (r : Int32) (p : Prop) : Prop := (r = 1 ∧ p) ∨ (r = 0 ∧ ¬ p)
theorem ev_doesFit {fits : Nat → Int32} {x S : Nat} {p : Prop} (hx : x ≤ 8) (hS : S < 64) (h : pg_b (fits (x * 64 + S)) p) : ∃ r, mi_X4_doesFit fits (nI x) (nI S) = some r ∧ pg_b r p := by
  unfold mi_X4_doesFit
  rw [show nI x * (64 : Int32) = nI (x * 64) from ev_nmul x 64, nI_add, if_neg (nI_pos (by omega)), if_neg (show ¬ (576 : Int32) ≤ nI (x * 64 + S) from nI_ge (b := 576) (by omega) (by omega)), ev_g (ev_in (by omega) (by decide)), ev_cl (by omega)]
  rcases h with ⟨h1, h2⟩ | ⟨h1, h2⟩
  · rw [h1, if_neg ev_1ne0]; exact ⟨1, rfl, Or.inl ⟨rfl, h2⟩⟩
  · rw [h1, if_pos rfl]; exact ⟨0, rfl, Or.inr ⟨rfl, h2⟩⟩
theorem pg_sub_trans {U S L : Nat} (h1 : U &&& S = U) (h2 : S &&& L = S) : U &&& L = U := by
  rw [← h1, Nat.and_assoc, h2]
theorem pg_xor_lt {U S : Nat} (hU : U < 64) (hS : S < 64) : S ^^^ U < 64 := Nat.xor_lt_two_pow (n := 6) hS hU
theorem pg_xor_sub {U S L : Nat} (hU : U < 64) (hS : S < 64) (h1 : U &&& S = U) (h2 : S &&& L = S) : (S ^^^ U) &&& L = S ^^^ U := by
  refine pg_sub (pg_xor_lt hU hS) (fun i _ hb => ?_)
  rw [Nat.testBit_xor] at hb
  cases hs : S.testBit i
  · cases hu : U.testBit i
    · rw [hs, hu] at hb; exact absurd hb (by decide)
    · rw [pg_sub_of h1 hu] at hs; exact absurd hs (by decide)
  · exact pg_sub_of h2 hs
theorem ev_share_l14 (hP : rl_P P) {sm fits : Nat → Int32} {R : Nat → Nat} {x S L : Nat} (hx : x < 8) (hS : S < 64) (hL : S &&& L = S) (hR : R x ≤ 120) (hsm : ∀ U, U < 64 → sm U = nI (pg_sm (sp_Mx P) U.testBit 6)) (hf : ∀ U, U < 64 → U &&& L = U → pg_b (fits ((x + 1) * 64 + U)) (pg_dx (sp_Mx P) R (x + 1) U.testBit)) : ∀ (n y : Nat), y &&& S = y → y < 64 → y < n → (∀ U, U < 64 → U &&& S = U → y < U ∨ U = 0 → ¬ (pg_sm (sp_Mx P) U.testBit 6 ≤ R x ∧ pg_dx (sp_Mx P) R (x + 1) (S ^^^ U).testBit)) →
    ∃ r, mi_X4_fitsWithShare_l14 sm fits (nI (R x)) (nI (x + 1)) (nI S) n (nI y) = some r ∧ pg_b r (pg_dx (sp_Mx P) R x S.testBit) := by
  intro n
  induction n with
  | zero => intro y h1 h2 h3; exact absurd h3 (Nat.not_lt_zero _)
  | succ n ih =>
    intro y h1 h2 h3 h4
    rw [mi_X4_fitsWithShare_l14]
    by_cases hy : y = 0
    · subst hy
      rw [if_pos (show nI 0 ≤ (0 : Int32) by decide)]
      refine ⟨0, rfl, Or.inr ⟨rfl, fun z => ?_⟩⟩
      obtain ⟨U, u1, u2, u3, u4⟩ := (pg_dx_num hx hS).mp z
      exact h4 U u1 u2 (by omega) ⟨u3, u4⟩
    · have hsl := pg_sm_le hP y.testBit 6
      have hmin : mi_X4_minutesOfSet sm (nI y) = some (nI (pg_sm (sp_Mx P) y.testBit 6)) := by
        unfold mi_X4_minutesOfSet
        rw [if_neg (nI_pos (by omega)), if_neg (show ¬ (64 : Int32) ≤ nI y from nI_ge (b := 64) (by omega) (by omega)), ev_g (ev_in (by omega) (by decide)), ev_cl (by omega), hsm y h2]
      have hlt : (y - 1) &&& S ≤ y - 1 := Nat.and_le_left
      have next : ¬ (pg_sm (sp_Mx P) y.testBit 6 ≤ R x ∧ pg_dx (sp_Mx P) R (x + 1) (S ^^^ y).testBit) → ∃ r, mi_X4_fitsWithShare_b45 (nI S) (mi_X4_fitsWithShare_l14 sm fits (nI (R x)) (nI (x + 1)) (nI S) n) (nI y) = some r ∧ pg_b r (pg_dx (sp_Mx P) R x S.testBit) := fun hno => by
        unfold mi_X4_fitsWithShare_b45
        rw [ev_dn y h2 S hS (by omega)]
        refine ih ((y - 1) &&& S) (by rw [Nat.and_assoc, Nat.and_self]) (by omega) (by omega) (fun U u1 u2 u3 => ?_)
        by_cases hUy : U = y
        · rw [hUy]; exact hno
        · by_cases hyU : y < U
          · exact h4 U u1 u2 (Or.inl hyU)
          · rcases u3 with u3 | u3
            · have := pg_down y S U h1 u2 (by omega)
              omega
            · exact h4 U u1 u2 (Or.inr u3)
      rw [if_neg (nI_nle (by omega) (by omega)), jx_b1_eq hmin]
      by_cases hm : R x < pg_sm (sp_Mx P) y.testBit 6
      · rw [if_pos (nI_lt hm (by omega))]
        exact next (fun z => by omega)
      · obtain ⟨r, r1, r2⟩ := ev_doesFit (x := x + 1) (by omega) (pg_xor_lt h2 hS) (hf (S ^^^ y) (pg_xor_lt h2 hS) (pg_xor_sub h2 hS h1 hL))
        rw [if_neg (nI_nlt (by omega) (by omega)), ev_xr S hS y h2 h1, jx_b1_eq r1]
        rcases r2 with ⟨q1, q2⟩ | ⟨q1, q2⟩
        · rw [q1, if_neg ev_1ne0]
          exact ⟨1, rfl, Or.inl ⟨rfl, (pg_dx_num hx hS).mpr ⟨y, h2, h1, by omega, q2⟩⟩⟩
        · rw [q1, if_pos rfl]
          exact next (fun z => q2 z.2)
theorem ev_share (hP : rl_P P) {sm fits : Nat → Int32} {R : Nat → Nat} {x S L : Nat} (hx : x < 8) (hS : S < 64) (hL : S &&& L = S) (hR : R x ≤ 120) (hsm : ∀ U, U < 64 → sm U = nI (pg_sm (sp_Mx P) U.testBit 6)) (hf : ∀ U, U < 64 → U &&& L = U → pg_b (fits ((x + 1) * 64 + U)) (pg_dx (sp_Mx P) R (x + 1) U.testBit)) : ∃ r, mi_X4_fitsWithShare sm fits (nI (R x)) (nI (x + 1)) (nI S) = some r ∧ pg_b r (pg_dx (sp_Mx P) R x S.testBit) := by
  obtain ⟨r, r1, r2⟩ := ev_doesFit (x := x + 1) (by omega) hS (hf S hS hL)
  unfold mi_X4_fitsWithShare
  rw [jx_b1_eq r1]
  have hx0 : S ^^^ 0 = S := Nat.xor_zero S
  have h0 : pg_sm (sp_Mx P) (Nat.testBit 0) 6 = 0 := pg_sm_zero (fun i _ => Nat.zero_testBit i)
  rcases r2 with ⟨q1, q2⟩ | ⟨q1, q2⟩
  · rw [q1, if_neg ev_1ne0]
    exact ⟨1, rfl, Or.inl ⟨rfl, (pg_dx_num hx hS).mpr ⟨0, by omega, Nat.zero_and S, by rw [h0]; omega, by rw [hx0]; exact q2⟩⟩⟩
  · rw [q1, if_pos rfl]
    refine ev_share_l14 hP hx hS hL hR hsm hf jx_F S (Nat.and_self S) hS (by show S < 100000000; omega) (fun U u1 u2 u3 z => ?_)
    rcases u3 with u3 | u3
    · have : U ≤ S := by rw [← u2]; exact Nat.and_le_right
      omega
    · subst u3
      rw [hx0] at z
      exact q2 z.2
end TB
