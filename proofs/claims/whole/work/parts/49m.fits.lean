/-! the table filled, the lowest rooms taken; the reference's rooms -/
section FT
variable {P : Nat → Nat → Nat} {sections things noteTold toldSection toldBar : Int32} {lengths times players minutes : Nat → Int32} {told s : Nat → Int32}
def pg_row (M R : Nat → Nat) (L x : Nat) (fits : Nat → Int32) : Prop := ∀ S, S < 64 → S &&& L = S → pg_b (fits (x * 64 + S)) (pg_dx M R x S.testBit)
def pg_RM (R : Nat → Nat) (rooms : Nat → Int32) : Prop := ∀ q, q < 8 → rooms q = nI (R q) ∧ R q ≤ 120
def pg_SM (P : Nat → Nat → Nat) (sm : Nat → Int32) : Prop := ∀ U, U < 64 → sm U = nI (pg_sm (sp_Mx P) U.testBit 6)
theorem ev_fits_l42 (hP : rl_P P) {R : Nat → Nat} {rooms sm : Nat → Int32} (hR : pg_RM R rooms) (hsm : pg_SM P sm) {L x : Nat} (hL : L < 64) (hx : x < 8) {K : Int32 → (Nat → Int32) → Option (Nat → Int32)} : ∀ (n S : Nat) (fits : Nat → Int32), S ≤ 64 → 64 - S < n → pg_row (sp_Mx P) R L (x + 1) fits → (∀ U, U < S → U &&& L = U → pg_b (fits (x * 64 + U)) (pg_dx (sp_Mx P) R x U.testBit)) → ∃ fits', mi_X4_findFits_l42 rooms sm (nI L) K n (nI x) (nI S) fits = K (nI x + (-1)) fits' ∧ pg_row (sp_Mx P) R L x fits' := by
  intro n
  induction n with
  | zero => intro S fits h1 h2; exact absurd h2 (Nat.not_lt_zero _)
  | succ n ih =>
    intro S fits h1 h2 h3 h4
    rw [mi_X4_findFits_l42]
    by_cases hS : S = 64
    · subst hS
      rw [if_pos (show (64 : Int32) ≤ nI 64 by decide)]
      exact ⟨fits, rfl, h4⟩
    · have fin : ∀ v w : Int32, w = v → (S &&& L = S → pg_b v (pg_dx (sp_Mx P) R x S.testBit)) → ∃ fits', mi_X4_findFits_l42 rooms sm (nI L) K n (nI x) (nI S + 1) (upd fits (x * 64 + S) w) = K (nI x + (-1)) fits' ∧ pg_row (sp_Mx P) R L x fits' := fun v w hw hv => by
        subst hw
        rw [nI_1]
        refine ih (S + 1) _ (by omega) (by omega) (fun U u1 u2 => ?_) (fun U u1 u2 => ?_)
        · rw [pk_un (by omega)]; exact h3 U u1 u2
        · by_cases hUS : U = S
          · rw [hUS, pk_us]; exact hv (by rw [← hUS]; exact u2)
          · rw [pk_un (by omega)]; exact h4 U (by omega) u2
      rw [if_neg (show ¬ (64 : Int32) ≤ nI S from nI_ge (b := 64) (by omega) (by omega)), show nI x * (64 : Int32) = nI (x * 64) from ev_nmul x 64, nI_add]
      unfold mi_X4_findFits_b87 mi_X4_findFits_b88
      rw [ev_g (b := jx_in (nI (x * 64 + S)) 576) (ev_in (by omega) (by decide)), ev_g (b := jx_in (nI (x * 64 + S)) 576) (ev_in (by omega) (by decide)), ev_cl (q := x * 64 + S) (by omega)]
      by_cases hSL : S &&& L = S
      · rw [if_pos ((ev_sub (by omega)).mpr hSL), ev_g (ev_in (by omega) (by decide)), ev_cl (by omega), (hR x hx).1, ev_p1 x]
        obtain ⟨r, r1, r2⟩ := ev_share hP (S := S) (L := L) hx (by omega) hSL (hR x hx).2 hsm h3
        rw [jx_b1_eq r1]
        rcases r2 with ⟨q1, q2⟩ | ⟨q1, q2⟩
        · rw [q1, if_neg ev_1ne0]
          exact fin 1 _ rfl (fun _ => Or.inl ⟨rfl, q2⟩)
        · rw [q1, if_pos rfl]
          exact fin 0 _ rfl (fun _ => Or.inr ⟨rfl, q2⟩)
      · rw [if_neg (fun z => hSL ((ev_sub (by omega)).mp z))]
        exact fin 0 _ rfl (fun z => absurd z hSL)
theorem ev_fits_l36 (hP : rl_P P) {R : Nat → Nat} {rooms sm : Nat → Int32} (hR : pg_RM R rooms) (hsm : pg_SM P sm) {L : Nat} (hL : L < 64) : ∀ (n x : Nat) (fits : Nat → Int32), x ≤ 8 → x < n → pg_row (sp_Mx P) R L x fits → ∃ fits', mi_X4_findFits_l36 rooms sm (nI L) n (nI x + (-1)) fits = some fits' ∧ pg_row (sp_Mx P) R L 0 fits' := by
  intro n
  induction n with
  | zero => intro x fits h1 h2; exact absurd h2 (Nat.not_lt_zero _)
  | succ n ih =>
    intro x fits h1 h2 h3
    cases x with
    | zero =>
      rw [mi_X4_findFits_l36, if_pos (show nI 0 + (-1) < (0 : Int32) by decide)]
      exact ⟨fits, rfl, h3⟩
    | succ y =>
      rw [ev_m1, mi_X4_findFits_l36, if_neg (nI_pos (by omega))]
      obtain ⟨f2, e1, e2⟩ := ev_fits_l42 hP hR hsm hL (x := y) (by omega) (K := mi_X4_findFits_l36 rooms sm (nI L) n) jx_F 0 fits (by omega) (by show 64 - 0 < 100000000; omega) h3 (fun U hU => absurd hU (Nat.not_lt_zero U))
      have e1 : mi_X4_findFits_l42 rooms sm (nI L) (mi_X4_findFits_l36 rooms sm (nI L) n) jx_F (nI y) 0 fits = _ := e1
      rw [e1]
      exact ih y f2 (by omega) (by omega) e2
theorem ev_fits_l2 {rooms sm : Nat → Int32} {L : Nat} : ∀ (n x : Nat) (fits : Nat → Int32), x ≤ 64 → 64 - x < n → (∀ U, U < x → fits (512 + U) = if U = 0 then 1 else 0) → ∃ fits', (∀ U, U < 64 → fits' (512 + U) = if U = 0 then 1 else 0) ∧ mi_X4_findFits_l2 rooms sm (nI L) n (nI x) fits = mi_X4_findFits_l36 rooms sm (nI L) jx_F 7 fits' := by
  intro n
  induction n with
  | zero => intro x fits h1 h2; exact absurd h2 (Nat.not_lt_zero _)
  | succ n ih =>
    intro x fits h1 h2 h3
    rw [mi_X4_findFits_l2]
    by_cases hx : x = 64
    · subst hx
      rw [if_pos (show (64 : Int32) ≤ nI 64 by decide)]
      exact ⟨fits, h3, rfl⟩
    · have fin : ∀ v : Int32, v = (if x = 0 then 1 else 0) → ∃ fits', (∀ U, U < 64 → fits' (512 + U) = if U = 0 then 1 else 0) ∧ mi_X4_findFits_l2 rooms sm (nI L) n (nI (x + 1)) (upd fits (512 + x) v) = mi_X4_findFits_l36 rooms sm (nI L) jx_F 7 fits' := fun v hv => by
        refine ih (x + 1) _ (by omega) (by omega) (fun U hU => ?_)
        by_cases hUx : U = x
        · rw [hUx, pk_us, hv]
        · rw [pk_un (by omega)]; exact h3 U (by omega)
      rw [if_neg (show ¬ (64 : Int32) ≤ nI x from nI_ge (b := 64) (by omega) (by omega)), show (512 : Int32) + nI x = nI (512 + x) from nI_add 512 x]
      unfold mi_X4_findFits_b26
      rw [ev_g (ev_in (by omega) (by decide)), ev_g (ev_in (by omega) (by decide)), ev_cl (by omega), nI_1]
      by_cases h0 : x = 0
      · rw [if_pos (show nI x = 0 by rw [h0]; rfl)]
        exact fin _ (by rw [if_pos h0]; rfl)
      · rw [if_neg (show ¬ nI x = 0 from nI_ne0 (by omega) (by omega))]
        exact fin _ (by rw [if_neg h0]; rfl)
theorem ev_findFits (hP : rl_P P) {R : Nat → Nat} {rooms sm : Nat → Int32} (hR : pg_RM R rooms) (hsm : pg_SM P sm) {L : Nat} (hL : L < 64) (fits : Nat → Int32) : ∃ fits', mi_X4_findFits rooms sm fits (nI L) = some fits' ∧ ∀ S, S < 64 → S &&& L = S → ∃ r, mi_X4_doesFit fits' 0 (nI S) = some r ∧ pg_b r (pg_ok (sp_Mx P) S.testBit R) := by
  obtain ⟨f1, e1, e2⟩ := ev_fits_l2 (rooms := rooms) (sm := sm) (L := L) jx_F 0 fits (by omega) (by show 64 - 0 < 100000000; omega) (fun U hU => absurd hU (Nat.not_lt_zero U))
  obtain ⟨f2, e3, e4⟩ := ev_fits_l36 hP hR hsm hL jx_F 8 f1 (by omega) (by show 8 < 100000000; omega) (fun S hS hSL => by
    rw [show 8 * 64 + S = 512 + S by omega, e1 S hS]
    by_cases h0 : S = 0
    · rw [if_pos h0, h0]
      exact Or.inl ⟨rfl, pg_dx_8.mpr (fun i _ => Nat.zero_testBit i)⟩
    · rw [if_neg h0]
      refine Or.inr ⟨rfl, fun z => h0 (Nat.eq_of_testBit_eq (fun i => ?_))⟩
      rw [Nat.zero_testBit]
      by_cases hi : i < 6
      · exact pg_dx_8.mp z i hi
      · exact pg_hi hS (by omega))
  refine ⟨f2, ?_, fun S hS hSL => ?_⟩
  · exact e2.trans e3
  · obtain ⟨r, r1, r2⟩ := ev_doesFit (x := 0) (by omega) hS (e4 S hS hSL)
    refine ⟨r, r1, ?_⟩
    rcases r2 with ⟨q1, q2⟩ | ⟨q1, q2⟩
    · exact Or.inl ⟨q1, pg_dx_0.mp q2⟩
    · exact Or.inr ⟨q1, fun z => q2 (pg_dx_0.mpr z)⟩
theorem pg_RM_tk {R : Nat → Nat} {rooms : Nat → Int32} (h : pg_RM R rooms) {x m : Nat} (hx : x < 8) (hm : m ≤ R x) : pg_RM (pg_tk R x m) (upd rooms x (nI (R x) - nI m)) := fun q hq => by
  have h1 := (h x hx).2
  have h2 := h q hq
  unfold pg_tk
  by_cases hqx : q = x
  · rw [if_pos hqx, hqx, pk_us, ev_nsub (by omega) hm]; exact ⟨rfl, by omega⟩
  · rw [if_neg hqx, pk_un hqx]; exact h2
theorem ev_take_l2 (hP : rl_P P) {sm : Nat → Int32} (hsm : pg_SM P sm) {L m : Nat} (hL : L < 64) (hm : m ≤ 60) {R : Nat → Nat} (hex : ∃ q, q < 8 ∧ m ≤ R q ∧ pg_ok (sp_Mx P) L.testBit (pg_tk R q m)) : ∀ (n x : Nat) (rooms fits : Nat → Int32), x ≤ 8 → 8 - x < n → pg_RM R rooms → (∀ y, y < x → ¬ (m ≤ R y ∧ pg_ok (sp_Mx P) L.testBit (pg_tk R y m))) → ∃ (q : Nat) (rooms' fits' : Nat → Int32), mi_X4_takeLowestRoom_l2 sm (nI m) (nI L) n (nI x) rooms fits = some (nI q, rooms', fits') ∧ q < 8 ∧ (m ≤ R q ∧ pg_ok (sp_Mx P) L.testBit (pg_tk R q m)) ∧ (∀ y, y < q → ¬ (m ≤ R y ∧ pg_ok (sp_Mx P) L.testBit (pg_tk R y m))) ∧ pg_RM (pg_tk R q m) rooms' := by
  intro n
  induction n with
  | zero => intro x rooms fits h1 h2; exact absurd h2 (Nat.not_lt_zero _)
  | succ n ih =>
    intro x rooms fits h1 h2 h3 h4
    rw [mi_X4_takeLowestRoom_l2]
    by_cases hx : x = 8
    · obtain ⟨q, q1, q2⟩ := hex
      exact absurd q2 (h4 q (by omega))
    · have hRx := h3 x (by omega)
      unfold mi_X4_takeLowestRoom_b54
      rw [if_neg (show ¬ (8 : Int32) ≤ nI x from nI_ge (b := 8) (by omega) (by omega)), ev_g (ev_in (by omega) (by decide)), ev_cl (by omega), hRx.1, nI_1]
      by_cases hlt : R x < m
      · rw [if_pos (nI_lt hlt (by omega))]
        exact ih (x + 1) rooms fits (by omega) (by omega) h3 (fun y hy => by
          by_cases hyx : y = x
          · rw [hyx]; exact fun z => by omega
          · exact h4 y (by omega))
      · obtain ⟨f2, e1, e2⟩ := ev_findFits hP (pg_RM_tk h3 (x := x) (m := m) (by omega) (by omega)) hsm hL fits
        obtain ⟨r, r1, r2⟩ := e2 L hL (Nat.and_self L)
        rw [if_neg (nI_nlt (by omega) (by omega)), ev_g (ev_in (by omega) (by decide)), ev_g (ev_in (by omega) (by decide)), jx_b1_eq e1, jx_b1_eq r1]
        rcases r2 with ⟨q1, q2⟩ | ⟨q1, q2⟩
        · rw [q1, if_neg ev_1ne0]
          exact ⟨x, _, _, rfl, by omega, ⟨by omega, q2⟩, h4, pg_RM_tk h3 (by omega) (by omega)⟩
        · rw [q1, if_pos rfl, ev_g (ev_in (by omega) (by decide)), ev_g (ev_in (by omega) (by decide)), pk_us]
          refine ih (x + 1) _ f2 (by omega) (by omega) (fun q hq => ?_) (fun y hy => ?_)
          · by_cases hqx : q = x
            · rw [hqx, pk_us, ev_nsub (by omega) (by omega), nI_add, Nat.sub_add_cancel (by omega)]
              exact ⟨rfl, hRx.2⟩
            · rw [pk_un hqx, pk_un hqx]; exact h3 q hq
          · by_cases hyx : y = x
            · rw [hyx]; exact fun z => q2 z.2
            · exact h4 y (by omega)
theorem sp_R_le (hP : rl_P P) (c q : Nat) : sp_R P c q ≤ 120 := by
  unfold sp_R
  by_cases h : q < pc_N P
  · have := (sp_mul hP h).1
    rw [if_pos h]
    split
    · omega
    · split <;> omega
  · rw [if_neg h]; omega
theorem ev_mrooms_l2 (hP : rl_P P) (hT : rl_T P told) {c S : Nat} (hc : c < 2 ^ 31) (h3 : s 3 = nI c) : ∀ (n x : Nat) (room inRest : Nat → Int32), x ≤ pc_N P → pc_N P - x < n → (∀ q, q < x → room q = nI (sp_R P c q)) → ∃ room', pg_Q (pc_N P) (sp_R P c) room' ∧ mi_X12_fits_l2 told s (nI S) n (nI x) room inRest = mi_X12_fits_l50 told (nI S) jx_F 0 room' (upd inRest 0 (-1)) := by
  have h8 := hP.1
  intro n
  induction n with
  | zero => intro x room inRest h1 h2; exact absurd h2 (Nat.not_lt_zero _)
  | succ n ih =>
    intro x room inRest h1 h2 h4
    rw [mi_X12_fits_l2, ev_n0, hT.1]
    by_cases hx : x = pc_N P
    · rw [hx, if_pos (nI_le (Nat.le_refl _) (by omega))]
      exact ⟨room, ⟨fun q hq => h4 q (by omega), sp_R_le hP c, fun q hq => by unfold sp_R; rw [if_neg (by omega)]⟩, rfl⟩
    · have hN : x < pc_N P := by omega
      have fin : ∀ v : Int32, v = nI (sp_R P c x) → ∃ room', pg_Q (pc_N P) (sp_R P c) room' ∧ mi_X12_fits_b34 (mi_X12_fits_l2 told s (nI S) n) (nI x) (nI x) v room inRest = mi_X12_fits_l50 told (nI S) jx_F 0 room' (upd inRest 0 (-1)) := fun v hv => by
        unfold mi_X12_fits_b34
        rw [ev_g (ev_in (by omega) (by decide)), ev_cl (by omega), nI_1]
        exact ih (x + 1) _ inRest (by omega) (by omega) (fun q hq => by
          by_cases hqx : q = x
          · rw [hqx, pk_us, hv]
          · rw [pk_un hqx]; exact h4 q (by omega))
      have hW := (hP.2.2.1 x hN).2.2.2.2
      have hrest : mi_X12_isRest told s (nI x) = some (if c.testBit x then 0 else if pc_W P x = 2 then 0 else 1) := by
        unfold mi_X12_isRest
        rw [ev_n3, h3, jx_b1_eq (ev_has hc (by omega))]
        cases hb : c.testBit x
        · rw [if_pos ev_bf, ev_a22, ev_g (ev_in (by omega) (by decide)), ev_cl (by omega), (hT.2.2.1 x hN).2.2, if_neg (show ¬ (false = true) by decide)]
          by_cases hw : pc_W P x = 2
          · rw [if_pos hw, if_pos (show nI (pc_W P x) = 2 by rw [hw]; rfl)]
          · rw [if_neg hw, if_neg (show ¬ nI (pc_W P x) = 2 from fun z => hw ((nI_eq (b := 2) (by omega) (by omega)).mp z))]
        · rw [if_neg ev_bt0, if_pos rfl]
      rw [if_neg (nI_ge hN (by omega)), jx_b1_eq hrest]
      by_cases hb : c.testBit x = true
      · rw [if_pos hb, if_pos rfl]
        exact fin 0 (by unfold sp_R; rw [if_pos hN, if_pos hb]; rfl)
      · rw [if_neg hb]
        by_cases hw : pc_W P x = 2
        · rw [if_pos hw, if_pos rfl]
          exact fin 0 (by unfold sp_R; rw [if_pos hN, if_neg hb, if_pos hw]; rfl)
        · rw [if_neg hw, if_neg ev_1ne0, jx_b1_eq (ev_minutes hP hT hN)]
          exact fin _ (by unfold sp_R; rw [if_pos hN, if_neg hb, if_neg hw])
theorem pg_T_le {k : Nat} (h : k ≤ 6) : pg_T k ≤ 10000000 := by
  rcases (show k = 0 ∨ k = 1 ∨ k = 2 ∨ k = 3 ∨ k = 4 ∨ k = 5 ∨ k = 6 by omega) with e | e | e | e | e | e | e <;> subst e <;> decide
theorem ev_fitsM (hP : rl_P P) (hT : rl_T P told) {c S : Nat} (hc : c < 2 ^ 31) (h3 : s 3 = nI c) (hS : S < 2 ^ pc_nt P) (room inRest : Nat → Int32) : ∃ (r : Int32) (room' inRest' : Nat → Int32), mi_X12_fits told s room inRest (nI S) = some (r, room', inRest') ∧ ((r = 1 ∧ pg_ok (pc_M P) S.testBit (sp_R P c) ∧ ∃ A, pg_fp (pc_M P) S (pc_nt P) 0 (sp_R P c) A ∧ ∀ j, j < pc_nt P → S.testBit j = true → inRest' j = nI (A j)) ∨ (r = 0 ∧ ¬ pg_ok (pc_M P) S.testBit (sp_R P c))) := by
  have h8 := hP.1
  have h6 := hP.2.1
  have hT6 := pg_T_le h6
  obtain ⟨rm, e1, e2⟩ := ev_mrooms_l2 hP hT (S := S) hc h3 jx_F 0 room inRest (by omega) (by show pc_N P - 0 < 100000000; omega) (fun q hq => absurd hq (Nat.not_lt_zero q))
  have e2 : mi_X12_fits told s room inRest (nI S) = mi_X12_fits_l50 told (nI S) jx_F (nI 0) rm (upd inRest 0 (-1)) := e2
  have hfr : ∀ j, pg_fr S 0 j = S.testBit j := fun j => by unfold pg_fr; rw [decide_eq_true (Nat.zero_le j), Bool.true_and]
  have hF : jx_F = 100000000 := rfl
  rw [e2]
  rcases ev_dfs hP hT hS (pc_nt P) 0 (sp_R P c) jx_F rm (upd inRest 0 (-1)) (by omega) (by omega) e1 (fun _ => pk_us) with ⟨A, rm', ir', b1, b2, b3, b4, b5⟩ | ⟨b1, f', rm', ir', b2, b3, b4, b5⟩
  · exact ⟨1, rm', ir', b3, Or.inl ⟨rfl, pg_ok_cong (fun j _ => hfr j) (fun _ _ => rfl) b1, A, b2, fun j hj hb => (b4 j (Nat.zero_le _) hj hb).2⟩⟩
  · obtain ⟨f2, rfl⟩ : ∃ z, f' = z + 1 := ⟨f' - 1, by omega⟩
    rw [b3, mi_X12_fits_l50, if_pos (show nI 0 + (-1) < (0 : Int32) by decide)]
    unfold mi_X12_fits_b269
    rw [if_pos (show nI 0 + (-1) < (0 : Int32) by decide)]
    exact ⟨0, rm', ir', rfl, Or.inr ⟨rfl, fun z => b1 (pg_ok_cong (fun j _ => (hfr j).symm) (fun _ _ => rfl) z)⟩⟩
end FT
