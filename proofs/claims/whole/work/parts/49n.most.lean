/-! the most things, and where each goes -/
section MO
variable {P : Nat → Nat → Nat} {sections things noteTold toldSection toldBar : Int32} {lengths times players minutes : Nat → Int32} {told s : Nat → Int32}
theorem pg_sm_M {M M' : Nat → Nat} {p : Nat → Bool} : ∀ {n : Nat}, (∀ i, i < n → p i = true → M i = M' i) → pg_sm M p n = pg_sm M' p n
  | 0, _ => rfl
  | n + 1, h => by
    rw [pg_sm, pg_sm, pg_sm_M (fun i hi => h i (by omega))]
    cases hb : p n
    · rfl
    · rw [h n (by omega) hb]
theorem pg_ok_M {M M' : Nat → Nat} {s : Nat → Bool} {R : Nat → Nat} (h : ∀ i, i < 6 → s i = true → M i = M' i) (hk : pg_ok M s R) : pg_ok M' s R := by
  obtain ⟨A, h1, h2⟩ := hk
  refine ⟨A, h1, fun q hq => ?_⟩
  rw [← pg_sm_M (M := M) (fun i hi hb => h i hi (by rw [Bool.and_eq_true] at hb; exact hb.1))]
  exact h2 q hq
theorem pg_bit {S n i : Nat} (hS : S < 2 ^ n) (h : S.testBit i = true) : i < n := by
  by_cases hi : i < n
  · exact hi
  · rw [Nat.testBit_lt_two_pow (Nat.lt_of_lt_of_le hS (Nat.pow_le_pow_right (by omega) (by omega)))] at h
    exact absurd h (by decide)
theorem sp_Mx_in {i : Nat} (h : i < pc_nt P) : sp_Mx P i = pc_M P i := by unfold sp_Mx; rw [if_pos h]
theorem ev_rest_l10 (hP : rl_P P) (hS : rl_S P sections things noteTold toldSection toldBar lengths times players minutes) {sm : Nat → Int32} (hsm : pg_SM P sm) {B p : Nat} (hB : B < 2 ^ pc_nt P) (hp : p < pc_nt P) {A : Nat → Nat} : ∀ (n i k Bi : Nat) (x5 : Int32) (R : Nat → Nat) (rooms fits : Nat → Int32), i ≤ p → p - i + 1 < n → i + k = pc_nt P → Bi < 64 → (∀ j, j < 6 → Bi.testBit j = pg_fr B i j) → pg_RM R rooms → pg_fp (pc_M P) B k i R A →
    ∃ rooms' fits', mi_X4_restOf_l10 sm things minutes (nI p) (nI B) n (nI Bi) x5 (nI i) rooms fits = some (if B.testBit p then nI (A p) else -9, rooms', fits') := by
  have h6 := hP.2.1
  have hpow : 2 ^ pc_nt P ≤ 2 ^ 6 := Nat.pow_le_pow_right (by omega) h6
  intro n
  induction n with
  | zero => intro i k Bi x5 R rooms fits h1 h2; exact absurd h2 (Nat.not_lt_zero _)
  | succ n ih =>
    intro i k Bi x5 R rooms fits h1 h2 h3 h4 h5 h7 h8
    obtain ⟨k, rfl⟩ : ∃ z, k = z + 1 := ⟨k - 1, by omega⟩
    obtain ⟨n, rfl⟩ : ∃ z, n = z + 1 := ⟨n - 1, by omega⟩
    rw [pg_fp] at h8
    rw [mi_X4_restOf_l10, if_neg (nI_nlt (by omega) (by omega)), jx_b1_eq (ev_isIn (by omega) (by omega))]
    unfold mi_X4_restOf_b54
    have stop : ∀ (y z : Int32) (rm ft : Nat → Int32), i = p → mi_X4_restOf_l10 sm things minutes (nI p) (nI B) (n + 1) z y (nI i + 1) rm ft = some (y, rm, ft) := fun y z rm ft hip => by
      rw [mi_X4_restOf_l10, nI_1, if_pos (nI_lt (by omega) (by omega))]
    cases hb : B.testBit i with
    | false =>
      rw [if_pos ev_bf]
      by_cases hip : i = p
      · rw [stop _ _ _ _ hip, ← hip, hb, if_neg (by decide)]
        exact ⟨rooms, fits, rfl⟩
      · rw [hb, if_neg (by decide)] at h8
        rw [nI_1]
        exact ih (i + 1) k Bi _ R rooms fits (by omega) (by omega) (by omega) h4 (fun j hj => by rw [h5 j hj, pg_fr_skip hb]) h7 h8
    | true =>
      have hi : i < pc_nt P := by omega
      have hMi := hP.2.2.2.1 i hi
      have hBi : Bi.testBit i = true := by
        rw [h5 i (by omega)]
        unfold pg_fr
        rw [decide_eq_true (Nat.le_refl _), hb]; rfl
      have h2i : 2 ^ i < 64 := Nat.pow_lt_pow_right (a := 2) (m := i) (n := 6) (by omega) (by omega)
      have hsub : 2 ^ i &&& Bi = 2 ^ i := pg_sub h2i (fun j _ hj => by
        rw [Nat.testBit_two_pow, decide_eq_true_eq] at hj
        rw [← hj]; exact hBi)
      have hB' : ∀ j, j < 6 → (Bi ^^^ 2 ^ i).testBit j = pg_fr B (i + 1) j := fun j hj => by
        rw [Nat.testBit_xor, h5 j hj, Nat.testBit_two_pow]
        unfold pg_fr
        by_cases hji : i = j
        · rw [decide_eq_true hji, decide_eq_true (show i ≤ j by omega), decide_eq_false (show ¬ i + 1 ≤ j by omega), ← hji, hb]; rfl
        · rw [decide_eq_false hji, Bool.xor_false]
          by_cases hij : i ≤ j
          · rw [decide_eq_true hij, decide_eq_true (show i + 1 ≤ j by omega)]
          · rw [decide_eq_false hij, decide_eq_false (show ¬ i + 1 ≤ j by omega)]
      rw [hb, if_pos rfl] at h8
      obtain ⟨⟨w1, w2, w3⟩, w4⟩ := h8
      have conv : ∀ R', pg_ok (sp_Mx P) (Bi ^^^ 2 ^ i).testBit R' ↔ pg_ok (pc_M P) (pg_rm (pg_fr B i) i) R' := fun R' => by
        have hin : ∀ j, j < 6 → (Bi ^^^ 2 ^ i).testBit j = true → j < pc_nt P := fun j hj hjb => by
          rw [hB' j hj] at hjb
          unfold pg_fr at hjb
          rw [Bool.and_eq_true] at hjb
          exact pg_bit hB hjb.2
        constructor
        · intro z
          exact pg_ok_cong (fun j hj => by rw [hB' j hj, pg_fr_rm]) (fun _ _ => rfl) (pg_ok_M (fun j hj hjb => sp_Mx_in (hin j hj hjb)) z)
        · intro z
          exact pg_ok_M (fun j hj hjb => (sp_Mx_in (hin j hj hjb)).symm) (pg_ok_cong (fun j hj => by rw [hB' j hj, pg_fr_rm]) (fun _ _ => rfl) z)
      obtain ⟨q, rm, ft, t1, t2, t3, t4, t5⟩ := ev_take_l2 hP hsm (L := Bi ^^^ 2 ^ i) (m := pc_M P i) (pg_xor_lt h2i h4) hMi.2 (R := R) ⟨A i, w1, w2.1, (conv _).mpr w2.2⟩ jx_F 0 rooms fits (by omega) (by show 8 - 0 < 100000000; omega) h7 (fun y hy => absurd hy (Nat.not_lt_zero y))
      have hq : q = A i := by
        rcases Nat.lt_trichotomy q (A i) with h | h | h
        · exact absurd ⟨t3.1, (conv _).mp t3.2⟩ (w3 q h)
        · exact h
        · exact absurd ⟨w2.1, (conv _).mpr w2.2⟩ (t4 (A i) h)
      have ht : mi_X4_takeLowestRoom rooms sm fits (nI (pc_M P i)) (nI (Bi ^^^ 2 ^ i)) = some (nI q, rm, ft) := t1
      have hmin := ev_minutesOf hP hS hi
      rw [if_neg ev_bt0, jx_b1_eq hmin, ev_pow (by omega), ev_xr Bi h4 (2 ^ i) h2i hsub, jx_b3_eq ht]
      rw [hq] at t5 ⊢
      by_cases hip : i = p
      · rw [stop _ _ _ _ hip, ← hip, hb, if_pos rfl]
        exact ⟨rm, ft, rfl⟩
      · rw [nI_1]
        exact ih (i + 1) k _ _ _ rm ft (by omega) (by omega) (by omega) (pg_xor_lt h2i h4) hB' t5 w4
theorem ev_most (hP : rl_P P) (hT : rl_T P told) {c : Nat} (hc : c < 2 ^ 31) (h3 : s 3 = nI c) {p1 : Int32} {rooms sm fits : Nat → Int32} (hfit : ∀ S, S < 2 ^ pc_nt P → ∃ r, mi_X4_doesFit fits 0 (nI S) = some r ∧ pg_b r (pg_ok (pc_M P) S.testBit (sp_R P c))) : ∀ (n m x B0 : Nat) (room inRest : Nat → Int32), x ≤ 2 ^ pc_nt P → 2 ^ pc_nt P - x < n → 2 ^ pc_nt P - x < m → B0 < 2 ^ pc_nt P → pg_ok (pc_M P) B0.testBit (sp_R P c) →
    ∃ (B m' : Nat) (room' inRest' : Nat → Int32), B < 2 ^ pc_nt P ∧ pg_ok (pc_M P) B.testBit (sp_R P c) ∧ mi_X4_mostThings_l31 n (nI (2 ^ pc_nt P - 1)) (nI B0) (nI x) rooms sm fits = some (nI B, rooms, sm, fits) ∧ mi_X12_pack_l23 told s p1 m (nI B0) (nI x) room inRest = mi_X12_pack_l23 told s p1 (m' + 1) (nI B) (nI (2 ^ pc_nt P)) room' inRest' := by
  have h6 := hP.2.1
  have hpow : 2 ^ pc_nt P ≤ 2 ^ 6 := Nat.pow_le_pow_right (by omega) h6
  have hpos : 0 < 2 ^ pc_nt P := Nat.two_pow_pos _
  intro n
  induction n with
  | zero => intro m x B0 room inRest h1 h2; exact absurd h2 (Nat.not_lt_zero _)
  | succ n ih =>
    intro m x B0 room inRest h1 h2 h4 h5 h7
    obtain ⟨m, rfl⟩ : ∃ z, m = z + 1 := ⟨m - 1, by omega⟩
    by_cases hx : x = 2 ^ pc_nt P
    · refine ⟨B0, m, room, inRest, h5, h7, ?_, by rw [hx]⟩
      rw [mi_X4_mostThings_l31, if_pos (nI_lt (by omega) (by omega))]
    · have hpx := sp_pop_le x
      have hpb := sp_pop_le B0
      obtain ⟨r, r1, r2⟩ := hfit x (by omega)
      obtain ⟨r', rm, ir, e1, e2⟩ := ev_fitsM hP hT hc h3 (S := x) (by omega) room inRest
      rw [mi_X4_mostThings_l31, if_neg (nI_nlt (by omega) (by omega)), jx_b1_eq (ev_bitCount x (by omega)), jx_b1_eq (ev_bitCount B0 (by omega)), jx_b1_eq r1]
      rw [mi_X12_pack_l23, ev_n1, hT.2.1, ev_pow (by omega), if_neg (show ¬ nI (2 ^ pc_nt P) ≤ nI x from nI_ge (by omega) (by omega)), jx_b1_eq (ev_ones (x := x) (by omega)), jx_b1_eq (ev_ones (x := B0) (by omega)), jx_b3_eq e1]
      unfold mi_X4_mostThings_b64 mi_X12_pack_b58 mi_X12_pack_b59
      rw [nI_1]
      by_cases hle : sp_pop x ≤ sp_pop B0
      · rw [if_pos (nI_le hle (by omega)), if_pos (nI_le hle (by omega))]
        exact ih m (x + 1) B0 room inRest (by omega) (by omega) (by omega) h5 h7
      · rw [if_neg (nI_ge (by omega) (by omega)), if_neg (nI_ge (by omega) (by omega))]
        rcases r2 with ⟨q1, q2⟩ | ⟨q1, q2⟩
        · rcases e2 with ⟨s1, -⟩ | ⟨-, s2⟩
          · rw [q1, s1, if_neg ev_1ne0, if_neg ev_1ne0]
            exact ih m (x + 1) x rm ir (by omega) (by omega) (by omega) (by omega) q2
          · exact absurd q2 s2
        · rcases e2 with ⟨-, s2, -⟩ | ⟨s1, -⟩
          · exact absurd s2 q2
          · rw [q1, s1, if_pos rfl, if_pos rfl]
            exact ih m (x + 1) B0 rm ir (by omega) (by omega) (by omega) h5 h7
end MO
