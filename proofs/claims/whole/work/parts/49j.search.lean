/-! the reference's search for a packing -/
def pg_T : Nat → Nat
  | 0 => 1
  | k + 1 => 1 + 8 * (1 + pg_T k)
theorem ev_m1 (i : Nat) : nI (i + 1) + (-1) = nI i := by
  rw [nI_succ, Int32.add_assoc, show (1 : Int32) + -1 = 0 by decide, Int32.add_zero]
def pg_Q (N : Nat) (R : Nat → Nat) (room : Nat → Int32) : Prop := (∀ q, q < N → room q = nI (R q)) ∧ (∀ q, R q ≤ 120) ∧ ∀ q, N ≤ q → R q = 0
section SE
variable {P : Nat → Nat → Nat} {told : Nat → Int32} {S : Nat}
theorem ev_scan (hP : rl_P P) (hT : rl_T P told) {i : Nat} (hi : i < pc_nt P) {K : Int32 → (Nat → Int32) → (Nat → Int32) → Option (Int32 × (Nat → Int32) × (Nat → Int32))} {R : Nat → Nat} {room inRest : Nat → Int32} (hQ : pg_Q (pc_N P) R room) : ∀ (n x : Nat), x ≤ pc_N P → pc_N P - x < n →
    (∃ q, x ≤ q ∧ q < pc_N P ∧ pc_M P i ≤ R q ∧ (∀ y, x ≤ y → y < q → ¬ pc_M P i ≤ R y) ∧ mi_X12_fits_l116 told K n (nI i) 1 (nI x) room inRest = mi_X12_fits_b156 told K (nI i) 1 (nI q) room inRest) ∨ ((∀ y, x ≤ y → y < pc_N P → ¬ pc_M P i ≤ R y) ∧ mi_X12_fits_l116 told K n (nI i) 1 (nI x) room inRest = mi_X12_fits_b156 told K (nI i) 1 (nI (pc_N P)) room inRest) := by
  have h8 := hP.1
  have h6 := hP.2.1
  have hMi := hP.2.2.2.1 i hi
  intro n
  induction n with
  | zero => intro x h1 h2; exact absurd h2 (Nat.not_lt_zero _)
  | succ n ih =>
    intro x h1 h2
    rw [mi_X12_fits_l116, if_neg ev_1ne0, ev_n0, hT.1]
    by_cases hx : x = pc_N P
    · rw [hx, if_pos (nI_le (Nat.le_refl _) (by omega))]
      exact Or.inr ⟨fun y h3 h4 => absurd h3 (by omega), rfl⟩
    · have hRx := hQ.2.1 x
      rw [if_neg (nI_ge (by omega) (by omega)), ev_g (ev_in (by omega) (by decide)), ev_a30, ev_g (ev_in (by omega) (by decide)), ev_cl (by omega), ev_cl (by omega), hT.2.2.2.1 i hi, hQ.1 x (by omega)]
      by_cases hm : pc_M P i ≤ R x
      · rw [if_pos (nI_le hm (by omega))]
        exact Or.inl ⟨x, Nat.le_refl _, by omega, hm, fun y h3 h4 => absurd h3 (by omega), rfl⟩
      · rw [if_neg (nI_ge (by omega) (by omega)), nI_1]
        rcases ih (x + 1) (by omega) (by omega) with ⟨q, a1, a2, a3, a4, a5⟩ | ⟨a1, a2⟩
        · exact Or.inl ⟨q, by omega, a2, a3, fun y h3 h4 => by
            by_cases hy : y = x
            · rw [hy]; exact hm
            · exact a4 y (by omega) h4, a5⟩
        · exact Or.inr ⟨fun y h3 h4 => by
            by_cases hy : y = x
            · rw [hy]; exact hm
            · exact a1 y (by omega) h4, a2⟩
/-- what is told of the search at thing i: it packs all from i on, or it goes back -/
def pg_G (P : Nat → Nat → Nat) (told : Nat → Int32) (S k i : Nat) (R : Nat → Nat) (inRest : Nat → Int32) (f c : Nat) (o : Option (Int32 × (Nat → Int32) × (Nat → Int32))) : Prop :=
  (∃ (A : Nat → Nat) (room' inRest' : Nat → Int32), pg_ok (pc_M P) (pg_fr S i) R ∧ pg_fp (pc_M P) S k i R A ∧ o = some (1, room', inRest') ∧ (∀ j, i ≤ j → j < pc_nt P → S.testBit j = true → A j < 8 ∧ inRest' j = nI (A j)) ∧ ∀ j, j < i → inRest' j = inRest j) ∨
  (¬ pg_ok (pc_M P) (pg_fr S i) R ∧ ∃ (f' : Nat) (room' inRest' : Nat → Int32), f ≤ f' + c ∧ o = mi_X12_fits_l50 told (nI S) f' (nI i + (-1)) room' inRest' ∧ pg_Q (pc_N P) R room' ∧ ∀ j, j < i → inRest' j = inRest j)
theorem ev_fwd (hP : rl_P P) (hT : rl_T P told) {i : Nat} (hi : i < pc_nt P) {K : Int32 → (Nat → Int32) → (Nat → Int32) → Option (Int32 × (Nat → Int32) × (Nat → Int32))} {room inRest : Nat → Int32} : ∃ ir, mi_X12_fits_b231 told K (nI i) 1 room inRest = K (nI (i + 1)) room ir ∧ (i + 1 < pc_nt P → ir (i + 1) = -1) ∧ ∀ j, j < i + 1 → ir j = inRest j := by
  have h6 := hP.2.1
  unfold mi_X12_fits_b231 mi_X12_fits_b242 mi_X12_fits_b266
  rw [if_neg ev_1ne0, if_neg ev_1ne0, nI_1, ev_n1, hT.2.1]
  by_cases h : i + 1 < pc_nt P
  · rw [if_neg (nI_ge h (by omega)), ev_g (ev_in (by omega) (by decide)), ev_cl (by omega)]
    exact ⟨_, rfl, fun _ => pk_us, fun j hj => pk_un (by omega)⟩
  · rw [if_pos (nI_le (by omega) (by omega))]
    exact ⟨inRest, rfl, fun z => absurd z h, fun j _ => rfl⟩
theorem ev_bwd {i : Nat} {K : Int32 → (Nat → Int32) → (Nat → Int32) → Option (Int32 × (Nat → Int32) × (Nat → Int32))} {room inRest : Nat → Int32} : mi_X12_fits_b231 told K (nI i) 0 room inRest = K (nI i + (-1)) room inRest := by
  unfold mi_X12_fits_b231 mi_X12_fits_b242 mi_X12_fits_b266
  rw [if_pos rfl, if_pos rfl]
theorem pg_Q_tk {N : Nat} {R : Nat → Nat} {room : Nat → Int32} (h : pg_Q N R room) {q m : Nat} (hq : q < N) (hm : m ≤ R q) : pg_Q N (pg_tk R q m) (upd room q (nI (R q) - nI m)) := by
  have h1 := h.2.1 q
  refine ⟨fun x hx => ?_, fun x => ?_, fun x hx => ?_⟩
  · unfold pg_tk
    by_cases hxq : x = q
    · rw [if_pos hxq, hxq, pk_us, ev_nsub (by omega) hm]
    · rw [if_neg hxq, pk_un hxq]; exact h.1 x hx
  · have h2 := h.2.1 x
    unfold pg_tk
    by_cases hxq : x = q
    · rw [if_pos hxq]; omega
    · rw [if_neg hxq]; exact h2
  · unfold pg_tk
    rw [if_neg (by omega)]
    exact h.2.2 x hx
theorem pg_Q_bk {N : Nat} {R : Nat → Nat} {room : Nat → Int32} {q m : Nat} (hq : q < N) (hm : m ≤ R q) (hb : ∀ x, R x ≤ 120) (h : pg_Q N (pg_tk R q m) room) (h0 : ∀ x, N ≤ x → R x = 0) : pg_Q N R (upd room q (room q + nI m)) := by
  refine ⟨fun x hx => ?_, hb, h0⟩
  have h1 := h.1 x hx
  unfold pg_tk at h1
  by_cases hxq : x = q
  · rw [if_pos hxq] at h1
    rw [hxq] at h1
    rw [hxq, pk_us, h1, nI_add, Nat.sub_add_cancel hm]
  · rw [if_neg hxq] at h1
    rw [pk_un hxq]; exact h1
theorem ev_try (hP : rl_P P) (hT : rl_T P told) (hS : S < 2 ^ 31) {k i : Nat} (hi : i < pc_nt P) (hb : S.testBit i = true)
    (IH : ∀ (R : Nat → Nat) (f : Nat) (room inRest : Nat → Int32), pg_T k ≤ f → pg_Q (pc_N P) R room → (i + 1 < pc_nt P → inRest (i + 1) = -1) → pg_G P told S k (i + 1) R inRest f (pg_T k) (mi_X12_fits_l50 told (nI S) f (nI (i + 1)) room inRest)) :
    ∀ (d x : Nat) (R : Nat → Nat) (f : Nat) (room inRest : Nat → Int32), x + d = 8 → x ≤ pc_N P → d * (1 + pg_T k) ≤ f → pg_Q (pc_N P) R room → (∀ y, y < x → ¬ (pc_M P i ≤ R y ∧ pg_ok (pc_M P) (pg_rm (pg_fr S i) i) (pg_tk R y (pc_M P i)))) → pg_G P told S (k + 1) i R inRest f (d * (1 + pg_T k)) (mi_X12_fits_l116 told (mi_X12_fits_l50 told (nI S) f) jx_F (nI i) 1 (nI x) room inRest) := by
  have h8 := hP.1
  have h6 := hP.2.1
  have hMi := hP.2.2.2.1 i hi
  have hfr : pg_fr S i i = true := by unfold pg_fr; rw [decide_eq_true (Nat.le_refl _), hb]; rfl
  intro d
  induction d using Nat.strongRecOn with
  | _ d ih =>
    intro x R f room inRest hd hx hf hQ hno
    rcases ev_scan hP hT hi (K := mi_X12_fits_l50 told (nI S) f) (inRest := inRest) hQ jx_F x hx (by show pc_N P - x < 100000000; omega) with ⟨q, a1, a2, a3, a4, a5⟩ | ⟨a1, a2⟩
    · rw [a5]
      have hRq := hQ.2.1 q
      obtain ⟨e, he⟩ : ∃ e, 8 - q = e + 1 := ⟨7 - q, by omega⟩
      have hmul : (e + 1) * (1 + pg_T k) = e * (1 + pg_T k) + (1 + pg_T k) := Nat.succ_mul _ _
      have hmle : (e + 1) * (1 + pg_T k) ≤ d * (1 + pg_T k) := Nat.mul_le_mul_right _ (by omega)
      have hno2 : ∀ y, y < q → ¬ (pc_M P i ≤ R y ∧ pg_ok (pc_M P) (pg_rm (pg_fr S i) i) (pg_tk R y (pc_M P i))) := fun y hy => by
        by_cases hyx : y < x
        · exact hno y hyx
        · exact fun z => a4 y (by omega) hy z.1
      unfold mi_X12_fits_b156 mi_X12_fits_b193
      rw [if_neg ev_1ne0, ev_n0, hT.1, if_neg (nI_ge a2 (by omega)), ev_g (ev_in (by omega) (by decide)), if_neg ev_1ne0, if_neg ev_1ne0, ev_g (ev_in (by omega) (by decide)), ev_a30, ev_g (ev_in (by omega) (by decide)), ev_g (ev_in (by omega) (by decide)), ev_cl (by omega), ev_cl (by omega), ev_cl (by omega), hT.2.2.2.1 i hi, hQ.1 q a2]
      obtain ⟨ir, r1, r2, r3⟩ := ev_fwd hP hT hi (K := mi_X12_fits_l50 told (nI S) f) (room := upd room q (nI (R q) - nI (pc_M P i))) (inRest := upd inRest i (nI q))
      rw [r1]
      rcases IH (pg_tk R q (pc_M P i)) f _ ir (by omega) (pg_Q_tk hQ a2 a3) r2 with ⟨A, rm', ir', b1, b2, b3, b4, b5⟩ | ⟨b1, f', rm', ir', b2, b3, b4, b5⟩
      · have hok : pg_ok (pc_M P) (pg_rm (pg_fr S i) i) (pg_tk R q (pc_M P i)) := pg_ok_cong (fun j _ => (pg_fr_rm j).symm) (fun _ _ => rfl) b1
        refine Or.inl ⟨fun j => if j = i then q else A j, rm', ir', (pg_ok_take (by omega) hfr).mpr ⟨q, by omega, a3, hok⟩, ?_, b3, ?_, ?_⟩
        · rw [pg_fp, if_pos hb]
          simp only [if_pos]
          refine ⟨⟨by omega, ⟨a3, hok⟩, hno2⟩, pg_fp_cong (fun j hj => ?_) b2⟩
          rw [if_neg (by omega)]
        · intro j hj1 hj2 hj3
          show (if j = i then q else A j) < 8 ∧ ir' j = nI (if j = i then q else A j)
          by_cases hji : j = i
          · refine ⟨by rw [if_pos hji]; omega, ?_⟩
            rw [if_pos hji, hji, b5 i (by omega), r3 i (by omega), pk_us]
          · rw [if_neg hji]
            exact b4 j (by omega) hj2 hj3
        · intro j hj
          rw [b5 j (by omega), r3 j (by omega), pk_un (by omega)]
      · rw [b3, ev_m1]
        obtain ⟨f2, rfl⟩ : ∃ z, f' = z + 1 := ⟨f' - 1, by omega⟩
        have hirq : ir' i = nI q := by rw [b5 i (by omega), r3 i (by omega), pk_us]
        have hQ2 : pg_Q (pc_N P) R (upd rm' q (rm' q + nI (pc_M P i))) := pg_Q_bk a2 a3 hQ.2.1 b4 hQ.2.2
        rw [mi_X12_fits_l50, if_neg (nI_pos (by omega)), ev_n1, hT.2.1, if_neg (nI_ge hi (by omega)), jx_b1_eq (ev_has hS (by omega)), hb, if_neg ev_bt0, ev_g (ev_in (by omega) (by decide)), ev_cl (by omega), hirq, if_neg (nI_pos (by omega)), ev_g (ev_in (by omega) (by decide)), ev_g (ev_in (by omega) (by decide)), ev_a30, ev_g (ev_in (by omega) (by decide)), ev_g (ev_in (by omega) (by decide)), ev_cl (by omega), ev_cl (by omega), hT.2.2.2.1 i hi]
        unfold mi_X12_fits_b106
        rw [ev_g (ev_in (by omega) (by decide)), ev_cl (by omega), hirq, nI_1]
        have hnoq : ¬ (pc_M P i ≤ R q ∧ pg_ok (pc_M P) (pg_rm (pg_fr S i) i) (pg_tk R q (pc_M P i))) := fun z => b1 (pg_ok_cong (fun j _ => pg_fr_rm j) (fun _ _ => rfl) z.2)
        have hgo := ih e (by omega) (q + 1) R f2 _ ir' (by omega) (by omega) (by omega) hQ2 (fun y hy => by
          by_cases hyq : y = q
          · rw [hyq]; exact hnoq
          · exact hno2 y (by omega))
        have hirj : ∀ j, j < i → ir' j = inRest j := fun j hj => by rw [b5 j (by omega), r3 j (by omega), pk_un (by omega)]
        rcases hgo with ⟨A, rm2, ir2, c1, c2, c3, c4, c5⟩ | ⟨c1, f3, rm2, ir2, c2, c3, c4, c5⟩
        · exact Or.inl ⟨A, rm2, ir2, c1, c2, c3, c4, fun j hj => (c5 j hj).trans (hirj j hj)⟩
        · exact Or.inr ⟨c1, f3, rm2, ir2, by omega, c3, c4, fun j hj => (c5 j hj).trans (hirj j hj)⟩
    · rw [a2]
      unfold mi_X12_fits_b156 mi_X12_fits_b193
      rw [if_neg ev_1ne0, ev_n0, hT.1, if_pos (nI_le (Nat.le_refl _) (by omega)), ev_g (ev_in (by omega) (by decide)), if_pos rfl, ev_bwd, ev_cl (by omega)]
      refine Or.inr ⟨fun z => ?_, f, room, _, by omega, rfl, hQ, fun j hj => pk_un (by omega)⟩
      obtain ⟨q, q1, q2, q3⟩ := (pg_ok_take (by omega) hfr).mp z
      by_cases hqx : q < x
      · exact hno q hqx ⟨q2, q3⟩
      · by_cases hqN : q < pc_N P
        · exact a1 q (by omega) hqN q2
        · have := hQ.2.2 q (by omega)
          omega
theorem ev_dfs (hP : rl_P P) (hT : rl_T P told) (hS : S < 2 ^ pc_nt P) : ∀ (k i : Nat) (R : Nat → Nat) (f : Nat) (room inRest : Nat → Int32), i + k = pc_nt P → pg_T k ≤ f → pg_Q (pc_N P) R room → (i < pc_nt P → inRest i = -1) → pg_G P told S k i R inRest f (pg_T k) (mi_X12_fits_l50 told (nI S) f (nI i) room inRest) := by
  have h8 := hP.1
  have h6 := hP.2.1
  have hpow : 2 ^ pc_nt P ≤ 2 ^ 6 := Nat.pow_le_pow_right (by omega) h6
  have hS31 : S < 2 ^ 31 := by omega
  intro k
  induction k with
  | zero =>
    intro i R f room inRest hk hf hQ hir
    have hi : i = pc_nt P := by omega
    have hT0 : pg_T 0 = 1 := rfl
    obtain ⟨f, rfl⟩ : ∃ z, f = z + 1 := ⟨f - 1, by omega⟩
    rw [mi_X12_fits_l50, if_neg (nI_pos (by omega)), ev_n1, hT.2.1, if_pos (nI_le (by omega) (by omega))]
    unfold mi_X12_fits_b269
    rw [if_neg (nI_pos (by omega))]
    refine Or.inl ⟨fun _ => 0, room, inRest, pg_ok_none (fun j hj => ?_), trivial, rfl, fun j h1 h2 => absurd h2 (by omega), fun j _ => rfl⟩
    unfold pg_fr
    by_cases hij : i ≤ j
    · rw [Nat.testBit_lt_two_pow (Nat.lt_of_lt_of_le hS (Nat.pow_le_pow_right (by omega) (by omega))), Bool.and_false]
    · rw [decide_eq_false hij, Bool.false_and]
  | succ k IH =>
    intro i R f room inRest hk hf hQ hir
    have hi : i < pc_nt P := by omega
    have hTk : pg_T (k + 1) = 1 + 8 * (1 + pg_T k) := rfl
    obtain ⟨f, rfl⟩ : ∃ z, f = z + 1 := ⟨f - 1, by omega⟩
    rw [mi_X12_fits_l50, if_neg (nI_pos (by omega)), ev_n1, hT.2.1, if_neg (nI_ge hi (by omega)), jx_b1_eq (ev_has hS31 (by omega))]
    cases hb : S.testBit i with
    | true =>
      rw [if_neg ev_bt0, ev_g (ev_in (by omega) (by decide)), ev_cl (by omega), hir hi, if_pos (show (-1 : Int32) < 0 by decide)]
      unfold mi_X12_fits_b106
      rw [ev_g (ev_in (by omega) (by decide)), ev_cl (by omega), hir hi]
      have hgo := ev_try hP hT hS31 hi hb (fun R f room inRest h1 h2 h3 => IH (i + 1) R f room inRest (by omega) h1 h2 h3) 8 0 R f room inRest (by omega) (by omega) (by omega) hQ (fun y hy => absurd hy (Nat.not_lt_zero y))
      rcases hgo with hgo | ⟨c1, f3, rm2, ir2, c2, c3, c4, c5⟩
      · exact Or.inl hgo
      · exact Or.inr ⟨c1, f3, rm2, ir2, by omega, c3, c4, c5⟩
    | false =>
      have step : ∀ (g : Nat) (rm ir : Nat → Int32) (y : Int32), (if (0 : Int32) ≤ ir i then (0 : Int32) else 1) = y → mi_X12_fits_b106 told (mi_X12_fits_l50 told (nI S) g) (nI i) (ev_b false) rm ir = mi_X12_fits_b231 told (mi_X12_fits_l50 told (nI S) g) (nI i) y rm (upd ir i (ir i + 1)) := fun g rm ir y hy => by
        obtain ⟨F, hF⟩ := ev_fuel (n := 1) (by omega)
        have hF2 : jx_F = F + 1 := by omega
        unfold mi_X12_fits_b106
        rw [ev_g (ev_in (by omega) (by decide)), ev_cl (by omega), hF2, mi_X12_fits_l116, if_pos ev_bf]
        unfold mi_X12_fits_b156
        rw [if_pos ev_bf, ev_g (ev_in (by omega) (by decide)), ev_cl (by omega)]
        unfold mi_X12_fits_b193
        by_cases h0 : (0 : Int32) ≤ ir i
        · rw [if_pos h0] at hy
          rw [if_pos h0, ev_g (ev_in (by omega) (by decide)), if_pos rfl, ev_cl (by omega), hy]
        · rw [if_neg h0] at hy
          rw [if_neg h0, ev_g (ev_in (by omega) (by decide)), if_neg ev_1ne0, if_pos ev_bf, ev_cl (by omega), hy]
      rw [if_pos ev_bf, step f room inRest 1 (by rw [hir hi]; decide)]
      obtain ⟨ir, r1, r2, r3⟩ := ev_fwd hP hT hi (K := mi_X12_fits_l50 told (nI S) f) (room := room) (inRest := upd inRest i (inRest i + 1))
      rw [r1]
      rcases IH (i + 1) R f room ir (by omega) (by omega) hQ r2 with ⟨A, rm', ir', b1, b2, b3, b4, b5⟩ | ⟨b1, f', rm', ir', b2, b3, b4, b5⟩
      · refine Or.inl ⟨A, rm', ir', pg_ok_cong (fun j _ => (pg_fr_skip hb j).symm) (fun _ _ => rfl) b1, ?_, b3, fun j h1 h2 h3 => ?_, fun j hj => ?_⟩
        · rw [pg_fp, if_neg (by rw [hb]; decide)]
          exact b2
        · by_cases hji : j = i
          · rw [hji, hb] at h3; exact absurd h3 (by decide)
          · exact b4 j (by omega) h2 h3
        · rw [b5 j (by omega), r3 j (by omega), pk_un (by omega)]
      · have hiri : ir' i = 0 := by rw [b5 i (by omega), r3 i (by omega), pk_us, hir hi]; decide
        obtain ⟨f2, rfl⟩ : ∃ z, f' = z + 1 := ⟨f' - 1, by omega⟩
        rw [b3, ev_m1, mi_X12_fits_l50, if_neg (nI_pos (by omega)), ev_n1, hT.2.1, if_neg (nI_ge hi (by omega)), jx_b1_eq (ev_has hS31 (by omega)), hb, if_pos ev_bf, step f2 rm' ir' 0 (by rw [hiri]; decide), ev_bwd]
        refine Or.inr ⟨fun z => b1 (pg_ok_cong (fun j _ => pg_fr_skip hb j) (fun _ _ => rfl) z), f2, rm', _, by omega, rfl, b4, fun j hj => ?_⟩
        rw [pk_un (by omega), b5 j (by omega), r3 j (by omega), pk_un (by omega)]
end SE
