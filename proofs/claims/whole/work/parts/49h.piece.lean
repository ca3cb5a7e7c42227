/-! a piece told: from nothing, and taken over -/
theorem ev_reads_l2 {n : Nat} {T : Nat → Int32} : ∀ (f i : Nat) (D : Nat → Int32) (aw so st va : Int32), i ≤ 36 → 36 - i < f → (∀ q, q < i → D q = 0) → ∃ D0, (∀ q, q < 36 → D0 q = 0) ∧ mi_X12_reads_l2 (nI n) T f (nI i) aw so st va D = jx_b4 (mi_X12_token (nI n) 0 so st va T) fun a b c d => mi_X12_reads_l30 (nI n) T jx_F a b c d D0 := by
  intro f
  induction f with
  | zero => intro i D aw so st va h1 h2; exact absurd h2 (Nat.not_lt_zero _)
  | succ f ih =>
    intro i D aw so st va h1 h2 h3
    rw [mi_X12_reads_l2]
    by_cases hi : i = 36
    · subst hi
      rw [if_pos (show (36 : Int32) ≤ nI 36 from by decide)]
      exact ⟨D, h3, rfl⟩
    · rw [if_neg (show ¬ (36 : Int32) ≤ nI i from nI_ge (b := 36) (by omega) (by omega)), ev_g (ev_in (by omega) (by decide)), ev_cl (by omega), nI_1]
      exact ih (i + 1) _ aw so st va (by omega) (by omega) (fun q hq => by
        by_cases hqi : q = i
        · rw [hqi, pk_us]
        · rw [pk_un hqi]; exact h3 q (by omega))
theorem ev_begins_l61 : ∀ (f i : Nat) (noted : Int32) (told s kept : Nat → Int32), i ≤ 56 → 56 - i < f → (∀ q, q < i → s q = 0) → ∃ s', (∀ q, q < 56 → s' q = 0) ∧ mi_X12_begins_l61 f (nI i) noted told s kept = some (0, told, s', upd (upd kept 0 0) 1 0) := by
  intro f
  induction f with
  | zero => intro i noted told s kept h1 h2; exact absurd h2 (Nat.not_lt_zero _)
  | succ f ih =>
    intro i noted told s kept h1 h2 h3
    rw [mi_X12_begins_l61]
    by_cases hi : i = 56
    · subst hi
      rw [if_pos (show (56 : Int32) ≤ nI 56 from by decide), ev_n0, ev_n1]
      exact ⟨s, h3, rfl⟩
    · rw [if_neg (show ¬ (56 : Int32) ≤ nI i from nI_ge (b := 56) (by omega) (by omega)), ev_g (ev_in (by omega) (by decide)), ev_cl (by omega), nI_1]
      exact ih (i + 1) noted told _ kept (by omega) (by omega) (fun q hq => by
        by_cases hqi : q = i
        · rw [hqi, pk_us]
        · rw [pk_un hqi]; exact h3 q (by omega))
theorem ev_begins_l2 {D : Nat → Int32} : ∀ (f i : Nat) (noted : Int32) (told s kept : Nat → Int32), i ≤ 36 → 36 - i < f → (∀ q, q < i → told q = D q) → ∃ told' s', (∀ q, q < 36 → q ≠ 4 → told' q = D q) ∧ told' 4 = (if D 3 = 1 then D 4 else D 0 - 1) ∧ (∀ q, q < 56 → s' q = 0) ∧ mi_X12_begins_l2 D f (nI i) noted told s kept = some (0, told', s', upd (upd kept 0 0) 1 0) := by
  intro f
  induction f with
  | zero => intro i noted told s kept h1 h2; exact absurd h2 (Nat.not_lt_zero _)
  | succ f ih =>
    intro i noted told s kept h1 h2 h3
    rw [mi_X12_begins_l2]
    by_cases hi : i = 36
    · subst hi
      rw [if_pos (show (36 : Int32) ≤ nI 36 from by decide), ev_n3, ev_n4, ev_n0]
      unfold mi_X12_begins_b58
      rw [ev_g (show jx_in 4 36 = true from by decide), ev_g (show jx_in 4 36 = true from by decide), ev_n4, h3 3 (by omega), h3 4 (by omega), h3 0 (by omega)]
      by_cases hd : D 3 = 1
      · obtain ⟨s', e1, e2⟩ := ev_begins_l61 jx_F 0 noted (upd told 4 (D 4)) s kept (by omega) (by show 56 - 0 < 100000000; omega) (fun q hq => absurd hq (Nat.not_lt_zero q))
        exact ⟨upd told 4 (D 4), s', fun q hq hq4 => by rw [pk_un hq4]; exact h3 q hq, by rw [pk_us, if_pos hd], e1, (if_pos hd).trans e2⟩
      · obtain ⟨s', e1, e2⟩ := ev_begins_l61 jx_F 0 noted (upd told 4 (D 0 - 1)) s kept (by omega) (by show 56 - 0 < 100000000; omega) (fun q hq => absurd hq (Nat.not_lt_zero q))
        exact ⟨upd told 4 (D 0 - 1), s', fun q hq hq4 => by rw [pk_un hq4]; exact h3 q hq, by rw [pk_us, if_neg hd], e1, (if_neg hd).trans e2⟩
    · rw [if_neg (show ¬ (36 : Int32) ≤ nI i from nI_ge (b := 36) (by omega) (by omega)), ev_g (ev_in (by omega) (by decide)), ev_g (ev_in (by omega) (by decide)), ev_cl (by omega), nI_1]
      exact ih (i + 1) noted _ s kept (by omega) (by omega) (fun q hq => by
        by_cases hqi : q = i
        · rw [hqi, pk_us]
        · rw [pk_un hqi]; exact h3 q (by omega))
theorem ev_begins (noted : Int32) (told D s kept : Nat → Int32) : ∃ told' s', (∀ q, q < 36 → q ≠ 4 → told' q = D q) ∧ told' 4 = (if D 3 = 1 then D 4 else D 0 - 1) ∧ (∀ q, q < 56 → s' q = 0) ∧ mi_X12_begins noted told D s kept = some (0, told', s', upd (upd kept 0 0) 1 0) := by
  exact ev_begins_l2 jx_F 0 noted told s kept (by omega) (by show 36 - 0 < 100000000; omega) (fun q hq => absurd hq (Nat.not_lt_zero q))
theorem rl_D_0 {l1 l2 l3 l4 D : Nat → Int32} (h : ∀ q, q < 36 → D q = 0) : rl_D (fun _ _ => 0) 0 0 0 0 0 0 l1 l2 l3 l4 D := by
  refine ⟨⟨by decide, by decide, fun q hq => absurd hq (Nat.not_lt_zero q), fun q hq => absurd hq (Nat.not_lt_zero q), fun hz => absurd hz (Nat.lt_irrefl 0)⟩, ⟨rfl, rfl, fun q hq => absurd hq (Nat.not_lt_zero q), fun q hq => absurd hq (Nat.not_lt_zero q), rfl, Or.inl ⟨rfl, rfl⟩⟩, h 0 (by omega), h 1 (by omega), h 2 (by omega), fun q hq => absurd hq (Nat.not_lt_zero q), fun q hq => absurd hq (Nat.not_lt_zero q), h 5 (by omega), Or.inl ⟨rfl, h 3 (by omega), rfl, Nat.le_refl _⟩⟩
theorem ev_readsAll {n : Nat} {T : Nat → Int32} (hY : rl_Y n T) (tA tI tV : Int32) (d1 d2 d3 d4 : Nat → Int32) (aw0 so0 st0 va0 : Int32) (D : Nat → Int32) :
    ∃ (x2 fl nx ta ti tv a1 a2 a3 a4 a5 : Int32) (l1 l2 l3 l4 : Nat → Int32) (q aw so st va : Int32) (D' : Nat → Int32), mi_X8_tellTo (nI n) tA tI tV T d1 d2 d3 d4 = some (x2, fl, nx, ta, ti, tv, a1, a2, a3, a4, a5, l1, l2, l3, l4) ∧ mi_X12_reads (nI n) aw0 so0 st0 va0 T D = some (q, aw, so, st, va, D') ∧ ((fl = -1 ∧ q = 1 ∧ ∃ P' j', x2 = nI j' ∧ rl_D P' j' a1 a2 a3 a4 a5 l1 l2 l3 l4 D') ∨ (∃ fa : Nat, fa ≤ n ∧ fl = nI fa ∧ q = 0 ∧ st = nI fa)) := by
  obtain ⟨D0, z1, z2⟩ := ev_reads_l2 (n := n) (T := T) jx_F 0 D aw0 so0 st0 va0 (by omega) (by show 36 - 0 < 100000000; omega) (fun q hq => absurd hq (Nat.not_lt_zero q))
  obtain ⟨b, s, K, V, S, W, h1, h2, h3, h4, h5⟩ := ev_tok hY (Nat.zero_le n) tA tI tV so0 st0 va0
  have hg := ev_tell hY jx_F jx_F (fun _ _ => 0) 0 b s K V S W 0 0 0 0 0 d1 d2 d3 d4 D0 (rl_D_0 z1) h1 h2 h5 (by show 16 - 0 < 100000000; omega) (by show 16 - 0 < 100000000; omega)
  obtain ⟨x2, fl, nx, ta, ti, tv, a1, a2, a3, a4, a5, l1, l2, l3, l4, q, aw, so, st, va, D', g1, g2, g3⟩ := hg
  refine ⟨x2, fl, nx, ta, ti, tv, a1, a2, a3, a4, a5, l1, l2, l3, l4, q, aw, so, st, va, D', ?_, ?_, g3⟩
  · unfold mi_X8_tellTo mi_X6_begin
    have h3 : mi_X8_readToken (nI n) 0 tA tI tV T = some (nI b, nI s, K, V) := h3
    rw [jx_b5_eq rfl, jx_b4_eq h3]
    exact g1
  · unfold mi_X12_reads
    have z2 : mi_X12_reads_l2 (nI n) T jx_F 0 aw0 so0 st0 va0 D = _ := z2
    have h4 : mi_X12_token (nI n) 0 so0 st0 va0 T = some (nI b, S, nI s, W) := h4
    rw [z2, jx_b4_eq h4]
    exact g2
theorem ev_tok0 {T : Nat → Int32} (so st va : Int32) : mi_X12_token (nI 0) 0 so st va T = some (0, 0, 0, -1) := by
  have hB : mi_X12_byteAt (nI 0) T 0 = some (-1) := by
    unfold mi_X12_byteAt
    rw [if_pos (by decide)]
  obtain ⟨F, hF⟩ := ev_fuel (n := 1) (by omega)
  have hF2 : jx_F = F + 1 := by omega
  unfold mi_X12_token
  rw [hF2, mi_X12_token_l0, jx_b1_eq hB, if_neg (by decide), jx_b1_eq hB, if_neg (by decide)]
  unfold mi_X12_token_b85 mi_X12_token_b110
  rw [if_pos rfl, hF2, mi_X12_token_l114, if_neg (by decide)]
  unfold mi_X12_token_b154
  rw [if_neg (by decide)]
  rfl
theorem rl_T_of {P : Nat → Nat → Nat} {j : Nat} {sections things noteTold toldSection toldBar : Int32} {lengths times players minutes D told : Nat → Int32} (h : rl_D P j sections things noteTold toldSection toldBar lengths times players minutes D) (h1 : ∀ q, q < 36 → q ≠ 4 → told q = D q) (h4 : told 4 = (if D 3 = 1 then D 4 else D 0 - 1)) : rl_T P told := by
  obtain ⟨hP, hS, d0, d1, d2, d6, d30, d5, d3⟩ := h
  have h8 := hP.1
  have h6 := hP.2.1
  refine ⟨by rw [h1 0 (by omega) (by omega), d0], by rw [h1 1 (by omega) (by omega), d1], fun q hq => ?_, fun q hq => ?_, by rw [h1 5 (by omega) (by omega), d5], fun hN => ?_⟩
  · obtain ⟨k1, k2, k3⟩ := d6 q hq
    exact ⟨by rw [h1 _ (by omega) (by omega), k1], by rw [h1 _ (by omega) (by omega), k2], by rw [h1 _ (by omega) (by omega), k3]⟩
  · rw [h1 _ (by omega) (by omega), d30 q hq]
  · rcases d3 with ⟨n4, n5, n6, n7⟩ | ⟨n4, n5, n6, n7, n8⟩
    · rw [h4, n5, if_neg (by decide), d0]
      rcases hS.2.2.2.2.2 with ⟨-, z⟩ | ⟨z, -⟩
      · rw [z]
        exact ev_nsub (b := 1) (by omega) (by omega)
      · rw [n4] at z; exact absurd z (by decide)
    · rw [h4, n5, if_pos rfl, n6]
theorem rl_C_0 {N k : Nat} {past s : Nat → Int32} (h : ∀ q, q < 56 → s q = 0) : rl_C N k 0 0 0 0 0 0 past s := by
  have h0 : (0 : Int32).toInt = 0 := by decide
  refine ⟨⟨0, 0, 0, rfl, by omega, rfl, by omega, rfl, Nat.two_pow_pos N, Or.inl rfl, by rw [h0]; omega, by rw [h0]; omega⟩, h 0 (by omega), h 1 (by omega), h 2 (by omega), h 3 (by omega), h 4 (by omega), h 5 (by omega), 0, rfl, by omega, fun j hj => absurd hj (Nat.not_lt_zero j), fun i hi => absurd hi (by omega)⟩
theorem rl_S_cpy {P : Nat → Nat → Nat} {sections things noteTold toldSection toldBar : Int32} {l1 l2 l3 l4 t1 t2 t3 t4 : Nat → Int32} (hP : rl_P P) (h : rl_S P sections things noteTold toldSection toldBar l1 l2 l3 l4) : rl_S P sections things noteTold toldSection toldBar (va_cpy l1 t1 0 0 8) (va_cpy l2 t2 0 0 8) (va_cpy l3 t3 0 0 8) (va_cpy l4 t4 0 0 6) := by
  obtain ⟨s1, s2, s3, s4, s5, s6⟩ := h
  have h8 := hP.1
  have h6 := hP.2.1
  have hc : ∀ (l t : Nat → Int32) (m i : Nat), i < m → va_cpy l t 0 0 m i = l i := fun l t m i hi => by
    rw [pk_cpy_in (by omega) (by omega)]
    exact congrArg l (by omega)
  refine ⟨s1, s2, fun q hq => ?_, fun q hq => ?_, s5, s6⟩
  · rw [hc _ _ _ _ (by omega), hc _ _ _ _ (by omega), hc _ _ _ _ (by omega)]
    exact s3 q hq
  · rw [hc _ _ _ _ (by omega)]
    exact s4 q hq
