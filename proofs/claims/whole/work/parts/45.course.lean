/-! what is kept to be undone, on both sides -/
theorem rl_E_struck {N k : Nat} {a b c d e : Int32} (h : rl_E N k a b c d e) : e = 0 ∨ e = 1 := by
  obtain ⟨_, _, _, -, -, -, -, -, -, h, -⟩ := h
  exact h
theorem ev_m5 (q : Nat) : nI q * (5 : Int32) = nI (5 * q) := by rw [show nI q * (5 : Int32) = nI (q * 5) from pk_mul q 5, Nat.mul_comm]
theorem ev_5m (q : Nat) : (5 : Int32) * nI q = nI (5 * q) := pk_mul 5 q
theorem ev_p (q : Nat) (n : Nat) : nI q + nI n = nI (q + n) := nI_add q n
theorem ev_p1 (q : Nat) : nI q + (1 : Int32) = nI (q + 1) := nI_add q 1
theorem ev_p2 (q : Nat) : nI q + (2 : Int32) = nI (q + 2) := nI_add q 2
theorem ev_p3 (q : Nat) : nI q + (3 : Int32) = nI (q + 3) := nI_add q 3
theorem ev_p4 (q : Nat) : nI q + (4 : Int32) = nI (q + 4) := nI_add q 4
theorem ev_p5 (q : Nat) : nI q + (5 : Int32) = nI (q + 5) := nI_add q 5
def sp_new (past : Nat → Int32) (kn : Nat) (b c w u s : Int32) : Nat → Int32 := upd (upd (upd (upd (upd past (5 * kn) b) (5 * kn + 1) c) (5 * kn + 2) w) (5 * kn + 3) u) (5 * kn + 4) s
theorem ev_remember_b30 {b c w u s : Int32} {past : Nat → Int32} {kn : Nat} (hk : kn ≤ 9) (hs : s = 0 ∨ s = 1) : mi_X2_remember_b30 b c w u s (nI kn) past = some (nI (kn + 1), sp_new past kn b c w u s) := by
  have ho : mi_X11_oneIf s = some s := by rcases hs with h | h <;> subst h <;> rfl
  unfold mi_X2_remember_b30
  rw [ev_m5, if_neg (nI_pos (by omega)), ev_p5, if_neg (show ¬ (50 : Int32) < nI (5 * kn + 5) from nI_nlt (a := 50) (by omega) (by omega)), ev_p1, ev_p2, ev_p3, ev_p4, ev_p1,
    ev_g (ev_in (by omega) (by decide)), ev_g (ev_in (by omega) (by decide)), ev_g (ev_in (by omega) (by decide)), ev_g (ev_in (by omega) (by decide)), jx_b1_eq ho, ev_g (ev_in (by omega) (by decide)),
    ev_cl (by omega), ev_cl (by omega), ev_cl (by omega), ev_cl (by omega), ev_cl (by omega)]
  rfl
theorem sp_new_old {past : Nat → Int32} {kn : Nat} {b c w u s : Int32} {i : Nat} (h : i < 5 * kn) : sp_new past kn b c w u s i = past i := by
  unfold sp_new
  rw [pk_un (by omega), pk_un (by omega), pk_un (by omega), pk_un (by omega), pk_un (by omega)]
theorem sp_new_0 {past : Nat → Int32} {kn : Nat} {b c w u s : Int32} : sp_new past kn b c w u s (5 * kn) = b := by
  unfold sp_new
  rw [pk_un (by omega), pk_un (by omega), pk_un (by omega), pk_un (by omega), pk_us]
theorem sp_new_1 {past : Nat → Int32} {kn : Nat} {b c w u s : Int32} : sp_new past kn b c w u s (5 * kn + 1) = c := by
  unfold sp_new
  rw [pk_un (by omega), pk_un (by omega), pk_un (by omega), pk_us]
theorem sp_new_2 {past : Nat → Int32} {kn : Nat} {b c w u s : Int32} : sp_new past kn b c w u s (5 * kn + 2) = w := by
  unfold sp_new
  rw [pk_un (by omega), pk_un (by omega), pk_us]
theorem sp_new_3 {past : Nat → Int32} {kn : Nat} {b c w u s : Int32} : sp_new past kn b c w u s (5 * kn + 3) = u := by
  unfold sp_new
  rw [pk_un (by omega), pk_us]
theorem sp_new_4 {past : Nat → Int32} {kn : Nat} {b c w u s : Int32} : sp_new past kn b c w u s (5 * kn + 4) = s := by
  unfold sp_new
  rw [pk_us]
theorem ev_keeps_l52 {s : Nat → Int32} {kn : Nat} (hk : kn ≤ 9) (h5 : s 5 = nI kn) : ∀ (n j : Nat), j ≤ 5 → 5 - j < n → mi_X12_keeps_l52 n (nI j) (fb_put s s (6 + 5 * kn) j) = some (upd (fb_put s s (6 + 5 * kn) 5) 5 (nI (kn + 1))) := by
  intro n
  induction n with
  | zero => intro j h1 h2; exact absurd h2 (Nat.not_lt_zero _)
  | succ n ih =>
    intro j h1 h2
    have h6 : fb_put s s (6 + 5 * kn) j 5 = nI kn := by rw [fb_put_out (by omega), h5]
    rw [mi_X12_keeps_l52, ev_n5, h6]
    by_cases hj : j = 5
    · subst hj
      rw [if_pos (show (5 : Int32) ≤ nI 5 from by decide), ev_p1]
    · rw [if_neg (show ¬ (5 : Int32) ≤ nI j from nI_ge (b := 5) (by omega) (by omega)), ev_5m, ev_a6, ev_p, ev_g (ev_in (by omega) (by decide)), ev_g (ev_in (by omega) (by decide)), ev_cl (by omega), ev_cl (by omega), fb_put_out (show j < 6 + 5 * kn ∨ 6 + 5 * kn + j ≤ j from by omega), fb_put_succ, ev_p1]
      exact ih (j + 1) (by omega) (by omega)
theorem ev_keeps_b50 {s : Nat → Int32} {kn : Nat} (hk : kn ≤ 9) (h5 : s 5 = nI kn) : mi_X12_keeps_b50 s = some (upd (fb_put s s (6 + 5 * kn) 5) 5 (nI (kn + 1))) := by
  have h := ev_keeps_l52 hk h5 jx_F 0 (by omega) (by show 5 - 0 < 100000000; omega)
  rw [fb_put_0] at h
  exact h
theorem ev_keep1 {N k : Nat} {b c w u st : Int32} {past s : Nat → Int32} {kn : Nat} (hk : kn ≤ 9) (hE : rl_E N k b c w u st) (h0 : s 0 = b) (h1 : s 1 = c) (h2 : s 2 = w) (h3 : s 3 = u) (h4 : s 4 = st) (h5 : s 5 = nI kn)
    (hv : ∀ j, j < kn → rl_E N k (past (5 * j)) (past (5 * j + 1)) (past (5 * j + 2)) (past (5 * j + 3)) (past (5 * j + 4))) (hp : ∀ i, i < 5 * kn → s (6 + i) = past i) :
    ∃ p' s', mi_X2_remember_b30 b c w u st (nI kn) past = some (nI (kn + 1), p') ∧ mi_X12_keeps_b50 s = some s' ∧ rl_C N k b c w u st (nI (kn + 1)) p' s' := by
  refine ⟨_, _, ev_remember_b30 hk (rl_E_struck hE), ev_keeps_b50 hk h5, hE, ?_, ?_, ?_, ?_, ?_, pk_us, kn + 1, rfl, by omega, ?_, ?_⟩
  · rw [pk_un (by omega), fb_put_out (by omega), h0]
  · rw [pk_un (by omega), fb_put_out (by omega), h1]
  · rw [pk_un (by omega), fb_put_out (by omega), h2]
  · rw [pk_un (by omega), fb_put_out (by omega), h3]
  · rw [pk_un (by omega), fb_put_out (by omega), h4]
  · intro j hj
    by_cases hjk : j = kn
    · subst hjk
      rw [sp_new_0, sp_new_1, sp_new_2, sp_new_3, sp_new_4]
      exact hE
    · rw [sp_new_old (by omega), sp_new_old (by omega), sp_new_old (by omega), sp_new_old (by omega), sp_new_old (by omega)]
      exact hv j (by omega)
  · intro i hi
    rw [pk_un (by omega)]
    by_cases hik : i < 5 * kn
    · rw [fb_put_out (by omega), sp_new_old hik, hp i hik]
    · rw [fb_put_in (by omega) (by omega)]
      rcases (show i = 5 * kn ∨ i = 5 * kn + 1 ∨ i = 5 * kn + 2 ∨ i = 5 * kn + 3 ∨ i = 5 * kn + 4 by omega) with e | e | e | e | e <;> subst e
      · rw [show 6 + 5 * kn - (6 + 5 * kn) = 0 by omega, h0, sp_new_0]
      · rw [show 6 + (5 * kn + 1) - (6 + 5 * kn) = 1 by omega, h1, sp_new_1]
      · rw [show 6 + (5 * kn + 2) - (6 + 5 * kn) = 2 by omega, h2, sp_new_2]
      · rw [show 6 + (5 * kn + 3) - (6 + 5 * kn) = 3 by omega, h3, sp_new_3]
      · rw [show 6 + (5 * kn + 4) - (6 + 5 * kn) = 4 by omega, h4, sp_new_4]
theorem ev_keeps_l14 {s : Nat → Int32} (h5 : s 5 = nI 10) : ∀ (n j : Nat), j ≤ 45 → 45 - j < n → mi_X12_keeps_l14 n (nI (6 + j)) (fb_put s (fun q => s (q + 11)) 6 j) = mi_X12_keeps_b50 (upd (fb_put s (fun q => s (q + 11)) 6 45) 5 (nI 9)) := by
  intro n
  induction n with
  | zero => intro j h1 h2; exact absurd h2 (Nat.not_lt_zero _)
  | succ n ih =>
    intro j h1 h2
    have h6 : fb_put s (fun q => s (q + 11)) 6 j 5 = nI 10 := by rw [fb_put_out (by omega), h5]
    rw [mi_X12_keeps_l14, ev_n5, h6]
    by_cases hj : j = 45
    · subst hj
      rw [if_pos (show (51 : Int32) ≤ nI (6 + 45) from by decide), show nI 10 - (1 : Int32) = nI 9 from by decide]
    · rw [if_neg (show ¬ (51 : Int32) ≤ nI (6 + j) from nI_ge (b := 51) (by omega) (by omega)), ev_p5, ev_g (ev_in (by omega) (by decide)), ev_g (ev_in (by omega) (by decide)), ev_cl (by omega), ev_cl (by omega), fb_put_out (show 6 + j + 5 < 6 ∨ 6 + j ≤ 6 + j + 5 from by omega), show s (6 + j + 5) = (fun q => s (q + 11)) j from by show s (6 + j + 5) = s (j + 11); congr 1; omega, fb_put_succ, ev_p1, Nat.add_assoc]
      exact ih (j + 1) (by omega) (by omega)
theorem ev_keep {N k : Nat} {b c w u st kw : Int32} {past s : Nat → Int32} (hC : rl_C N k b c w u st kw past s) :
    ∃ kw' p' s', mi_X2_remember b c w u st kw past = some (kw', p') ∧ mi_X12_keeps s = some s' ∧ rl_C N k b c w u st kw' p' s' := by
  obtain ⟨hE, h0, h1, h2, h3, h4, h5, kn, hkn, hk, hv, hp⟩ := hC
  subst hkn
  unfold mi_X2_remember mi_X12_keeps
  rw [ev_n5, h5]
  by_cases h10 : kn = 10
  · subst h10
    rw [if_neg (show ¬ nI 10 < (10 : Int32) from by decide), if_pos (show nI 10 = (10 : Int32) from rfl), ev_g (show jx_cp 5 0 45 50 50 = true from by decide), ev_n0, ev_n45]
    have hl := ev_keeps_l14 h5 jx_F 0 (by omega) (by show 45 - 0 < 100000000; omega)
    rw [fb_put_0] at hl
    have hl : mi_X12_keeps_l14 jx_F 6 s = _ := hl
    rw [hl]
    have hcp : ∀ i, i < 45 → va_cpy past past 5 0 45 i = past (i + 5) := fun i hi => by
      rw [pk_cpy_in (by omega) (by omega)]
      exact congrArg past (by omega)
    obtain ⟨p', s', e1, e2, e3⟩ := ev_keep1 (N := N) (k := k) (b := b) (c := c) (w := w) (u := u) (st := st) (past := va_cpy past past 5 0 45) (s := upd (fb_put s (fun q => s (q + 11)) 6 45) 5 (nI 9)) (kn := 9) (by omega) hE
      (by rw [pk_un (by omega), fb_put_out (by omega), h0]) (by rw [pk_un (by omega), fb_put_out (by omega), h1]) (by rw [pk_un (by omega), fb_put_out (by omega), h2]) (by rw [pk_un (by omega), fb_put_out (by omega), h3]) (by rw [pk_un (by omega), fb_put_out (by omega), h4]) pk_us
      (fun j hj => by
        rw [hcp _ (by omega), hcp _ (by omega), hcp _ (by omega), hcp _ (by omega), hcp _ (by omega)]
        have h := hv (j + 1) (by omega)
        rw [show 5 * (j + 1) = 5 * j + 5 by omega, show 5 * j + 5 + 1 = 5 * j + 1 + 5 by omega, show 5 * j + 5 + 2 = 5 * j + 2 + 5 by omega, show 5 * j + 5 + 3 = 5 * j + 3 + 5 by omega, show 5 * j + 5 + 4 = 5 * j + 4 + 5 by omega] at h
        exact h)
      (fun i hi => by
        rw [pk_un (by omega), fb_put_in (by omega) (by omega), hcp i (by omega), ← hp (i + 5) (by omega)]
        exact congrArg s (by omega))
    exact ⟨_, p', s', e1, e2, e3⟩
  · rw [if_pos (show nI kn < (10 : Int32) from nI_lt (b := 10) (by omega) (by omega)), if_neg (fun z : nI kn = (10 : Int32) => h10 ((nI_eq (b := 10) (by omega) (by omega)).mp z))]
    obtain ⟨p', s', e1, e2, e3⟩ := ev_keep1 (by omega) hE h0 h1 h2 h3 h4 h5 hv hp
    exact ⟨_, p', s', e1, e2, e3⟩
def sp_cp5 (s : Nat → Int32) (a j : Nat) : Nat → Int32 := fun i => if i < j then s (a + i) else s i
theorem sp_cp5_succ (s : Nat → Int32) (a j : Nat) : upd (sp_cp5 s a j) j (s (a + j)) = sp_cp5 s a (j + 1) := by
  funext i
  by_cases h : i = j
  · subst h
    rw [pk_us]; unfold sp_cp5; rw [if_pos (by omega)]
  · rw [pk_un h]; unfold sp_cp5
    by_cases h2 : i < j
    · rw [if_pos h2, if_pos (by omega)]
    · rw [if_neg h2, if_neg (by omega)]
theorem ev_undo_l24 {s : Nat → Int32} {kn : Nat} (hk : kn ≤ 9) (h5 : s 5 = nI kn) : ∀ (n j : Nat), j ≤ 5 → 5 - j < n → mi_X12_undo_l24 n (nI j) (sp_cp5 s (6 + 5 * kn) j) = some (nI kn, sp_cp5 s (6 + 5 * kn) 5) := by
  intro n
  induction n with
  | zero => intro j h1 h2; exact absurd h2 (Nat.not_lt_zero _)
  | succ n ih =>
    intro j h1 h2
    have h6 : sp_cp5 s (6 + 5 * kn) j 5 = nI kn := by unfold sp_cp5; rw [if_neg (by omega), h5]
    rw [mi_X12_undo_l24, ev_n5, h6]
    by_cases hj : j = 5
    · subst hj
      rw [if_pos (show (5 : Int32) ≤ nI 5 from by decide)]
    · have h7 : sp_cp5 s (6 + 5 * kn) j (6 + 5 * kn + j) = s (6 + 5 * kn + j) := by unfold sp_cp5; rw [if_neg (by omega)]
      rw [if_neg (show ¬ (5 : Int32) ≤ nI j from nI_ge (b := 5) (by omega) (by omega)), ev_5m, ev_a6, ev_p, ev_g (ev_in (by omega) (by decide)), ev_g (ev_in (by omega) (by decide)), ev_cl (by omega), ev_cl (by omega), h7, sp_cp5_succ, ev_p1]
      exact ih (j + 1) (by omega) (by omega)
theorem ev_recall {b c w u st : Int32} {past : Nat → Int32} {kn : Nat} (hk : kn ≤ 9) (hs : past (5 * kn + 4) = 0 ∨ past (5 * kn + 4) = 1) : mi_X2_recall b c w u st (nI (kn + 1)) past = some (past (5 * kn), past (5 * kn + 1), past (5 * kn + 2), past (5 * kn + 3), past (5 * kn + 4), nI kn) := by
  unfold mi_X2_recall
  rw [show nI (kn + 1) - (1 : Int32) = nI kn from nI_pred kn, ev_m5, if_neg (nI_pos (by omega)), ev_p5, if_neg (show ¬ (50 : Int32) < nI (5 * kn + 5) from nI_nlt (a := 50) (by omega) (by omega)), ev_p1, ev_p2, ev_p3, ev_p4,
    ev_g (ev_in (by omega) (by decide)), ev_g (ev_in (by omega) (by decide)), ev_g (ev_in (by omega) (by decide)), ev_g (ev_in (by omega) (by decide)), ev_g (ev_in (by omega) (by decide)),
    ev_cl (by omega), ev_cl (by omega), ev_cl (by omega), ev_cl (by omega), ev_cl (by omega)]
  rcases hs with h | h
  · rw [h, if_neg (by decide)]
  · rw [h, if_pos rfl]
theorem ev_undo {N k : Nat} {b c w u st kw : Int32} {past s : Nat → Int32} (hC : rl_C N k b c w u st kw past s) (hne : ¬ kw = 0) :
    ∃ kn b' c' w' u' st' s', mi_X2_recall b c w u st kw past = some (b', c', w', u', st', nI kn) ∧ mi_X12_undo s = some (nI kn, s') ∧ rl_C N k b' c' w' u' st' (nI kn) past s' := by
  obtain ⟨hE, h0, h1, h2, h3, h4, h5, kk, hkn, hk, hv, hp⟩ := hC
  obtain ⟨kn, rfl⟩ : ∃ kn, kk = kn + 1 := by
    cases kk with
    | zero => exact absurd hkn hne
    | succ kn => exact ⟨kn, rfl⟩
  subst hkn
  have hE' := hv kn (by omega)
  have hs5 : upd s 5 (nI kn) 5 = nI kn := pk_us
  have hl := ev_undo_l24 (s := upd s 5 (nI kn)) (kn := kn) (by omega) hs5 jx_F 0 (by omega) (by show 5 - 0 < 100000000; omega)
  have hz : sp_cp5 (upd s 5 (nI kn)) (6 + 5 * kn) 0 = upd s 5 (nI kn) := by funext i; unfold sp_cp5; rw [if_neg (by omega)]
  rw [hz] at hl
  have hq : ∀ j, j < 5 → sp_cp5 (upd s 5 (nI kn)) (6 + 5 * kn) 5 j = past (5 * kn + j) := fun j hj => by
    unfold sp_cp5
    rw [if_pos hj, pk_un (by omega), Nat.add_assoc, hp _ (by omega)]
  refine ⟨kn, _, _, _, _, _, _, ev_recall (by omega) (rl_E_struck hE'), ?_, hE', hq 0 (by omega), hq 1 (by omega), hq 2 (by omega), hq 3 (by omega), hq 4 (by omega), ?_, kn, rfl, by omega, fun j hj => hv j (by omega), fun i hi => ?_⟩
  · unfold mi_X12_undo
    rw [ev_n5, h5, if_neg (nI_ne0 (by omega) (by omega)), show nI (kn + 1) - (1 : Int32) = nI kn from nI_pred kn]
    exact hl
  · unfold sp_cp5
    rw [if_neg (by omega), pk_us]
  · unfold sp_cp5
    rw [if_neg (by omega), pk_un (by omega), hp i (by omega)]
