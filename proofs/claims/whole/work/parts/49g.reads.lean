/-! the whole text, as both read it -/
section RD
variable {n : Nat} {T : Nat → Int32} {P : Nat → Nat → Nat} {j : Nat} {sections things noteTold toldSection toldBar : Int32} {lengths times players minutes D : Nat → Int32}
theorem ev_nIm1 {f : Nat} (h : f ≤ 120) : ¬ nI f = -1 := by
  intro z
  have z2 := congrArg Int32.toInt z
  rw [nI_toInt (by omega), show (-1 : Int32).toInt = -1 from by decide] at z2
  omega
theorem ev_num (hY : rl_Y n T) {a q : Nat} (ha : a ≤ n) (hq : q < 36) (p1 p2 : Int32) (hp : p2.toInt ≤ 99) (ta ti tv so st va : Int32) (D : Nat → Int32) :
    ∃ b s K V S W, b ≤ n ∧ s ≤ n ∧ ((∃ v : Nat, p1 ≤ nI v ∧ nI v ≤ p2 ∧ v ≤ 99 ∧ mi_X8_readNumber (nI n) (-1) (nI a) ta ti tv T p1 p2 = some (nI v, -1, nI b, nI s, K, V) ∧ mi_X12_number (nI n) (nI a) so st va T D (nI q) p1 p2 = some (1, nI b, S, nI s, W, upd D q (nI v))) ∨
      (mi_X8_readNumber (nI n) (-1) (nI a) ta ti tv T p1 p2 = some (-9, nI s, nI b, nI s, K, V) ∧ ∃ D', mi_X12_number (nI n) (nI a) so st va T D (nI q) p1 p2 = some (0, nI b, S, nI s, W, D'))) := by
  obtain ⟨b, s, K, V, S, W, h1, h2, h3, h4, h5⟩ := ev_tok hY ha ta ti tv so st va
  refine ⟨b, s, K, V, S, W, h1, h2, ?_⟩
  unfold mi_X8_readNumber mi_X12_number mi_X8_readNumber_b40 mi_X8_failHere
  rw [if_pos rfl, jx_b4_eq h3, jx_b4_eq h4, ev_g (ev_in (by omega) (by decide)), ev_cl (by omega), jx_b1_eq rfl, jx_b1_eq (ev_within V p1 p2), jx_b1_eq (ev_inn W p1 p2)]
  rcases h5 with ⟨k1, k2⟩ | ⟨k1, k2, k3⟩ | ⟨v, k1, k2, k3, k4, k5⟩ | ⟨k1, k2⟩ | ⟨k1, k2⟩ | ⟨w, k1, k2, k3, k4, k5⟩
  · rw [k1, k2, if_neg (by decide), if_neg (by decide)]
    exact Or.inr ⟨rfl, _, rfl⟩
  · rw [k1, k2, if_neg (by decide), if_neg (by decide)]
    exact Or.inr ⟨rfl, _, rfl⟩
  · rw [k2, k3, if_pos rfl, if_pos rfl, k4, k5]
    cases hb : (decide (p1 ≤ nI v) && decide (nI v ≤ p2)) with
    | false =>
      rw [if_pos ev_bf, if_pos ev_bf]
      exact Or.inr ⟨rfl, _, rfl⟩
    | true =>
      rw [if_neg ev_bt0, if_neg ev_bt0]
      simp only [Bool.and_eq_true, decide_eq_true_eq] at hb
      exact Or.inl ⟨v, hb.1, hb.2, k1, rfl, rfl⟩
  · rw [k1, k2, if_neg (by decide), if_neg (by decide)]
    exact Or.inr ⟨rfl, _, rfl⟩
  · rw [k1, k2, if_neg (by decide), if_neg (by decide)]
    exact Or.inr ⟨rfl, _, rfl⟩
  · have hf : ¬ nI w ≤ p2 := by
      rw [fa_le, nI_toInt (by omega)]
      omega
    rw [k3, k4, if_neg (by decide), if_pos rfl, k5, decide_eq_false hf, Bool.and_false, if_pos ev_bf]
    exact Or.inr ⟨rfl, _, rfl⟩
theorem ev_num_f {f : Nat} (hf : f ≤ 120) (sz nx ta ti tv p1 p2 : Int32) : mi_X8_readNumber sz (nI f) nx ta ti tv T p1 p2 = some (-9, nI f, nx, ta, ti, tv) := by
  unfold mi_X8_readNumber
  rw [if_neg (ev_nIm1 hf)]
theorem ev_semi_f {f : Nat} (hf : f ≤ 120) (sz nx ta ti tv : Int32) : mi_X8_readSemicolon sz (nI f) nx ta ti tv T = some (nI f, nx, ta, ti, tv) := by
  unfold mi_X8_readSemicolon
  rw [if_neg (ev_nIm1 hf)]
theorem ev_semi (hY : rl_Y n T) {a : Nat} (ha : a ≤ n) (ta ti tv so st va : Int32) :
    ∃ b s K V S W, b ≤ n ∧ s ≤ n ∧ mi_X12_token (nI n) (nI a) so st va T = some (nI b, S, nI s, W) ∧ ((S = 3 ∧ mi_X8_readSemicolon (nI n) (-1) (nI a) ta ti tv T = some (-1, nI b, nI s, K, V)) ∨ (¬ S = 3 ∧ mi_X8_readSemicolon (nI n) (-1) (nI a) ta ti tv T = some (nI s, nI b, nI s, K, V))) := by
  obtain ⟨b, s, K, V, S, W, h1, h2, h3, h4, h5⟩ := ev_tok hY ha ta ti tv so st va
  refine ⟨b, s, K, V, S, W, h1, h2, h4, ?_⟩
  unfold mi_X8_readSemicolon mi_X8_failHere
  rw [if_pos rfl, jx_b4_eq h3, jx_b1_eq rfl]
  by_cases hS : S = 3
  · have hK : K = 3 := by
      rcases h5 with ⟨k1, k2⟩ | ⟨k1, k2, k3⟩ | ⟨v, k1, k2, k3, k4, k5⟩ | ⟨k1, k2⟩ | ⟨k1, k2⟩ | ⟨w, k1, k2, k3, k4, k5⟩
      · rw [hS] at k2; exact absurd k2 (by decide)
      · rw [hS] at k2; exact absurd k2 (by decide)
      · rw [hS] at k3; exact absurd k3 (by decide)
      · exact k1
      · rw [hS] at k2; exact absurd k2 (by decide)
      · rw [hS] at k4; exact absurd k4 (by decide)
    rw [if_pos hK]
    exact Or.inl ⟨hS, rfl⟩
  · have hK : ¬ K = 3 := by
      intro hK
      rcases h5 with ⟨k1, k2⟩ | ⟨k1, k2, k3⟩ | ⟨v, k1, k2, k3, k4, k5⟩ | ⟨k1, k2⟩ | ⟨k1, k2⟩ | ⟨w, k1, k2, k3, k4, k5⟩
      · rw [hK] at k1; exact absurd k1 (by decide)
      · rw [hK] at k1; exact absurd k1 (by decide)
      · rw [hK] at k2; exact absurd k2 (by decide)
      · exact hS k2
      · rw [hK] at k1; exact absurd k1 (by decide)
      · rw [hK] at k3; exact absurd k3 (by decide)
    rw [if_neg hK]
    exact Or.inr ⟨hS, rfl⟩
/-- what follows a thing told, in the reference -/
def it_K (n : Nat) (T : Nat → Int32) (g : Nat) (o : Option (Int32 × Int32 × Int32 × Int32 × Int32 × (Nat → Int32))) : Option (Int32 × Int32 × Int32 × Int32 × Int32 × (Nat → Int32)) :=
  jx_b6 o fun r9 t_at_10 t_sort_11 t_start_12 t_value_13 t_draft_14 => (if r9 = 0 then (some ((0), t_at_10, t_sort_11, t_start_12, t_value_13, t_draft_14)) else (jx_b4 (mi_X12_token (nI n) t_at_10 t_sort_11 t_start_12 t_value_13 T) fun t_at_17 t_sort_18 t_start_19 t_value_20 => (if t_sort_18 = (3) then (jx_b4 (mi_X12_token (nI n) t_at_17 t_sort_18 t_start_19 t_value_20 T) fun t_at_23 t_sort_24 t_start_25 t_value_26 => (mi_X12_reads_l30 (nI n) T g t_at_23 t_sort_24 t_start_25 t_value_26 (upd t_draft_14 (Int32.toNatClampNeg (2)) ((t_draft_14 (Int32.toNatClampNeg (2))) + (1))))) else (some ((0), t_at_17, t_sort_18, t_start_19, t_value_20, t_draft_14)))))
abbrev it_C := Option (Int32 × Int32 × Int32 × Int32 × Int32 × Int32 × Int32 × Int32 × Int32 × Int32 × (Nat → Int32) × (Nat → Int32) × (Nat → Int32) × (Nat → Int32))
def it_R (n : Nat) (T : Nat → Int32) (j g : Nat) (c : it_C) (m : Option (Int32 × Int32 × Int32 × Int32 × Int32 × (Nat → Int32))) : Prop :=
  (∃ (f b : Nat) (ta ti tv a1 a2 a3 a4 a5 : Int32) (l1 l2 l3 l4 : Nat → Int32) (aw so va : Int32) (D' : Nat → Int32), f ≤ n ∧ b ≤ n ∧ c = some (nI f, nI b, ta, ti, tv, a1, a2, a3, a4, a5, l1, l2, l3, l4) ∧ m = some (0, aw, so, nI f, va, D')) ∨
  (∃ (P' : Nat → Nat → Nat) (b : Nat) (ta ti tv a1 a2 a3 a4 a5 : Int32) (l1 l2 l3 l4 : Nat → Int32) (so st va : Int32) (D' : Nat → Int32), b ≤ n ∧ c = some (-1, nI b, ta, ti, tv, a1, a2, a3, a4, a5, l1, l2, l3, l4) ∧ rl_D P' (j + 1) a1 a2 a3 a4 a5 l1 l2 l3 l4 D' ∧ m = jx_b4 (mi_X12_token (nI n) (nI b) so st va T) fun w x y z => mi_X12_reads_l30 (nI n) T g w x y z D')
theorem it_bad (hY : rl_Y n T) {g s b : Nat} (hs : s ≤ n) (hb : b ≤ n) (ta ti tv aw so va : Int32) (D' : Nat → Int32) : it_R n T j g (mi_X8_readItem_b150 (nI n) T (nI s) (nI b) ta ti tv sections things noteTold toldSection toldBar lengths times players minutes) (it_K n T g (some (0, aw, so, nI s, va, D'))) := by
  have hn := hY.1
  unfold mi_X8_readItem_b150 it_K
  rw [jx_b5_eq (ev_semi_f (by omega) _ _ _ _ _), jx_b6_eq rfl, if_pos rfl]
  exact Or.inl ⟨s, b, _, _, _, _, _, _, _, _, _, _, _, _, _, _, _, _, hs, hb, rfl, rfl⟩
theorem it_ok (hY : rl_Y n T) {P' : Nat → Nat → Nat} {g a : Nat} (ha : a ≤ n) (ta ti tv so st va : Int32) {D' : Nat → Int32} (hD : rl_D P' (j + 1) sections things noteTold toldSection toldBar lengths times players minutes (upd D' 2 (D' 2 + 1))) : it_R n T j g (mi_X8_readItem_b150 (nI n) T (-1) (nI a) ta ti tv sections things noteTold toldSection toldBar lengths times players minutes) (it_K n T g (some (1, nI a, so, st, va, D'))) := by
  obtain ⟨b, s, K, V, S, W, h1, h2, h3, h4⟩ := ev_semi hY ha ta ti tv so st va
  unfold mi_X8_readItem_b150 it_K
  rw [jx_b6_eq rfl, if_neg ev_1ne0, jx_b4_eq h3, ev_n2]
  rcases h4 with ⟨k1, k2⟩ | ⟨k1, k2⟩
  · rw [jx_b5_eq k2, if_pos k1]
    exact Or.inr ⟨P', b, _, _, _, _, _, _, _, _, _, _, _, _, _, _, _, _, h1, rfl, hD, rfl⟩
  · rw [jx_b5_eq k2, if_neg k1]
    exact Or.inl ⟨s, b, _, _, _, _, _, _, _, _, _, _, _, _, _, _, _, _, h2, h1, rfl, rfl⟩
theorem ev_item (hY : rl_Y n T) (hD : rl_D P j sections things noteTold toldSection toldBar lengths times players minutes D) {a s g : Nat} {K V S W : Int32} (ha : a ≤ n) (hs : s ≤ n) (hK : rl_K K V S W) :
    it_R n T j g (mi_X8_readItem (nI n) (-1) (nI a) (nI s) K V T sections things noteTold toldSection toldBar lengths times players minutes) (it_K n T g (mi_X12_readsItem (nI n) (nI a) S (nI s) W T D)) := by
  have hn := hY.1
  have hx : ∃ x : Int32, mi_X8_readItem (nI n) (-1) (nI a) (nI s) K V T sections things noteTold toldSection toldBar lengths times players minutes = mi_X8_readItem_b16 (nI n) T x (-1) (nI a) (nI s) K V sections things noteTold toldSection toldBar lengths times players minutes ∧ mi_X12_readsItem (nI n) (nI a) S (nI s) W T D = mi_X12_readsItem_b16 (nI n) T x (nI a) S (nI s) W D := by
    unfold mi_X8_readItem mi_X12_readsItem
    rcases hK with ⟨k1, k2⟩ | ⟨k1, k2, k3⟩ | ⟨v, k1, k2, k3, k4, k5⟩ | ⟨k1, k2⟩ | ⟨k1, k2⟩ | ⟨w, k1, k2, k3, k4, k5⟩
    · rw [k1, k2, if_neg (by decide), if_neg (by decide)]; exact ⟨0, rfl, rfl⟩
    · rw [k1, k2, if_pos rfl, if_pos rfl, k3]; exact ⟨W, rfl, rfl⟩
    · rw [k2, k3, if_neg (by decide), if_neg (by decide)]; exact ⟨0, rfl, rfl⟩
    · rw [k1, k2, if_neg (by decide), if_neg (by decide)]; exact ⟨0, rfl, rfl⟩
    · rw [k1, k2, if_neg (by decide), if_neg (by decide)]; exact ⟨0, rfl, rfl⟩
    · rw [k3, k4, if_neg (by decide), if_neg (by decide)]; exact ⟨0, rfl, rfl⟩
  obtain ⟨x, e1, e2⟩ := hx
  rw [e1, e2]
  have hD' := hD
  obtain ⟨hP, hS, d0, d1, d2, d6, d30, d5, d3⟩ := hD'
  have h8 := hP.1
  have h6 := hP.2.1
  have fail : it_R n T j g (mi_X8_readItem_b146 (nI n) T (-1) (nI a) (nI s) K V sections things noteTold toldSection toldBar lengths times players minutes) (it_K n T g (some (0, nI a, S, nI s, W, D))) := by
    unfold mi_X8_readItem_b146 mi_X8_failHere
    rw [jx_b1_eq rfl]
    exact it_bad hY hs ha _ _ _ _ _ _ _
  unfold mi_X8_readItem_b16 mi_X12_readsItem_b16
  by_cases x1 : x = 115
  · subst x1
    rw [if_pos (rfl : (115 : Int32) = 115), if_neg (show ¬ (115 : Int32) = 116 by decide), ev_n0, d0]
    unfold mi_X12_readsItem_b38
    rw [if_neg (show ¬ (115 : Int32) = 110 by decide), if_pos (rfl : (115 : Int32) = 115), hS.1]
    by_cases hN : pc_N P = 8
    · rw [if_pos (show nI (pc_N P) = 8 by rw [hN]; rfl), if_pos (show (8 : Int32) ≤ nI (pc_N P) from nI_le (a := 8) (by omega) (by omega))]
      unfold mi_X8_readItem_b68 mi_X8_readItem_b117
      rw [if_neg (show ¬ (115 : Int32) = 110 by decide), if_neg (show ¬ (115 : Int32) = 116 by decide), ← hS.1]
      exact fail
    · rw [if_neg (show ¬ nI (pc_N P) = 8 from fun z => hN ((nI_eq (b := 8) (by omega) (by omega)).mp z)), if_neg (show ¬ (8 : Int32) ≤ nI (pc_N P) from nI_ge (b := 8) (by omega) (by omega)), ev_a6, ev_a14, ev_a22]
      have add : ∀ q1 q2 q3 : Int32, mi_X6_addSection (nI (pc_N P)) lengths times players q1 q2 q3 = some (nI (pc_N P + 1), upd lengths (pc_N P) q1, upd times (pc_N P) q2, upd players (pc_N P) q3) := fun q1 q2 q3 => by
        unfold mi_X6_addSection
        rw [if_neg (show ¬ (8 : Int32) ≤ nI (pc_N P) from nI_ge (b := 8) (by omega) (by omega)), ev_g (ev_in (by omega) (by decide)), ev_g (ev_in (by omega) (by decide)), ev_g (ev_in (by omega) (by decide)), ev_cl (by omega), nI_1]
      obtain ⟨b, t, K1, V1, S1, W1, l1, l2, ⟨v, v1, v2, v3, v4, v5⟩ | ⟨v4, D1, v5⟩⟩ := ev_num hY (q := 6 + pc_N P) ha (by omega) 1 30 (by decide) (nI s) K V S (nI s) W D
      · rw [jx_b6_eq v4, jx_b6_eq v5, if_neg ev_1ne0]
        obtain ⟨b', t', K2, V2, S2, W2, l3, l4, ⟨w, w1, w2, w3, w4, w5⟩ | ⟨w4, D2, w5⟩⟩ := ev_num hY (q := 14 + pc_N P) l1 (by omega) 1 4 (by decide) (nI t) K1 V1 S1 (nI t) W1 (upd D (6 + pc_N P) (nI v))
        · rw [jx_b6_eq w4, jx_b6_eq w5, if_neg ev_1ne0]
          obtain ⟨b2, t2, K3, V3, S3, W3, l5, l6, ⟨u, u1, u2, u3, u4, u5⟩ | ⟨u4, D3, u5⟩⟩ := ev_num hY (q := 22 + pc_N P) l3 (by omega) 0 3 (by decide) (nI t') K2 V2 S2 (nI t') W2 (upd (upd D (6 + pc_N P) (nI v)) (14 + pc_N P) (nI w))
          · rw [jx_b6_eq u4, jx_b6_eq u5, if_neg ev_1ne0, jx_b4_eq (add _ _ _), ev_n0]
            have v1' : 1 ≤ v := (nI_leI (a := 1) (by omega) (by omega)).mp v1
            have v2' : v ≤ 30 := (nI_leI (b := 30) (by omega) (by omega)).mp v2
            have w1' : 1 ≤ w := (nI_leI (a := 1) (by omega) (by omega)).mp w1
            have w2' : w ≤ 4 := (nI_leI (b := 4) (by omega) (by omega)).mp w2
            have u2' : u ≤ 3 := (nI_leI (b := 3) (by omega) (by omega)).mp u2
            obtain ⟨P', hp⟩ := rl_D_sec hD (by omega) (l := v) (t := w) (w := u) ⟨v1', v2'⟩ ⟨w1', w2'⟩ u2'
            refine it_ok (P' := P') hY l5 _ _ _ _ _ _ ?_
            have z0 : upd (upd (upd D (6 + pc_N P) (nI v)) (14 + pc_N P) (nI w)) (22 + pc_N P) (nI u) 0 = nI (pc_N P) := by
              rw [pk_un (by omega), pk_un (by omega), pk_un (by omega), d0]
            rw [z0, nI_1, pk_un (show 2 ≠ 0 by omega), pk_un (show 2 ≠ 22 + pc_N P by omega), pk_un (show 2 ≠ 14 + pc_N P by omega), pk_un (show 2 ≠ 6 + pc_N P by omega), d2, nI_1]
            exact hp
          · rw [jx_b6_eq u4, jx_b6_eq u5, if_pos rfl, jx_b4_eq (add _ _ _)]
            exact it_bad hY l6 l5 _ _ _ _ _ _ _
        · rw [jx_b6_eq w4, jx_b6_eq w5, if_pos rfl, jx_b6_eq (ev_num_f (by omega) _ _ _ _ _ _ _), jx_b4_eq (add _ _ _)]
          exact it_bad hY l4 l3 _ _ _ _ _ _ _
      · rw [jx_b6_eq v4, jx_b6_eq v5, if_pos rfl, jx_b6_eq (ev_num_f (by omega) _ _ _ _ _ _ _), jx_b6_eq (ev_num_f (by omega) _ _ _ _ _ _ _), jx_b4_eq (add _ _ _)]
        exact it_bad hY l2 l1 _ _ _ _ _ _ _
  · rw [if_neg x1]
    unfold mi_X8_readItem_b68
    by_cases x2 : x = 110
    · subst x2
      rw [if_pos (rfl : (110 : Int32) = 110), if_neg (show ¬ (110 : Int32) = 116 by decide), ev_n0, d0]
      unfold mi_X12_readsItem_b38
      rw [if_pos (rfl : (110 : Int32) = 110), ev_n3, ev_n4]
      rcases d3 with ⟨n4, n5, n6, n7⟩ | ⟨n4, n5, n6, n7, n8⟩
      · rw [n5, if_neg (show ¬ (0 : Int32) = 1 by decide), if_pos n4, hS.1]
        have hp2 : (nI (pc_N P) - 1).toInt = (pc_N P : Int) - 1 := by
          have := ev_subz (a := pc_N P) (cnt := 1) (by omega) (by decide) (by decide)
          rw [this]; rfl
        obtain ⟨b, t, K1, V1, S1, W1, l1, l2, ⟨v, v1, v2, v3, v4, v5⟩ | ⟨v4, D1, v5⟩⟩ := ev_num hY (q := 4) ha (by omega) 0 (nI (pc_N P) - 1) (by rw [hp2]; omega) (nI s) K V S (nI s) W D
        · have v5 : mi_X12_number (nI n) (nI a) S (nI s) W T D 4 0 (nI (pc_N P) - 1) = some (1, nI b, S1, nI t, W1, upd D 4 (nI v)) := v5
          have hv : v < pc_N P := by
            rw [fa_le, hp2, nI_toInt (by omega)] at v2
            omega
          have hlen : mi_X6_lengthOf (nI (pc_N P)) lengths (nI v) = some (nI (pc_L P v)) := by
            have := ev_lengthOf hP hS hv
            rw [hS.1] at this
            exact this
          have hL := hP.2.2.1 v hv
          have hp3 : (nI (pc_L P v) - 1).toInt = (pc_L P v : Int) - 1 := by
            have := ev_subz (a := pc_L P v) (cnt := 1) (by omega) (by decide) (by decide)
            rw [this]; rfl
          rw [jx_b6_eq v4, jx_b6_eq v5, if_neg ev_1ne0, jx_b1_eq hlen, pk_us, ev_a6, ev_g (ev_in (by omega) (by decide)), ev_cl (by omega), pk_un (show 6 + v ≠ 4 by omega), (d6 v hv).1]
          obtain ⟨b', t', K2, V2, S2, W2, l3, l4, ⟨w, w1, w2, w3, w4, w5⟩ | ⟨w4, D2, w5⟩⟩ := ev_num hY (q := 5) l1 (by omega) 0 (nI (pc_L P v) - 1) (by rw [hp3]; omega) (nI t) K1 V1 S1 (nI t) W1 (upd D 4 (nI v))
          · have w5 : mi_X12_number (nI n) (nI b) S1 (nI t) W1 T (upd D 4 (nI v)) 5 0 (nI (pc_L P v) - 1) = some (1, nI b', S2, nI t', W2, upd (upd D 4 (nI v)) 5 (nI w)) := w5
            have hw : w < pc_L P v := by
              rw [fa_le, hp3, nI_toInt (by omega)] at w2
              omega
            unfold mi_X6_tellNote
            rw [jx_b6_eq w4, jx_b6_eq w5, if_neg ev_1ne0, jx_b3_eq rfl]
            have hp := rl_D_note hD n4 hv hw
            rw [hS.1] at hp
            refine it_ok (P' := pc_addN P v w) hY l3 _ _ _ _ _ _ ?_
            rw [pk_un (show 2 ≠ 3 by omega), pk_un (show 2 ≠ 5 by omega), pk_un (show 2 ≠ 4 by omega), d2, nI_1]
            exact hp
          · have w5 : mi_X12_number (nI n) (nI b) S1 (nI t) W1 T (upd D 4 (nI v)) 5 0 (nI (pc_L P v) - 1) = some (0, nI b', S2, nI t', W2, D2) := w5
            unfold mi_X6_tellNote
            rw [jx_b6_eq w4, jx_b6_eq w5, if_pos rfl, jx_b3_eq rfl]
            exact it_bad hY l4 l3 _ _ _ _ _ _ _
        · have v5 : mi_X12_number (nI n) (nI a) S (nI s) W T D 4 0 (nI (pc_N P) - 1) = some (0, nI b, S1, nI t, W1, D1) := v5
          have hlen : mi_X6_lengthOf (nI (pc_N P)) lengths (-9) = some 0 := by
            unfold mi_X6_lengthOf mi_X6_hasSection
            rw [if_pos (show (-9 : Int32) < 0 by decide), jx_b1_eq rfl, if_pos rfl]
          unfold mi_X6_tellNote
          rw [jx_b6_eq v4, jx_b6_eq v5, if_pos rfl, jx_b1_eq hlen, jx_b6_eq (ev_num_f (by omega) _ _ _ _ _ _ _), jx_b3_eq rfl]
          exact it_bad hY l2 l1 _ _ _ _ _ _ _
      · rw [n5, if_pos (rfl : (1 : Int32) = 1), if_neg (show ¬ noteTold = 0 by rw [n4]; decide)]
        unfold mi_X8_readItem_b117
        rw [if_neg (show ¬ (110 : Int32) = 116 by decide)]
        exact fail
    · rw [if_neg x2]
      unfold mi_X8_readItem_b117
      by_cases x3 : x = 116
      · subst x3
        rw [if_pos (rfl : (116 : Int32) = 116), if_pos (rfl : (116 : Int32) = 116), ev_n1, d1]
        unfold mi_X12_readsItem_b38
        rw [if_neg (show ¬ (116 : Int32) = 110 by decide), if_neg (show ¬ (116 : Int32) = 115 by decide), if_pos (rfl : (116 : Int32) = 116), hS.2.1]
        by_cases hM : pc_nt P = 6
        · rw [if_pos (show nI (pc_nt P) = 6 by rw [hM]; rfl), if_pos (show (6 : Int32) ≤ nI (pc_nt P) from nI_le (a := 6) (by omega) (by omega)), ← hS.2.1]
          exact fail
        · rw [if_neg (show ¬ nI (pc_nt P) = 6 from fun z => hM ((nI_eq (b := 6) (by omega) (by omega)).mp z)), if_neg (show ¬ (6 : Int32) ≤ nI (pc_nt P) from nI_ge (b := 6) (by omega) (by omega)), ev_a30]
          have add : ∀ q1 : Int32, mi_X6_addThing (nI (pc_nt P)) minutes q1 = some (nI (pc_nt P + 1), upd minutes (pc_nt P) q1) := fun q1 => by
            unfold mi_X6_addThing
            rw [if_neg (show ¬ (6 : Int32) ≤ nI (pc_nt P) from nI_ge (b := 6) (by omega) (by omega)), ev_g (ev_in (by omega) (by decide)), ev_cl (by omega), nI_1]
          obtain ⟨b, t, K1, V1, S1, W1, l1, l2, ⟨v, v1, v2, v3, v4, v5⟩ | ⟨v4, D1, v5⟩⟩ := ev_num hY (q := 30 + pc_nt P) ha (by omega) 1 60 (by decide) (nI s) K V S (nI s) W D
          · rw [jx_b6_eq v4, jx_b6_eq v5, if_neg ev_1ne0, jx_b2_eq (add _), ev_n1]
            have v1' : 1 ≤ v := (nI_leI (a := 1) (by omega) (by omega)).mp v1
            have v2' : v ≤ 60 := (nI_leI (b := 60) (by omega) (by omega)).mp v2
            obtain ⟨P', hp⟩ := rl_D_thing hD (by omega) (m := v) ⟨v1', v2'⟩
            refine it_ok (P' := P') hY l1 _ _ _ _ _ _ ?_
            rw [pk_un (show 1 ≠ 30 + pc_nt P by omega), d1, nI_1, pk_un (show 2 ≠ 1 by omega), pk_un (show 2 ≠ 30 + pc_nt P by omega), d2, nI_1]
            exact hp
          · rw [jx_b6_eq v4, jx_b6_eq v5, if_pos rfl, jx_b2_eq (add _)]
            exact it_bad hY l2 l1 _ _ _ _ _ _ _
      · rw [if_neg x3, if_neg x3]
        unfold mi_X12_readsItem_b38
        rw [if_neg x2, if_neg x1, if_neg x3]
        exact fail
/-- the things told one after another -/
theorem ev_tell (hY : rl_Y n T) : ∀ (f g : Nat) (P : Nat → Nat → Nat) (j a s : Nat) (K V S W : Int32) (sections things noteTold toldSection toldBar : Int32) (lengths times players minutes D : Nat → Int32), rl_D P j sections things noteTold toldSection toldBar lengths times players minutes D → a ≤ n → s ≤ n → rl_K K V S W → 16 - j < f → 16 - j < g →
    ∃ (x2 fl nx ta ti tv a1 a2 a3 a4 a5 : Int32) (l1 l2 l3 l4 : Nat → Int32) (q aw so st va : Int32) (D' : Nat → Int32), mi_X8_tellTo_l20 (nI n) T f (nI j) (-1) (nI a) (nI s) K V sections things noteTold toldSection toldBar lengths times players minutes = some (x2, fl, nx, ta, ti, tv, a1, a2, a3, a4, a5, l1, l2, l3, l4) ∧ mi_X12_reads_l30 (nI n) T g (nI a) S (nI s) W D = some (q, aw, so, st, va, D') ∧ ((fl = -1 ∧ q = 1 ∧ ∃ P' j', x2 = nI j' ∧ rl_D P' j' a1 a2 a3 a4 a5 l1 l2 l3 l4 D') ∨ (∃ fa : Nat, fa ≤ n ∧ fl = nI fa ∧ q = 0 ∧ st = nI fa)) := by
  have hn := hY.1
  intro f
  induction f with
  | zero => intro g P j a s K V S W sections things noteTold toldSection toldBar lengths times players minutes D hD ha hs hK h1; exact absurd h1 (Nat.not_lt_zero _)
  | succ f ih =>
    intro g P j a s K V S W sections things noteTold toldSection toldBar lengths times players minutes D hD ha hs hK h1 h2
    have hj := rl_D_j hD
    obtain ⟨g, rfl⟩ : ∃ k, g = k + 1 := ⟨g - 1, by omega⟩
    obtain ⟨f, rfl⟩ : ∃ k, f = k + 1 := ⟨f - 1, by omega⟩
    have hKS : K = 0 ↔ S = 0 := by
      rcases hK with ⟨k1, k2⟩ | ⟨k1, k2, k3⟩ | ⟨v, k1, k2, k3, k4, k5⟩ | ⟨k1, k2⟩ | ⟨k1, k2⟩ | ⟨w, k1, k2, k3, k4, k5⟩
      · rw [k1, k2]
      · rw [k1, k2]
      · rw [k2, k3]
      · rw [k1, k2]
      · rw [k1, k2]
      · rw [k3, k4]; decide
    rw [mi_X8_tellTo_l20, mi_X12_reads_l30]
    by_cases h0 : K = 0
    · rw [if_pos h0, if_pos (hKS.mp h0)]
      exact ⟨_, _, _, _, _, _, _, _, _, _, _, _, _, _, _, _, _, _, _, _, _, rfl, rfl, Or.inl ⟨rfl, rfl, P, j, rfl, hD⟩⟩
    · rw [if_neg h0, if_neg (fun z => h0 (hKS.mpr z)), if_pos rfl, if_neg (show ¬ (120 : Int32) ≤ nI j from nI_ge (b := 120) (by omega) (by omega))]
      have hit := ev_item (g := g) hY hD ha hs hK
      unfold it_K at hit
      rcases hit with ⟨fa, b, ta, ti, tv, a1, a2, a3, a4, a5, l1, l2, l3, l4, aw, so, va, D', f1, f2, f3, f4⟩ | ⟨P', b, ta, ti, tv, a1, a2, a3, a4, a5, l1, l2, l3, l4, so, st, va, D', f1, f2, f3, f4⟩
      · rw [f4, jx_b14_eq f3]
        obtain ⟨b2, s2, K2, V2, S2, W2, t1, t2, t3, t4, t5⟩ := ev_tok hY f2 ta ti tv 0 0 0
        rw [jx_b4_eq t3, mi_X8_tellTo_l20]
        by_cases hK2 : K2 = 0
        · rw [if_pos hK2]
          exact ⟨_, _, _, _, _, _, _, _, _, _, _, _, _, _, _, _, _, _, _, _, _, rfl, rfl, Or.inr ⟨fa, f1, rfl, rfl, rfl⟩⟩
        · rw [if_neg hK2, if_neg (ev_nIm1 (by omega))]
          exact ⟨_, _, _, _, _, _, _, _, _, _, _, _, _, _, _, _, _, _, _, _, _, rfl, rfl, Or.inr ⟨fa, f1, rfl, rfl, rfl⟩⟩
      · rw [f4, jx_b14_eq f2]
        obtain ⟨b2, s2, K2, V2, S2, W2, t1, t2, t3, t4, t5⟩ := ev_tok hY f1 ta ti tv so st va
        rw [jx_b4_eq t3, jx_b4_eq t4, nI_1]
        exact ih g P' (j + 1) b2 s2 K2 V2 S2 W2 a1 a2 a3 a4 a5 l1 l2 l3 l4 D' f3 t1 t2 t5 (by omega) (by omega)
end RD
