/-! the odds: weights of sets, their sums, the greatest divisor -/
def sp_wt (x set can : Nat) : Nat → Nat
  | 0 => 1
  | q + 1 => sp_wt x set can q * (if can.testBit q then (if set.testBit q then x else 10 - x) else 1)
def sp_lw (can : Nat) : Nat → Nat
  | 0 => 1
  | q + 1 => sp_lw can q * (if can.testBit q then 10 else 1)
def sp_tw (x set can : Nat) : Nat → Nat
  | 0 => 1
  | q + 1 => sp_tw x set can q * (if set.testBit q then (if can.testBit q then x else 0) else (if can.testBit q then 10 - x else 1))
theorem sp_lw_pos (can : Nat) : ∀ q, 1 ≤ sp_lw can q ∧ sp_lw can q ≤ 10 ^ q
  | 0 => ⟨Nat.le_refl 1, Nat.le_refl 1⟩
  | q + 1 => by
    have h := sp_lw_pos can q
    have h2 : (10 : Nat) ^ (q + 1) = 10 ^ q * 10 := Nat.pow_succ _ _
    rw [sp_lw, h2]
    split <;> omega
theorem sp_wt_lw (can : Nat) : ∀ q, sp_wt 10 can can q = sp_lw can q
  | 0 => rfl
  | q + 1 => by
    rw [sp_wt, sp_lw, sp_wt_lw can q]
    cases can.testBit q <;> rfl
theorem sp_tw_sub {x set can : Nat} (h : set &&& can = set) : ∀ q, sp_tw x set can q = sp_wt x set can q
  | 0 => rfl
  | q + 1 => by
    have h1 : (set &&& can).testBit q = set.testBit q := by rw [h]
    rw [Nat.testBit_and] at h1
    rw [sp_tw, sp_wt, sp_tw_sub h q]
    cases hs : set.testBit q <;> cases hc : can.testBit q <;> simp_all
theorem sp_tw_zero {x set can q N : Nat} (hq : q < N) (h1 : set.testBit q = true) (h2 : can.testBit q = false) : sp_tw x set can N = 0 := by
  induction N with
  | zero => omega
  | succ N ih =>
    rw [sp_tw]
    by_cases h : q = N
    · rw [← h, h1, h2]; simp
    · rw [ih (by omega), Nat.zero_mul]
theorem sp_tw_not {x set can N : Nat} (hs : set < 2 ^ N) (h : ¬ set &&& can = set) : sp_tw x set can N = 0 := by
  have : ∃ q, q < N ∧ set.testBit q = true ∧ can.testBit q = false := by
    apply Classical.byContradiction
    intro hno
    apply h
    apply Nat.eq_of_testBit_eq
    intro i
    rw [Nat.testBit_and]
    cases h1 : set.testBit i with
    | false => rfl
    | true =>
      cases h2 : can.testBit i with
      | true => rfl
      | false =>
        exfalso
        refine hno ⟨i, ?_, h1, h2⟩
        apply Classical.byContradiction
        intro hi
        have h3 : set.testBit i = false := Nat.testBit_lt_two_pow (Nat.lt_of_lt_of_le hs (Nat.pow_le_pow_right (by decide) (by omega)))
        rw [h3] at h1
        cases h1
  obtain ⟨q, h1, h2, h3⟩ := this
  exact sp_tw_zero h1 h2 h3
theorem sp_tw_cong {x can : Nat} {a b : Nat} : ∀ {q : Nat}, (∀ i, i < q → a.testBit i = b.testBit i) → sp_tw x a can q = sp_tw x b can q
  | 0, _ => rfl
  | q + 1, h => by
    rw [sp_tw, sp_tw, sp_tw_cong (fun i hi => h i (by omega)), h q (by omega)]
theorem sp_total {x : Nat} (hx : x ≤ 10) (can : Nat) : ∀ N, fb_sm (fun set => sp_tw x set can N) (2 ^ N) = sp_lw can N
  | 0 => rfl
  | N + 1 => by
    have ih := sp_total hx can N
    rw [show 2 ^ (N + 1) = 2 ^ N + 2 ^ N by rw [Nat.pow_succ]; omega, fb_sm_split]
    have h1 : fb_sm (fun set => sp_tw x set can (N + 1)) (2 ^ N) = fb_sm (fun set => sp_tw x set can N * (if can.testBit N then 10 - x else 1)) (2 ^ N) := fb_sm_cong (fun k hk => by
      rw [sp_tw, Nat.testBit_lt_two_pow hk]; rfl)
    have h2 : fb_sm (fun k => sp_tw x (2 ^ N + k) can (N + 1)) (2 ^ N) = fb_sm (fun set => sp_tw x set can N * (if can.testBit N then x else 0)) (2 ^ N) := fb_sm_cong (fun k hk => by
      rw [sp_tw, Nat.testBit_two_pow_add_eq, Nat.testBit_lt_two_pow hk, sp_tw_cong (fun i hi => Nat.testBit_two_pow_add_gt hi k)]; rfl)
    have hmul : ∀ (f : Nat → Nat) (c n : Nat), fb_sm (fun k => f k * c) n = fb_sm f n * c := by
      intro f c n
      induction n with
      | zero => simp [fb_sm]
      | succ n ih => rw [fb_sm_succ, fb_sm_succ, ih, Nat.add_mul]
    rw [h1, h2, hmul, hmul, ih, sp_lw, ← Nat.mul_add]
    congr 1
    cases can.testBit N
    · rfl
    · show 10 - x + x = 10
      omega
def sp_g (P : Nat → Nat → Nat) (x c can nn : Nat) (set : Nat) : Nat := if sp_nb P (c ||| set) ≤ nn then sp_tw x set can (pc_N P) else 0
theorem sp_g_le {P : Nat → Nat → Nat} {x c can nn n : Nat} (hx : x ≤ 10) (hn : n ≤ 2 ^ pc_N P) : fb_sm (sp_g P x c can nn) n ≤ sp_lw can (pc_N P) := by
  rw [← sp_total hx can (pc_N P)]
  refine Nat.le_trans (fb_sm_le (g := fun set => sp_tw x set can (pc_N P)) (fun k _ => ?_)) ?_
  · unfold sp_g; split <;> omega
  · obtain ⟨d, hd⟩ : ∃ d, 2 ^ pc_N P = n + d := ⟨2 ^ pc_N P - n, by omega⟩
    rw [hd]
    exact fb_sm_mono _ n d
theorem sp_g_same {P : Nat → Nat → Nat} {x c can nn : Nat} (hcan : can < 2 ^ pc_N P) : fb_sm (sp_g P x c can nn) (2 ^ pc_N P) = fb_sm (sp_g P x c can nn) (can + 1) := by
  obtain ⟨d, hd⟩ : ∃ d, 2 ^ pc_N P = can + 1 + d := ⟨2 ^ pc_N P - (can + 1), by omega⟩
  rw [hd, fb_sm_split]
  have h0 : fb_sm (fun k => sp_g P x c can nn (can + 1 + k)) d = fb_sm (fun _ => 0) d := fb_sm_cong (fun k hk => by
    unfold sp_g
    rw [sp_tw_not (by omega) (fun z => by
      have h1 : (can + 1 + k) &&& can ≤ can := Nat.and_le_right
      omega)]
    split <;> rfl)
  rw [h0, fb_sm_const]
  omega
section OD
variable {P : Nat → Nat → Nat} {sections things noteTold toldSection toldBar : Int32} {lengths times players minutes : Nat → Int32} {told s : Nat → Int32}
theorem ev_10 {x : Nat} (h : x ≤ 10) : (10 : Int32) - nI x = nI (10 - x) := pk_sub (a := 10) h
theorem ev_weight_l (hP : rl_P P) (hS : rl_S P sections things noteTold toldSection toldBar lengths times players minutes) {set can x : Nat} (h1 : set < 256) (h2 : can < 256) (hx : x ≤ 10) : ∀ (n i : Nat), i ≤ pc_N P → pc_N P - i < n → mi_X6_weightOf_l6 sections (nI set) (nI can) (nI x) n (nI (sp_wt x set can i)) (nI i) = some (nI (sp_wt x set can (pc_N P))) := by
  have h8 := hP.1
  intro n
  induction n with
  | zero => intro i g1 g2; exact absurd g2 (Nat.not_lt_zero _)
  | succ n ih =>
    intro i g1 g2
    rw [mi_X6_weightOf_l6]
    by_cases hi : i = pc_N P
    · rw [if_pos (by rw [hS.1, hi]; exact nI_le (Nat.le_refl _) (by omega)), hi]
    · have hn := ih (i + 1) (by omega) (by omega)
      rw [sp_wt] at hn
      rw [if_neg (by rw [hS.1]; exact nI_ge (by omega) (by omega)), jx_b1_eq (ev_isIn (by omega) (by omega)), jx_b1_eq (ev_isIn (by omega) (by omega))]
      unfold mi_X6_weightOf_b43 mi_X6_weightOf_b46
      rw [nI_1]
      cases hc : can.testBit i with
      | false =>
        rw [hc] at hn
        rw [if_pos ev_bf]
        simpa using hn
      | true =>
        rw [hc, if_pos rfl] at hn
        rw [if_neg (by decide)]
        cases hs : set.testBit i with
        | false =>
          rw [hs] at hn
          rw [if_pos ev_bf, ev_10 hx, pk_mul]
          exact hn
        | true =>
          rw [hs] at hn
          rw [if_neg (by decide), pk_mul]
          exact hn
theorem ev_weight (hP : rl_P P) (hS : rl_S P sections things noteTold toldSection toldBar lengths times players minutes) {set can x : Nat} (h1 : set < 256) (h2 : can < 256) (hx : x ≤ 10) : mi_X6_weightOf sections (nI set) (nI can) (nI x) = some (nI (sp_wt x set can (pc_N P))) := by
  have h8 := hP.1
  exact ev_weight_l hP hS h1 h2 hx jx_F 0 (Nat.zero_le _) (by show pc_N P - 0 < 100000000; omega)
theorem ev_chances_l (hP : rl_P P) (hS : rl_S P sections things noteTold toldSection toldBar lengths times players minutes) (h0 : 0 < pc_N P) {c can nn x : Nat} (hc : c < 256) (hcan : can < 2 ^ pc_N P) (hnn : nn ≤ 999) (hx : x ≤ 10) : ∀ (n i : Nat), i ≤ can + 1 → can + 1 - i < n →
    mi_X6_chancesBy_l6 sections noteTold toldSection toldBar lengths times (nI nn) (nI x) (nI c) (nI can) n (nI (fb_sm (sp_g P x c can nn) i)) (nI i) = some (nI (fb_sm (sp_g P x c can nn) (can + 1))) := by
  have hp8 := pow_le_256 hP.1
  intro n
  induction n with
  | zero => intro i g1 g2; exact absurd g2 (Nat.not_lt_zero _)
  | succ n ih =>
    intro i g1 g2
    rw [mi_X6_chancesBy_l6]
    by_cases hi : i = can + 1
    · rw [if_pos (nI_lt (by omega) (by omega)), hi]
    · have hn := ih (i + 1) (by omega) (by omega)
      rw [fb_sm_succ] at hn
      have hor : c ||| i < 256 := Nat.or_lt_two_pow (n := 8) hc (by omega)
      have ln := ev_noteBarWith hP hS h0 (c := c ||| i) (by omega)
      have hnb := sp_nb_le hP h0 (c ||| i)
      rw [if_neg (nI_nlt (by omega) (by omega))]
      unfold mi_X6_chancesBy_b49
      rw [nI_1]
      by_cases hsub : i &&& can = i
      · rw [if_pos ((ev_sub (by omega)).mpr hsub), fa_or, jx_b1_eq ln, jx_b1_eq (ev_weight hP hS (by omega) (by omega) hx), nI_add]
        unfold sp_g at hn
        rw [sp_tw_sub hsub] at hn
        by_cases hle : sp_nb P (c ||| i) ≤ nn
        · rw [if_pos hle] at hn
          rw [if_neg (nI_nlt hle (by omega))]
          exact hn
        · rw [if_neg hle, Nat.add_zero] at hn
          rw [if_pos (nI_lt (by omega) (by omega))]
          exact hn
      · have hg : sp_g P x c can nn i = 0 := by unfold sp_g; rw [sp_tw_not (by omega) hsub]; split <;> rfl
        rw [hg, Nat.add_zero] at hn
        rw [if_neg (fun z => hsub ((ev_sub (by omega)).mp z))]
        exact hn
end OD
theorem sp_half {a b : Nat} (hr : 0 < a) (h : a < b) : 2 * (b % a) < b := by
  have h1 := Nat.mod_lt b hr
  have h2 := Nat.div_add_mod b a
  have h3 : 1 ≤ b / a := (Nat.le_div_iff_mul_le hr).mpr (by omega)
  have h4 : a * 1 ≤ a * (b / a) := Nat.mul_le_mul_left a h3
  omega
theorem ev_gcd_l : ∀ (k a b st n : Nat), a < 2 ^ 31 → b < 2 ^ 31 → b < 2 ^ k → st + 2 * k ≤ 64 → 2 * k < n → mi_X11_greatestDivisor_l7 n (nI a) (nI b) (nI st) = some (nI (Nat.gcd a b)) := by
  intro k
  induction k with
  | zero =>
    intro a b st n h1 h2 h3 h4 h5
    have hb : b = 0 := by simpa using h3
    subst hb
    obtain ⟨n, rfl⟩ : ∃ n', n = n' + 1 := ⟨n - 1, by omega⟩
    rw [mi_X11_greatestDivisor_l7, Nat.gcd_zero_right]
    split
    · rfl
    · rw [if_pos (show nI 0 = (0 : Int32) from rfl)]
  | succ k ih =>
    intro a b st n h1 h2 h3 h4 h5
    obtain ⟨n, rfl⟩ : ∃ n', n = n' + 1 + 1 := ⟨n - 2, by omega⟩
    rw [mi_X11_greatestDivisor_l7, if_neg (show ¬ (64 : Int32) ≤ nI st from nI_ge (b := 64) (by omega) (by omega))]
    by_cases hb : b = 0
    · subst hb
      rw [if_pos (show nI 0 = (0 : Int32) from rfl), Nat.gcd_zero_right]
    · have hbz : ¬ nI b = 0 := nI_ne0 (by omega) h2
      have hr := Nat.mod_lt a (show 0 < b by omega)
      rw [if_neg hbz, ev_g (by simp [jx_nz, hbz]), pk_rem h1 (by omega) h2, nI_1, mi_X11_greatestDivisor_l7, if_neg (show ¬ (64 : Int32) ≤ nI (st + 1) from nI_ge (b := 64) (by omega) (by omega))]
      have hg : Nat.gcd a b = Nat.gcd b (a % b) := by rw [Nat.gcd_comm a b, Nat.gcd_rec b a, Nat.gcd_comm]
      by_cases hz : a % b = 0
      · rw [hz, if_pos (show nI 0 = (0 : Int32) from rfl), hg, hz, Nat.gcd_zero_right]
      · have hzz : ¬ nI (a % b) = 0 := nI_ne0 (by omega) (by omega)
        have hh := sp_half (a := a % b) (b := b) (by omega) hr
        have hg2 : Nat.gcd b (a % b) = Nat.gcd (a % b) (b % (a % b)) := by rw [Nat.gcd_comm b (a % b), Nat.gcd_rec (a % b) b, Nat.gcd_comm]
        have hk2 : (2 : Nat) ^ (k + 1) = 2 ^ k * 2 := Nat.pow_succ _ _
        rw [if_neg hzz, ev_g (by simp [jx_nz, hzz]), pk_rem h2 (by omega) (by omega), nI_1, hg, hg2]
        exact ih (a % b) (b % (a % b)) (st + 1 + 1) n (by omega) (by omega) (by omega) (by omega) (by omega)
theorem ev_gcd {a b : Nat} (ha : a ≤ 100000000) (hb : b ≤ 100000000) : mi_X11_greatestDivisor (nI a) (nI b) = some (nI (Nat.gcd a b)) :=
  ev_gcd_l 27 a b 0 jx_F (by omega) (by omega) (by omega) (by omega) (by decide)
theorem ev_mgcd_l {A B : Nat} {p3 : Int32} : ∀ (k a b n : Nat), 0 < a ∨ 0 < b → a < 2 ^ 31 → b < 2 ^ 31 → b < 2 ^ k → 2 * k < n → mi_X12_odds_l226 p3 n (nI A) (nI B) (nI a) (nI b) = some (if p3 = 0 then nI A / nI (Nat.gcd a b) else nI B / nI (Nat.gcd a b)) := by
  intro k
  have hend : ∀ (a n : Nat), 0 < a → a < 2 ^ 31 → mi_X12_odds_l226 p3 (n + 1) (nI A) (nI B) (nI a) (nI 0) = some (if p3 = 0 then nI A / nI a else nI B / nI a) := fun a n h0 h1 => by
    have haz : ¬ nI a = 0 := nI_ne0 h0 h1
    rw [mi_X12_odds_l226, if_pos (show nI 0 ≤ (0 : Int32) from by decide), ev_g (by simp [jx_nz, haz]), ev_g (by simp [jx_nz, haz])]
    split <;> rfl
  induction k with
  | zero =>
    intro a b n h0 h1 h2 h3 h5
    have hb : b = 0 := by simpa using h3
    subst hb
    obtain ⟨n, rfl⟩ : ∃ n', n = n' + 1 := ⟨n - 1, by omega⟩
    rw [hend a n (by omega) h1, Nat.gcd_zero_right]
  | succ k ih =>
    intro a b n h0 h1 h2 h3 h5
    obtain ⟨n, rfl⟩ : ∃ n', n = n' + 1 + 1 := ⟨n - 2, by omega⟩
    by_cases hb : b = 0
    · subst hb
      rw [hend a _ (by omega) h1, Nat.gcd_zero_right]
    · have hbz : ¬ nI b = 0 := nI_ne0 (by omega) h2
      have hr := Nat.mod_lt a (show 0 < b by omega)
      have hg : Nat.gcd a b = Nat.gcd b (a % b) := by rw [Nat.gcd_comm a b, Nat.gcd_rec b a, Nat.gcd_comm]
      rw [mi_X12_odds_l226, if_neg (nI_nle (by omega) h2), ev_g (by simp [jx_nz, hbz]), pk_rem h1 (by omega) h2, hg]
      by_cases hz : a % b = 0
      · rw [hz, hend b n (by omega) h2, Nat.gcd_zero_right]
      · have hzz : ¬ nI (a % b) = 0 := nI_ne0 (by omega) (by omega)
        have hh := sp_half (a := a % b) (b := b) (by omega) hr
        have hg2 : Nat.gcd b (a % b) = Nat.gcd (a % b) (b % (a % b)) := by rw [Nat.gcd_comm b (a % b), Nat.gcd_rec (a % b) b, Nat.gcd_comm]
        have hk2 : (2 : Nat) ^ (k + 1) = 2 ^ k * 2 := Nat.pow_succ _ _
        rw [mi_X12_odds_l226, if_neg (nI_nle (by omega) (by omega)), ev_g (by simp [jx_nz, hzz]), pk_rem h2 (by omega) (by omega), hg2]
        exact ih (a % b) (b % (a % b)) n (by omega) (by omega) (by omega) (by omega) (by omega)
section OM
variable {P : Nat → Nat → Nat} {told s : Nat → Int32}
theorem ev_odds_l130 (hP : rl_P P) (hT : rl_T P told) (h0 : 0 < pc_N P) {c can nn x set z A : Nat} {K : Int32 → Int32 → Int32 → Int32 → Option Int32} {B : Int32} (hc : c < 256) (h3 : s 3 = nI c) (hset : set < 256) (hcan : can < 256) (hnn : nn ≤ 999) (hx : x ≤ 10) : ∀ (n i : Nat), i ≤ pc_N P → pc_N P - i < n →
    mi_X12_odds_l130 told s (nI x) (nI nn) K n (nI can) (nI A) B (nI set) (nI (z * sp_wt x set can i)) (nI i) = K (nI can) (nI (A + (if sp_nb P (c ||| set) ≤ nn then z * sp_wt x set can (pc_N P) else 0))) B (nI (set + 1)) := by
  have h8 := hP.1
  intro n
  induction n with
  | zero => intro i g1 g2; exact absurd g2 (Nat.not_lt_zero _)
  | succ n ih =>
    intro i g1 g2
    rw [mi_X12_odds_l130, ev_n0, ev_n3, hT.1, h3]
    by_cases hi : i = pc_N P
    · have hor : c ||| set < 256 := Nat.or_lt_two_pow (n := 8) hc hset
      have mn := ev_noteBar hP hT h0 (c := c ||| set) (by omega)
      have hnb := sp_nb_le hP h0 (c ||| set)
      rw [if_pos (by rw [hi]; exact nI_le (Nat.le_refl _) (by omega)), fa_or, jx_b1_eq mn]
      unfold mi_X12_odds_b209
      rw [nI_1, nI_add, show nI A + (0 : Int32) = nI (A + 0) from nI_add A 0, hi]
      by_cases hle : sp_nb P (c ||| set) ≤ nn
      · rw [if_neg (nI_nlt hle (by omega)), if_pos hle]
      · rw [if_pos (nI_lt (by omega) (by omega)), if_neg hle]
    · have hn := ih (i + 1) (by omega) (by omega)
      rw [sp_wt, ← Nat.mul_assoc] at hn
      rw [if_neg (nI_ge (by omega) (by omega)), jx_b1_eq (ev_has (by omega) (by omega)), jx_b1_eq (ev_has (by omega) (by omega))]
      unfold mi_X12_odds_b175
      rw [nI_1]
      cases hcb : can.testBit i with
      | false =>
        rw [hcb] at hn
        rw [if_pos ev_bf, show nI (z * sp_wt x set can i) * (1 : Int32) = nI (z * sp_wt x set can i * 1) from pk_mul _ 1]
        exact hn
      | true =>
        rw [hcb, if_pos rfl] at hn
        rw [if_neg (by decide)]
        cases hs : set.testBit i with
        | false =>
          rw [hs] at hn
          rw [if_pos ev_bf, ev_10 hx, pk_mul]
          exact hn
        | true =>
          rw [hs] at hn
          rw [if_neg (by decide), pk_mul]
          exact hn
theorem ev_odds_l88 (hP : rl_P P) (hT : rl_T P told) (h0 : 0 < pc_N P) {c can nn x : Nat} {B p3 : Int32} (hc : c < 256) (h3 : s 3 = nI c) (hcan : can < 2 ^ pc_N P) (hnn : nn ≤ 999) (hx : x ≤ 10) : ∀ (n i : Nat), i ≤ 2 ^ pc_N P → 2 ^ pc_N P - i < n →
    mi_X12_odds_l88 told s (nI x) (nI nn) p3 n (nI can) (nI (fb_sm (sp_g P x c can nn) i)) B (nI i) = mi_X12_odds_b218 p3 (nI (fb_sm (sp_g P x c can nn) (2 ^ pc_N P))) B := by
  have h8 := hP.1
  have hp8 := pow_le_256 h8
  intro n
  induction n with
  | zero => intro i g1 g2; exact absurd g2 (Nat.not_lt_zero _)
  | succ n ih =>
    intro i g1 g2
    rw [mi_X12_odds_l88, ev_n0, hT.1, ev_pow (by omega)]
    by_cases hi : i = 2 ^ pc_N P
    · rw [if_pos (nI_le (by omega) (by omega)), hi]
    · have hn := ih (i + 1) (by omega) (by omega)
      rw [fb_sm_succ] at hn
      rw [if_neg (nI_ge (by omega) (by omega)), if_neg (nI_nle h0 (by omega))]
      unfold mi_X12_odds_b125
      by_cases hsub : i &&& can = i
      · have hl := ev_odds_l130 hP hT h0 (c := c) (can := can) (nn := nn) (x := x) (set := i) (z := 1) (A := fb_sm (sp_g P x c can nn) i) (K := mi_X12_odds_l88 told s (nI x) (nI nn) p3 n) (B := B) (s := s) hc h3 (by omega) (by omega) hnn hx jx_F 0 (Nat.zero_le _) (by show pc_N P - 0 < 100000000; omega)
        rw [Nat.one_mul, Nat.one_mul] at hl
        rw [if_pos ((ev_sub (by omega)).mpr hsub)]
        refine hl.trans ?_
        unfold sp_g at hn ⊢
        rw [sp_tw_sub hsub] at hn
        exact hn
      · have hl := ev_odds_l130 hP hT h0 (c := c) (can := can) (nn := nn) (x := x) (set := i) (z := 0) (A := fb_sm (sp_g P x c can nn) i) (K := mi_X12_odds_l88 told s (nI x) (nI nn) p3 n) (B := B) (s := s) hc h3 (by omega) (by omega) hnn hx jx_F 0 (Nat.zero_le _) (by show pc_N P - 0 < 100000000; omega)
        rw [Nat.zero_mul, Nat.zero_mul] at hl
        have hg : sp_g P x c can nn i = 0 := by unfold sp_g; rw [sp_tw_not (by omega) hsub]; split <;> rfl
        rw [if_neg (fun z => hsub ((ev_sub (by omega)).mp z))]
        refine hl.trans ?_
        rw [hg] at hn
        rw [show (if sp_nb P (c ||| i) ≤ nn then 0 else 0) = 0 from by split <;> rfl]
        exact hn
theorem ev_odds_l47 (hP : rl_P P) (hT : rl_T P told) {can : Nat} {X NN p3 : Int32} (hcan : can < 256) : ∀ (n i : Nat), i ≤ pc_N P → pc_N P - i < n →
    mi_X12_odds_l47 told s X NN p3 n (nI can) 0 (nI (sp_lw can i)) (nI i) = mi_X12_odds_l88 told s X NN p3 jx_F (nI can) 0 (nI (sp_lw can (pc_N P))) 0 := by
  have h8 := hP.1
  intro n
  induction n with
  | zero => intro i g1 g2; exact absurd g2 (Nat.not_lt_zero _)
  | succ n ih =>
    intro i g1 g2
    rw [mi_X12_odds_l47, ev_n0, hT.1]
    by_cases hi : i = pc_N P
    · rw [if_pos (by rw [hi]; exact nI_le (Nat.le_refl _) (by omega)), hi]
    · have hn := ih (i + 1) (by omega) (by omega)
      rw [sp_lw] at hn
      rw [if_neg (nI_ge (by omega) (by omega)), jx_b1_eq (ev_has (by omega) (by omega))]
      unfold mi_X12_odds_b76
      rw [nI_1]
      cases hcb : can.testBit i with
      | false =>
        rw [hcb] at hn
        rw [if_pos ev_bf, show nI (sp_lw can i) * (1 : Int32) = nI (sp_lw can i * 1) from pk_mul _ 1]
        exact hn
      | true =>
        rw [hcb] at hn
        rw [if_neg (by decide), show nI (sp_lw can i) * (10 : Int32) = nI (sp_lw can i * 10) from pk_mul _ 10]
        exact hn
end OM
