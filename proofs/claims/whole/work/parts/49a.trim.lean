/-! which cuts bring the note to a told bar -/
def sp_pop (x : Nat) : Nat := x % 2 + x / 2 % 2 + x / 4 % 2 + x / 8 % 2 + x / 16 % 2 + x / 32 % 2 + x / 64 % 2 + x / 128 % 2
set_option maxRecDepth 100000 in
theorem ev_bitCount : ∀ x, x < 256 → mi_J6_bitCount_0f7a4 (nI x) = some (nI (sp_pop x)) := by decide +kernel
theorem ev_ones_l {x : Nat} (hx : x < 256) : ∀ (n i a : Nat), i ≤ 8 → 8 - i < n → mi_X12_ones_l4 (nI x) n (nI a) (nI i) = some (nI (a + (if i ≤ 0 then x % 2 else 0) + (if i ≤ 1 then x / 2 % 2 else 0) + (if i ≤ 2 then x / 4 % 2 else 0) + (if i ≤ 3 then x / 8 % 2 else 0) + (if i ≤ 4 then x / 16 % 2 else 0) + (if i ≤ 5 then x / 32 % 2 else 0) + (if i ≤ 6 then x / 64 % 2 else 0) + (if i ≤ 7 then x / 128 % 2 else 0))) := by
  intro n
  induction n with
  | zero => intro i a h1 h2; exact absurd h2 (Nat.not_lt_zero _)
  | succ n ih =>
    intro i a h1 h2
    rw [mi_X12_ones_l4]
    by_cases hi : i = 8
    · subst hi
      rw [if_pos (show (8 : Int32) ≤ nI 8 from by decide)]
      rfl
    · rw [if_neg (show ¬ (8 : Int32) ≤ nI i from nI_ge (b := 8) (by omega) (by omega)), ev_bit (by omega) (by omega), Nat.testBit_eq_decide_div_mod_eq]
      have hb : ev_b (decide (x / 2 ^ i % 2 = 1)) = nI (x / 2 ^ i % 2) := by
        rcases (show x / 2 ^ i % 2 = 0 ∨ x / 2 ^ i % 2 = 1 by omega) with h | h <;> rw [h] <;> rfl
      rw [hb, nI_add, nI_1, ih (i + 1) _ (by omega) (by omega)]
      congr 2
      rcases (show i = 0 ∨ i = 1 ∨ i = 2 ∨ i = 3 ∨ i = 4 ∨ i = 5 ∨ i = 6 ∨ i = 7 by omega) with e | e | e | e | e | e | e | e <;> subst e <;> simp <;> omega
theorem ev_ones {x : Nat} (hx : x < 256) : mi_X12_ones (nI x) = some (nI (sp_pop x)) := by
  have h := ev_ones_l hx jx_F 0 0 (by omega) (by show 8 - 0 < 100000000; omega)
  unfold mi_X12_ones sp_pop
  simp at h
  exact h
theorem sp_pop_le (x : Nat) : sp_pop x ≤ 8 := by unfold sp_pop; omega
theorem ev_tb {a i : Nat} (hi : i < 32) : bt (nI a) i = a.testBit i := by
  unfold bt
  show (BitVec.ofNat 32 a).getLsbD i = a.testBit i
  rw [BitVec.getLsbD_ofNat]
  simp [hi]
theorem ev_sub {a b : Nat} (ha : a < 2 ^ 31) : nI a &&& (nI b ^^^ (-1)) = 0 ↔ a &&& b = a := by
  constructor
  · intro h
    apply Nat.eq_of_testBit_eq
    intro i
    rw [Nat.testBit_and]
    by_cases hi : i < 32
    · have h1 := congrArg (fun z => bt z i) h
      simp only [b_and, b_xor, b_0, b_m1 i hi, ev_tb hi] at h1
      cases e1 : a.testBit i <;> cases e2 : b.testBit i <;> rw [e1, e2] at h1 <;> simp at h1 ⊢
    · have h2 : a.testBit i = false := Nat.testBit_lt_two_pow (Nat.lt_of_lt_of_le ha (Nat.pow_le_pow_right (by decide) (by omega)))
      rw [h2]; rfl
  · intro h
    apply b_ext
    intro i hi
    have h1 : (a &&& b).testBit i = a.testBit i := by rw [h]
    rw [Nat.testBit_and] at h1
    rw [b_and, b_xor, b_m1 i hi, b_0, ev_tb hi, ev_tb hi]
    cases ha : a.testBit i <;> cases hb : b.testBit i <;> simp_all
def sp_enc (f : Option Nat) : Int32 := match f with
  | none => -9
  | some q => nI q
def sp_less (f : Option Nat) (x : Nat) : Bool := match f with
  | none => true
  | some q => decide (sp_pop x < sp_pop q)
def sp_ts (P : Nat → Nat → Nat) (c can nn : Nat) (f : Option Nat) (x : Nat) : Option Nat :=
  if x &&& can = x ∧ sp_nb P (c ||| x) = nn ∧ sp_less f x = true then some x else f
def sp_run {α : Type} (st : α → Nat → α) : Nat → Nat → α → α
  | 0, _, f => f
  | n + 1, i, f => sp_run st n (i + 1) (st f i)
theorem sp_run_add {α : Type} (st : α → Nat → α) (b : Nat) : ∀ (a i : Nat) (f : α), sp_run st (a + b) i f = sp_run st b (i + a) (sp_run st a i f)
  | 0, i, f => by rw [Nat.zero_add, Nat.add_zero]; rfl
  | a + 1, i, f => by
    rw [show a + 1 + b = a + b + 1 by omega]
    show sp_run st (a + b) (i + 1) (st f i) = sp_run st b (i + (a + 1)) (sp_run st a (i + 1) (st f i))
    rw [sp_run_add st b a (i + 1), show i + 1 + a = i + (a + 1) by omega]
theorem sp_run_id {α : Type} (st : α → Nat → α) : ∀ (n i : Nat) (f : α), (∀ g x, i ≤ x → st g x = g) → sp_run st n i f = f
  | 0, _, _, _ => rfl
  | n + 1, i, f, h => by
    show sp_run st n (i + 1) (st f i) = f
    rw [h f i (Nat.le_refl i)]
    exact sp_run_id st n (i + 1) f (fun g x hx => h g x (by omega))
section TR
variable {P : Nat → Nat → Nat} {sections things noteTold toldSection toldBar : Int32} {lengths times players minutes : Nat → Int32} {told s : Nat → Int32}
theorem ev_few_l (hP : rl_P P) (hS : rl_S P sections things noteTold toldSection toldBar lengths times players minutes) (h0 : 0 < pc_N P) {c can nn : Nat} (hc : c < 256) (hcan : can < 256) (hnn : nn ≤ 999) : ∀ (m n i : Nat) (f : Option Nat), i + m = can + 1 → m < n → (∀ q, f = some q → q < i) →
    mi_X6_fewestCuts_l7 sections noteTold toldSection toldBar lengths times (nI nn) (nI c) (nI can) n (sp_enc f) (nI i) = some (sp_enc (sp_run (sp_ts P c can nn) m i f)) := by
  intro m
  induction m with
  | zero =>
    intro n i f h1 h2 h3
    obtain ⟨n, rfl⟩ : ∃ n', n = n' + 1 := ⟨n - 1, by omega⟩
    rw [mi_X6_fewestCuts_l7, if_pos (nI_lt (by omega) (by omega))]
    rfl
  | succ m ih =>
    intro n i f h1 h2 h3
    obtain ⟨n, rfl⟩ : ∃ n', n = n' + 1 := ⟨n - 1, by omega⟩
    have hi : i < 256 := by omega
    have hor : c ||| i < 256 := Nat.or_lt_two_pow (n := 8) hc hi
    have ln := ev_noteBarWith hP hS h0 (c := c ||| i) (by omega)
    have hnb := sp_nb_le hP h0 (c ||| i)
    have hgo : ∀ g, (∀ q, g = some q → q < i + 1) → mi_X6_fewestCuts_b70 (mi_X6_fewestCuts_l7 sections noteTold toldSection toldBar lengths times (nI nn) (nI c) (nI can) n) (sp_enc g) (nI i) = some (sp_enc (sp_run (sp_ts P c can nn) m (i + 1) g)) := fun g hg => by
      unfold mi_X6_fewestCuts_b70
      rw [nI_1]
      exact ih n (i + 1) g (by omega) (by omega) hg
    have hkeep := hgo f (fun q hq => by have := h3 q hq; omega)
    have htake := hgo (some i) (fun q hq => by cases hq; omega)
    have hrun : ∀ g, sp_ts P c can nn f i = g → sp_run (sp_ts P c can nn) (m + 1) i f = sp_run (sp_ts P c can nn) m (i + 1) g := fun g hg => by
      show sp_run (sp_ts P c can nn) m (i + 1) (sp_ts P c can nn f i) = _
      rw [hg]
    have h33 : sp_less f i = true → mi_X6_fewestCuts_b33 sections noteTold toldSection toldBar lengths times (nI nn) (nI c) (nI can) (mi_X6_fewestCuts_l7 sections noteTold toldSection toldBar lengths times (nI nn) (nI c) (nI can) n) (sp_enc f) (nI i) = some (sp_enc (sp_run (sp_ts P c can nn) (m + 1) i f)) := fun hl => by
      unfold mi_X6_fewestCuts_b33 mi_X6_fewestCuts_b38
      rw [if_neg ev_1ne0]
      by_cases hsub : i &&& can = i
      · rw [if_pos ((ev_sub (by omega)).mpr hsub), fa_or, jx_b1_eq ln]
        by_cases hnb2 : sp_nb P (c ||| i) = nn
        · rw [if_pos (by rw [hnb2]), hrun (some i) (by unfold sp_ts; rw [if_pos ⟨hsub, hnb2, hl⟩])]
          exact htake
        · rw [if_neg (fun z => hnb2 ((nI_eq (by omega) (by omega)).mp z)), hrun f (by unfold sp_ts; rw [if_neg (fun z => hnb2 z.2.1)])]
          exact hkeep
      · rw [if_neg (fun z => hsub ((ev_sub (by omega)).mp z)), hrun f (by unfold sp_ts; rw [if_neg (fun z => hsub z.1)])]
        exact hkeep
    rw [mi_X6_fewestCuts_l7, if_neg (nI_nlt (by omega) (by omega))]
    cases f with
    | none =>
      rw [if_pos (show sp_enc none = (-9 : Int32) from rfl)]
      exact h33 rfl
    | some q =>
      have hq := h3 q rfl
      have hp1 := sp_pop_le i
      have hp2 := sp_pop_le q
      rw [if_neg (show ¬ sp_enc (some q) = (-9 : Int32) from ev_nn9 (by omega)), jx_b1_eq (ev_bitCount i hi), jx_b1_eq (show mi_J6_bitCount_0f7a4 (sp_enc (some q)) = _ from ev_bitCount q (by omega))]
      by_cases hl : sp_pop i < sp_pop q
      · rw [if_neg (nI_ge hl (by omega))]
        exact h33 (by simp [sp_less, hl])
      · rw [if_pos (nI_le (by omega) (by omega)), hrun (some q) (by unfold sp_ts; rw [if_neg (fun z => hl (by simpa [sp_less] using z.2.2))])]
        unfold mi_X6_fewestCuts_b38
        rw [if_pos rfl]
        exact hkeep
theorem ev_trim_l (hP : rl_P P) (hT : rl_T P told) (h0 : 0 < pc_N P) {c can nn : Nat} (hc : c < 256) (h3 : s 3 = nI c) (hnn : nn ≤ 999) : ∀ (m n i : Nat) (f : Option Nat), i + m = 2 ^ pc_N P → m < n → (∀ q, f = some q → q < i) →
    mi_X12_trim_l24 told s (nI nn) n (nI can) (sp_enc f) (nI i) = some (sp_enc (sp_run (sp_ts P c can nn) m i f)) := by
  have h8 := hP.1
  have hp8 := pow_le_256 h8
  intro m
  induction m with
  | zero =>
    intro n i f h1 h2 h3'
    obtain ⟨n, rfl⟩ : ∃ n', n = n' + 1 := ⟨n - 1, by omega⟩
    rw [mi_X12_trim_l24, ev_n0, hT.1, ev_pow (by omega), if_pos (nI_le (by omega) (by omega))]
    rfl
  | succ m ih =>
    intro n i f h1 h2 h3'
    obtain ⟨n, rfl⟩ : ∃ n', n = n' + 1 := ⟨n - 1, by omega⟩
    have hi : i < 256 := by omega
    have hor : c ||| i < 256 := Nat.or_lt_two_pow (n := 8) hc hi
    have mn := ev_noteBar hP hT h0 (c := c ||| i) (by omega)
    have hnb := sp_nb_le hP h0 (c ||| i)
    have hgo : ∀ g, (∀ q, g = some q → q < i + 1) → mi_X12_trim_b108 (mi_X12_trim_l24 told s (nI nn) n) (nI can) (nI i) (sp_enc g) = some (sp_enc (sp_run (sp_ts P c can nn) m (i + 1) g)) := fun g hg => by
      unfold mi_X12_trim_b108
      rw [nI_1]
      exact ih n (i + 1) g (by omega) (by omega) hg
    have hkeep := hgo f (fun q hq => by have := h3' q hq; omega)
    have htake := hgo (some i) (fun q hq => by cases hq; omega)
    have hrun : ∀ g, sp_ts P c can nn f i = g → sp_run (sp_ts P c can nn) (m + 1) i f = sp_run (sp_ts P c can nn) m (i + 1) g := fun g hg => by
      show sp_run (sp_ts P c can nn) m (i + 1) (sp_ts P c can nn f i) = _
      rw [hg]
    have h76 : sp_ts P c can nn f i = f → mi_X12_trim_b76 (mi_X12_trim_l24 told s (nI nn) n) (nI can) (sp_enc f) (nI i) = some (sp_enc (sp_run (sp_ts P c can nn) (m + 1) i f)) := fun hf => by
      unfold mi_X12_trim_b76 mi_X12_trim_b77 mi_X12_trim_b107
      rw [if_pos rfl, hrun f hf]
      exact hkeep
    rw [mi_X12_trim_l24, ev_n0, ev_n3, hT.1, h3, ev_pow (by omega), if_neg (nI_ge (by omega) (by omega)), if_neg (nI_nle h0 (by omega))]
    by_cases hsub : i &&& can = i
    · rw [if_pos ((ev_sub (by omega)).mpr hsub), fa_or, jx_b1_eq mn]
      by_cases hnb2 : sp_nb P (c ||| i) = nn
      · rw [if_pos (by rw [hnb2])]
        unfold mi_X12_trim_b77
        rw [if_neg ev_1ne0]
        cases f with
        | none =>
          rw [if_pos (show sp_enc none = (-9 : Int32) from rfl), hrun (some i) (by unfold sp_ts; rw [if_pos ⟨hsub, hnb2, rfl⟩])]
          exact htake
        | some q =>
          have hq := h3' q rfl
          have hp1 := sp_pop_le i
          have hp2 := sp_pop_le q
          rw [if_neg (show ¬ sp_enc (some q) = (-9 : Int32) from ev_nn9 (by omega)), jx_b1_eq (ev_ones hi), jx_b1_eq (show mi_X12_ones (sp_enc (some q)) = _ from ev_ones (x := q) (by omega))]
          by_cases hl : sp_pop i < sp_pop q
          · rw [if_neg (nI_ge hl (by omega)), hrun (some i) (by unfold sp_ts; rw [if_pos ⟨hsub, hnb2, by simp [sp_less, hl]⟩])]
            exact htake
          · rw [if_pos (nI_le (by omega) (by omega)), hrun (some q) (by unfold sp_ts; rw [if_neg (fun z => hl (by simpa [sp_less] using z.2.2))])]
            exact hkeep
      · rw [if_neg (fun z => hnb2 ((nI_eq (by omega) (by omega)).mp z))]
        exact h76 (by unfold sp_ts; rw [if_neg (fun z => hnb2 z.2.1)])
    · rw [if_neg (fun z => hsub ((ev_sub (by omega)).mp z))]
      exact h76 (by unfold sp_ts; rw [if_neg (fun z => hsub z.1)])
end TR
theorem sp_trim_same {P : Nat → Nat → Nat} {c can nn N : Nat} (hcan : can < 2 ^ N) : sp_run (sp_ts P c can nn) (2 ^ N) 0 none = sp_run (sp_ts P c can nn) (can + 1) 0 none := by
  obtain ⟨d, hd⟩ : ∃ d, 2 ^ N = can + 1 + d := ⟨2 ^ N - (can + 1), by omega⟩
  rw [hd, sp_run_add]
  refine sp_run_id _ _ _ _ (fun g x hx => ?_)
  unfold sp_ts
  rw [if_neg (fun z => ?_)]
  have h1 : x &&& can ≤ can := Nat.and_le_right
  have h2 := z.1
  omega
