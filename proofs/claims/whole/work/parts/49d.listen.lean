/-! what is best to listen for: how many places answer with whom, later -/
def sp_cv (P : Nat → Nat → Nat) (c h : Nat) (A B : Nat → Nat) (L v : Nat) : Nat → Bool := fun q => sp_so P c h A B q && decide (sp_who P c (q + L) = v)
def rl_mx (f : Nat → Nat) (m : Nat) : Prop := (∀ v, v < 5 → f v ≤ m) ∧ ∃ v, v < 5 ∧ f v = m
theorem rl_mx_one {f : Nat → Nat} {m n : Nat} (h1 : rl_mx f m) (h2 : rl_mx f n) : m = n := by
  obtain ⟨a, v, v1, v2⟩ := h1
  obtain ⟨b, w, w1, w2⟩ := h2
  have := a w w1
  have := b v v1
  omega
theorem ev_nsub {a b : Nat} (ha : a ≤ 2000) (hb : b ≤ a) : nI a - nI b = nI (a - b) := by
  have hb2 := nI_toInt (n := b) (by omega)
  have h := ev_subz (a := a) (cnt := nI b) ha (by omega) (by omega)
  refine Int32.toInt_inj.mp ?_
  rw [h, hb2, nI_toInt (by omega)]
  omega
theorem ev_aheadSub {bars e L : Nat} {pa : Nat → Int32} (hb : bars ≤ 960) (he : e ≤ bars) (hL : L ≤ 60) : mi_X3_placesAheadOf (nI bars) pa (nI e - nI L) = some (pa (e - L)) := by
  by_cases hl : L ≤ e
  · exact ev_aheadOf hb (ev_nsub (by omega) hl) (by omega)
  · have hb2 := nI_toInt (n := L) (by omega)
    have h := ev_subz (a := e) (cnt := nI L) (by omega) (by omega) (by omega)
    rw [hb2] at h
    have e1 : (if nI bars < nI e - nI L then nI bars else nI e - nI L) = nI e - nI L := by
      rw [if_neg (by rw [fa_lt, h, nI_toInt (by omega)]; omega)]
    have e2 : (if (0 : Int32) < nI e - nI L then nI e - nI L else 0) = 0 := by
      rw [if_neg (by rw [fa_lt, h, show (0 : Int32).toInt = 0 from by decide]; omega)]
    unfold mi_X3_placesAheadOf
    rw [e1, e2, if_neg (by decide), ev_g (by decide), ev_n0, show e - L = 0 from by omega]
theorem sp_who_le3 {P : Nat → Nat → Nat} (hP : rl_P P) {c b : Nat} (h : b < sp_ah P c (pc_N P)) : sp_who P c b ≤ 3 := by
  unfold sp_who
  have : ∀ q, q ≤ pc_N P → b < sp_ah P c q → sp_wb P c q b ≤ 3 := by
    intro q
    induction q with
    | zero => intro _ h; exact absurd h (Nat.not_lt_zero _)
    | succ q ih =>
      intro hq hb
      have h1 := (hP.2.2.1 q (by omega)).2.2.2.2
      rw [sp_wb]
      by_cases h2 : sp_ah P c q ≤ b
      · rw [if_pos ⟨h2, hb⟩]; omega
      · rw [if_neg (fun z => h2 z.1)]
        exact ih (by omega) (by omega)
  exact this _ (Nat.le_refl _) h
section EL
variable {P : Nat → Nat → Nat} {c h : Nat} {A B : Nat → Nat} {laters players notes playing mpl : Nat → Int32}
variable {sections things noteTold toldSection toldBar : Int32} {lengths times splayers minutes : Nat → Int32}
theorem sp_cv_in {L i v : Nat} (hi : i < pc_N P) : fb_ct (sp_cv P c h A B L v) (sp_ah P c (i + 1) - L) = fb_ct (sp_cv P c h A B L v) (sp_ah P c i - L) + (if v = pc_W P i then fb_ct (sp_so P c h A B) (sp_ah P c (i + 1) - L) - fb_ct (sp_so P c h A B) (sp_ah P c i - L) else 0) := by
  have hm := sp_ah_mono (P := P) c (show i ≤ i + 1 from by omega)
  have e : sp_ah P c (i + 1) - L = (sp_ah P c i - L) + ((sp_ah P c (i + 1) - L) - (sp_ah P c i - L)) := by omega
  have e1 := fb_ct_split (sp_cv P c h A B L v) (sp_ah P c i - L) ((sp_ah P c (i + 1) - L) - (sp_ah P c i - L))
  have e2 := fb_ct_split (sp_so P c h A B) (sp_ah P c i - L) ((sp_ah P c (i + 1) - L) - (sp_ah P c i - L))
  rw [← e] at e1 e2
  have hw : ∀ k, k < (sp_ah P c (i + 1) - L) - (sp_ah P c i - L) → sp_who P c (sp_ah P c i - L + k + L) = pc_W P i := fun k hk => by
    unfold sp_who
    exact sp_wb_in (by omega) (by omega) hi
  by_cases hv : v = pc_W P i
  · have e3 : fb_ct (fun k => sp_cv P c h A B L v (sp_ah P c i - L + k)) ((sp_ah P c (i + 1) - L) - (sp_ah P c i - L)) = fb_ct (fun k => sp_so P c h A B (sp_ah P c i - L + k)) ((sp_ah P c (i + 1) - L) - (sp_ah P c i - L)) := fb_ct_cong (fun k hk => by
      show (sp_so P c h A B (sp_ah P c i - L + k) && decide (sp_who P c (sp_ah P c i - L + k + L) = v)) = _
      rw [hw k hk, hv, decide_eq_true rfl, Bool.and_true])
    rw [if_pos hv]
    omega
  · have e3 : fb_ct (fun k => sp_cv P c h A B L v (sp_ah P c i - L + k)) ((sp_ah P c (i + 1) - L) - (sp_ah P c i - L)) = 0 := fb_ct_zero.mpr (fun k hk => by
      show (sp_so P c h A B (sp_ah P c i - L + k) && decide (sp_who P c (sp_ah P c i - L + k + L) = v)) = false
      rw [hw k hk, decide_eq_false (fun z => hv z.symm), Bool.and_false])
    rw [if_neg hv]
    omega
/-- past the last bar all is silent -/
theorem sp_cv_end (hP : rl_P P) {L v : Nat} (hv : v < 5) : fb_ct (sp_cv P c h A B L v) (sp_ah P c (pc_N P)) = if v = 4 then fb_ct (sp_so P c h A B) (sp_ah P c (pc_N P)) - fb_ct (sp_so P c h A B) (sp_ah P c (pc_N P) - L) else fb_ct (sp_cv P c h A B L v) (sp_ah P c (pc_N P) - L) := by
  have e : sp_ah P c (pc_N P) = (sp_ah P c (pc_N P) - L) + (sp_ah P c (pc_N P) - (sp_ah P c (pc_N P) - L)) := by omega
  have e1 := fb_ct_split (sp_cv P c h A B L v) (sp_ah P c (pc_N P) - L) (sp_ah P c (pc_N P) - (sp_ah P c (pc_N P) - L))
  have e2 := fb_ct_split (sp_so P c h A B) (sp_ah P c (pc_N P) - L) (sp_ah P c (pc_N P) - (sp_ah P c (pc_N P) - L))
  rw [← e] at e1 e2
  have hw : ∀ k, k < sp_ah P c (pc_N P) - (sp_ah P c (pc_N P) - L) → sp_who P c (sp_ah P c (pc_N P) - L + k + L) = 4 := fun k hk => by
    unfold sp_who
    exact sp_wb_out (by omega)
  by_cases h4 : v = 4
  · have e3 : fb_ct (fun k => sp_cv P c h A B L v (sp_ah P c (pc_N P) - L + k)) (sp_ah P c (pc_N P) - (sp_ah P c (pc_N P) - L)) = fb_ct (fun k => sp_so P c h A B (sp_ah P c (pc_N P) - L + k)) (sp_ah P c (pc_N P) - (sp_ah P c (pc_N P) - L)) := fb_ct_cong (fun k hk => by
      show (sp_so P c h A B (sp_ah P c (pc_N P) - L + k) && decide (sp_who P c (sp_ah P c (pc_N P) - L + k + L) = v)) = _
      rw [hw k hk, h4, decide_eq_true rfl, Bool.and_true])
    have e4 : fb_ct (sp_cv P c h A B L v) (sp_ah P c (pc_N P) - L) = 0 := fb_ct_zero.mpr (fun k hk => by
      show (sp_so P c h A B k && decide (sp_who P c (k + L) = v)) = false
      have : sp_who P c (k + L) ≤ 3 := sp_who_le3 hP (by omega)
      rw [decide_eq_false (by omega), Bool.and_false])
    rw [if_pos h4]
    omega
  · have e3 : fb_ct (fun k => sp_cv P c h A B L v (sp_ah P c (pc_N P) - L + k)) (sp_ah P c (pc_N P) - (sp_ah P c (pc_N P) - L)) = 0 := fb_ct_zero.mpr (fun k hk => by
      show (sp_so P c h A B (sp_ah P c (pc_N P) - L + k) && decide (sp_who P c (sp_ah P c (pc_N P) - L + k + L) = v)) = false
      rw [hw k hk, decide_eq_false (fun z => h4 z.symm), Bool.and_false])
    rw [if_neg h4]
    omega
theorem ev_grt_l146 {ans : Nat → Int32} {f : Nat → Nat} (hf : ∀ v, v < 5 → ans v = nI (f v)) (hfl : ∀ v, v < 5 → f v ≤ 960) : ∀ (n v m : Nat), v ≤ 5 → 5 - v < n → m ≤ 960 → (∀ u, u < v → f u ≤ m) → (m = 0 ∨ ∃ u, u < 5 ∧ f u = m) → ∃ g, mi_X3_greatestAnswer_l146 n (nI m) (nI v) ans = some (nI g, ans) ∧ g ≤ 960 ∧ rl_mx f g := by
  intro n
  induction n with
  | zero => intro v m h1 h2; exact absurd h2 (Nat.not_lt_zero _)
  | succ n ih =>
    intro v m h1 h2 h3 h4 h5
    rw [mi_X3_greatestAnswer_l146]
    by_cases hv : v = 5
    · subst hv
      rw [if_pos (show (5 : Int32) ≤ nI 5 from by decide)]
      refine ⟨m, rfl, h3, h4, ?_⟩
      rcases h5 with h5 | h5
      · have := h4 0 (by omega)
        exact ⟨0, by omega, by omega⟩
      · exact h5
    · have hfv := hfl v (by omega)
      rw [if_neg (show ¬ (5 : Int32) ≤ nI v from nI_ge (b := 5) (by omega) (by omega)), ev_g (ev_in (by omega) (by decide)), ev_cl (by omega), hf v (by omega), nI_1]
      by_cases hm : m < f v
      · rw [if_pos (nI_lt hm (by omega))]
        exact ih (v + 1) (f v) (by omega) (by omega) hfv (fun u hu => by
          by_cases hu2 : u = v
          · rw [hu2]; exact Nat.le_refl _
          · have := h4 u (by omega); omega) (Or.inr ⟨v, by omega, rfl⟩)
      · rw [if_neg (nI_nlt (by omega) (by omega))]
        exact ih (v + 1) m (by omega) (by omega) h3 (fun u hu => by
          by_cases hu2 : u = v
          · rw [hu2]; omega
          · exact h4 u (by omega)) h5
theorem ev_grt_l33 (hP : rl_P P) (hS : rl_S P sections things noteTold toldSection toldBar lengths times splayers minutes) {pa : Nat → Int32} {L : Nat} (hc : c < 2 ^ 31) (hL : L ≤ 60) (hpa : ∀ q, q ≤ sp_ah P c (pc_N P) → pa q = nI (fb_ct (sp_so P c h A B) q)) : ∀ (n i : Nat) (ans : Nat → Int32), i ≤ pc_N P → pc_N P - i < n → (∀ v, v < 4 → ans v = nI (fb_ct (sp_cv P c h A B L v) (sp_ah P c i - L))) →
    ∃ g ans', mi_X3_greatestAnswer_l33 (nI (sp_ah P c (pc_N P))) pa sections lengths times splayers (nI L) (nI c) n (nI (sp_ah P c i)) (nI i) ans = some (nI g, ans') ∧ g ≤ 960 ∧ rl_mx (fun v => fb_ct (sp_cv P c h A B L v) (sp_ah P c (pc_N P))) g := by
  have h8 := hP.1
  have h960 := sp_ah_960 hP c (Nat.le_refl (pc_N P))
  intro n
  induction n with
  | zero => intro i ans h1 h2; exact absurd h2 (Nat.not_lt_zero _)
  | succ n ih =>
    intro i ans h1 h2 h3
    rw [mi_X3_greatestAnswer_l33]
    by_cases hi : i = pc_N P
    · subst hi
      have hle : fb_ct (sp_so P c h A B) (sp_ah P c (pc_N P) - L) ≤ fb_ct (sp_so P c h A B) (sp_ah P c (pc_N P)) := fb_ct_mono _ (by omega)
      have hle2 := fb_ct_le (sp_so P c h A B) (sp_ah P c (pc_N P))
      have la : mi_X3_placesInAll (nI (sp_ah P c (pc_N P))) pa = some (nI (fb_ct (sp_so P c h A B) (sp_ah P c (pc_N P)))) := by
        unfold mi_X3_placesInAll
        rw [jx_b1_eq (ev_aheadOf h960 rfl (Nat.le_refl _)), hpa _ (Nat.le_refl _)]
      rw [if_pos (by rw [hS.1]; exact nI_le (Nat.le_refl _) (by omega)), jx_b1_eq la, jx_b1_eq (ev_aheadSub h960 (Nat.le_refl _) hL), hpa _ (by omega), ev_nsub (by omega) hle, ev_n4]
      have hz := ev_grt_l146 (ans := upd ans 4 (nI (fb_ct (sp_so P c h A B) (sp_ah P c (pc_N P)) - fb_ct (sp_so P c h A B) (sp_ah P c (pc_N P) - L)))) (f := fun v => fb_ct (sp_cv P c h A B L v) (sp_ah P c (pc_N P))) (fun v hv => by
        show _ = nI (fb_ct (sp_cv P c h A B L v) (sp_ah P c (pc_N P)))
        rw [sp_cv_end hP hv]
        by_cases h4 : v = 4
        · rw [if_pos h4, h4, pk_us]
        · rw [if_neg h4, pk_un h4]
          exact h3 v (by omega)) (fun v hv => Nat.le_trans (fb_ct_le _ _) h960) jx_F 0 0 (by omega) (by show 5 - 0 < 100000000; omega) (by omega) (fun u hu => absurd hu (Nat.not_lt_zero u)) (Or.inl rfl)
      obtain ⟨g, g1, g2, g3⟩ := hz
      exact ⟨g, _, g1, g2, g3⟩
    · have hiN : i < pc_N P := by omega
      have hW : pc_W P i ≤ 3 := (hP.2.2.1 i hiN).2.2.2.2
      have hu : sp_ah P c (i + 1) = sp_ah P c i + (if c.testBit i then 0 else pc_L P i * pc_T P i) := rfl
      have hm2 := sp_ah_mono (P := P) c (show i + 1 ≤ pc_N P from by omega)
      have hm3 := sp_ah_mono (P := P) c (show i ≤ i + 1 from by omega)
      rw [if_neg (by rw [hS.1]; exact nI_ge (by omega) (by omega)), jx_b1_eq (ev_isIn hc (by omega))]
      have key : ∀ (k1 : Int32), nI (sp_ah P c i) + k1 = nI (sp_ah P c (i + 1)) → ∃ g ans', mi_X3_greatestAnswer_b67 (nI (sp_ah P c (pc_N P))) pa sections splayers (nI L) (mi_X3_greatestAnswer_l33 (nI (sp_ah P c (pc_N P))) pa sections lengths times splayers (nI L) (nI c) n) (nI i) (nI (sp_ah P c i)) (nI (sp_ah P c i)) k1 ans = some (nI g, ans') ∧ g ≤ 960 ∧ rl_mx (fun v => fb_ct (sp_cv P c h A B L v) (sp_ah P c (pc_N P))) g := by
        intro k1 hk1
        have f1 := ev_within (nI (pc_W P i)) 0 3
        rw [decide_eq_true (show (0 : Int32) ≤ nI (pc_W P i) from nI_le (a := 0) (by omega) (by omega)), decide_eq_true (show nI (pc_W P i) ≤ (3 : Int32) from nI_le (b := 3) hW (by omega))] at f1
        have hle : fb_ct (sp_so P c h A B) (sp_ah P c i - L) ≤ fb_ct (sp_so P c h A B) (sp_ah P c (i + 1) - L) := fb_ct_mono _ (by omega)
        have hle2 := fb_ct_le (sp_so P c h A B) (sp_ah P c (i + 1) - L)
        unfold mi_X3_greatestAnswer_b67 mi_X3_greatestAnswer_b115
        rw [jx_b1_eq (ev_whoOf hP hS hiN), jx_b1_eq f1, if_neg (by decide), ev_g (ev_in (by omega) (by decide)), hk1, jx_b1_eq (ev_aheadSub h960 hm2 hL), jx_b1_eq (ev_aheadSub h960 (by omega) hL), ev_g (ev_in (by omega) (by decide)), ev_cl (by omega), nI_1, hpa _ (by omega), hpa _ (by omega), ev_nsub (by omega) hle, h3 _ (by omega), nI_add]
        exact ih (i + 1) _ (by omega) (by omega) (fun v hv => by
          rw [sp_cv_in hiN]
          by_cases hvw : v = pc_W P i
          · rw [if_pos hvw, hvw, pk_us]
          · rw [if_neg hvw, pk_un hvw, Nat.add_zero]
            exact h3 v hv)
      cases hb : c.testBit i with
      | true =>
        rw [if_neg (by decide)]
        exact key 0 (by rw [hu, hb]; exact nI_add _ 0)
      | false =>
        rw [if_pos ev_bf, jx_b1_eq (ev_barsOf hP hS hiN)]
        exact key _ (by rw [hu, hb, nI_add]; simp)
theorem ev_grt_l3 : ∀ (n v : Nat) (ans : Nat → Int32) (bars : Int32) (pa : Nat → Int32) (p1 p3 : Int32), v ≤ 5 → 5 - v < n → (∀ u, u < v → ans u = 0) → ∃ ans', (∀ u, u < 5 → ans' u = 0) ∧ mi_X3_greatestAnswer_l3 bars pa sections lengths times splayers p1 p3 n (nI v) ans = mi_X3_greatestAnswer_l33 bars pa sections lengths times splayers p1 p3 jx_F 0 0 ans' := by
  intro n
  induction n with
  | zero => intro v ans bars pa p1 p3 h1 h2; exact absurd h2 (Nat.not_lt_zero _)
  | succ n ih =>
    intro v ans bars pa p1 p3 h1 h2 h3
    rw [mi_X3_greatestAnswer_l3]
    by_cases hv : v = 5
    · subst hv
      rw [if_pos (show (5 : Int32) ≤ nI 5 from by decide)]
      exact ⟨ans, h3, rfl⟩
    · rw [if_neg (show ¬ (5 : Int32) ≤ nI v from nI_ge (b := 5) (by omega) (by omega)), ev_g (ev_in (by omega) (by decide)), ev_cl (by omega), nI_1]
      exact ih (v + 1) _ bars pa p1 p3 (by omega) (by omega) (fun u hu => by
        by_cases huv : u = v
        · rw [huv, pk_us]
        · rw [pk_un huv]; exact h3 u (by omega))
theorem ev_greatest (hP : rl_P P) (hS : rl_S P sections things noteTold toldSection toldBar lengths times splayers minutes) {pa : Nat → Int32} {L : Nat} (hc : c < 2 ^ 31) (hL : L ≤ 60) (hpa : ∀ q, q ≤ sp_ah P c (pc_N P) → pa q = nI (fb_ct (sp_so P c h A B) q)) (ans : Nat → Int32) :
    ∃ g ans', mi_X3_greatestAnswer (nI (sp_ah P c (pc_N P))) pa ans sections lengths times splayers (nI L) (nI c) = some (nI g, ans') ∧ g ≤ 960 ∧ rl_mx (fun v => fb_ct (sp_cv P c h A B L v) (sp_ah P c (pc_N P))) g := by
  have h8 := hP.1
  obtain ⟨a1, h1, h2⟩ := ev_grt_l3 (sections := sections) (lengths := lengths) (times := times) (splayers := splayers) jx_F 0 ans (nI (sp_ah P c (pc_N P))) pa (nI L) (nI c) (by omega) (by show 5 - 0 < 100000000; omega) (fun u hu => absurd hu (Nat.not_lt_zero u))
  have h3 := ev_grt_l33 (h := h) (A := A) (B := B) hP hS hc hL hpa jx_F 0 a1 (Nat.zero_le _) (by show pc_N P - 0 < 100000000; omega) (fun v hv => by
    rw [h1 v (by omega), show sp_ah P c 0 - L = 0 from by show 0 - L = 0; omega]
    rfl)
  obtain ⟨g, a2, g1, g2, g3⟩ := h3
  exact ⟨g, a2, h2.trans g1, g2, g3⟩
theorem ev_listen_l62 (hP : rl_P P) (hAB : rl_AB h A B laters players notes) (hpl : ∀ b, b < 1100 → mpl b = nI (sp_who P c b)) {bars L e : Nat} {x1 x2 : Int32} {K : Int32 → Int32 → Int32 → Int32 → Int32 → (Nat → Int32) → (Nat → Int32) → Option (Int32 × (Nat → Int32) × (Nat → Int32))} (hb : bars ≤ 960) (hL : L ≤ 60) (he : e ≤ 961) : ∀ (n b m : Nat) (ans : Nat → Int32), b ≤ bars → bars - b < n → (∀ v, v < 5 → ans v = nI (fb_ct (sp_cv P c h A B L v) b)) → rl_mx (fun v => fb_ct (sp_cv P c h A B L v) b) m →
    ∃ g ans', mi_X12_listen_l62 (nI h) notes K n x1 x2 (nI e) (nI bars) (nI L) (nI m) (nI b) mpl ans = K x1 (if e ≤ g then x2 else nI L) (nI (if e ≤ g then e else g)) (nI bars) (nI (L + 1)) mpl ans' ∧ rl_mx (fun v => fb_ct (sp_cv P c h A B L v) bars) g := by
  intro n
  induction n with
  | zero => intro b m ans h1 h2; exact absurd h2 (Nat.not_lt_zero _)
  | succ n ih =>
    intro b m ans h1 h2 h3 h4
    have hm : m ≤ 960 := by
      obtain ⟨-, v, v1, v2⟩ := h4
      have := fb_ct_le (sp_cv P c h A B L v) b
      have v2 : fb_ct (sp_cv P c h A B L v) b = m := v2
      omega
    rw [mi_X12_listen_l62]
    by_cases hbb : b = bars
    · subst hbb
      rw [if_pos (nI_le (Nat.le_refl _) (by omega))]
      refine ⟨m, ans, ?_, h4⟩
      unfold mi_X12_listen_b145 mi_X12_listen_b158
      by_cases hem : e ≤ m
      · rw [if_pos (nI_le hem (by omega)), if_pos (nI_le hem (by omega)), if_pos hem, if_pos hem, nI_1]
      · rw [if_neg (nI_ge (by omega) (by omega)), if_neg (nI_ge (by omega) (by omega)), if_neg hem, if_neg hem, nI_1]
    · have hw := sp_who_le hP c (b + L)
      rw [if_neg (nI_ge (by omega) (by omega)), jx_b1_eq (ev_isSo hP hAB hpl (by omega))]
      cases hs : sp_so P c h A B b with
      | false =>
        rw [if_pos ev_bf]
        unfold mi_X12_listen_b127
        rw [nI_1]
        have hcv : ∀ v, fb_ct (sp_cv P c h A B L v) (b + 1) = fb_ct (sp_cv P c h A B L v) b := fun v => by
          rw [fb_ct_succ]
          have : sp_cv P c h A B L v b = false := by unfold sp_cv; rw [hs, Bool.false_and]
          rw [this]; rfl
        exact ih (b + 1) m ans (by omega) (by omega) (fun v hv => by rw [hcv]; exact h3 v hv) (by
          have : (fun v => fb_ct (sp_cv P c h A B L v) (b + 1)) = fun v => fb_ct (sp_cv P c h A B L v) b := funext hcv
          rw [this]; exact h4)
      | true =>
        have hcv : ∀ v, fb_ct (sp_cv P c h A B L v) (b + 1) = fb_ct (sp_cv P c h A B L v) b + (if v = sp_who P c (b + L) then 1 else 0) := fun v => by
          rw [fb_ct_succ]
          by_cases hv : v = sp_who P c (b + L)
          · have : sp_cv P c h A B L v b = true := by unfold sp_cv; rw [hs, Bool.true_and, decide_eq_true hv.symm]
            rw [this, if_pos rfl, if_pos hv]
          · have : sp_cv P c h A B L v b = false := by unfold sp_cv; rw [hs, Bool.true_and, decide_eq_false (fun z => hv z.symm)]
            rw [this, if_neg (by decide), if_neg hv]
        have hcl := fb_ct_le (sp_cv P c h A B L (sp_who P c (b + L))) b
        rw [if_neg (show ¬ ev_b true = 0 by decide), nI_add, ev_g (ev_in (by omega) (by decide)), ev_cl (by omega), hpl _ (by omega), ev_g (ev_in (by omega) (by decide)), ev_g (ev_in (by omega) (by decide)), ev_g (ev_in (by omega) (by decide)), ev_cl (by omega), h3 _ (by omega), nI_1, pk_us, ev_g (ev_in (by omega) (by decide))]
        unfold mi_X12_listen_b125 mi_X12_listen_b127
        rw [nI_1]
        have hans : ∀ v, v < 5 → upd ans (sp_who P c (b + L)) (nI (fb_ct (sp_cv P c h A B L (sp_who P c (b + L))) b + 1)) v = nI (fb_ct (sp_cv P c h A B L v) (b + 1)) := fun v hv => by
          rw [hcv]
          by_cases hvw : v = sp_who P c (b + L)
          · rw [if_pos hvw, hvw, pk_us]
          · rw [if_neg hvw, pk_un hvw]; exact h3 v hv
        by_cases hg : fb_ct (sp_cv P c h A B L (sp_who P c (b + L))) b + 1 ≤ m
        · rw [if_pos (nI_le hg (by omega))]
          refine ih (b + 1) m _ (by omega) (by omega) hans ⟨fun v hv => ?_, ?_⟩
          · show fb_ct (sp_cv P c h A B L v) (b + 1) ≤ m
            rw [hcv]
            have : fb_ct (sp_cv P c h A B L v) b ≤ m := h4.1 v hv
            by_cases hvw : v = sp_who P c (b + L)
            · rw [if_pos hvw, hvw]; omega
            · rw [if_neg hvw]; omega
          · obtain ⟨v, v1, v2⟩ := h4.2
            have v2 : fb_ct (sp_cv P c h A B L v) b = m := v2
            refine ⟨v, v1, ?_⟩
            show fb_ct (sp_cv P c h A B L v) (b + 1) = m
            rw [hcv, if_neg (fun z => by rw [← z] at hg; omega)]
            omega
        · rw [if_neg (nI_ge (by omega) (by omega))]
          refine ih (b + 1) _ _ (by omega) (by omega) hans ⟨fun v hv => ?_, ⟨sp_who P c (b + L), by omega, ?_⟩⟩
          · show fb_ct (sp_cv P c h A B L v) (b + 1) ≤ _
            rw [hcv]
            have : fb_ct (sp_cv P c h A B L v) b ≤ m := h4.1 v hv
            by_cases hvw : v = sp_who P c (b + L)
            · rw [if_pos hvw, hvw]; exact Nat.le_refl _
            · rw [if_neg hvw]; omega
          · show fb_ct (sp_cv P c h A B L (sp_who P c (b + L))) (b + 1) = _
            rw [hcv, if_pos rfl]
theorem ev_listen_l36 {x1 x2 x3 x4 x5 nh : Int32} {K : Int32 → Int32 → Int32 → Int32 → Int32 → (Nat → Int32) → (Nat → Int32) → Option (Int32 × (Nat → Int32) × (Nat → Int32))} : ∀ (n v : Nat) (ans : Nat → Int32), v ≤ 5 → 5 - v < n → (∀ u, u < v → ans u = 0) → ∃ ans', (∀ u, u < 5 → ans' u = 0) ∧ mi_X12_listen_l36 nh notes K n x1 x2 x3 x4 x5 (nI v) mpl ans = mi_X12_listen_l62 nh notes K jx_F x1 x2 x3 x4 x5 0 0 mpl ans' := by
  intro n
  induction n with
  | zero => intro v ans h1 h2; exact absurd h2 (Nat.not_lt_zero _)
  | succ n ih =>
    intro v ans h1 h2 h3
    rw [mi_X12_listen_l36]
    by_cases hv : v = 5
    · subst hv
      rw [if_pos (show (5 : Int32) ≤ nI 5 from by decide)]
      exact ⟨ans, h3, rfl⟩
    · rw [if_neg (show ¬ (5 : Int32) ≤ nI v from nI_ge (b := 5) (by omega) (by omega)), ev_g (ev_in (by omega) (by decide)), ev_cl (by omega), nI_1]
      exact ih (v + 1) _ (by omega) (by omega) (fun u hu => by
        by_cases huv : u = v
        · rw [huv, pk_us]
        · rw [pk_un huv]; exact h3 u (by omega))
theorem ev_listen_go (hP : rl_P P) (hAB : rl_AB h A B laters players notes) (hpl : ∀ b, b < 1100 → mpl b = nI (sp_who P c b)) {bars L e M : Nat} {x2 : Int32} (hb : bars ≤ 960) (hL : L ≤ 60) (he : e ≤ 961) (hM : 0 < M) (hM2 : M ≤ 960) (n : Nat) (ans : Nat → Int32) :
    ∃ g ans', mi_X12_listen_l22 (nI h) notes (n + 1) (nI M) x2 (nI e) (nI bars) (nI L) mpl ans = mi_X12_listen_l22 (nI h) notes n (nI M) (if e ≤ g then x2 else nI L) (nI (if e ≤ g then e else g)) (nI bars) (nI (L + 1)) mpl ans' ∧ rl_mx (fun v => fb_ct (sp_cv P c h A B L v) bars) g := by
  rw [mi_X12_listen_l22, if_neg (show ¬ (60 : Int32) < nI L from nI_nlt (a := 60) (by omega) (by omega)), if_neg (nI_nle hM (by omega))]
  obtain ⟨a1, h1, h2⟩ := ev_listen_l36 (x1 := nI M) (x2 := x2) (x3 := nI e) (x4 := nI bars) (x5 := nI L) (nh := nI h) (notes := notes) (mpl := mpl) (K := mi_X12_listen_l22 (nI h) notes n) jx_F 0 ans (by omega) (by show 5 - 0 < 100000000; omega) (fun u hu => absurd hu (Nat.not_lt_zero u))
  obtain ⟨g, a2, g1, g2⟩ := ev_listen_l62 hP hAB hpl (x1 := nI M) (x2 := x2) (K := mi_X12_listen_l22 (nI h) notes n) hb hL he jx_F 0 0 a1 (Nat.zero_le _) (by show bars - 0 < 100000000; omega) (fun v hv => h1 v hv) ⟨fun v _ => Nat.le_refl _, 0, by omega, rfl⟩
  exact ⟨g, a2, h2.trans g1, g2⟩
theorem ev_listen_best (hP : rl_P P) (hS : rl_S P sections things noteTold toldSection toldBar lengths times splayers minutes) (hAB : rl_AB h A B laters players notes) (hpl : ∀ b, b < 1100 → mpl b = nI (sp_who P c b)) {pa : Nat → Int32} {M : Nat} (hc : c < 2 ^ 31) (hM : 0 < M) (hM2 : M ≤ 960) (hpa : ∀ q, q ≤ sp_ah P c (pc_N P) → pa q = nI (fb_ct (sp_so P c h A B) q)) : ∀ (n L m e : Nat) (x : Int32) (ans mans : Nat → Int32), L ≤ 61 → 61 - L < n → 61 - L < m → e ≤ 961 →
    ∃ R ans' mans', mi_X3_bestToListen_l14 (nI (sp_ah P c (pc_N P))) pa sections lengths times splayers (nI c) n x (nI e) (nI L) ans = some (R, ans') ∧ mi_X12_listen_l22 (nI h) notes m (nI M) x (nI e) (nI (sp_ah P c (pc_N P))) (nI L) mpl mans = some (R, mpl, mans') := by
  have h960 := sp_ah_960 hP c (Nat.le_refl (pc_N P))
  intro n
  induction n with
  | zero => intro L m e x ans mans h1 h2; exact absurd h2 (Nat.not_lt_zero _)
  | succ n ih =>
    intro L m e x ans mans h1 h2 h3 h4
    obtain ⟨m, rfl⟩ : ∃ k, m = k + 1 := ⟨m - 1, by omega⟩
    by_cases hL : L = 61
    · subst hL
      refine ⟨x, ans, mans, ?_, ?_⟩
      · rw [mi_X3_bestToListen_l14, if_pos (show (60 : Int32) < nI 61 from by decide)]
      · rw [mi_X12_listen_l22, if_pos (show (60 : Int32) < nI 61 from by decide)]
    · obtain ⟨g, a1, g1, g2, g3⟩ := ev_greatest (h := h) (A := A) (B := B) hP hS (L := L) hc (by omega) hpa ans
      obtain ⟨g', a2, k1, k2⟩ := ev_listen_go hP hAB hpl (L := L) (e := e) (M := M) (x2 := x) h960 (by omega) h4 hM hM2 m mans
      have hg := rl_mx_one g3 k2
      subst hg
      rw [mi_X3_bestToListen_l14, if_neg (show ¬ (60 : Int32) < nI L from nI_nlt (a := 60) (by omega) (by omega)), jx_b2_eq g1, k1]
      unfold mi_X3_bestToListen_b45
      rw [nI_1]
      by_cases heg : e ≤ g
      · rw [if_pos (nI_le heg (by omega)), if_pos heg, if_pos heg]
        exact ih (L + 1) m e x a1 a2 (by omega) (by omega) (by omega) h4
      · rw [if_neg (nI_ge (by omega) (by omega)), if_neg heg, if_neg heg]
        exact ih (L + 1) m g (nI L) a1 a2 (by omega) (by omega) (by omega) (by omega)
end EL
