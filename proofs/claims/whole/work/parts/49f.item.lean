/-! one thing told: a section, a thing to pack, the note -/
theorem pk_ud (a : Nat → Int32) (i : Nat) (v : Int32) (j : Nat) : upd a i v j = if j = i then v else a j := by
  by_cases h : j = i
  · rw [if_pos h, h, pk_us]
  · rw [if_neg h, pk_un h]
def pc_addS (P : Nat → Nat → Nat) (l t w ns : Nat) : Nat → Nat → Nat
  | 0, _ => pc_N P + 1
  | 1, q => if q = pc_N P then l else pc_L P q
  | 2, q => if q = pc_N P then t else pc_T P q
  | 3, q => if q = pc_N P then w else pc_W P q
  | 6, _ => ns
  | i, q => P i q
def pc_addM (P : Nat → Nat → Nat) (m : Nat) : Nat → Nat → Nat
  | 4, _ => pc_nt P + 1
  | 5, q => if q = pc_nt P then m else pc_M P q
  | i, q => P i q
def pc_addN (P : Nat → Nat → Nat) (a b : Nat) : Nat → Nat → Nat
  | 6, _ => a
  | 7, _ => b
  | i, q => P i q
def rl_D (P : Nat → Nat → Nat) (j : Nat) (sections things noteTold toldSection toldBar : Int32) (lengths times players minutes D : Nat → Int32) : Prop :=
  rl_P P ∧ rl_S P sections things noteTold toldSection toldBar lengths times players minutes ∧ D 0 = nI (pc_N P) ∧ D 1 = nI (pc_nt P) ∧ D 2 = nI j ∧ (∀ q, q < pc_N P → D (6 + q) = nI (pc_L P q) ∧ D (14 + q) = nI (pc_T P q) ∧ D (22 + q) = nI (pc_W P q)) ∧ (∀ q, q < pc_nt P → D (30 + q) = nI (pc_M P q)) ∧ D 5 = nI (pc_nb P) ∧ ((noteTold = 0 ∧ D 3 = 0 ∧ pc_nb P = 0 ∧ j ≤ pc_N P + pc_nt P) ∨ (noteTold = 1 ∧ D 3 = 1 ∧ D 4 = nI (pc_ns P) ∧ 0 < pc_N P ∧ j ≤ pc_N P + pc_nt P + 1))
section IT
variable {n : Nat} {T : Nat → Int32} {P : Nat → Nat → Nat} {j : Nat} {sections things noteTold toldSection toldBar : Int32} {lengths times players minutes D : Nat → Int32}
theorem rl_D_j (h : rl_D P j sections things noteTold toldSection toldBar lengths times players minutes D) : j ≤ 15 := by
  obtain ⟨hP, -, -, -, -, -, -, -, h⟩ := h
  have := hP.1
  have := hP.2.1
  rcases h with ⟨-, -, -, h⟩ | ⟨-, -, -, -, h⟩ <;> omega
theorem rl_D_sec (h : rl_D P j sections things noteTold toldSection toldBar lengths times players minutes D) (hN : pc_N P < 8) {l t w : Nat} (hl : 1 ≤ l ∧ l ≤ 30) (ht : 1 ≤ t ∧ t ≤ 4) (hw : w ≤ 3) :
    ∃ P', rl_D P' (j + 1) (nI (pc_N P + 1)) things noteTold toldSection toldBar (upd lengths (pc_N P) (nI l)) (upd times (pc_N P) (nI t)) (upd players (pc_N P) (nI w)) minutes (upd (upd (upd (upd (upd D (6 + pc_N P) (nI l)) (14 + pc_N P) (nI t)) (22 + pc_N P) (nI w)) 0 (nI (pc_N P + 1))) 2 (nI (j + 1))) := by
  obtain ⟨hP, hS, d0, d1, d2, d6, d30, d5, d3⟩ := h
  obtain ⟨p1, p2, p3, p4, p5⟩ := hP
  obtain ⟨s1, s2, s3, s4, s5, s6⟩ := hS
  have fin : ∀ ns, ns < pc_N P + 1 → (pc_nb P < (if ns = pc_N P then l else pc_L P ns)) → ((noteTold = 0 ∧ ns = pc_N P) ∨ (noteTold = 1 ∧ toldSection = nI ns)) → ((noteTold = 0 ∧ D 3 = 0 ∧ pc_nb P = 0 ∧ j ≤ pc_N P + pc_nt P) ∨ (noteTold = 1 ∧ D 3 = 1 ∧ D 4 = nI ns ∧ 0 < pc_N P ∧ j ≤ pc_N P + pc_nt P + 1)) → rl_D (pc_addS P l t w ns) (j + 1) (nI (pc_N P + 1)) things noteTold toldSection toldBar (upd lengths (pc_N P) (nI l)) (upd times (pc_N P) (nI t)) (upd players (pc_N P) (nI w)) minutes (upd (upd (upd (upd (upd D (6 + pc_N P) (nI l)) (14 + pc_N P) (nI t)) (22 + pc_N P) (nI w)) 0 (nI (pc_N P + 1))) 2 (nI (j + 1))) := by
    intro ns n1 n2 n3 n4
    refine ⟨⟨?_, p2, ?_, p4, ?_⟩, ⟨rfl, s2, ?_, s4, s5, ?_⟩, ?_, ?_, ?_, ?_, ?_, ?_, ?_⟩
    · show pc_N P + 1 ≤ 8
      omega
    · intro q hq
      have hq : q < pc_N P + 1 := hq
      show 1 ≤ (if q = pc_N P then l else pc_L P q) ∧ (if q = pc_N P then l else pc_L P q) ≤ 30 ∧ 1 ≤ (if q = pc_N P then t else pc_T P q) ∧ (if q = pc_N P then t else pc_T P q) ≤ 4 ∧ (if q = pc_N P then w else pc_W P q) ≤ 3
      by_cases hqn : q = pc_N P
      · simp only [if_pos hqn]; omega
      · simp only [if_neg hqn]; exact p3 q (by omega)
    · intro _
      exact ⟨n1, n2⟩
    · intro q hq
      have hq : q < pc_N P + 1 := hq
      show upd lengths (pc_N P) (nI l) q = nI (if q = pc_N P then l else pc_L P q) ∧ upd times (pc_N P) (nI t) q = nI (if q = pc_N P then t else pc_T P q) ∧ upd players (pc_N P) (nI w) q = nI (if q = pc_N P then w else pc_W P q)
      simp only [pk_ud]
      by_cases hqn : q = pc_N P
      · simp only [if_pos hqn, and_self]
      · simp only [if_neg hqn]; exact s3 q (by omega)
    · rcases n3 with ⟨n3, n5⟩ | ⟨n3, n5⟩
      · exact Or.inl ⟨n3, by show ns = pc_N P + 1 - 1; omega⟩
      · exact Or.inr ⟨n3, n5⟩
    · rw [pk_un (by omega), pk_us]
      rfl
    · simp only [pk_ud]
      rw [if_neg (by omega), if_neg (by omega), if_neg (by omega), if_neg (by omega), if_neg (by omega)]
      exact d1
    · rw [pk_us]
    · intro q hq
      have hq : q < pc_N P + 1 := hq
      show _ = nI (if q = pc_N P then l else pc_L P q) ∧ _ = nI (if q = pc_N P then t else pc_T P q) ∧ _ = nI (if q = pc_N P then w else pc_W P q)
      simp only [pk_ud]
      by_cases hqn : q = pc_N P
      · simp only [if_pos hqn]
        refine ⟨?_, ?_, ?_⟩
        · rw [if_neg (by omega), if_neg (by omega), if_neg (by omega), if_neg (by omega), if_pos (by omega)]
        · rw [if_neg (by omega), if_neg (by omega), if_neg (by omega), if_pos (by omega)]
        · rw [if_neg (by omega), if_neg (by omega), if_pos (by omega)]
      · simp only [if_neg hqn]
        obtain ⟨k1, k2, k3⟩ := d6 q (by omega)
        refine ⟨?_, ?_, ?_⟩
        · rw [if_neg (by omega), if_neg (by omega), if_neg (by omega), if_neg (by omega), if_neg (by omega)]; exact k1
        · rw [if_neg (by omega), if_neg (by omega), if_neg (by omega), if_neg (by omega), if_neg (by omega)]; exact k2
        · rw [if_neg (by omega), if_neg (by omega), if_neg (by omega), if_neg (by omega), if_neg (by omega)]; exact k3
    · intro q hq
      simp only [pk_ud]
      rw [if_neg (by omega), if_neg (by omega), if_neg (by omega), if_neg (by omega), if_neg (by omega)]
      exact d30 q hq
    · simp only [pk_ud]
      rw [if_neg (by omega), if_neg (by omega), if_neg (by omega), if_neg (by omega), if_neg (by omega)]
      exact d5
    · simp only [pk_ud]
      rw [if_neg (by omega), if_neg (by omega), if_neg (by omega), if_neg (by omega), if_neg (by omega), if_neg (by omega), if_neg (by omega), if_neg (by omega), if_neg (by omega), if_neg (by omega)]
      rcases n4 with ⟨n4, n5, n6, n7⟩ | ⟨n4, n5, n6, n7, n8⟩
      · exact Or.inl ⟨n4, n5, n6, by show j + 1 ≤ pc_N P + 1 + pc_nt P; omega⟩
      · exact Or.inr ⟨n4, n5, n6, by show 0 < pc_N P + 1; omega, by show j + 1 ≤ pc_N P + 1 + pc_nt P + 1; omega⟩
  rcases d3 with ⟨k1, k2, k3, k4⟩ | ⟨k1, k2, k3, k4, k5⟩
  · exact ⟨_, fin (pc_N P) (by omega) (by rw [if_pos rfl]; omega) (Or.inl ⟨k1, rfl⟩) (Or.inl ⟨k1, k2, k3, k4⟩)⟩
  · have hns := p5 k4
    refine ⟨_, fin (pc_ns P) (by omega) (by rw [if_neg (by omega)]; exact hns.2) ?_ (Or.inr ⟨k1, k2, k3, k4, k5⟩)⟩
    rcases s6 with ⟨z, -⟩ | ⟨-, z⟩
    · rw [k1] at z; exact absurd z (by decide)
    · exact Or.inr ⟨k1, z⟩
theorem rl_D_thing (h : rl_D P j sections things noteTold toldSection toldBar lengths times players minutes D) (hM : pc_nt P < 6) {m : Nat} (hm : 1 ≤ m ∧ m ≤ 60) :
    ∃ P', rl_D P' (j + 1) sections (nI (pc_nt P + 1)) noteTold toldSection toldBar lengths times players (upd minutes (pc_nt P) (nI m)) (upd (upd (upd D (30 + pc_nt P) (nI m)) 1 (nI (pc_nt P + 1))) 2 (nI (j + 1))) := by
  obtain ⟨hP, hS, d0, d1, d2, d6, d30, d5, d3⟩ := h
  obtain ⟨p1, p2, p3, p4, p5⟩ := hP
  obtain ⟨s1, s2, s3, s4, s5, s6⟩ := hS
  refine ⟨pc_addM P m, ⟨p1, ?_, p3, ?_, p5⟩, ⟨s1, rfl, s3, ?_, s5, s6⟩, ?_, ?_, ?_, ?_, ?_, ?_, ?_⟩
  · show pc_nt P + 1 ≤ 6
    omega
  · intro q hq
    have hq : q < pc_nt P + 1 := hq
    show 1 ≤ (if q = pc_nt P then m else pc_M P q) ∧ (if q = pc_nt P then m else pc_M P q) ≤ 60
    by_cases hqn : q = pc_nt P
    · simp only [if_pos hqn]; omega
    · simp only [if_neg hqn]; exact p4 q (by omega)
  · intro q hq
    have hq : q < pc_nt P + 1 := hq
    show upd minutes (pc_nt P) (nI m) q = nI (if q = pc_nt P then m else pc_M P q)
    simp only [pk_ud]
    by_cases hqn : q = pc_nt P
    · simp only [if_pos hqn]
    · simp only [if_neg hqn]; exact s4 q (by omega)
  · simp only [pk_ud]
    rw [if_neg (by omega), if_neg (by omega), if_neg (by omega)]
    exact d0
  · rw [pk_un (by omega), pk_us]
    rfl
  · rw [pk_us]
  · intro q hq
    have hq8 : q < pc_N P := hq
    simp only [pk_ud]
    rw [if_neg (by omega), if_neg (by omega), if_neg (by omega), if_neg (by omega), if_neg (by omega), if_neg (by omega), if_neg (by omega), if_neg (by omega), if_neg (by omega)]
    exact d6 q hq
  · intro q hq
    have hq : q < pc_nt P + 1 := hq
    show _ = nI (if q = pc_nt P then m else pc_M P q)
    simp only [pk_ud]
    by_cases hqn : q = pc_nt P
    · simp only [if_pos hqn]
      rw [if_neg (by omega), if_neg (by omega), if_pos (by omega)]
    · simp only [if_neg hqn]
      rw [if_neg (by omega), if_neg (by omega), if_neg (by omega)]
      exact d30 q (by omega)
  · simp only [pk_ud]
    rw [if_neg (by omega), if_neg (by omega), if_neg (by omega)]
    exact d5
  · simp only [pk_ud]
    rw [if_neg (by omega), if_neg (by omega), if_neg (by omega), if_neg (by omega), if_neg (by omega), if_neg (by omega)]
    rcases d3 with ⟨n4, n5, n6, n7⟩ | ⟨n4, n5, n6, n7, n8⟩
    · exact Or.inl ⟨n4, n5, n6, by show j + 1 ≤ pc_N P + (pc_nt P + 1); omega⟩
    · exact Or.inr ⟨n4, n5, n6, n7, by show j + 1 ≤ pc_N P + (pc_nt P + 1) + 1; omega⟩
theorem rl_D_note (h : rl_D P j sections things noteTold toldSection toldBar lengths times players minutes D) (h0 : noteTold = 0) {a b : Nat} (ha : a < pc_N P) (hb : b < pc_L P a) :
    rl_D (pc_addN P a b) (j + 1) sections things 1 (nI a) (nI b) lengths times players minutes (upd (upd (upd (upd D 4 (nI a)) 5 (nI b)) 3 1) 2 (nI (j + 1))) := by
  obtain ⟨hP, hS, d0, d1, d2, d6, d30, d5, d3⟩ := h
  obtain ⟨p1, p2, p3, p4, p5⟩ := hP
  obtain ⟨s1, s2, s3, s4, s5, s6⟩ := hS
  refine ⟨⟨p1, p2, p3, p4, fun _ => ⟨ha, hb⟩⟩, ⟨s1, s2, s3, s4, rfl, Or.inr ⟨rfl, rfl⟩⟩, d0, d1, rfl, ?_, ?_, rfl, Or.inr ⟨rfl, rfl, rfl, ?_, ?_⟩⟩
  · intro q hq
    simp only [pk_ud]
    rw [if_neg (by omega), if_neg (by omega), if_neg (by omega), if_neg (by omega), if_neg (by omega), if_neg (by omega), if_neg (by omega), if_neg (by omega), if_neg (by omega), if_neg (by omega), if_neg (by omega), if_neg (by omega)]
    exact d6 q hq
  · intro q hq
    simp only [pk_ud]
    rw [if_neg (by omega), if_neg (by omega), if_neg (by omega), if_neg (by omega)]
    exact d30 q hq
  · show 0 < pc_N P
    omega
  · show j + 1 ≤ pc_N P + pc_nt P + 1
    rcases d3 with ⟨-, -, -, n7⟩ | ⟨n4, -⟩
    · omega
    · rw [h0] at n4; exact absurd n4 (by decide)
end IT
