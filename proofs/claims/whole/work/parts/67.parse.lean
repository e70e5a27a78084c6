-- the parsers, side by side: words
def PB (mm s sd : Nat) (σ τ : zS) (p dep ne ni nn : Nat) : Prop :=
  (∀ i, i ≤ mm → tR σ τ i) ∧ (σ 4 mm = 0 ∨ σ 4 mm = 1) ∧ (∀ i, i < mm → ¬ σ 4 i = 0 ∧ ¬ σ 4 i = 1) ∧ mm < s ∧ s ≤ 401 ∧ σ 3 3 = nI s ∧ sd < 2 ∧ τ 38 10 = nI sd ∧
  σ 3 4 = nI p ∧ τ 38 8 = nI p ∧ p ≤ mm ∧ τ 38 9 = nI dep ∧ dep ≤ 10 ∧ σ 7 7 = nI ne ∧ ne ≤ 200 ∧ σ 7 8 = nI ni ∧ τ 44 (1 - sd) = nI nn ∧ ni ≤ p ∧ nn ≤ p ∧ τ 38 3 = -1
def xFr (σ σ' : zS) (ni : Nat) : Prop := (∀ c, c ≠ 3 → c ≠ 7 → c ≠ 13 → c ≠ 14 → σ' c = σ c) ∧ (∀ k, k ≠ 4 → σ' 3 k = σ 3 k) ∧ (∀ k, k ≠ 8 → σ' 7 k = σ 7 k) ∧ (∀ i, i < ni → σ' 13 i = σ 13 i ∧ σ' 14 i = σ 14 i)
def yFr (sd : Nat) (τ τ' : zS) (nn : Nat) : Prop := (∀ c, c ≠ 38 → c ≠ 44 → ¬ (45 ≤ c ∧ c ≤ 49) → τ' c = τ c) ∧ (∀ k, k ≠ 3 → k ≠ 8 → k ≠ 9 → k ≠ 41 → τ' 38 k = τ 38 k) ∧ τ' 44 sd = τ 44 sd ∧ (∀ c n, 45 ≤ c → c ≤ 49 → n < 800 * (1 - sd) + nn ∨ 800 * (1 - sd) + 800 ≤ n → τ' c n = τ c n)
theorem xFr.rf {σ : zS} {ni : Nat} : xFr σ σ ni := ⟨fun _ _ _ _ _ => rfl, fun _ _ => rfl, fun _ _ => rfl, fun _ _ => ⟨rfl, rfl⟩⟩
theorem yFr.rf {sd : Nat} {τ : zS} {nn : Nat} : yFr sd τ τ nn := ⟨fun _ _ _ _ => rfl, fun _ _ _ _ _ => rfl, rfl, fun _ _ _ _ _ => rfl⟩
theorem xFr.tr {a b c : zS} {i j : Nat} (h : xFr a b i) (h2 : xFr b c j) (hij : i ≤ j) : xFr a c i :=
  ⟨fun x x1 x2 x3 x4 => (h2.1 x x1 x2 x3 x4).trans (h.1 x x1 x2 x3 x4), fun k hk => (h2.2.1 k hk).trans (h.2.1 k hk), fun k hk => (h2.2.2.1 k hk).trans (h.2.2.1 k hk), fun k hk => ⟨(h2.2.2.2 k (by omega)).1.trans (h.2.2.2 k hk).1, (h2.2.2.2 k (by omega)).2.trans (h.2.2.2 k hk).2⟩⟩
theorem yFr.tr {sd : Nat} {a b c : zS} {i j : Nat} (h : yFr sd a b i) (h2 : yFr sd b c j) (hij : i ≤ j) : yFr sd a c i :=
  ⟨fun x x1 x2 x3 => (h2.1 x x1 x2 x3).trans (h.1 x x1 x2 x3), fun k k1 k2 k3 k4 => (h2.2.1 k k1 k2 k3 k4).trans (h.2.1 k k1 k2 k3 k4), h2.2.2.1.trans h.2.2.1, fun x n x1 x2 hn => (h2.2.2.2 x n x1 x2 (by omega)).trans (h.2.2.2 x n x1 x2 hn)⟩
def mkT (lo hi : Nat) (f : Nat → Int32) : Nat → Int32 := fun n => if lo ≤ n ∧ n < hi then f n else 0
/-- a piece of nodes and items that others leave alone -/
theorem RepX_tr {S V S' V' op a b op' a' b' : Nat → Int32} (h : ∀ n, ¬ op' n = 0 → op n = op' n ∧ a n = a' n ∧ b n = b' n) : ∀ {k hh n i j : Nat}, RepX S V op' a' b' k hh n i j → (∀ q, i ≤ q → q < j → S' q = S q ∧ V' q = V q) → RepX S' V' op a b k hh n i j := by
  intro k
  induction k with
  | zero => intro hh n i j hr; exact hr.elim
  | succ k ih =>
    intro hh n i j hr hI
    obtain ⟨h1, h2, hr⟩ := hr
    have hn : ¬ op' n = 0 := by
      rcases hr with ⟨_, h, _⟩ | ⟨_, h, _⟩ | ⟨_, _, h, _⟩ | ⟨x, y, q, r, _, _, _, _, _, _, h⟩
      · rw [h]; decide
      · rw [h]; decide
      · rw [h]; decide
      · rcases h with ⟨h, _⟩ | ⟨h, _⟩ | ⟨h, _⟩ | ⟨h, _⟩ <;> rw [h] <;> decide
    obtain ⟨e1, e2, e3⟩ := h n hn
    refine ⟨h1, h2, ?_⟩
    rw [e1, e2, e3]
    rcases hr with ⟨r1, r2, r3, r4⟩ | ⟨r1, r2, r3, r4, r5⟩ | ⟨x, q, r1, r2, r3, r4, r5⟩ | ⟨x, y, q, r, r1, r2, r3, r4, r5, r6, r7⟩
    · obtain ⟨s1, s2⟩ := hI i (Nat.le_refl _) (by omega)
      exact Or.inl ⟨r1, r2, by rw [s1, r3], by rw [s2, r4]⟩
    · obtain ⟨s1, s2⟩ := hI i (Nat.le_refl _) (by omega)
      exact Or.inr (Or.inl ⟨r1, r2, by rw [s1, r3], by rw [s2, r4], r5⟩)
    · have := RepX_lt r3
      obtain ⟨s1, s2⟩ := hI q (by omega) (by omega)
      exact Or.inr (Or.inr (Or.inl ⟨x, q, r1, r2, ih r3 (fun q q1 q2 => hI q q1 (by omega)), r4, by rw [s1, r5]⟩))
    · have := RepX_lt r3
      have := RepX_lt r4
      obtain ⟨s1, s2⟩ := hI r (by omega) (by omega)
      exact Or.inr (Or.inr (Or.inr ⟨x, y, q, r, r1, r2, ih r3 (fun q q1 q2 => hI q q1 (by omega)), ih r4 (fun q q1 q2 => hI q (by omega) (by omega)), r5, r6, by rw [s1]; exact r7⟩))
theorem RepX_mono {S V op a b : Nat → Int32} : ∀ {k k' h h' n i j : Nat}, RepX S V op a b k h n i j → k ≤ k' → h ≤ h' → RepX S V op a b k' h' n i j := by
  intro k
  induction k with
  | zero => intro k' h h' n i j hr; exact hr.elim
  | succ k ih =>
    intro k' h h' n i j hr hk hh
    obtain ⟨k', rfl⟩ : ∃ q, k' = q + 1 := ⟨k' - 1, by omega⟩
    obtain ⟨h1, h2, hr⟩ := hr
    refine ⟨h1, by omega, ?_⟩
    rcases hr with hr | hr | ⟨x, q, r1, r2, r3, r4⟩ | ⟨x, y, q, r, r1, r2, r3, r4, r5, r6⟩
    · exact Or.inl hr
    · exact Or.inr (Or.inl hr)
    · exact Or.inr (Or.inr (Or.inl ⟨x, q, r1, r2, ih r3 (by omega) hh, r4⟩))
    · exact Or.inr (Or.inr (Or.inr ⟨x, y, q, r, r1, r2, ih r3 (by omega) hh, ih r4 (by omega) (by omega), by omega, r6⟩))
section
variable {mm s sd : Nat} {σ τ : zS} {p dep ne ni nn : Nat}
theorem PB.le (H : PB mm s sd σ τ p dep ne ni nn) : p ≤ mm ∧ mm ≤ 400 ∧ ni ≤ p ∧ nn ≤ p ∧ sd < 2 ∧ dep ≤ 10 := by
  obtain ⟨a1, a2, a3, a4, a5, a6, a7, a8, a9, a10, a11, a12, a13, a14, a15, a16, a17, a18, a19⟩ := H
  exact ⟨a11, by omega, a18, a19.1, a7, a13⟩
theorem c_kind (d : Nat) (H : PB mm s sd σ τ p dep ne ni nn) : zM (d + 1) mX6_kind [.inr (.inr 3)] σ = some (1, σ 4 p, σ) := by
  obtain ⟨a1, a2, a3, a4, a5, a6, a7, a8, a9, a10, a11, a12, a13, a14, a15, a16, a17, a18, a19⟩ := H
  rw [qX6_kind_3, qX6_kind_3_0, a9, a6]
  simp (disch := omega) only [lt_litR, lt_litL, eq_litR, eq_litL, lt_nn, eq_nn, lt_n0, z_cl, add_lit, eq_m1, eq_m1', m1_lt, false_or, or_false, if_pos, if_neg, zbI_some, zbV_some, wr_same, wr_cell, wr_slot, ne_eq, not_true_eq_false, not_false_eq_true, true_and, and_true, false_and, and_false, e10, e01, e00, if_true, if_false, Bool.false_eq_true, lit_ne, lit_lt, eq_self]
theorem c_value (d : Nat) (H : PB mm s sd σ τ p dep ne ni nn) : zM (d + 1) mX6_value [.inr (.inr 3)] σ = some (1, σ 6 p, σ) := by
  obtain ⟨a1, a2, a3, a4, a5, a6, a7, a8, a9, a10, a11, a12, a13, a14, a15, a16, a17, a18, a19⟩ := H
  rw [qX6_value_3, qX6_value_3_0, a9, a6]
  simp (disch := omega) only [lt_litR, lt_litL, eq_litR, eq_litL, lt_nn, eq_nn, lt_n0, z_cl, add_lit, eq_m1, eq_m1', m1_lt, false_or, or_false, if_pos, if_neg, zbI_some, zbV_some, wr_same, wr_cell, wr_slot, ne_eq, not_true_eq_false, not_false_eq_true, true_and, and_true, false_and, and_false, e10, e01, e00, if_true, if_false, Bool.false_eq_true, lit_ne, lit_lt, eq_self]
theorem PB.lt (H : PB mm s sd σ τ p dep ne ni nn) (h : ¬ σ 4 p = 0 ∧ ¬ σ 4 p = 1) : p < mm := by
  obtain ⟨a1, a2, a3, a4, a5, a6, a7, a8, a9, a10, a11, a12, a13, a14, a15, a16, a17, a18, a19⟩ := H
  by_cases hp : p = mm
  · subst hp; rcases a2 with h2 | h2
    · exact absurd h2 h.1
    · exact absurd h2 h.2
  · omega
theorem PB.ltS (H : PB mm s sd σ τ p dep ne ni nn) {c : Nat} (hc : 1 < c) (hc2 : c < 1000) (h : σ 4 p = nI c) : p < mm :=
  H.lt ⟨by rw [h]; simp (disch := omega) only [lt_litR, lt_litL, eq_litR, eq_litL, lt_nn, eq_nn, lt_n0, z_cl, add_lit, eq_m1, eq_m1', m1_lt, false_or, or_false, if_pos, if_neg, zbI_some, zbV_some, wr_same, wr_cell, wr_slot, ne_eq, not_true_eq_false, not_false_eq_true, true_and, and_true, false_and, and_false, e10, e01, e00, if_true, if_false, Bool.false_eq_true, lit_ne, lit_lt, eq_self]; omega, by rw [h]; simp (disch := omega) only [lt_litR, lt_litL, eq_litR, eq_litL, lt_nn, eq_nn, lt_n0, z_cl, add_lit, eq_m1, eq_m1', m1_lt, false_or, or_false, if_pos, if_neg, zbI_some, zbV_some, wr_same, wr_cell, wr_slot, ne_eq, not_true_eq_false, not_false_eq_true, true_and, and_true, false_and, and_false, e10, e01, e00, if_true, if_false, Bool.false_eq_true, lit_ne, lit_lt, eq_self]; omega⟩
theorem c_skip (d : Nat) (H : PB mm s sd σ τ p dep ne ni nn) (hp : p < mm) : zM (d + 1) mX6_skip [.inr (.inr 3)] σ = some (0, 0, wr σ 3 4 (nI (p + 1))) := by
  obtain ⟨a1, a2, a3, a4, a5, a6, a7, a8, a9, a10, a11, a12, a13, a14, a15, a16, a17, a18, a19⟩ := H
  obtain ⟨s', rfl⟩ : ∃ q, s = q + 1 := ⟨s - 1, by omega⟩
  rw [qX6_skip_3, qX6_skip_3_0, a9, a6, nI_pred]
  simp (disch := omega) only [lt_litR, lt_litL, eq_litR, eq_litL, lt_nn, eq_nn, lt_n0, z_cl, add_lit, eq_m1, eq_m1', m1_lt, false_or, or_false, if_pos, if_neg, zbI_some, zbV_some, wr_same, wr_cell, wr_slot, ne_eq, not_true_eq_false, not_false_eq_true, true_and, and_true, false_and, and_false, e10, e01, e00, if_true, if_false, Bool.false_eq_true, lit_ne, lit_lt, eq_self]
/-- a sign stands at p, on both sides -/
theorem m_is (d : Nat) (H : PB mm s sd σ τ p dep ne ni nn) {c : Nat} (hc : 32 < c) (hc2 : c < 127) : zM (d + 1) mX8_is [.inr (.inr 38), .inl (nI c)] τ = some (1, if σ 4 p = nI c then 1 else 0, τ) := by
  obtain ⟨a1, a2, a3, a4, a5, a6, a7, a8, a9, a10, a11, a12, a13, a14, a15, a16, a17, a18, a19⟩ := H
  rw [qX8_is_38, qX8_is_38_0, a10, if_neg (nI_in (by omega) (by omega)), z_cl (by omega), if_neg (nin (by omega) (by omega))]
  obtain ⟨hp, h⟩ := a1 p a11
  rcases h with ⟨h1, h2⟩ | ⟨h1, h2⟩ | ⟨r, hr, h1, h2, h3, h4⟩ | ⟨h1, h2, h3⟩ | ⟨h1, h2, h3⟩ | ⟨c', hc', hc2', h1, h2, h3⟩
  · rw [h1, h2, if_neg (by decide), if_neg (by simp (disch := omega) only [lt_litR, lt_litL, eq_litR, eq_litL, lt_nn, eq_nn, lt_n0, z_cl, add_lit, eq_m1, eq_m1', m1_lt, false_or, or_false, if_pos, if_neg, zbI_some, zbV_some, wr_same, wr_cell, wr_slot, ne_eq, not_true_eq_false, not_false_eq_true, true_and, and_true, false_and, and_false, e10, e01, e00, if_true, if_false, Bool.false_eq_true, lit_ne, lit_lt, eq_self]; omega)]
  · have hm : ¬ τ 40 p = 3 := by rcases h2 with h2 | ⟨h2, _⟩ <;> rw [h2] <;> decide
    rw [h1, if_neg hm, if_neg (by simp (disch := omega) only [lt_litR, lt_litL, eq_litR, eq_litL, lt_nn, eq_nn, lt_n0, z_cl, add_lit, eq_m1, eq_m1', m1_lt, false_or, or_false, if_pos, if_neg, zbI_some, zbV_some, wr_same, wr_cell, wr_slot, ne_eq, not_true_eq_false, not_false_eq_true, true_and, and_true, false_and, and_false, e10, e01, e00, if_true, if_false, Bool.false_eq_true, lit_ne, lit_lt, eq_self]; omega)]
  · rw [h1, h3, if_neg (by decide), if_neg (by simp (disch := omega) only [lt_litR, lt_litL, eq_litR, eq_litL, lt_nn, eq_nn, lt_n0, z_cl, add_lit, eq_m1, eq_m1', m1_lt, false_or, or_false, if_pos, if_neg, zbI_some, zbV_some, wr_same, wr_cell, wr_slot, ne_eq, not_true_eq_false, not_false_eq_true, true_and, and_true, false_and, and_false, e10, e01, e00, if_true, if_false, Bool.false_eq_true, lit_ne, lit_lt, eq_self]; omega)]
  · rw [h1, h2, if_neg (by decide), if_neg (by simp (disch := omega) only [lt_litR, lt_litL, eq_litR, eq_litL, lt_nn, eq_nn, lt_n0, z_cl, add_lit, eq_m1, eq_m1', m1_lt, false_or, or_false, if_pos, if_neg, zbI_some, zbV_some, wr_same, wr_cell, wr_slot, ne_eq, not_true_eq_false, not_false_eq_true, true_and, and_true, false_and, and_false, e10, e01, e00, if_true, if_false, Bool.false_eq_true, lit_ne, lit_lt, eq_self]; omega)]
  · rw [h1, h2, if_neg (by decide), if_neg (by simp (disch := omega) only [lt_litR, lt_litL, eq_litR, eq_litL, lt_nn, eq_nn, lt_n0, z_cl, add_lit, eq_m1, eq_m1', m1_lt, false_or, or_false, if_pos, if_neg, zbI_some, zbV_some, wr_same, wr_cell, wr_slot, ne_eq, not_true_eq_false, not_false_eq_true, true_and, and_true, false_and, and_false, e10, e01, e00, if_true, if_false, Bool.false_eq_true, lit_ne, lit_lt, eq_self]; omega)]
  · rw [h1, h2, h3, if_pos rfl]
    by_cases h : c' = c
    · subst h; rw [if_pos rfl, if_pos rfl]
    · rw [if_neg (by simp (disch := omega) only [lt_litR, lt_litL, eq_litR, eq_litL, lt_nn, eq_nn, lt_n0, z_cl, add_lit, eq_m1, eq_m1', m1_lt, false_or, or_false, if_pos, if_neg, zbI_some, zbV_some, wr_same, wr_cell, wr_slot, ne_eq, not_true_eq_false, not_false_eq_true, true_and, and_true, false_and, and_false, e10, e01, e00, if_true, if_false, Bool.false_eq_true, lit_ne, lit_lt, eq_self]; exact h), if_neg (by simp (disch := omega) only [lt_litR, lt_litL, eq_litR, eq_litL, lt_nn, eq_nn, lt_n0, z_cl, add_lit, eq_m1, eq_m1', m1_lt, false_or, or_false, if_pos, if_neg, zbI_some, zbV_some, wr_same, wr_cell, wr_slot, ne_eq, not_true_eq_false, not_false_eq_true, true_and, and_true, false_and, and_false, e10, e01, e00, if_true, if_false, Bool.false_eq_true, lit_ne, lit_lt, eq_self]; exact h)]
/-- both go on by a token -/
theorem PB.skip (H : PB mm s sd σ τ p dep ne ni nn) (hp : p < mm) : PB mm s sd (wr σ 3 4 (nI (p + 1))) (wr τ 38 8 (nI (p + 1))) (p + 1) dep ne ni nn ∧ xFr σ (wr σ 3 4 (nI (p + 1))) ni ∧ yFr sd τ (wr τ 38 8 (nI (p + 1))) nn := by
  obtain ⟨a1, a2, a3, a4, a5, a6, a7, a8, a9, a10, a11, a12, a13, a14, a15, a16, a17, a18, a19⟩ := H
  refine ⟨⟨fun i hi => by rw [tR]; simp (disch := omega) only [lt_litR, lt_litL, eq_litR, eq_litL, lt_nn, eq_nn, lt_n0, z_cl, add_lit, eq_m1, eq_m1', m1_lt, false_or, or_false, if_pos, if_neg, zbI_some, zbV_some, wr_same, wr_cell, wr_slot, ne_eq, not_true_eq_false, not_false_eq_true, true_and, and_true, false_and, and_false, e10, e01, e00, if_true, if_false, Bool.false_eq_true, lit_ne, lit_lt, eq_self]; exact a1 i hi, by simp (disch := omega) only [lt_litR, lt_litL, eq_litR, eq_litL, lt_nn, eq_nn, lt_n0, z_cl, add_lit, eq_m1, eq_m1', m1_lt, false_or, or_false, if_pos, if_neg, zbI_some, zbV_some, wr_same, wr_cell, wr_slot, ne_eq, not_true_eq_false, not_false_eq_true, true_and, and_true, false_and, and_false, e10, e01, e00, if_true, if_false, Bool.false_eq_true, lit_ne, lit_lt, eq_self]; exact a2, fun i hi => by simp (disch := omega) only [lt_litR, lt_litL, eq_litR, eq_litL, lt_nn, eq_nn, lt_n0, z_cl, add_lit, eq_m1, eq_m1', m1_lt, false_or, or_false, if_pos, if_neg, zbI_some, zbV_some, wr_same, wr_cell, wr_slot, ne_eq, not_true_eq_false, not_false_eq_true, true_and, and_true, false_and, and_false, e10, e01, e00, if_true, if_false, Bool.false_eq_true, lit_ne, lit_lt, eq_self]; exact a3 i hi, a4, a5, by simp (disch := omega) only [lt_litR, lt_litL, eq_litR, eq_litL, lt_nn, eq_nn, lt_n0, z_cl, add_lit, eq_m1, eq_m1', m1_lt, false_or, or_false, if_pos, if_neg, zbI_some, zbV_some, wr_same, wr_cell, wr_slot, ne_eq, not_true_eq_false, not_false_eq_true, true_and, and_true, false_and, and_false, e10, e01, e00, if_true, if_false, Bool.false_eq_true, lit_ne, lit_lt, eq_self, a6], a7, by simp (disch := omega) only [lt_litR, lt_litL, eq_litR, eq_litL, lt_nn, eq_nn, lt_n0, z_cl, add_lit, eq_m1, eq_m1', m1_lt, false_or, or_false, if_pos, if_neg, zbI_some, zbV_some, wr_same, wr_cell, wr_slot, ne_eq, not_true_eq_false, not_false_eq_true, true_and, and_true, false_and, and_false, e10, e01, e00, if_true, if_false, Bool.false_eq_true, lit_ne, lit_lt, eq_self, a8], by simp (disch := omega) only [lt_litR, lt_litL, eq_litR, eq_litL, lt_nn, eq_nn, lt_n0, z_cl, add_lit, eq_m1, eq_m1', m1_lt, false_or, or_false, if_pos, if_neg, zbI_some, zbV_some, wr_same, wr_cell, wr_slot, ne_eq, not_true_eq_false, not_false_eq_true, true_and, and_true, false_and, and_false, e10, e01, e00, if_true, if_false, Bool.false_eq_true, lit_ne, lit_lt, eq_self], by simp (disch := omega) only [lt_litR, lt_litL, eq_litR, eq_litL, lt_nn, eq_nn, lt_n0, z_cl, add_lit, eq_m1, eq_m1', m1_lt, false_or, or_false, if_pos, if_neg, zbI_some, zbV_some, wr_same, wr_cell, wr_slot, ne_eq, not_true_eq_false, not_false_eq_true, true_and, and_true, false_and, and_false, e10, e01, e00, if_true, if_false, Bool.false_eq_true, lit_ne, lit_lt, eq_self], by omega, by simp (disch := omega) only [lt_litR, lt_litL, eq_litR, eq_litL, lt_nn, eq_nn, lt_n0, z_cl, add_lit, eq_m1, eq_m1', m1_lt, false_or, or_false, if_pos, if_neg, zbI_some, zbV_some, wr_same, wr_cell, wr_slot, ne_eq, not_true_eq_false, not_false_eq_true, true_and, and_true, false_and, and_false, e10, e01, e00, if_true, if_false, Bool.false_eq_true, lit_ne, lit_lt, eq_self, a12], a13, by simp (disch := omega) only [lt_litR, lt_litL, eq_litR, eq_litL, lt_nn, eq_nn, lt_n0, z_cl, add_lit, eq_m1, eq_m1', m1_lt, false_or, or_false, if_pos, if_neg, zbI_some, zbV_some, wr_same, wr_cell, wr_slot, ne_eq, not_true_eq_false, not_false_eq_true, true_and, and_true, false_and, and_false, e10, e01, e00, if_true, if_false, Bool.false_eq_true, lit_ne, lit_lt, eq_self, a14], a15, by simp (disch := omega) only [lt_litR, lt_litL, eq_litR, eq_litL, lt_nn, eq_nn, lt_n0, z_cl, add_lit, eq_m1, eq_m1', m1_lt, false_or, or_false, if_pos, if_neg, zbI_some, zbV_some, wr_same, wr_cell, wr_slot, ne_eq, not_true_eq_false, not_false_eq_true, true_and, and_true, false_and, and_false, e10, e01, e00, if_true, if_false, Bool.false_eq_true, lit_ne, lit_lt, eq_self, a16], by simp (disch := omega) only [lt_litR, lt_litL, eq_litR, eq_litL, lt_nn, eq_nn, lt_n0, z_cl, add_lit, eq_m1, eq_m1', m1_lt, false_or, or_false, if_pos, if_neg, zbI_some, zbV_some, wr_same, wr_cell, wr_slot, ne_eq, not_true_eq_false, not_false_eq_true, true_and, and_true, false_and, and_false, e10, e01, e00, if_true, if_false, Bool.false_eq_true, lit_ne, lit_lt, eq_self, a17], by omega, by omega, by simp (disch := omega) only [lt_litR, lt_litL, eq_litR, eq_litL, lt_nn, eq_nn, lt_n0, z_cl, add_lit, eq_m1, eq_m1', m1_lt, false_or, or_false, if_pos, if_neg, zbI_some, zbV_some, wr_same, wr_cell, wr_slot, ne_eq, not_true_eq_false, not_false_eq_true, true_and, and_true, false_and, and_false, e10, e01, e00, if_true, if_false, Bool.false_eq_true, lit_ne, lit_lt, eq_self]; exact a19.2⟩, ⟨fun c h1 h2 h3 h4 => by simp (disch := omega) only [lt_litR, lt_litL, eq_litR, eq_litL, lt_nn, eq_nn, lt_n0, z_cl, add_lit, eq_m1, eq_m1', m1_lt, false_or, or_false, if_pos, if_neg, zbI_some, zbV_some, wr_same, wr_cell, wr_slot, ne_eq, not_true_eq_false, not_false_eq_true, true_and, and_true, false_and, and_false, e10, e01, e00, if_true, if_false, Bool.false_eq_true, lit_ne, lit_lt, eq_self], fun k hk => by simp (disch := omega) only [lt_litR, lt_litL, eq_litR, eq_litL, lt_nn, eq_nn, lt_n0, z_cl, add_lit, eq_m1, eq_m1', m1_lt, false_or, or_false, if_pos, if_neg, zbI_some, zbV_some, wr_same, wr_cell, wr_slot, ne_eq, not_true_eq_false, not_false_eq_true, true_and, and_true, false_and, and_false, e10, e01, e00, if_true, if_false, Bool.false_eq_true, lit_ne, lit_lt, eq_self], fun k hk => by simp (disch := omega) only [lt_litR, lt_litL, eq_litR, eq_litL, lt_nn, eq_nn, lt_n0, z_cl, add_lit, eq_m1, eq_m1', m1_lt, false_or, or_false, if_pos, if_neg, zbI_some, zbV_some, wr_same, wr_cell, wr_slot, ne_eq, not_true_eq_false, not_false_eq_true, true_and, and_true, false_and, and_false, e10, e01, e00, if_true, if_false, Bool.false_eq_true, lit_ne, lit_lt, eq_self], fun i hi => by simp (disch := omega) only [lt_litR, lt_litL, eq_litR, eq_litL, lt_nn, eq_nn, lt_n0, z_cl, add_lit, eq_m1, eq_m1', m1_lt, false_or, or_false, if_pos, if_neg, zbI_some, zbV_some, wr_same, wr_cell, wr_slot, ne_eq, not_true_eq_false, not_false_eq_true, true_and, and_true, false_and, and_false, e10, e01, e00, if_true, if_false, Bool.false_eq_true, lit_ne, lit_lt, eq_self, and_self]⟩, ⟨fun c h1 h2 h3 => by simp (disch := omega) only [lt_litR, lt_litL, eq_litR, eq_litL, lt_nn, eq_nn, lt_n0, z_cl, add_lit, eq_m1, eq_m1', m1_lt, false_or, or_false, if_pos, if_neg, zbI_some, zbV_some, wr_same, wr_cell, wr_slot, ne_eq, not_true_eq_false, not_false_eq_true, true_and, and_true, false_and, and_false, e10, e01, e00, if_true, if_false, Bool.false_eq_true, lit_ne, lit_lt, eq_self], fun k h1 h2 h3 h4 => by simp (disch := omega) only [lt_litR, lt_litL, eq_litR, eq_litL, lt_nn, eq_nn, lt_n0, z_cl, add_lit, eq_m1, eq_m1', m1_lt, false_or, or_false, if_pos, if_neg, zbI_some, zbV_some, wr_same, wr_cell, wr_slot, ne_eq, not_true_eq_false, not_false_eq_true, true_and, and_true, false_and, and_false, e10, e01, e00, if_true, if_false, Bool.false_eq_true, lit_ne, lit_lt, eq_self], by simp (disch := omega) only [lt_litR, lt_litL, eq_litR, eq_litL, lt_nn, eq_nn, lt_n0, z_cl, add_lit, eq_m1, eq_m1', m1_lt, false_or, or_false, if_pos, if_neg, zbI_some, zbV_some, wr_same, wr_cell, wr_slot, ne_eq, not_true_eq_false, not_false_eq_true, true_and, and_true, false_and, and_false, e10, e01, e00, if_true, if_false, Bool.false_eq_true, lit_ne, lit_lt, eq_self], fun c n h1 h2 h3 => by simp (disch := omega) only [lt_litR, lt_litL, eq_litR, eq_litL, lt_nn, eq_nn, lt_n0, z_cl, add_lit, eq_m1, eq_m1', m1_lt, false_or, or_false, if_pos, if_neg, zbI_some, zbV_some, wr_same, wr_cell, wr_slot, ne_eq, not_true_eq_false, not_false_eq_true, true_and, and_true, false_and, and_false, e10, e01, e00, if_true, if_false, Bool.false_eq_true, lit_ne, lit_lt, eq_self]⟩⟩
/-- a taken sign -/
theorem t_take (d : Nat) (H : PB mm s sd σ τ p dep ne ni nn) {c : Nat} (hc : 32 < c) (hc2 : c < 127) : zM (d + 2) mX6_take [.inr (.inr 3), .inl (nI c)] σ = (if σ 4 p = nI c then some (1, 1, wr σ 3 4 (nI (p + 1))) else some (1, 0, σ)) ∧ zM (d + 2) mX8_takes [.inr (.inr 38), .inl (nI c)] τ = (if σ 4 p = nI c then some (1, 1, wr τ 38 8 (nI (p + 1))) else some (1, 0, τ)) := by
  have h10 := H.2.2.2.2.2.2.2.2.2.1
  rw [qX6_take_3, qX6_take_3_0, c_kind d H, zbI_some, qX8_takes_38, qX8_takes_38_0, m_is d H hc hc2, zbI_some]
  by_cases h : σ 4 p = nI c
  · have hp := H.ltS (by omega) (by omega) h
    rw [if_pos h, if_pos h, if_pos h, if_pos h, if_neg (by decide), if_pos (by decide), c_skip d H hp, zbV_some, h10, nI_1]
    exact ⟨rfl, rfl⟩
  · rw [if_neg h, if_neg h, if_neg h, if_neg h, if_pos rfl, if_pos (by decide)]
    exact ⟨rfl, rfl⟩
theorem m_refuse (d : Nat) (H : PB mm s sd σ τ p dep ne ni nn) : zM (d + 1) mX8_refuse [.inr (.inr 38)] τ = some (1, 0, wr τ 38 3 (σ 5 p)) := by
  obtain ⟨a1, a2, a3, a4, a5, a6, a7, a8, a9, a10, a11, a12, a13, a14, a15, a16, a17, a18, a19⟩ := H
  rw [qX8_refuse_38, qX8_refuse_38_0, a10, if_neg (nI_in (by omega) (by omega)), z_cl (by omega), (a1 p a11).1.1]
theorem m_want (d : Nat) (H : PB mm s sd σ τ p dep ne ni nn) {c : Nat} (hc : 32 < c) (hc2 : c < 127) : zM (d + 3) mX8_want [.inr (.inr 38), .inl (nI c)] τ = if σ 4 p = nI c then some (1, 1, wr τ 38 8 (nI (p + 1))) else some (1, 0, wr τ 38 3 (σ 5 p)) := by
  rw [qX8_want_38, qX8_want_38_0, (t_take d H hc hc2).2]
  by_cases h : σ 4 p = nI c
  · rw [if_pos h, if_pos h, zbI_some, if_neg (by decide)]
  · rw [if_neg h, if_neg h, zbI_some, if_pos rfl, m_refuse (d + 1) H, zbI_some, if_pos rfl]
def mNd (τ : zS) (sd nn : Nat) (o x y z : Int32) : zS := wr (wr (wr (wr (wr (wr τ 44 (1 - sd) (nI (nn + 1))) 45 (800 * (1 - sd) + nn) o) 46 (800 * (1 - sd) + nn) x) 47 (800 * (1 - sd) + nn) y) 48 (800 * (1 - sd) + nn) z) 49 (800 * (1 - sd) + nn) (-1)
theorem m_node (d : Nat) {τ : zS} {sd nn : Nat} (hsd : sd < 2) (h10 : τ 38 10 = nI sd) (h44 : τ 44 (1 - sd) = nI nn) (hn : nn < 800) (o x y z : Int32) : zM (d + 1) mX8_node [.inr (.inr 38), .inl o, .inl x, .inl y, .inl z] τ = some (1, nI (800 * (1 - sd) + nn), mNd τ sd nn o x y z) := by
  have e1 : (1 : Int32) - nI sd = nI (1 - sd) := by
    show nI 1 - nI sd = _
    exact pk_sub (by omega)
  have e2 : (800 : Int32) * nI (1 - sd) = nI (800 * (1 - sd)) := pk_mul 800 (1 - sd)
  have hin : ¬ (nI (1 - sd) < 0 ∨ 2 ≤ (nI (1 - sd)).toNatClampNeg) := nI_in (by omega) (by omega)
  have hin2 : ¬ (nI (800 * (1 - sd) + nn) < 0 ∨ 1600 ≤ (nI (800 * (1 - sd) + nn)).toNatClampNeg) := nI_in (by omega) (by omega)
  rw [qX8_node_38, qX8_node_38_0, h10, e1, if_neg hin, z_cl (by omega), h44, e2, nI_add, qX8_node_38_24, h10, e1, if_neg hin, if_neg hin, if_neg hin2, qX8_node_38_47, if_neg hin2, if_neg hin2, qX8_node_38_63, if_neg hin2, if_neg hin2, z_cl (by omega), z_cl (by omega), h44, nI_1, mNd]
theorem c_addItem (d : Nat) {σ : zS} {ni : Nat} (h : σ 7 8 = nI ni) (hn : ni < 400) (k v : Int32) : zM (d + 1) mX1_addItem [.inr (.inr 7), .inl k, .inl v] σ = some (0, 0, wr (wr (wr σ 13 ni k) 14 ni v) 7 8 (nI (ni + 1))) := by
  rw [qX1_addItem_7, qX1_addItem_7_0]
  simp (disch := omega) only [lt_litR, lt_litL, eq_litR, eq_litL, lt_nn, eq_nn, lt_n0, z_cl, add_lit, eq_m1, eq_m1', m1_lt, false_or, or_false, if_pos, if_neg, zbI_some, zbV_some, wr_same, wr_cell, wr_slot, ne_eq, not_true_eq_false, not_false_eq_true, true_and, and_true, false_and, and_false, e10, e01, e00, if_true, if_false, Bool.false_eq_true, lit_ne, lit_lt, eq_self, h]
end
