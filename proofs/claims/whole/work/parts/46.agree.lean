-- two runs side by side: the second over the history that the first leaves
def tK (K R V : Nat → Int32) (τ : zS) (i : Nat) : Prop := τ 50 i = K i ∧ τ 51 i = R i ∧ τ 52 i = V i
def Agr (P : zS) (L : Nat) (K R V : Nat → Int32) (e w : Nat) (τ1 τ2 : zS) (n1 n2 p b s : Nat) : Prop :=
  e ≤ pSz P ∧ (∀ r, r < 8 → τ2 54 r = τ1 54 r) ∧ τ2 38 37 = τ1 38 37 ∧ τ2 38 38 = τ1 38 38 ∧ τ1 38 31 = 0 ∧ τ2 38 31 = 0 ∧ τ2 38 34 = 0 ∧ kInv τ1 n1 p b s ∧ kInv τ2 n2 p b s ∧
  (∀ i, i < L → tK K R V τ2 i) ∧ L ≤ n2 ∧ kC τ2 L = false ∧ (∀ i, i < L → i < kCt τ1 n1 p → tK K R V τ1 i) ∧ (τ1 38 34 = 0 → L ≤ n1 → kC τ1 L = false) ∧ (w = 0 → b < p) ∧ p ≤ L ∧ (τ1 38 38 = 0 ∨ w = 2)
theorem Agr.teq {P : zS} {L : Nat} {K R V : Nat → Int32} {e w : Nat} {τ1 τ2 : zS} {n1 n2 p b s : Nat} (H : Agr P L K R V e w τ1 τ2 n1 n2 p b s) : ∀ i, i < p → tEq τ1 τ2 i := by
  obtain ⟨a1, a2, a3, a4, a5, a6, a7, a8, a9, a10, a11, a12, a13, a14, a15, a16, a17⟩ := H
  intro i hi
  have h1 := a10 i (by omega)
  have h2 := a13 i (by omega) (by
    rw [kCt]
    by_cases hl : τ1 38 34 = 0
    · rw [if_pos hl]; have := a8.2.2.2.2.2.2.1 hl; omega
    · rw [if_neg hl]; exact hi)
  exact ⟨by rw [h1.1, h2.1], by rw [h1.2.1, h2.2.1], by rw [h1.2.2, h2.2.2]⟩
/-- the same small changes on both sides -/
theorem Agr.w {P : zS} {L : Nat} {K R V : Nat → Int32} {e e' w w' : Nat} {τ1 τ2 τ1' τ2' : zS} {n1 n2 p b s : Nat} (H : Agr P L K R V e w τ1 τ2 n1 n2 p b s) (he : e' ≤ pSz P) (hw : w' = 0 → b < p) (hr : ∀ r, r < 8 → τ2' 54 r = τ1' 54 r) (h37 : τ2' 38 37 = τ1' 38 37) (h38 : τ2' 38 38 = τ1' 38 38) (hov : τ1' 38 38 = 0 ∨ w' = 2)
    (c1 : ∀ k, (k = 20 ∨ k = 31 ∨ k = 32 ∨ k = 33 ∨ k = 34 ∨ k = 35 ∨ k = 36) → τ1' 38 k = τ1 38 k) (c2 : ∀ k, (k = 20 ∨ k = 31 ∨ k = 32 ∨ k = 33 ∨ k = 34 ∨ k = 35 ∨ k = 36) → τ2' 38 k = τ2 38 k) (d1 : ∀ c, 50 ≤ c → c ≤ 52 → τ1' c = τ1 c) (d2 : ∀ c, 50 ≤ c → c ≤ 52 → τ2' c = τ2 c) : Agr P L K R V e' w' τ1' τ2' n1 n2 p b s := by
  obtain ⟨a1, a2, a3, a4, a5, a6, a7, a8, a9, a10, a11, a12, a13, a14, a15, a16, a17⟩ := H
  have t1 : ∀ i, tK K R V τ1 i → tK K R V τ1' i := fun i h => by rw [tK, d1 50 (by omega) (by omega), d1 51 (by omega) (by omega), d1 52 (by omega) (by omega)]; exact h
  have t2 : ∀ i, tK K R V τ2 i → tK K R V τ2' i := fun i h => by rw [tK, d2 50 (by omega) (by omega), d2 51 (by omega) (by omega), d2 52 (by omega) (by omega)]; exact h
  have k1 : kC τ1' L = kC τ1 L := kC_cong (c1 20 (by omega)) (by rw [d1 50 (by omega) (by omega)])
  have k2 : kC τ2' L = kC τ2 L := kC_cong (c2 20 (by omega)) (by rw [d2 50 (by omega) (by omega)])
  exact ⟨he, hr, h37, h38, by rw [c1 31 (by omega), a5], by rw [c2 31 (by omega), a6], by rw [c2 34 (by omega), a7], (a8.cong (fun k hk => c1 k (by omega))).1, (a9.cong (fun k hk => c2 k (by omega))).1, fun i hi => t2 i (a10 i hi), a11, by rw [k2, a12], fun i h1 h2 => t1 i (a13 i h1 (by rw [kCt, c1 34 (by omega)] at h2; exact h2)), fun h1 h2 => by rw [k1]; exact a14 (by rw [c1 34 (by omega)] at h1; exact h1) h2, hw, a16, hov⟩
theorem kEnd_cong {τ1 τ2 : zS} (x : Int32) : ∀ (c k : Nat), (∀ i, k ≤ i → i < k + c → tEq τ1 τ2 i) → kEnd τ2 x c k = kEnd τ1 x c k := by
  intro c
  induction c with
  | zero => intro k _; rfl
  | succ c ih =>
    intro k h
    obtain ⟨h1, h2, h3⟩ := h k (Nat.le_refl _) (by omega)
    rw [kEnd, kEnd, h1, h2, h3, ih (k + 1) (fun i i1 i2 => h i (by omega) (by omega))]
theorem kSig_cong {τ1 τ2 : zS} (h37 : τ2 38 37 = τ1 38 37) : ∀ (c m k : Nat), (∀ i, k ≤ i → i < k + c → tEq τ1 τ2 i) → kSig τ2 c m k = kSig τ1 c m k := by
  intro c
  induction c with
  | zero => intro m k _; rfl
  | succ c ih =>
    intro m k h
    obtain ⟨h1, h2, h3⟩ := h k (Nat.le_refl _) (by omega)
    rw [kSig, kSig, h1, h3, h37, ih _ (k + 1) (fun i i1 i2 => h i (by omega) (by omega)), ih _ (k + 1) (fun i i1 i2 => h i (by omega) (by omega))]
theorem Agr.done {P : zS} {L : Nat} {K R V : Nat → Int32} {e : Nat} {τ1 τ2 : zS} {n1 n2 p b s : Nat} (H : Agr P L K R V e 0 τ1 τ2 n1 n2 p b s) (x : Int32) : kDone τ2 x = kDone τ1 x := by
  have ht := H.teq
  obtain ⟨a1, a2, a3, a4, a5, a6, a7, a8, a9, a10, a11, a12, a13, a14, a15, a16, a17⟩ := H
  have hb := a15 rfl
  have hp := a8.2.2.2.1
  rw [kDone, kDone, a8.2.2.1, a9.2.2.1, a8.2.2.2.2.1, a9.2.2.2.2.1, z_cl (by omega)]
  by_cases h1 : x < 0
  · rw [if_neg (fun h => h.1 h1), if_neg (fun h => h.1 h1)]
  · obtain ⟨j, hj, rfl⟩ := nI_of h1
    rw [z_cl (by omega)]
    by_cases h2 : j < p
    · rw [(ht j h2).1, kEnd_cong (τ1 := τ1) (τ2 := τ2) (nI j) _ _ (fun i i1 i2 => ht i (by omega))]
    · have : ¬ nI j < nI p := nI_nlt (by omega) (by omega)
      rw [if_neg (fun h => this h.2.1), if_neg (fun h => this h.2.1)]
theorem Agr.sig {P : zS} {L : Nat} {K R V : Nat → Int32} {e : Nat} {τ1 τ2 : zS} {n1 n2 p b s : Nat} (H : Agr P L K R V e 0 τ1 τ2 n1 n2 p b s) : kSig τ2 (τ2 38 32).toNatClampNeg 0 0 = kSig τ1 (τ1 38 32).toNatClampNeg 0 0 := by
  have ht := H.teq
  obtain ⟨a1, a2, a3, a4, a5, a6, a7, a8, a9, a10, a11, a12, a13, a14, a15, a16, a17⟩ := H
  have hb := a15 rfl
  have hp := a8.2.2.2.1
  rw [a8.2.2.2.2.1, a9.2.2.2.2.1, z_cl (by omega)]
  exact kSig_cong a3 _ _ _ (fun i i1 i2 => ht i (by omega))
theorem kC_at {τ : zS} {n k : Nat} (h : τ 38 20 = nI n) (hn : n ≤ 200) (hk : k < n) : kC τ k = decide (¬ τ 50 k < 1 ∧ ¬ 4 < τ 50 k) := by
  rw [kC, h]
  have : nI k < nI n := nI_lt hk (by omega)
  simp only [this, true_and]
theorem Agr.cmd {P : zS} {L : Nat} {K R V : Nat → Int32} {e : Nat} {τ1 τ2 : zS} {n1 n2 p b s : Nat} (H : Agr P L K R V e 0 τ1 τ2 n1 n2 p b s) {k r v : Int32} (hk : ¬ k < 1 ∧ ¬ 4 < k) (hg : (kCmd τ1 k r v).2 38 31 = 0) (hpL : p + 1 ≤ L) (hS : ∀ i, i < L → i < kCt (kCmd τ1 k r v).2 n1 (p + 1) → tK K R V (kCmd τ1 k r v).2 i) :
    kCmd τ2 k r v = (nI p, wr τ2 38 33 (nI (p + 1))) ∧ (kCmd τ1 k r v).1 = nI p ∧ ¬ (kCmd τ1 k r v).1 = -1 ∧ Agr P L K R V e 0 (kCmd τ1 k r v).2 (wr τ2 38 33 (nI (p + 1))) n1 n2 (p + 1) b s := by
  have H0 := H
  obtain ⟨a1, a2, a3, a4, a5, a6, a7, a8, a9, a10, a11, a12, a13, a14, a15, a16, a17⟩ := H
  have hp := a8.2.2.2.1
  have hn2 := a9.2.1
  -- what stands at p
  have key : tK K R V τ2 p → K p = k → R p = r → V p = v → kCmd τ2 k r v = (nI p, wr τ2 38 33 (nI (p + 1))) := by
    intro h1 h2 h3 h4
    rcases kCmd_cases a9 k r v with ⟨_, _, _, _, _, _, g⟩ | ⟨_, g, _⟩ | ⟨g, _⟩ | ⟨g, _⟩
    · exact g
    · refine absurd ⟨?_, by rw [h1.1, h2], by rw [h1.2.1, h3], by rw [h1.2.2, h4]⟩ g
      rw [kC_at a9.1 hn2 (by omega), h1.1, h2]
      simp only [hk.1, hk.2, not_false_eq_true, and_self, decide_true]
    · exact absurd a7 g
    · exact absurd a7 g
  have h2I : kInv (wr τ2 38 33 (nI (p + 1))) n2 (p + 1) b s := by
    obtain ⟨i1, i2, i3, i4, i5, i6, i7, i8, i9, i10⟩ := a9
    exact ⟨by simp (disch := omega) only [lt_litR, lt_litL, eq_litR, eq_litL, lt_nn, eq_nn, lt_n0, z_cl, add_lit, eq_m1, eq_m1', m1_lt, false_or, or_false, if_pos, if_neg, zbI_some, zbV_some, wr_same, wr_cell, wr_slot, ne_eq, not_true_eq_false, not_false_eq_true, true_and, and_true, false_and, and_false, e10, e01, e00, if_true, if_false, Bool.false_eq_true, lit_ne, lit_lt, eq_self, i1], i2, by simp (disch := omega) only [lt_litR, lt_litL, eq_litR, eq_litL, lt_nn, eq_nn, lt_n0, z_cl, add_lit, eq_m1, eq_m1', m1_lt, false_or, or_false, if_pos, if_neg, zbI_some, zbV_some, wr_same, wr_cell, wr_slot, ne_eq, not_true_eq_false, not_false_eq_true, true_and, and_true, false_and, and_false, e10, e01, e00, if_true, if_false, Bool.false_eq_true, lit_ne, lit_lt, eq_self], by omega, by simp (disch := omega) only [lt_litR, lt_litL, eq_litR, eq_litL, lt_nn, eq_nn, lt_n0, z_cl, add_lit, eq_m1, eq_m1', m1_lt, false_or, or_false, if_pos, if_neg, zbI_some, zbV_some, wr_same, wr_cell, wr_slot, ne_eq, not_true_eq_false, not_false_eq_true, true_and, and_true, false_and, and_false, e10, e01, e00, if_true, if_false, Bool.false_eq_true, lit_ne, lit_lt, eq_self, i5], i6, fun _ => by omega, fun h => absurd (by simp (disch := omega) only [lt_litR, lt_litL, eq_litR, eq_litL, lt_nn, eq_nn, lt_n0, z_cl, add_lit, eq_m1, eq_m1', m1_lt, false_or, or_false, if_pos, if_neg, zbI_some, zbV_some, wr_same, wr_cell, wr_slot, ne_eq, not_true_eq_false, not_false_eq_true, true_and, and_true, false_and, and_false, e10, e01, e00, if_true, if_false, Bool.false_eq_true, lit_ne, lit_lt, eq_self, a7]) h, by simp (disch := omega) only [lt_litR, lt_litL, eq_litR, eq_litL, lt_nn, eq_nn, lt_n0, z_cl, add_lit, eq_m1, eq_m1', m1_lt, false_or, or_false, if_pos, if_neg, zbI_some, zbV_some, wr_same, wr_cell, wr_slot, ne_eq, not_true_eq_false, not_false_eq_true, true_and, and_true, false_and, and_false, e10, e01, e00, if_true, if_false, Bool.false_eq_true, lit_ne, lit_lt, eq_self, i9], i10⟩
  obtain ⟨c1, c2⟩ | ⟨c1, c2, c3, c4⟩ := a8.cmd a5 k r v
  · exact absurd hg c2
  have hk2 : kC (wr τ2 38 33 (nI (p + 1))) L = kC τ2 L := kC_cong (by simp (disch := omega) only [lt_litR, lt_litL, eq_litR, eq_litL, lt_nn, eq_nn, lt_n0, z_cl, add_lit, eq_m1, eq_m1', m1_lt, false_or, or_false, if_pos, if_neg, zbI_some, zbV_some, wr_same, wr_cell, wr_slot, ne_eq, not_true_eq_false, not_false_eq_true, true_and, and_true, false_and, and_false, e10, e01, e00, if_true, if_false, Bool.false_eq_true, lit_ne, lit_lt, eq_self]) (by simp (disch := omega) only [lt_litR, lt_litL, eq_litR, eq_litL, lt_nn, eq_nn, lt_n0, z_cl, add_lit, eq_m1, eq_m1', m1_lt, false_or, or_false, if_pos, if_neg, zbI_some, zbV_some, wr_same, wr_cell, wr_slot, ne_eq, not_true_eq_false, not_false_eq_true, true_and, and_true, false_and, and_false, e10, e01, e00, if_true, if_false, Bool.false_eq_true, lit_ne, lit_lt, eq_self])
  rcases kCmd_cases a8 k r v with ⟨g1, g2, g3, g4, g5, g6, g⟩ | ⟨g1, g2, g⟩ | ⟨g1, g2, g⟩ | ⟨g1, g2, g⟩
  · have hpL' : p < L := by omega
    have h1 := a13 p hpL' (by rw [kCt, if_pos g1]; exact g2)
    have hc := key (a10 p hpL') (by rw [← h1.1, g4]) (by rw [← h1.2.1, g5]) (by rw [← h1.2.2, g6])
    refine ⟨hc, by rw [g], c1, ?_⟩
    rw [g] at hS c3 ⊢
    have hk1 : kC (wr τ1 38 33 (nI (p + 1))) L = kC τ1 L := kC_cong (by simp (disch := omega) only [lt_litR, lt_litL, eq_litR, eq_litL, lt_nn, eq_nn, lt_n0, z_cl, add_lit, eq_m1, eq_m1', m1_lt, false_or, or_false, if_pos, if_neg, zbI_some, zbV_some, wr_same, wr_cell, wr_slot, ne_eq, not_true_eq_false, not_false_eq_true, true_and, and_true, false_and, and_false, e10, e01, e00, if_true, if_false, Bool.false_eq_true, lit_ne, lit_lt, eq_self]) (by simp (disch := omega) only [lt_litR, lt_litL, eq_litR, eq_litL, lt_nn, eq_nn, lt_n0, z_cl, add_lit, eq_m1, eq_m1', m1_lt, false_or, or_false, if_pos, if_neg, zbI_some, zbV_some, wr_same, wr_cell, wr_slot, ne_eq, not_true_eq_false, not_false_eq_true, true_and, and_true, false_and, and_false, e10, e01, e00, if_true, if_false, Bool.false_eq_true, lit_ne, lit_lt, eq_self])
    exact ⟨a1, fun r hr => by simp (disch := omega) only [lt_litR, lt_litL, eq_litR, eq_litL, lt_nn, eq_nn, lt_n0, z_cl, add_lit, eq_m1, eq_m1', m1_lt, false_or, or_false, if_pos, if_neg, zbI_some, zbV_some, wr_same, wr_cell, wr_slot, ne_eq, not_true_eq_false, not_false_eq_true, true_and, and_true, false_and, and_false, e10, e01, e00, if_true, if_false, Bool.false_eq_true, lit_ne, lit_lt, eq_self, a2 r hr], by simp (disch := omega) only [lt_litR, lt_litL, eq_litR, eq_litL, lt_nn, eq_nn, lt_n0, z_cl, add_lit, eq_m1, eq_m1', m1_lt, false_or, or_false, if_pos, if_neg, zbI_some, zbV_some, wr_same, wr_cell, wr_slot, ne_eq, not_true_eq_false, not_false_eq_true, true_and, and_true, false_and, and_false, e10, e01, e00, if_true, if_false, Bool.false_eq_true, lit_ne, lit_lt, eq_self, a3], by simp (disch := omega) only [lt_litR, lt_litL, eq_litR, eq_litL, lt_nn, eq_nn, lt_n0, z_cl, add_lit, eq_m1, eq_m1', m1_lt, false_or, or_false, if_pos, if_neg, zbI_some, zbV_some, wr_same, wr_cell, wr_slot, ne_eq, not_true_eq_false, not_false_eq_true, true_and, and_true, false_and, and_false, e10, e01, e00, if_true, if_false, Bool.false_eq_true, lit_ne, lit_lt, eq_self, a4], by simp (disch := omega) only [lt_litR, lt_litL, eq_litR, eq_litL, lt_nn, eq_nn, lt_n0, z_cl, add_lit, eq_m1, eq_m1', m1_lt, false_or, or_false, if_pos, if_neg, zbI_some, zbV_some, wr_same, wr_cell, wr_slot, ne_eq, not_true_eq_false, not_false_eq_true, true_and, and_true, false_and, and_false, e10, e01, e00, if_true, if_false, Bool.false_eq_true, lit_ne, lit_lt, eq_self, a5], by simp (disch := omega) only [lt_litR, lt_litL, eq_litR, eq_litL, lt_nn, eq_nn, lt_n0, z_cl, add_lit, eq_m1, eq_m1', m1_lt, false_or, or_false, if_pos, if_neg, zbI_some, zbV_some, wr_same, wr_cell, wr_slot, ne_eq, not_true_eq_false, not_false_eq_true, true_and, and_true, false_and, and_false, e10, e01, e00, if_true, if_false, Bool.false_eq_true, lit_ne, lit_lt, eq_self, a6], by simp (disch := omega) only [lt_litR, lt_litL, eq_litR, eq_litL, lt_nn, eq_nn, lt_n0, z_cl, add_lit, eq_m1, eq_m1', m1_lt, false_or, or_false, if_pos, if_neg, zbI_some, zbV_some, wr_same, wr_cell, wr_slot, ne_eq, not_true_eq_false, not_false_eq_true, true_and, and_true, false_and, and_false, e10, e01, e00, if_true, if_false, Bool.false_eq_true, lit_ne, lit_lt, eq_self, a7], c3, h2I, fun i hi => by rw [tK]; simp (disch := omega) only [lt_litR, lt_litL, eq_litR, eq_litL, lt_nn, eq_nn, lt_n0, z_cl, add_lit, eq_m1, eq_m1', m1_lt, false_or, or_false, if_pos, if_neg, zbI_some, zbV_some, wr_same, wr_cell, wr_slot, ne_eq, not_true_eq_false, not_false_eq_true, true_and, and_true, false_and, and_false, e10, e01, e00, if_true, if_false, Bool.false_eq_true, lit_ne, lit_lt, eq_self]; exact a10 i hi, a11, by rw [hk2, a12], hS, fun h1 h2 => by rw [hk1]; exact a14 g1 h2, fun _ => by omega, by omega, by simp (disch := omega) only [lt_litR, lt_litL, eq_litR, eq_litL, lt_nn, eq_nn, lt_n0, z_cl, add_lit, eq_m1, eq_m1', m1_lt, false_or, or_false, if_pos, if_neg, zbI_some, zbV_some, wr_same, wr_cell, wr_slot, ne_eq, not_true_eq_false, not_false_eq_true, true_and, and_true, false_and, and_false, e10, e01, e00, if_true, if_false, Bool.false_eq_true, lit_ne, lit_lt, eq_self]; exact a17⟩
  · rw [g] at hg; simp (disch := omega) only [lt_litR, lt_litL, eq_litR, eq_litL, lt_nn, eq_nn, lt_n0, z_cl, add_lit, eq_m1, eq_m1', m1_lt, false_or, or_false, if_pos, if_neg, zbI_some, zbV_some, wr_same, wr_cell, wr_slot, ne_eq, not_true_eq_false, not_false_eq_true, true_and, and_true, false_and, and_false, e10, e01, e00, if_true, if_false, Bool.false_eq_true, lit_ne, lit_lt, eq_self] at hg
  · rw [g] at hg; simp (disch := omega) only [lt_litR, lt_litL, eq_litR, eq_litL, lt_nn, eq_nn, lt_n0, z_cl, add_lit, eq_m1, eq_m1', m1_lt, false_or, or_false, if_pos, if_neg, zbI_some, zbV_some, wr_same, wr_cell, wr_slot, ne_eq, not_true_eq_false, not_false_eq_true, true_and, and_true, false_and, and_false, e10, e01, e00, if_true, if_false, Bool.false_eq_true, lit_ne, lit_lt, eq_self] at hg
  · have hpL' : p < L := by omega
    have h34 : ¬ (kCmd τ1 k r v).2 38 34 = 0 := by rw [g]; simp (disch := omega) only [lt_litR, lt_litL, eq_litR, eq_litL, lt_nn, eq_nn, lt_n0, z_cl, add_lit, eq_m1, eq_m1', m1_lt, false_or, or_false, if_pos, if_neg, zbI_some, zbV_some, wr_same, wr_cell, wr_slot, ne_eq, not_true_eq_false, not_false_eq_true, true_and, and_true, false_and, and_false, e10, e01, e00, if_true, if_false, Bool.false_eq_true, lit_ne, lit_lt, eq_self, g1]
    have h1 := hS p hpL' (by rw [kCt, if_neg h34]; omega)
    have e1 : (kCmd τ1 k r v).2 50 p = k ∧ (kCmd τ1 k r v).2 51 p = r ∧ (kCmd τ1 k r v).2 52 p = v := by
      rw [g]; refine ⟨?_, ?_, ?_⟩ <;> simp (disch := omega) only [lt_litR, lt_litL, eq_litR, eq_litL, lt_nn, eq_nn, lt_n0, z_cl, add_lit, eq_m1, eq_m1', m1_lt, false_or, or_false, if_pos, if_neg, zbI_some, zbV_some, wr_same, wr_cell, wr_slot, ne_eq, not_true_eq_false, not_false_eq_true, true_and, and_true, false_and, and_false, e10, e01, e00, if_true, if_false, Bool.false_eq_true, lit_ne, lit_lt, eq_self]
    have hc := key (a10 p hpL') (by rw [← h1.1, e1.1]) (by rw [← h1.2.1, e1.2.1]) (by rw [← h1.2.2, e1.2.2])
    refine ⟨hc, by rw [g], c1, ?_⟩
    rw [g] at hS c3 h34 ⊢
    exact ⟨a1, fun r hr => by simp (disch := omega) only [lt_litR, lt_litL, eq_litR, eq_litL, lt_nn, eq_nn, lt_n0, z_cl, add_lit, eq_m1, eq_m1', m1_lt, false_or, or_false, if_pos, if_neg, zbI_some, zbV_some, wr_same, wr_cell, wr_slot, ne_eq, not_true_eq_false, not_false_eq_true, true_and, and_true, false_and, and_false, e10, e01, e00, if_true, if_false, Bool.false_eq_true, lit_ne, lit_lt, eq_self, a2 r hr], by simp (disch := omega) only [lt_litR, lt_litL, eq_litR, eq_litL, lt_nn, eq_nn, lt_n0, z_cl, add_lit, eq_m1, eq_m1', m1_lt, false_or, or_false, if_pos, if_neg, zbI_some, zbV_some, wr_same, wr_cell, wr_slot, ne_eq, not_true_eq_false, not_false_eq_true, true_and, and_true, false_and, and_false, e10, e01, e00, if_true, if_false, Bool.false_eq_true, lit_ne, lit_lt, eq_self, a3], by simp (disch := omega) only [lt_litR, lt_litL, eq_litR, eq_litL, lt_nn, eq_nn, lt_n0, z_cl, add_lit, eq_m1, eq_m1', m1_lt, false_or, or_false, if_pos, if_neg, zbI_some, zbV_some, wr_same, wr_cell, wr_slot, ne_eq, not_true_eq_false, not_false_eq_true, true_and, and_true, false_and, and_false, e10, e01, e00, if_true, if_false, Bool.false_eq_true, lit_ne, lit_lt, eq_self, a4], by simp (disch := omega) only [lt_litR, lt_litL, eq_litR, eq_litL, lt_nn, eq_nn, lt_n0, z_cl, add_lit, eq_m1, eq_m1', m1_lt, false_or, or_false, if_pos, if_neg, zbI_some, zbV_some, wr_same, wr_cell, wr_slot, ne_eq, not_true_eq_false, not_false_eq_true, true_and, and_true, false_and, and_false, e10, e01, e00, if_true, if_false, Bool.false_eq_true, lit_ne, lit_lt, eq_self, a5], by simp (disch := omega) only [lt_litR, lt_litL, eq_litR, eq_litL, lt_nn, eq_nn, lt_n0, z_cl, add_lit, eq_m1, eq_m1', m1_lt, false_or, or_false, if_pos, if_neg, zbI_some, zbV_some, wr_same, wr_cell, wr_slot, ne_eq, not_true_eq_false, not_false_eq_true, true_and, and_true, false_and, and_false, e10, e01, e00, if_true, if_false, Bool.false_eq_true, lit_ne, lit_lt, eq_self, a6], by simp (disch := omega) only [lt_litR, lt_litL, eq_litR, eq_litL, lt_nn, eq_nn, lt_n0, z_cl, add_lit, eq_m1, eq_m1', m1_lt, false_or, or_false, if_pos, if_neg, zbI_some, zbV_some, wr_same, wr_cell, wr_slot, ne_eq, not_true_eq_false, not_false_eq_true, true_and, and_true, false_and, and_false, e10, e01, e00, if_true, if_false, Bool.false_eq_true, lit_ne, lit_lt, eq_self, a7], c3, h2I, fun i hi => by rw [tK]; simp (disch := omega) only [lt_litR, lt_litL, eq_litR, eq_litL, lt_nn, eq_nn, lt_n0, z_cl, add_lit, eq_m1, eq_m1', m1_lt, false_or, or_false, if_pos, if_neg, zbI_some, zbV_some, wr_same, wr_cell, wr_slot, ne_eq, not_true_eq_false, not_false_eq_true, true_and, and_true, false_and, and_false, e10, e01, e00, if_true, if_false, Bool.false_eq_true, lit_ne, lit_lt, eq_self]; exact a10 i hi, a11, by rw [hk2, a12], hS, fun h1 h2 => absurd h1 h34, fun _ => by omega, by omega, by simp (disch := omega) only [lt_litR, lt_litL, eq_litR, eq_litL, lt_nn, eq_nn, lt_n0, z_cl, add_lit, eq_m1, eq_m1', m1_lt, false_or, or_false, if_pos, if_neg, zbI_some, zbV_some, wr_same, wr_cell, wr_slot, ne_eq, not_true_eq_false, not_false_eq_true, true_and, and_true, false_and, and_false, e10, e01, e00, if_true, if_false, Bool.false_eq_true, lit_ne, lit_lt, eq_self]; exact a17⟩
theorem kInv.un {τ : zS} {n p b s p' b' s' : Nat} (h : kInv τ n p b s) (h2 : kInv τ n p' b' s') : p' = p ∧ b' = b ∧ s' = s := by
  obtain ⟨i1, i2, i3, i4, i5, i6, i7, i8, i9, i10⟩ := h
  obtain ⟨j1, j2, j3, j4, j5, j6, j7, j8, j9, j10⟩ := h2
  rw [i3] at j3
  rw [i5] at j5
  rw [i9] at j9
  exact ⟨((nI_eq (by omega) (by omega)).mp j3).symm, ((nI_eq (by omega) (by omega)).mp j5).symm, ((nI_eq (by omega) (by omega)).mp j9).symm⟩
theorem cmdHyp {L : Nat} {K R V : Nat → Int32} {τc τ1' : zS} {n1 p b s p' b' s' : Nat} (hIc : kInv τc n1 p b s) (hI' : kInv τ1' n1 p' b' s') (hS : ∀ i, i < L → i < kCt τ1' n1 p' → tK K R V τ1' i)
    (h : ∀ k, (k = 20 ∨ k = 32 ∨ k = 33 ∨ k = 34 ∨ k = 35 ∨ k = 36) → τ1' 38 k = τc 38 k) (h2 : ∀ c, 50 ≤ c → c ≤ 52 → τ1' c = τc c) : p' = p ∧ ∀ i, i < L → i < kCt τc n1 p → tK K R V τc i := by
  obtain ⟨rfl, rfl, rfl⟩ := (hIc.cong h).1.un hI'
  refine ⟨rfl, fun i i1 i2 => ?_⟩
  have := hS i i1 (by rw [kCt, h 34 (by omega)]; exact i2)
  rw [tK, h2 50 (by omega) (by omega), h2 51 (by omega) (by omega), h2 52 (by omega) (by omega)] at this
  exact this
theorem Agr.step {P : zS} {L : Nat} {K R V : Nat → Int32} {e : Nat} {τ1 τ2 : zS} {n1 n2 p b s : Nat} (H : Agr P L K R V e 0 τ1 τ2 n1 n2 p b s) (hs : ¬ 1000 < τ1 38 36 + 1) : Agr P L K R V e 0 (wr τ1 38 36 (τ1 38 36 + 1)) (wr τ2 38 36 (τ2 38 36 + 1)) n1 n2 p b (s + 1) := by
  obtain ⟨a1, a2, a3, a4, a5, a6, a7, a8, a9, a10, a11, a12, a13, a14, a15, a16, a17⟩ := H
  have h36 : τ2 38 36 = τ1 38 36 := by rw [a8.2.2.2.2.2.2.2.2.1, a9.2.2.2.2.2.2.2.2.1]
  have k1 : kC (wr τ1 38 36 (τ1 38 36 + 1)) L = kC τ1 L := kC_cong (by simp (disch := omega) only [lt_litR, lt_litL, eq_litR, eq_litL, lt_nn, eq_nn, lt_n0, z_cl, add_lit, eq_m1, eq_m1', m1_lt, false_or, or_false, if_pos, if_neg, zbI_some, zbV_some, wr_same, wr_cell, wr_slot, ne_eq, not_true_eq_false, not_false_eq_true, true_and, and_true, false_and, and_false, e10, e01, e00, if_true, if_false, Bool.false_eq_true, lit_ne, lit_lt, eq_self]) (by simp (disch := omega) only [lt_litR, lt_litL, eq_litR, eq_litL, lt_nn, eq_nn, lt_n0, z_cl, add_lit, eq_m1, eq_m1', m1_lt, false_or, or_false, if_pos, if_neg, zbI_some, zbV_some, wr_same, wr_cell, wr_slot, ne_eq, not_true_eq_false, not_false_eq_true, true_and, and_true, false_and, and_false, e10, e01, e00, if_true, if_false, Bool.false_eq_true, lit_ne, lit_lt, eq_self])
  have k2 : kC (wr τ2 38 36 (τ2 38 36 + 1)) L = kC τ2 L := kC_cong (by simp (disch := omega) only [lt_litR, lt_litL, eq_litR, eq_litL, lt_nn, eq_nn, lt_n0, z_cl, add_lit, eq_m1, eq_m1', m1_lt, false_or, or_false, if_pos, if_neg, zbI_some, zbV_some, wr_same, wr_cell, wr_slot, ne_eq, not_true_eq_false, not_false_eq_true, true_and, and_true, false_and, and_false, e10, e01, e00, if_true, if_false, Bool.false_eq_true, lit_ne, lit_lt, eq_self]) (by simp (disch := omega) only [lt_litR, lt_litL, eq_litR, eq_litL, lt_nn, eq_nn, lt_n0, z_cl, add_lit, eq_m1, eq_m1', m1_lt, false_or, or_false, if_pos, if_neg, zbI_some, zbV_some, wr_same, wr_cell, wr_slot, ne_eq, not_true_eq_false, not_false_eq_true, true_and, and_true, false_and, and_false, e10, e01, e00, if_true, if_false, Bool.false_eq_true, lit_ne, lit_lt, eq_self])
  exact ⟨a1, fun r hr => by simp (disch := omega) only [lt_litR, lt_litL, eq_litR, eq_litL, lt_nn, eq_nn, lt_n0, z_cl, add_lit, eq_m1, eq_m1', m1_lt, false_or, or_false, if_pos, if_neg, zbI_some, zbV_some, wr_same, wr_cell, wr_slot, ne_eq, not_true_eq_false, not_false_eq_true, true_and, and_true, false_and, and_false, e10, e01, e00, if_true, if_false, Bool.false_eq_true, lit_ne, lit_lt, eq_self, a2 r hr], by simp (disch := omega) only [lt_litR, lt_litL, eq_litR, eq_litL, lt_nn, eq_nn, lt_n0, z_cl, add_lit, eq_m1, eq_m1', m1_lt, false_or, or_false, if_pos, if_neg, zbI_some, zbV_some, wr_same, wr_cell, wr_slot, ne_eq, not_true_eq_false, not_false_eq_true, true_and, and_true, false_and, and_false, e10, e01, e00, if_true, if_false, Bool.false_eq_true, lit_ne, lit_lt, eq_self, a3], by simp (disch := omega) only [lt_litR, lt_litL, eq_litR, eq_litL, lt_nn, eq_nn, lt_n0, z_cl, add_lit, eq_m1, eq_m1', m1_lt, false_or, or_false, if_pos, if_neg, zbI_some, zbV_some, wr_same, wr_cell, wr_slot, ne_eq, not_true_eq_false, not_false_eq_true, true_and, and_true, false_and, and_false, e10, e01, e00, if_true, if_false, Bool.false_eq_true, lit_ne, lit_lt, eq_self, a4], by simp (disch := omega) only [lt_litR, lt_litL, eq_litR, eq_litL, lt_nn, eq_nn, lt_n0, z_cl, add_lit, eq_m1, eq_m1', m1_lt, false_or, or_false, if_pos, if_neg, zbI_some, zbV_some, wr_same, wr_cell, wr_slot, ne_eq, not_true_eq_false, not_false_eq_true, true_and, and_true, false_and, and_false, e10, e01, e00, if_true, if_false, Bool.false_eq_true, lit_ne, lit_lt, eq_self, a5], by simp (disch := omega) only [lt_litR, lt_litL, eq_litR, eq_litL, lt_nn, eq_nn, lt_n0, z_cl, add_lit, eq_m1, eq_m1', m1_lt, false_or, or_false, if_pos, if_neg, zbI_some, zbV_some, wr_same, wr_cell, wr_slot, ne_eq, not_true_eq_false, not_false_eq_true, true_and, and_true, false_and, and_false, e10, e01, e00, if_true, if_false, Bool.false_eq_true, lit_ne, lit_lt, eq_self, a6], by simp (disch := omega) only [lt_litR, lt_litL, eq_litR, eq_litL, lt_nn, eq_nn, lt_n0, z_cl, add_lit, eq_m1, eq_m1', m1_lt, false_or, or_false, if_pos, if_neg, zbI_some, zbV_some, wr_same, wr_cell, wr_slot, ne_eq, not_true_eq_false, not_false_eq_true, true_and, and_true, false_and, and_false, e10, e01, e00, if_true, if_false, Bool.false_eq_true, lit_ne, lit_lt, eq_self, a7], (a8.step hs).1, (a9.step (by rw [h36]; exact hs)).1, fun i hi => by rw [tK]; simp (disch := omega) only [lt_litR, lt_litL, eq_litR, eq_litL, lt_nn, eq_nn, lt_n0, z_cl, add_lit, eq_m1, eq_m1', m1_lt, false_or, or_false, if_pos, if_neg, zbI_some, zbV_some, wr_same, wr_cell, wr_slot, ne_eq, not_true_eq_false, not_false_eq_true, true_and, and_true, false_and, and_false, e10, e01, e00, if_true, if_false, Bool.false_eq_true, lit_ne, lit_lt, eq_self]; exact a10 i hi, a11, by rw [k2, a12], fun i h1 h2 => by rw [tK]; simp (disch := omega) only [lt_litR, lt_litL, eq_litR, eq_litL, lt_nn, eq_nn, lt_n0, z_cl, add_lit, eq_m1, eq_m1', m1_lt, false_or, or_false, if_pos, if_neg, zbI_some, zbV_some, wr_same, wr_cell, wr_slot, ne_eq, not_true_eq_false, not_false_eq_true, true_and, and_true, false_and, and_false, e10, e01, e00, if_true, if_false, Bool.false_eq_true, lit_ne, lit_lt, eq_self]; exact a13 i h1 (by rw [kCt] at h2; simp (disch := omega) only [lt_litR, lt_litL, eq_litR, eq_litL, lt_nn, eq_nn, lt_n0, z_cl, add_lit, eq_m1, eq_m1', m1_lt, false_or, or_false, if_pos, if_neg, zbI_some, zbV_some, wr_same, wr_cell, wr_slot, ne_eq, not_true_eq_false, not_false_eq_true, true_and, and_true, false_and, and_false, e10, e01, e00, if_true, if_false, Bool.false_eq_true, lit_ne, lit_lt, eq_self] at h2; exact h2), fun h1 h2 => by rw [k1]; simp (disch := omega) only [lt_litR, lt_litL, eq_litR, eq_litL, lt_nn, eq_nn, lt_n0, z_cl, add_lit, eq_m1, eq_m1', m1_lt, false_or, or_false, if_pos, if_neg, zbI_some, zbV_some, wr_same, wr_cell, wr_slot, ne_eq, not_true_eq_false, not_false_eq_true, true_and, and_true, false_and, and_false, e10, e01, e00, if_true, if_false, Bool.false_eq_true, lit_ne, lit_lt, eq_self] at h1; exact a14 h1 h2, a15, a16, by simp (disch := omega) only [lt_litR, lt_litL, eq_litR, eq_litL, lt_nn, eq_nn, lt_n0, z_cl, add_lit, eq_m1, eq_m1', m1_lt, false_or, or_false, if_pos, if_neg, zbI_some, zbV_some, wr_same, wr_cell, wr_slot, ne_eq, not_true_eq_false, not_false_eq_true, true_and, and_true, false_and, and_false, e10, e01, e00, if_true, if_false, Bool.false_eq_true, lit_ne, lit_lt, eq_self]; exact a17⟩
theorem Agr.stp {P : zS} {L : Nat} {K R V : Nat → Int32} {e : Nat} {τ1 τ2 : zS} {n1 n2 p b s p' b' s' : Nat} (H : Agr P L K R V e 0 τ1 τ2 n1 n2 p b s) (v : Int32) (hg : (kStp e τ1 v).2.2 38 31 = 0) (hI' : kInv (kStp e τ1 v).2.2 n1 p' b' s') (hp' : p' ≤ L) (hS : ∀ i, i < L → i < kCt (kStp e τ1 v).2.2 n1 p' → tK K R V (kStp e τ1 v).2.2 i) :
    ∃ τ2' b s, kStp e τ2 v = ((kStp e τ1 v).1, (kStp e τ1 v).2.1, τ2') ∧ Agr P L K R V (kStp e τ1 v).1 (kStp e τ1 v).2.1 (kStp e τ1 v).2.2 τ2' n1 n2 p' b s := by
  have hI := H.2.2.2.2.2.2.2.1
  have h0 := H.2.2.2.2.1
  by_cases hc : (kCmd τ1 4 0 v).1 = -1
  · exfalso
    rw [kStp, if_pos hc] at hg
    rcases hI.cmd h0 4 0 v with ⟨_, c2⟩ | ⟨c1, _⟩
    · exact c2 hg
    · exact c1 hc
  · obtain ⟨c1, c2⟩ | ⟨c1, c2, c3, c4⟩ := hI.cmd h0 4 0 v
    · exact absurd c1 hc
    have e1 : kStp e τ1 v = (e, 2, wr (kCmd τ1 4 0 v).2 38 38 1) := by rw [kStp, if_neg hc]
    rw [e1] at hI' hS ⊢
    simp only at hI' hS
    obtain ⟨rfl, hS2⟩ := cmdHyp c3 hI' hS (fun k hk => wr_slot _ _ _ (by omega)) (fun c _ _ => wr_cell _ _ _ (by omega))
    obtain ⟨d1, d2, d3, d4⟩ := H.cmd (k := 4) (r := 0) (v := v) (by decide) c2 hp' hS2
    refine ⟨wr (wr τ2 38 33 (nI (p + 1))) 38 38 1, b, s, ?_, ?_⟩
    · rw [kStp, d1, if_neg (by rw [eq_m1 (by have := hI.2.2.2.1; omega)]; exact fun h => h)]
    · have h5 : Agr P L K R V e 2 (wr (kCmd τ1 4 0 v).2 38 38 1) (wr (wr τ2 38 33 (nI (p + 1))) 38 38 1) n1 n2 (p + 1) b s :=
        d4.w d4.1 (fun h => absurd h (by decide)) (fun r hr => by rw [wr_cell _ _ _ (by omega), wr_cell (c := 38) (d := 54) (kCmd τ1 4 0 v).2 _ _ (by omega)]; exact d4.2.1 r hr) (by rw [wr_slot _ _ _ (by omega), wr_slot (kCmd τ1 4 0 v).2 _ _ (by omega)]; exact d4.2.2.1) (by rw [wr_same, wr_same]) (Or.inr rfl) (fun k hk => wr_slot _ _ _ (by omega)) (fun k hk => wr_slot _ _ _ (by omega)) (fun c _ _ => wr_cell _ _ _ (by omega)) (fun c _ _ => wr_cell _ _ _ (by omega))
      exact h5
theorem Agr.fin {P : zS} {L : Nat} {K R V : Nat → Int32} {e w e' : Nat} {τ1 τ2 : zS} {n1 n2 p b s : Nat} (H : Agr P L K R V e w τ1 τ2 n1 n2 p b s) (he : e' ≤ pSz P) (hb : b < p) (hov : τ1 38 38 = 0) (r : Nat) (v : Int32) : Agr P L K R V e' 0 (wr τ1 54 r v) (wr τ2 54 r v) n1 n2 p b s := by
  refine H.w he (fun _ => hb) (fun k hk => ?_) (by rw [wr_cell _ _ _ (by omega), wr_cell _ _ _ (by omega)]; exact H.2.2.1) (by rw [wr_cell _ _ _ (by omega), wr_cell _ _ _ (by omega)]; exact H.2.2.2.1) (Or.inl (by rw [wr_cell _ _ _ (by omega)]; exact hov)) (fun k hk => by rw [wr_cell _ _ _ (by omega)]) (fun k hk => by rw [wr_cell _ _ _ (by omega)]) (fun c _ _ => wr_cell _ _ _ (by omega)) (fun c _ _ => wr_cell _ _ _ (by omega))
  by_cases h : k = r
  · subst h; rw [wr_same, wr_same]
  · rw [wr_slot _ _ _ h, wr_slot _ _ _ h, H.2.1 k hk]
theorem Agr.gav {P : zS} {L : Nat} {K R V : Nat → Int32} {e w w' : Nat} {τ1 τ2 : zS} {n1 n2 p b s : Nat} (H : Agr P L K R V e w τ1 τ2 n1 n2 p b s) (hb : b < p) (hov : τ1 38 38 = 0) (g : Int32) : Agr P L K R V e w' (wr τ1 38 44 g) (wr τ2 38 44 g) n1 n2 p b s :=
  H.w H.1 (fun _ => hb) (fun k hk => by rw [wr_cell _ _ _ (by omega), wr_cell _ _ _ (by omega), H.2.1 k hk]) (by rw [wr_slot _ _ _ (by omega), wr_slot _ _ _ (by omega)]; exact H.2.2.1) (by rw [wr_slot _ _ _ (by omega), wr_slot _ _ _ (by omega)]; exact H.2.2.2.1) (Or.inl (by rw [wr_slot _ _ _ (by omega)]; exact hov)) (fun k hk => wr_slot _ _ _ (by omega)) (fun k hk => wr_slot _ _ _ (by omega)) (fun c _ _ => wr_cell _ _ _ (by omega)) (fun c _ _ => wr_cell _ _ _ (by omega))
theorem Agr.ord {P : zS} {L : Nat} {K R V : Nat → Int32} {e : Nat} {τ1 τ2 : zS} {n1 n2 p b s p' b' s' : Nat} (H : Agr P L K R V e 0 τ1 τ2 n1 n2 p b s) (he : e < pSz P) {k : Int32} (hk : ¬ k < 1 ∧ ¬ 4 < k) (r v : Int32) (hg : (kOrd P e τ1 k r v).2.2 38 31 = 0) (hI' : kInv (kOrd P e τ1 k r v).2.2 n1 p' b' s') (hp' : p' ≤ L) (hS : ∀ i, i < L → i < kCt (kOrd P e τ1 k r v).2.2 n1 p' → tK K R V (kOrd P e τ1 k r v).2.2 i) :
    ∃ τ2' b s, kOrd P e τ2 k r v = ((kOrd P e τ1 k r v).1, (kOrd P e τ1 k r v).2.1, τ2') ∧ Agr P L K R V (kOrd P e τ1 k r v).1 (kOrd P e τ1 k r v).2.1 (kOrd P e τ1 k r v).2.2 τ2' n1 n2 p' b s := by
  have hI := H.2.2.2.2.2.2.2.1
  have h0 := H.2.2.2.2.1
  by_cases hc : (kCmd τ1 k r v).1 = -1
  · exfalso
    rw [kOrd, if_pos hc] at hg
    rcases hI.cmd h0 k r v with ⟨_, c2⟩ | ⟨c1, _⟩
    · exact c2 hg
    · exact c1 hc
  · obtain ⟨c1, c2⟩ | ⟨c1, c2, c3, c4⟩ := hI.cmd h0 k r v
    · exact absurd c1 hc
    have e1 : kOrd P e τ1 k r v = (e + 1, 0, wr (kCmd τ1 k r v).2 54 (P 17 e).toNatClampNeg (kCmd τ1 k r v).1) := by rw [kOrd, if_neg hc]
    rw [e1] at hI' hS ⊢
    simp only at hI' hS
    obtain ⟨rfl, hS2⟩ := cmdHyp c3 hI' hS (fun k hk => by rw [wr_cell _ _ _ (by omega)]) (fun c _ _ => wr_cell _ _ _ (by omega))
    obtain ⟨d1, d2, d3, d4⟩ := H.cmd hk c2 hp' hS2
    refine ⟨wr (wr τ2 38 33 (nI (p + 1))) 54 (P 17 e).toNatClampNeg (nI p), b, s, ?_, ?_⟩
    · rw [kOrd, d1, if_neg (by rw [eq_m1 (by have := hI.2.2.2.1; omega)]; exact fun h => h)]
    · simp only
      rw [d2]
      have hov : (kCmd τ1 k r v).2 38 38 = 0 := by
        rcases d4.2.2.2.2.2.2.2.2.2.2.2.2.2.2.2.2 with h | h
        · exact h
        · omega
      exact d4.fin (by omega) (d4.2.2.2.2.2.2.2.2.2.2.2.2.2.2.1 rfl) hov _ _
