-- a decision that is added
theorem HRel.drop {σ τ : zS} {N n : Nat} (H : HRel σ τ N) (hn : n ≤ N) (hk : ∀ i, n ≤ i → i < N → ∃ k, k ≤ 4 ∧ τ 50 i = nI k) : HRel (wr σ 24 5 (nI n)) τ n := by
  obtain ⟨a1, a2, a3, a4, a5, a6, a7⟩ := H
  have hE : ∀ i j, n ≤ i → i < N → ¬ kEnds τ i j := fun i j h1 h2 h3 => by
    obtain ⟨k, k1, k2⟩ := hk i h1 h2
    have := h3.1
    rw [k2] at this
    simp (disch := omega) only [lt_litR, lt_litL, eq_litR, eq_litL, lt_nn, eq_nn, lt_n0, z_cl, add_lit, eq_m1, eq_m1', m1_lt, false_or, or_false, if_pos, if_neg, zbI_some, zbV_some, wr_same, wr_cell, wr_slot, ne_eq, not_true_eq_false, not_false_eq_true, true_and, and_true, false_and, and_false, e10, e01, e00, if_true, if_false, Bool.false_eq_true, lit_ne, lit_lt, eq_self] at this
    omega
  have hC : ∀ m, n + m ≤ N → kCnt τ (n + m) = kCnt τ n := by
    intro m
    induction m with
    | zero => intro _; rfl
    | succ m ih =>
      intro hm
      obtain ⟨k, k1, k2⟩ := hk (n + m) (by omega) (by omega)
      have h8 : ¬ τ 50 (n + m) = 8 := by
        rw [k2]; simp (disch := omega) only [lt_litR, lt_litL, eq_litR, eq_litL, lt_nn, eq_nn, lt_n0, z_cl, add_lit, eq_m1, eq_m1', m1_lt, false_or, or_false, if_pos, if_neg, zbI_some, zbV_some, wr_same, wr_cell, wr_slot, ne_eq, not_true_eq_false, not_false_eq_true, true_and, and_true, false_and, and_false, e10, e01, e00, if_true, if_false, Bool.false_eq_true, lit_ne, lit_lt, eq_self]; omega
      rw [← Nat.add_assoc, kCnt, if_neg h8, Nat.add_zero, ih (by omega)]
  have hCN : kCnt τ N = kCnt τ n := by
    have := hC (N - n) (by omega)
    rw [show n + (N - n) = N by omega] at this
    exact this
  refine ⟨by simp (disch := omega) only [lt_litR, lt_litL, eq_litR, eq_litL, lt_nn, eq_nn, lt_n0, z_cl, add_lit, eq_m1, eq_m1', m1_lt, false_or, or_false, if_pos, if_neg, zbI_some, zbV_some, wr_same, wr_cell, wr_slot, ne_eq, not_true_eq_false, not_false_eq_true, true_and, and_true, false_and, and_false, e10, e01, e00, if_true, if_false, Bool.false_eq_true, lit_ne, lit_lt, eq_self], by omega, fun i hi => by simp (disch := omega) only [lt_litR, lt_litL, eq_litR, eq_litL, lt_nn, eq_nn, lt_n0, z_cl, add_lit, eq_m1, eq_m1', m1_lt, false_or, or_false, if_pos, if_neg, zbI_some, zbV_some, wr_same, wr_cell, wr_slot, ne_eq, not_true_eq_false, not_false_eq_true, true_and, and_true, false_and, and_false, e10, e01, e00, if_true, if_false, Bool.false_eq_true, lit_ne, lit_lt, eq_self]; exact a3 i (by omega), fun i hi => a4 i (by omega), fun i hi => ?_, by simp (disch := omega) only [lt_litR, lt_litL, eq_litR, eq_litL, lt_nn, eq_nn, lt_n0, z_cl, add_lit, eq_m1, eq_m1', m1_lt, false_or, or_false, if_pos, if_neg, zbI_some, zbV_some, wr_same, wr_cell, wr_slot, ne_eq, not_true_eq_false, not_false_eq_true, true_and, and_true, false_and, and_false, e10, e01, e00, if_true, if_false, Bool.false_eq_true, lit_ne, lit_lt, eq_self, a6, hCN], fun k hk h8 => by simp (disch := omega) only [lt_litR, lt_litL, eq_litR, eq_litL, lt_nn, eq_nn, lt_n0, z_cl, add_lit, eq_m1, eq_m1', m1_lt, false_or, or_false, if_pos, if_neg, zbI_some, zbV_some, wr_same, wr_cell, wr_slot, ne_eq, not_true_eq_false, not_false_eq_true, true_and, and_true, false_and, and_false, e10, e01, e00, if_true, if_false, Bool.false_eq_true, lit_ne, lit_lt, eq_self]; exact a7 k (by omega) h8⟩
  rcases a5 i (by omega) with ⟨d1, d2⟩ | ⟨k, d1, d2, d3, d4, d5⟩
  · exact Or.inl ⟨by simp (disch := omega) only [lt_litR, lt_litL, eq_litR, eq_litL, lt_nn, eq_nn, lt_n0, z_cl, add_lit, eq_m1, eq_m1', m1_lt, false_or, or_false, if_pos, if_neg, zbI_some, zbV_some, wr_same, wr_cell, wr_slot, ne_eq, not_true_eq_false, not_false_eq_true, true_and, and_true, false_and, and_false, e10, e01, e00, if_true, if_false, Bool.false_eq_true, lit_ne, lit_lt, eq_self, d1], fun k hk => d2 k (by omega)⟩
  · refine Or.inr ⟨k, d1, ?_, by simp (disch := omega) only [lt_litR, lt_litL, eq_litR, eq_litL, lt_nn, eq_nn, lt_n0, z_cl, add_lit, eq_m1, eq_m1', m1_lt, false_or, or_false, if_pos, if_neg, zbI_some, zbV_some, wr_same, wr_cell, wr_slot, ne_eq, not_true_eq_false, not_false_eq_true, true_and, and_true, false_and, and_false, e10, e01, e00, if_true, if_false, Bool.false_eq_true, lit_ne, lit_lt, eq_self, d3], d4, fun j hj h => d5 j (by omega) h⟩
    by_cases h : k < n
    · exact h
    · exact absurd d4 (hE k i (by omega) d2)
/-- what is left as it is by a decision that is asked for -/
def aFrm (σ σ' : zS) : Prop := (∀ c, c ≠ 24 → c ≠ 25 → c ≠ 26 → c ≠ 27 → c ≠ 28 → c ≠ 30 → c ≠ 31 → c ≠ 34 → c ≠ 35 → c ≠ 36 → c ≠ 37 → σ' c = σ c)
theorem dFrm.a {σ σ' : zS} (h : dFrm σ σ') : aFrm σ σ' := fun c a1 a2 a3 a4 a5 a6 a7 a8 _ _ a9 => h.1 c a1 a2 a3 a4 a5 a6 a7 a8 a9
theorem aFrm.tr {a b c : zS} (h : aFrm a b) (h2 : aFrm b c) : aFrm a c := fun x a1 a2 a3 a4 a5 a6 a7 a8 a9 a10 a11 => (h2 x a1 a2 a3 a4 a5 a6 a7 a8 a9 a10 a11).trans (h x a1 a2 a3 a4 a5 a6 a7 a8 a9 a10 a11)
theorem aFrm.rf {σ : zS} : aFrm σ σ := fun _ _ _ _ _ _ _ _ _ _ _ _ => rfl
def cC (σ : zS) : zS := wr (wr (wr (wr (wr (wcp σ 31 36 8) 35 1 (σ 30 1)) 35 2 (σ 30 2)) 35 3 (σ 30 3)) 35 4 (σ 30 4)) 35 5 (σ 30 5)
def cD (σ : zS) : zS := wr (wr (wr (wr (wr (wcp σ 36 31 8) 30 1 (σ 35 1)) 30 2 (σ 35 2)) 30 3 (σ 35 3)) 30 4 (σ 35 4)) 30 5 (σ 35 5)
theorem cC_cell (σ : zS) {c : Nat} (h : c ≠ 35) (h2 : c ≠ 36) : cC σ c = σ c := by
  rw [cC]; simp (disch := omega) only [lt_litR, lt_litL, eq_litR, eq_litL, lt_nn, eq_nn, lt_n0, z_cl, add_lit, eq_m1, eq_m1', m1_lt, false_or, or_false, if_pos, if_neg, zbI_some, zbV_some, wr_same, wr_cell, wr_slot, ne_eq, not_true_eq_false, not_false_eq_true, true_and, and_true, false_and, and_false, e10, e01, e00, if_true, if_false, Bool.false_eq_true, lit_ne, lit_lt, eq_self, wcp_cell]
theorem cC_36 (σ : zS) {r : Nat} (h : r < 8) : cC σ 36 r = σ 31 r := by
  rw [cC]; simp (disch := omega) only [lt_litR, lt_litL, eq_litR, eq_litL, lt_nn, eq_nn, lt_n0, z_cl, add_lit, eq_m1, eq_m1', m1_lt, false_or, or_false, if_pos, if_neg, zbI_some, zbV_some, wr_same, wr_cell, wr_slot, ne_eq, not_true_eq_false, not_false_eq_true, true_and, and_true, false_and, and_false, e10, e01, e00, if_true, if_false, Bool.false_eq_true, lit_ne, lit_lt, eq_self, wcp_at]
theorem cC_35 (σ : zS) {k : Nat} (h : 1 ≤ k) (h2 : k ≤ 5) : cC σ 35 k = σ 30 k := by
  rw [cC]
  rcases (show k = 1 ∨ k = 2 ∨ k = 3 ∨ k = 4 ∨ k = 5 by omega) with rfl | rfl | rfl | rfl | rfl <;> simp (disch := omega) only [lt_litR, lt_litL, eq_litR, eq_litL, lt_nn, eq_nn, lt_n0, z_cl, add_lit, eq_m1, eq_m1', m1_lt, false_or, or_false, if_pos, if_neg, zbI_some, zbV_some, wr_same, wr_cell, wr_slot, ne_eq, not_true_eq_false, not_false_eq_true, true_and, and_true, false_and, and_false, e10, e01, e00, if_true, if_false, Bool.false_eq_true, lit_ne, lit_lt, eq_self]
theorem cD_cell (σ : zS) {c : Nat} (h : c ≠ 30) (h2 : c ≠ 31) : cD σ c = σ c := by
  rw [cD]; simp (disch := omega) only [lt_litR, lt_litL, eq_litR, eq_litL, lt_nn, eq_nn, lt_n0, z_cl, add_lit, eq_m1, eq_m1', m1_lt, false_or, or_false, if_pos, if_neg, zbI_some, zbV_some, wr_same, wr_cell, wr_slot, ne_eq, not_true_eq_false, not_false_eq_true, true_and, and_true, false_and, and_false, e10, e01, e00, if_true, if_false, Bool.false_eq_true, lit_ne, lit_lt, eq_self, wcp_cell]
theorem cD_31 (σ : zS) {r : Nat} (h : r < 8) : cD σ 31 r = σ 36 r := by
  rw [cD]; simp (disch := omega) only [lt_litR, lt_litL, eq_litR, eq_litL, lt_nn, eq_nn, lt_n0, z_cl, add_lit, eq_m1, eq_m1', m1_lt, false_or, or_false, if_pos, if_neg, zbI_some, zbV_some, wr_same, wr_cell, wr_slot, ne_eq, not_true_eq_false, not_false_eq_true, true_and, and_true, false_and, and_false, e10, e01, e00, if_true, if_false, Bool.false_eq_true, lit_ne, lit_lt, eq_self, wcp_at]
theorem cD_30 (σ : zS) {k : Nat} (h : 1 ≤ k) (h2 : k ≤ 5) : cD σ 30 k = σ 35 k := by
  rw [cD]
  rcases (show k = 1 ∨ k = 2 ∨ k = 3 ∨ k = 4 ∨ k = 5 by omega) with rfl | rfl | rfl | rfl | rfl <;> simp (disch := omega) only [lt_litR, lt_litL, eq_litR, eq_litL, lt_nn, eq_nn, lt_n0, z_cl, add_lit, eq_m1, eq_m1', m1_lt, false_or, or_false, if_pos, if_neg, zbI_some, zbV_some, wr_same, wr_cell, wr_slot, ne_eq, not_true_eq_false, not_false_eq_true, true_and, and_true, false_and, and_false, e10, e01, e00, if_true, if_false, Bool.false_eq_true, lit_ne, lit_lt, eq_self]
theorem c_copy35 (d : Nat) (σ : zS) (h : σ 30 5 = 0 ∨ σ 30 5 = 1) : zM (d + 1) mX3_copyFrom [.inr (.inr 35), .inr (.inr 30)] σ = some (0, 0, cC σ) := by
  rw [qX3_copyFrom_35_30, qX3_copyFrom_35_30_0, if_pos h]; rfl
theorem c_copy30 (d : Nat) (σ : zS) (h : σ 35 5 = 0 ∨ σ 35 5 = 1) : zM (d + 1) mX3_copyFrom [.inr (.inr 30), .inr (.inr 35)] σ = some (0, 0, cD σ) := by
  rw [qX3_copyFrom_30_35, qX3_copyFrom_30_35_0, if_pos h]; rfl
theorem c_drop (d : Nat) (σ : zS) {n p : Nat} (h : σ 24 5 = nI p) (hn : n < p) (hp : p ≤ 200) : zM (d + 1) mX0_dropDecision [.inr (.inr 24), .inl (nI n)] σ = some (0, 0, wr σ 24 5 (nI n)) := by
  rw [qX0_dropDecision_24, qX0_dropDecision_24_0, h]
  simp (disch := omega) only [lt_litR, lt_litL, eq_litR, eq_litL, lt_nn, eq_nn, lt_n0, z_cl, add_lit, eq_m1, eq_m1', m1_lt, false_or, or_false, if_pos, if_neg, zbI_some, zbV_some, wr_same, wr_cell, wr_slot, ne_eq, not_true_eq_false, not_false_eq_true, true_and, and_true, false_and, and_false, e10, e01, e00, if_true, if_false, Bool.false_eq_true, lit_ne, lit_lt, eq_self]
theorem c_addDec (d : Nat) {P T σ τ : zS} (hW : ∀ x, x < pSz P → pW P T x) (hJ : ∀ x, x ≤ pSz P → pJ P 11 x) {e w n p : Nat} (B : Bnd P σ e w τ n p n) (x : Int32) (h39 : τ 38 39 = x) :
    ∃ σ' t, kTo P (e, w, τ) t ∧ aFrm σ σ' ∧
      ((zM (d + 8) mX4_addDecision [.inr (.inr 34), .inl x] σ = some (1, 0, σ') ∧ ∃ e' w' τ' p' s' σ1, t = (e', (if w' = 1 then 0 else 2), wr τ' 38 31 9) ∧ kTo P (e, w, τ) (e', w', τ') ∧ SimW P σ1 e' w' τ' n p' n s' ∧ ¬ τ' 38 34 = 0 ∧ (w' = 1 ∨ w' = 2) ∧ σ' = wr σ1 30 4 (nI p')) ∨
       (zM (d + 8) mX4_addDecision [.inr (.inr 34), .inl x] σ = some (1, t.2.2 38 31, σ') ∧ (t.2.2 38 31 = 3 ∨ t.2.2 38 31 = 4 ∨ t.2.2 38 31 = 5) ∧ HRel σ' t.2.2 n ∧ (∀ k, 1 ≤ k → k ≤ 5 → k ≠ 3 → σ' 30 k = σ 30 k) ∧ (∀ r, r < 8 → σ' 31 r = σ 31 r))) := by
  have B0 := B
  obtain ⟨a1, a2, a3, a4, a5, a6, a7, a8, a9, ⟨b, s, a10⟩, a11, a12, a13, a14, a15, a16, a17⟩ := B
  have hn := a9.2.1
  have hF : kTo P (e, w, τ) (e, if w = 1 then 0 else 2, kGo τ) := by
    have := kTo.one (P := P) (s := (e, w, τ))
    rw [kF_go a14 a8] at this
    exact this
  obtain ⟨q, q1, q2, q3, g⟩ : ∃ q, p ≤ q ∧ q ≤ n ∧ (∀ k, p ≤ k → k < q → ¬ τ 50 k = 0) ∧
      ((q < n ∧ τ 50 q = 0 ∧ kGo τ = wr (wr (wr τ 38 33 (nI (q + 1))) 38 36 0) 38 32 (nI q)) ∨
       (q = n ∧ ¬ τ 38 38 = 0 ∧ kGo τ = wr (wr (wr τ 38 33 (nI n)) 38 36 0) 38 31 4) ∨
       (q = n ∧ τ 38 38 = 0 ∧ n = 200 ∧ kGo τ = wr (wr (wr τ 38 33 (nI n)) 38 36 0) 38 31 5) ∨
       (q = n ∧ τ 38 38 = 0 ∧ n < 200 ∧ kGo τ = wr (wr (wr (wr (wr (wr (wr (wr τ 38 36 0) 38 34 1) 38 32 (nI n)) 50 n 0) 51 n 0) 52 n (τ 38 39)) 38 35 (nI (n + 1))) 38 33 (nI (n + 1)))) := by
    rcases kGo_cases a10 with ⟨h1, _⟩ | ⟨_, h2, _⟩ | ⟨_, _, h⟩
    · exact absurd a11 h1
    · rw [a12] at h2; exact absurd h2 (by decide)
    · exact h
  rw [qX4_addDecision_34, qX4_addDecision_34_0]
  rcases g with ⟨g1, g2, _⟩ | ⟨g1, g2, g⟩ | ⟨g1, g2, g3, g⟩ | ⟨g1, g2, g3, g⟩
  · exact absurd g2 (a16 q q1 g1)
  · -- stopped
    have hw2 : w = 2 := by
      rcases a8 with h | h
      · rw [h] at a13; exact absurd a13 g2
      · exact h
    subst hw2
    rw [a7, if_pos rfl, if_neg (by decide)]
    refine ⟨σ, _, hF, aFrm.rf, Or.inr ⟨?_, ?_, ?_, fun _ _ _ _ => rfl, fun _ _ => rfl⟩⟩
    · simp only [g, wr_same]
    · simp only [g, wr_same]; decide
    · simp only [g]
      exact a9.cong rfl rfl (fun i _ => ⟨rfl, rfl, rfl, rfl⟩) (fun i => rfl) (fun i _ => by simp (disch := omega) only [lt_litR, lt_litL, eq_litR, eq_litL, lt_nn, eq_nn, lt_n0, z_cl, add_lit, eq_m1, eq_m1', m1_lt, false_or, or_false, if_pos, if_neg, zbI_some, zbV_some, wr_same, wr_cell, wr_slot, ne_eq, not_true_eq_false, not_false_eq_true, true_and, and_true, false_and, and_false, e10, e01, e00, if_true, if_false, Bool.false_eq_true, lit_ne, lit_lt, eq_self, and_self])
  · have hw1 : w = 1 := by
      rcases a8 with h | h
      · exact h
      · rw [h] at a13; rw [a13] at g2; exact absurd g2 (by decide)
    subst hw1
    rw [a7, if_neg (show ¬ (1 : Nat) = 2 by decide), if_pos rfl, s_size, zbI_some, s_add (d + 6) σ hn a9.1, if_neg (by omega), zbI_some, if_pos rfl]
    refine ⟨σ, _, hF, aFrm.rf, Or.inr ⟨?_, ?_, ?_, fun _ _ _ _ => rfl, fun _ _ => rfl⟩⟩
    · simp only [g, wr_same]
    · simp only [g, wr_same]; decide
    · simp only [g]
      exact a9.cong rfl rfl (fun i _ => ⟨rfl, rfl, rfl, rfl⟩) (fun i => rfl) (fun i _ => by simp (disch := omega) only [lt_litR, lt_litL, eq_litR, eq_litL, lt_nn, eq_nn, lt_n0, z_cl, add_lit, eq_m1, eq_m1', m1_lt, false_or, or_false, if_pos, if_neg, zbI_some, zbV_some, wr_same, wr_cell, wr_slot, ne_eq, not_true_eq_false, not_false_eq_true, true_and, and_true, false_and, and_false, e10, e01, e00, if_true, if_false, Bool.false_eq_true, lit_ne, lit_lt, eq_self, and_self])
  · have hw1 : w = 1 := by
      rcases a8 with h | h
      · exact h
      · rw [h] at a13; rw [a13] at g2; exact absurd g2 (by decide)
    subst hw1
    rw [a7, if_neg (show ¬ (1 : Nat) = 2 by decide), if_pos rfl, s_size, zbI_some, a9.1, s_add (d + 6) σ hn a9.1, if_pos g3, zbI_some, if_neg (by decide)]
    have hap := a9.app (τ' := kGo τ) (k := 0) g3 (by omega) 0 x (fun h => absurd h (by decide)) (fun i hi => by rw [g]; simp (disch := omega) only [lt_litR, lt_litL, eq_litR, eq_litL, lt_nn, eq_nn, lt_n0, z_cl, add_lit, eq_m1, eq_m1', m1_lt, false_or, or_false, if_pos, if_neg, zbI_some, zbV_some, wr_same, wr_cell, wr_slot, ne_eq, not_true_eq_false, not_false_eq_true, true_and, and_true, false_and, and_false, e10, e01, e00, if_true, if_false, Bool.false_eq_true, lit_ne, lit_lt, eq_self, and_self]) (by rw [g]; simp (disch := omega) only [lt_litR, lt_litL, eq_litR, eq_litL, lt_nn, eq_nn, lt_n0, z_cl, add_lit, eq_m1, eq_m1', m1_lt, false_or, or_false, if_pos, if_neg, zbI_some, zbV_some, wr_same, wr_cell, wr_slot, ne_eq, not_true_eq_false, not_false_eq_true, true_and, and_true, false_and, and_false, e10, e01, e00, if_true, if_false, Bool.false_eq_true, lit_ne, lit_lt, eq_self]) (by rw [g]; simp (disch := omega) only [lt_litR, lt_litL, eq_litR, eq_litL, lt_nn, eq_nn, lt_n0, z_cl, add_lit, eq_m1, eq_m1', m1_lt, false_or, or_false, if_pos, if_neg, zbI_some, zbV_some, wr_same, wr_cell, wr_slot, ne_eq, not_true_eq_false, not_false_eq_true, true_and, and_true, false_and, and_false, e10, e01, e00, if_true, if_false, Bool.false_eq_true, lit_ne, lit_lt, eq_self]) (by rw [g]; simp (disch := omega) only [lt_litR, lt_litL, eq_litR, eq_litL, lt_nn, eq_nn, lt_n0, z_cl, add_lit, eq_m1, eq_m1', m1_lt, false_or, or_false, if_pos, if_neg, zbI_some, zbV_some, wr_same, wr_cell, wr_slot, ne_eq, not_true_eq_false, not_false_eq_true, true_and, and_true, false_and, and_false, e10, e01, e00, if_true, if_false, Bool.false_eq_true, lit_ne, lit_lt, eq_self, h39])
    have e0 : nI 0 = (0 : Int32) := rfl
    rw [e0] at hap
    generalize hσ2 : wr (wr (wr (wr (wr σ 25 n 0) 26 n 0) 27 n x) 28 n (-1)) 24 5 (nI (n + 1)) = σ2 at hap ⊢
    have c2 : ∀ c, c ≠ 24 → c ≠ 25 → c ≠ 26 → c ≠ 27 → c ≠ 28 → σ2 c = σ c := fun c h1 h2 h3 h4 h5 => by rw [← hσ2]; simp (disch := omega) only [lt_litR, lt_litL, eq_litR, eq_litL, lt_nn, eq_nn, lt_n0, z_cl, add_lit, eq_m1, eq_m1', m1_lt, false_or, or_false, if_pos, if_neg, zbI_some, zbV_some, wr_same, wr_cell, wr_slot, ne_eq, not_true_eq_false, not_false_eq_true, true_and, and_true, false_and, and_false, e10, e01, e00, if_true, if_false, Bool.false_eq_true, lit_ne, lit_lt, eq_self]
    have h246 : σ2 24 6 = σ 24 6 := by rw [← hσ2]; simp (disch := omega) only [lt_litR, lt_litL, eq_litR, eq_litL, lt_nn, eq_nn, lt_n0, z_cl, add_lit, eq_m1, eq_m1', m1_lt, false_or, or_false, if_pos, if_neg, zbI_some, zbV_some, wr_same, wr_cell, wr_slot, ne_eq, not_true_eq_false, not_false_eq_true, true_and, and_true, false_and, and_false, e10, e01, e00, if_true, if_false, Bool.false_eq_true, lit_ne, lit_lt, eq_self]
    have c30 : σ2 30 = σ 30 := c2 30 (by omega) (by omega) (by omega) (by omega) (by omega)
    have c31 : σ2 31 = σ 31 := c2 31 (by omega) (by omega) (by omega) (by omega) (by omega)
    rw [c_copy35 (d + 6) σ2 (by rw [c30, a7]; decide), zbV_some]
    generalize hσ3 : cC σ2 = σ3
    have c3 : ∀ c, c ≠ 35 → c ≠ 36 → σ3 c = σ2 c := fun c h1 h2 => by rw [← hσ3]; exact cC_cell σ2 h1 h2
    have hap3 : HRel σ3 (kGo τ) (n + 1) := hap.cong (by rw [c3 24 (by omega) (by omega)]) (by rw [c3 24 (by omega) (by omega)]) (fun i _ => by rw [c3 25 (by omega) (by omega), c3 26 (by omega) (by omega), c3 27 (by omega) (by omega), c3 28 (by omega) (by omega)]; exact ⟨rfl, rfl, rfl, rfl⟩) (fun i => by rw [c3 29 (by omega) (by omega)]) (fun _ _ => ⟨rfl, rfl, rfl⟩)
    have d30 : σ3 30 = σ 30 := by rw [c3 30 (by omega) (by omega), c30]
    have d31 : σ3 31 = σ 31 := by rw [c3 31 (by omega) (by omega), c31]
    have hfr3 : aFrm σ σ3 := fun c x1 x2 x3 x4 x5 x6 x7 x8 x9 x10 x11 => by rw [c3 c x9 x10, c2 c x1 x2 x3 x4 x5]
    have hS : SimW P (wr (wr (wr (wr (wr (wr (wr σ3 34 6 (nI n)) 34 7 (nI n + 1)) 34 8 200) 34 9 1) 34 10 0) 34 11 0) 30 3 0) e 0 (kGo τ) n (n + 1) n 0 := by
      have k34 : ¬ kGo τ 38 34 = 0 := by rw [g]; simp (disch := omega) only [lt_litR, lt_litL, eq_litR, eq_litL, lt_nn, eq_nn, lt_n0, z_cl, add_lit, eq_m1, eq_m1', m1_lt, false_or, or_false, if_pos, if_neg, zbI_some, zbV_some, wr_same, wr_cell, wr_slot, ne_eq, not_true_eq_false, not_false_eq_true, true_and, and_true, false_and, and_false, e10, e01, e00, if_true, if_false, Bool.false_eq_true, lit_ne, lit_lt, eq_self]
      refine ⟨⟨fun c h1 h2 => ?_, a1.2⟩, by simp (disch := omega) only [lt_litR, lt_litL, eq_litR, eq_litL, lt_nn, eq_nn, lt_n0, z_cl, add_lit, eq_m1, eq_m1', m1_lt, false_or, or_false, if_pos, if_neg, zbI_some, zbV_some, wr_same, wr_cell, wr_slot, ne_eq, not_true_eq_false, not_false_eq_true, true_and, and_true, false_and, and_false, e10, e01, e00, if_true, if_false, Bool.false_eq_true, lit_ne, lit_lt, eq_self, d30, a2], a3, fun r hr => by rw [g]; simp (disch := omega) only [lt_litR, lt_litL, eq_litR, eq_litL, lt_nn, eq_nn, lt_n0, z_cl, add_lit, eq_m1, eq_m1', m1_lt, false_or, or_false, if_pos, if_neg, zbI_some, zbV_some, wr_same, wr_cell, wr_slot, ne_eq, not_true_eq_false, not_false_eq_true, true_and, and_true, false_and, and_false, e10, e01, e00, if_true, if_false, Bool.false_eq_true, lit_ne, lit_lt, eq_self, d31, a4 r hr], by rw [g]; simp (disch := omega) only [lt_litR, lt_litL, eq_litR, eq_litL, lt_nn, eq_nn, lt_n0, z_cl, add_lit, eq_m1, eq_m1', m1_lt, false_or, or_false, if_pos, if_neg, zbI_some, zbV_some, wr_same, wr_cell, wr_slot, ne_eq, not_true_eq_false, not_false_eq_true, true_and, and_true, false_and, and_false, e10, e01, e00, if_true, if_false, Bool.false_eq_true, lit_ne, lit_lt, eq_self, d30, a5], by rw [g]; simp (disch := omega) only [lt_litR, lt_litL, eq_litR, eq_litL, lt_nn, eq_nn, lt_n0, z_cl, add_lit, eq_m1, eq_m1', m1_lt, false_or, or_false, if_pos, if_neg, zbI_some, zbV_some, wr_same, wr_cell, wr_slot, ne_eq, not_true_eq_false, not_false_eq_true, true_and, and_true, false_and, and_false, e10, e01, e00, if_true, if_false, Bool.false_eq_true, lit_ne, lit_lt, eq_self]; exact a6, by simp (disch := omega) only [lt_litR, lt_litL, eq_litR, eq_litL, lt_nn, eq_nn, lt_n0, z_cl, add_lit, eq_m1, eq_m1', m1_lt, false_or, or_false, if_pos, if_neg, zbI_some, zbV_some, wr_same, wr_cell, wr_slot, ne_eq, not_true_eq_false, not_false_eq_true, true_and, and_true, false_and, and_false, e10, e01, e00, if_true, if_false, Bool.false_eq_true, lit_ne, lit_lt, eq_self], by simp (disch := omega) only [lt_litR, lt_litL, eq_litR, eq_litL, lt_nn, eq_nn, lt_n0, z_cl, add_lit, eq_m1, eq_m1', m1_lt, false_or, or_false, if_pos, if_neg, zbI_some, zbV_some, wr_same, wr_cell, wr_slot, ne_eq, not_true_eq_false, not_false_eq_true, true_and, and_true, false_and, and_false, e10, e01, e00, if_true, if_false, Bool.false_eq_true, lit_ne, lit_lt, eq_self, d30, a7], by simp (disch := omega) only [lt_litR, lt_litL, eq_litR, eq_litL, lt_nn, eq_nn, lt_n0, z_cl, add_lit, eq_m1, eq_m1', m1_lt, false_or, or_false, if_pos, if_neg, zbI_some, zbV_some, wr_same, wr_cell, wr_slot, ne_eq, not_true_eq_false, not_false_eq_true, true_and, and_true, false_and, and_false, e10, e01, e00, if_true, if_false, Bool.false_eq_true, lit_ne, lit_lt, eq_self], by simp (disch := omega) only [lt_litR, lt_litL, eq_litR, eq_litL, lt_nn, eq_nn, lt_n0, z_cl, add_lit, eq_m1, eq_m1', m1_lt, false_or, or_false, if_pos, if_neg, zbI_some, zbV_some, wr_same, wr_cell, wr_slot, ne_eq, not_true_eq_false, not_false_eq_true, true_and, and_true, false_and, and_false, e10, e01, e00, if_true, if_false, Bool.false_eq_true, lit_ne, lit_lt, eq_self], by rw [g]; simp (disch := omega) only [lt_litR, lt_litL, eq_litR, eq_litL, lt_nn, eq_nn, lt_n0, z_cl, add_lit, eq_m1, eq_m1', m1_lt, false_or, or_false, if_pos, if_neg, zbI_some, zbV_some, wr_same, wr_cell, wr_slot, ne_eq, not_true_eq_false, not_false_eq_true, true_and, and_true, false_and, and_false, e10, e01, e00, if_true, if_false, Bool.false_eq_true, lit_ne, lit_lt, eq_self], Or.inr (by rw [g]; simp (disch := omega) only [lt_litR, lt_litL, eq_litR, eq_litL, lt_nn, eq_nn, lt_n0, z_cl, add_lit, eq_m1, eq_m1', m1_lt, false_or, or_false, if_pos, if_neg, zbI_some, zbV_some, wr_same, wr_cell, wr_slot, ne_eq, not_true_eq_false, not_false_eq_true, true_and, and_true, false_and, and_false, e10, e01, e00, if_true, if_false, Bool.false_eq_true, lit_ne, lit_lt, eq_self]), by simp (disch := omega) only [lt_litR, lt_litL, eq_litR, eq_litL, lt_nn, eq_nn, lt_n0, z_cl, add_lit, eq_m1, eq_m1', m1_lt, false_or, or_false, if_pos, if_neg, zbI_some, zbV_some, wr_same, wr_cell, wr_slot, ne_eq, not_true_eq_false, not_false_eq_true, true_and, and_true, false_and, and_false, e10, e01, e00, if_true, if_false, Bool.false_eq_true, lit_ne, lit_lt, eq_self], by simp (disch := omega) only [lt_litR, lt_litL, eq_litR, eq_litL, lt_nn, eq_nn, lt_n0, z_cl, add_lit, eq_m1, eq_m1', m1_lt, false_or, or_false, if_pos, if_neg, zbI_some, zbV_some, wr_same, wr_cell, wr_slot, ne_eq, not_true_eq_false, not_false_eq_true, true_and, and_true, false_and, and_false, e10, e01, e00, if_true, if_false, Bool.false_eq_true, lit_ne, lit_lt, eq_self], ⟨by rw [g]; simp (disch := omega) only [lt_litR, lt_litL, eq_litR, eq_litL, lt_nn, eq_nn, lt_n0, z_cl, add_lit, eq_m1, eq_m1', m1_lt, false_or, or_false, if_pos, if_neg, zbI_some, zbV_some, wr_same, wr_cell, wr_slot, ne_eq, not_true_eq_false, not_false_eq_true, true_and, and_true, false_and, and_false, e10, e01, e00, if_true, if_false, Bool.false_eq_true, lit_ne, lit_lt, eq_self, a10.1], hn, by rw [g]; simp (disch := omega) only [lt_litR, lt_litL, eq_litR, eq_litL, lt_nn, eq_nn, lt_n0, z_cl, add_lit, eq_m1, eq_m1', m1_lt, false_or, or_false, if_pos, if_neg, zbI_some, zbV_some, wr_same, wr_cell, wr_slot, ne_eq, not_true_eq_false, not_false_eq_true, true_and, and_true, false_and, and_false, e10, e01, e00, if_true, if_false, Bool.false_eq_true, lit_ne, lit_lt, eq_self], by omega, by rw [g]; simp (disch := omega) only [lt_litR, lt_litL, eq_litR, eq_litL, lt_nn, eq_nn, lt_n0, z_cl, add_lit, eq_m1, eq_m1', m1_lt, false_or, or_false, if_pos, if_neg, zbI_some, zbV_some, wr_same, wr_cell, wr_slot, ne_eq, not_true_eq_false, not_false_eq_true, true_and, and_true, false_and, and_false, e10, e01, e00, if_true, if_false, Bool.false_eq_true, lit_ne, lit_lt, eq_self], by omega, fun h => absurd h k34, fun _ => by rw [g]; simp (disch := omega) only [lt_litR, lt_litL, eq_litR, eq_litL, lt_nn, eq_nn, lt_n0, z_cl, add_lit, eq_m1, eq_m1', m1_lt, false_or, or_false, if_pos, if_neg, zbI_some, zbV_some, wr_same, wr_cell, wr_slot, ne_eq, not_true_eq_false, not_false_eq_true, true_and, and_true, false_and, and_false, e10, e01, e00, if_true, if_false, Bool.false_eq_true, lit_ne, lit_lt, eq_self], by rw [g]; simp (disch := omega) only [lt_litR, lt_litL, eq_litR, eq_litL, lt_nn, eq_nn, lt_n0, z_cl, add_lit, eq_m1, eq_m1', m1_lt, false_or, or_false, if_pos, if_neg, zbI_some, zbV_some, wr_same, wr_cell, wr_slot, ne_eq, not_true_eq_false, not_false_eq_true, true_and, and_true, false_and, and_false, e10, e01, e00, if_true, if_false, Bool.false_eq_true, lit_ne, lit_lt, eq_self], by omega⟩, by omega, ⟨fun h => absurd h k34, fun _ => ⟨hap3.cong (by simp (disch := omega) only [lt_litR, lt_litL, eq_litR, eq_litL, lt_nn, eq_nn, lt_n0, z_cl, add_lit, eq_m1, eq_m1', m1_lt, false_or, or_false, if_pos, if_neg, zbI_some, zbV_some, wr_same, wr_cell, wr_slot, ne_eq, not_true_eq_false, not_false_eq_true, true_and, and_true, false_and, and_false, e10, e01, e00, if_true, if_false, Bool.false_eq_true, lit_ne, lit_lt, eq_self]) (by simp (disch := omega) only [lt_litR, lt_litL, eq_litR, eq_litL, lt_nn, eq_nn, lt_n0, z_cl, add_lit, eq_m1, eq_m1', m1_lt, false_or, or_false, if_pos, if_neg, zbI_some, zbV_some, wr_same, wr_cell, wr_slot, ne_eq, not_true_eq_false, not_false_eq_true, true_and, and_true, false_and, and_false, e10, e01, e00, if_true, if_false, Bool.false_eq_true, lit_ne, lit_lt, eq_self]) (fun i _ => by simp (disch := omega) only [lt_litR, lt_litL, eq_litR, eq_litL, lt_nn, eq_nn, lt_n0, z_cl, add_lit, eq_m1, eq_m1', m1_lt, false_or, or_false, if_pos, if_neg, zbI_some, zbV_some, wr_same, wr_cell, wr_slot, ne_eq, not_true_eq_false, not_false_eq_true, true_and, and_true, false_and, and_false, e10, e01, e00, if_true, if_false, Bool.false_eq_true, lit_ne, lit_lt, eq_self, and_self]) (fun i => by simp (disch := omega) only [lt_litR, lt_litL, eq_litR, eq_litL, lt_nn, eq_nn, lt_n0, z_cl, add_lit, eq_m1, eq_m1', m1_lt, false_or, or_false, if_pos, if_neg, zbI_some, zbV_some, wr_same, wr_cell, wr_slot, ne_eq, not_true_eq_false, not_false_eq_true, true_and, and_true, false_and, and_false, e10, e01, e00, if_true, if_false, Bool.false_eq_true, lit_ne, lit_lt, eq_self]) (fun _ _ => ⟨rfl, rfl, rfl⟩), rfl, by simp (disch := omega) only [lt_litR, lt_litL, eq_litR, eq_litL, lt_nn, eq_nn, lt_n0, z_cl, add_lit, eq_m1, eq_m1', m1_lt, false_or, or_false, if_pos, if_neg, zbI_some, zbV_some, wr_same, wr_cell, wr_slot, ne_eq, not_true_eq_false, not_false_eq_true, true_and, and_true, false_and, and_false, e10, e01, e00, if_true, if_false, Bool.false_eq_true, lit_ne, lit_lt, eq_self], fun i i1 i2 => ?_, by rw [g]; simp (disch := omega) only [lt_litR, lt_litL, eq_litR, eq_litL, lt_nn, eq_nn, lt_n0, z_cl, add_lit, eq_m1, eq_m1', m1_lt, false_or, or_false, if_pos, if_neg, zbI_some, zbV_some, wr_same, wr_cell, wr_slot, ne_eq, not_true_eq_false, not_false_eq_true, true_and, and_true, false_and, and_false, e10, e01, e00, if_true, if_false, Bool.false_eq_true, lit_ne, lit_lt, eq_self]⟩⟩, by rw [g]; simp (disch := omega) only [lt_litR, lt_litL, eq_litR, eq_litL, lt_nn, eq_nn, lt_n0, z_cl, add_lit, eq_m1, eq_m1', m1_lt, false_or, or_false, if_pos, if_neg, zbI_some, zbV_some, wr_same, wr_cell, wr_slot, ne_eq, not_true_eq_false, not_false_eq_true, true_and, and_true, false_and, and_false, e10, e01, e00, if_true, if_false, Bool.false_eq_true, lit_ne, lit_lt, eq_self, a13], by rw [g]; simp (disch := omega) only [lt_litR, lt_litL, eq_litR, eq_litL, lt_nn, eq_nn, lt_n0, z_cl, add_lit, eq_m1, eq_m1', m1_lt, false_or, or_false, if_pos, if_neg, zbI_some, zbV_some, wr_same, wr_cell, wr_slot, ne_eq, not_true_eq_false, not_false_eq_true, true_and, and_true, false_and, and_false, e10, e01, e00, if_true, if_false, Bool.false_eq_true, lit_ne, lit_lt, eq_self, a14]⟩
      · have : σ3 c = P c := by rw [c3 c (by omega) (by omega), c2 c (by omega) (by omega) (by omega) (by omega) (by omega), a1.1 c h1 h2]
        simp (disch := omega) only [lt_litR, lt_litL, eq_litR, eq_litL, lt_nn, eq_nn, lt_n0, z_cl, add_lit, eq_m1, eq_m1', m1_lt, false_or, or_false, if_pos, if_neg, zbI_some, zbV_some, wr_same, wr_cell, wr_slot, ne_eq, not_true_eq_false, not_false_eq_true, true_and, and_true, false_and, and_false, e10, e01, e00, if_true, if_false, Bool.false_eq_true, lit_ne, lit_lt, eq_self, this]
      · obtain rfl : i = n := by omega
        exact ⟨0, by omega, by rw [g]; simp (disch := omega) only [lt_litR, lt_litL, eq_litR, eq_litL, lt_nn, eq_nn, lt_n0, z_cl, add_lit, eq_m1, eq_m1', m1_lt, false_or, or_false, if_pos, if_neg, zbI_some, zbV_some, wr_same, wr_cell, wr_slot, ne_eq, not_true_eq_false, not_false_eq_true, true_and, and_true, false_and, and_false, e10, e01, e00, if_true, if_false, Bool.false_eq_true, lit_ne, lit_lt, eq_self]⟩
    rw [if_pos rfl] at hF
    obtain ⟨σ4, r1, r2, r3, t, r4, r5⟩ := c_runDec d (σ := σ3) hW hJ (x2 := 200) (Or.inr rfl) (Or.inl rfl) hS
    rw [r1, zbV_some]
    rcases r5 with ⟨k1, k2, k3⟩ | ⟨k1, k2, p', s', k3, _⟩
    · have hl : ¬ t.2.2 38 34 = 0 := by rw [← k2.2.1, r3]; decide
      obtain ⟨p'', p1, p2, p3⟩ := k2.2.2.2.2.1 hl
      have hp2 := p2.2.1
      have e35 : σ4 35 = σ3 35 := r2.1 35 (by omega) (by omega) (by omega) (by omega) (by omega) (by omega) (by omega) (by omega) (by omega)
      have e36 : σ4 36 = σ3 36 := r2.1 36 (by omega) (by omega) (by omega) (by omega) (by omega) (by omega) (by omega) (by omega) (by omega)
      have f35 : ∀ k, 1 ≤ k → k ≤ 5 → σ4 35 k = σ 30 k := fun k h1 h2 => by rw [e35, ← hσ3, cC_35 σ2 h1 h2, c30]
      have hD : HRel (cD σ4) t.2.2 p'' := p2.cong (by rw [cD_cell σ4 (by omega) (by omega)]) (by rw [cD_cell σ4 (by omega) (by omega)]) (fun i _ => by rw [cD_cell σ4 (by omega) (by omega), cD_cell σ4 (by omega) (by omega), cD_cell σ4 (by omega) (by omega), cD_cell σ4 (by omega) (by omega)]; exact ⟨rfl, rfl, rfl, rfl⟩) (fun i => by rw [cD_cell σ4 (by omega) (by omega)]) (fun _ _ => ⟨rfl, rfl, rfl⟩)
      rw [if_neg k3, c_copy30 (d + 6) σ4 (by rw [f35 5 (by omega) (by omega), a7]; decide), zbV_some, c_drop (d + 6) (cD σ4) hD.1 p1 hp2, zbV_some]
      refine ⟨wr (cD σ4) 24 5 (nI n), t, hF.tr r4, ?_, Or.inr ⟨?_, ?_, hD.drop (by omega) p3, fun k h1 h2 h3 => ?_, fun r hr => ?_⟩⟩
      · refine (hfr3.tr r2.a).tr (fun c x1 x2 x3 x4 x5 x6 x7 x8 x9 x10 x11 => ?_)
        rw [wr_cell _ _ _ x1, cD_cell σ4 x6 x7]
      · rw [wr_cell _ _ _ (by omega), cD_cell σ4 (by omega) (by omega), k2.1]
      · rcases k2.2.2.2.2.2.1 with h | h | h
        · exact absurd h (k2.2.2.2.2.2.2 hl)
        · exact Or.inl h
        · exact Or.inr (Or.inr h)
      · rw [wr_cell _ _ _ (by omega), cD_30 σ4 h1 h2, f35 k h1 h2]
      · rw [wr_cell _ _ _ (by omega), cD_31 σ4 hr, e36, ← hσ3, cC_36 σ2 hr, c31]
    · obtain ⟨w1, w2, w3⟩ := k3.w2
      have hl : ¬ t.2.2 38 34 = 0 := by rw [← k3.2.2.2.2.2.2.2.2.2.2.1, r3]; decide
      have hH := (k3.2.2.2.2.2.2.2.2.2.2.2.2.2.2.2.2.1.2 hl).1
      rw [if_pos w1, s_size, zbI_some, hH.1]
      obtain ⟨te, tw, tt⟩ := t
      simp only at k1 k2 k3 hl
      have hgo : kGo tt = wr tt 38 31 9 := by rw [kGo, if_neg hl]
      have h5 := kTo.one (P := P) (s := (te, tw, tt))
      rw [kF_go k1 k2, hgo] at h5
      refine ⟨wr σ4 30 4 (nI p'), (te, if tw = 1 then 0 else 2, wr tt 38 31 9), (hF.tr r4).tr h5, ?_, Or.inl ⟨by rw [w1], te, tw, tt, p', s', σ4, rfl, hF.tr r4, k3, hl, k2, rfl⟩⟩
      exact (hfr3.tr r2.a).tr (fun c x1 x2 x3 x4 x5 x6 x7 x8 x9 x10 x11 => wr_cell _ _ _ x6)
