-- total
def cF (τ : zS) (lo hi : Int32) : Nat → Nat → Nat
  | 0, _ => 0
  | f + 1, i => (if ¬ τ 50 i < lo ∧ ¬ hi < τ 50 i then 1 else 0) + cF τ lo hi f (i + 1)
theorem cF_le (τ : zS) (lo hi : Int32) : ∀ f i, cF τ lo hi f i ≤ f := by
  intro f
  induction f with
  | zero => intro i; exact Nat.le_refl _
  | succ f ih => intro i; rw [cF]; have := ih (i + 1); split <;> omega
theorem c_countLoop (d : Nat) {σ τ : zS} {n : Nat} (H : HRel σ τ n) (lo hi : Int32) : ∀ (f m c i : Nat), n - i = f → i ≤ n → f < m → zexec zc_X0_count zu_X0_count (zM (d + 2)) m 5 [.inr (.inr 24), .inl lo, .inl hi, .inl (nI c), .inl (nI i)] σ = some (1, nI (c + cF τ lo hi f i), σ) := by
  have hn := H.2.1
  intro f
  induction f with
  | zero =>
    intro m c i hf hi hm
    obtain ⟨m, rfl⟩ : ∃ k, m = k + 1 := ⟨m - 1, by omega⟩
    rw [qX0_count_24_5, H.1, if_neg (nI_nlt (by omega) (by omega)), cF, Nat.add_zero]
  | succ f ih =>
    intro m c i hf hi2 hm
    obtain ⟨m, rfl⟩ : ∃ k, m = k + 1 := ⟨m - 1, by omega⟩
    rw [qX0_count_24_5, H.1, if_pos (nI_lt (by omega) (by omega)), c_kindAt d H i (by omega), zbI_some, if_pos (show i < n by omega), cF, nI_1]
    by_cases h1 : τ 50 i < lo
    · rw [if_pos h1, ih m c (i + 1) (by omega) (by omega) (by omega), if_neg (fun h => h.1 h1), Nat.zero_add]
    · rw [if_neg h1, c_kindAt d H i (by omega), zbI_some, if_pos (show i < n by omega)]
      by_cases h2 : hi < τ 50 i
      · rw [if_pos h2, ih m c (i + 1) (by omega) (by omega) (by omega), if_neg (fun h => h.2 h2), Nat.zero_add]
      · rw [if_neg h2, nI_1, ih m (c + 1) (i + 1) (by omega) (by omega) (by omega), if_pos (show ¬ τ 50 i < lo ∧ ¬ hi < τ 50 i from ⟨h1, h2⟩), Nat.add_assoc]
theorem m_totLoop (d : Nat) {σ τ : zS} {n : Nat} (H : HRel σ τ n) (h20 : τ 38 20 = nI n) (x : Int32) : ∀ (f m a b i : Nat), n - i = f → i ≤ n → f < m → ∃ m', zexec zc_X8_total zu_X8_total (zM d) m 12 [.inr (.inr 38), .inl x, .inl (nI a), .inl (nI b), .inl (nI i)] τ = zexec zc_X8_total zu_X8_total (zM d) (m' + 1) 12 [.inr (.inr 38), .inl x, .inl (nI (a + cF τ 1 4 f i)), .inl (nI (b + cF τ 0 0 f i)), .inl (nI n)] τ := by
  have hn := H.2.1
  intro f
  induction f with
  | zero =>
    intro m a b i hf hi hm
    obtain ⟨m, rfl⟩ : ∃ k, m = k + 1 := ⟨m - 1, by omega⟩
    obtain rfl : i = n := by omega
    exact ⟨m, rfl⟩
  | succ f ih =>
    intro m a b i hf hi2 hm
    obtain ⟨m, rfl⟩ : ∃ k, m = k + 1 := ⟨m - 1, by omega⟩
    obtain ⟨⟨k, hk, h5⟩, _⟩ := H.2.2.2.1 i (by omega)
    have hin : ¬ (nI i < 0 ∨ 201 ≤ i) := nin (by omega) (by omega)
    rw [qX8_total_38_12, h20, if_pos (nI_lt (show i < n by omega) (by omega))]
    simp only [if_neg hin, z_cl (show i < 2 ^ 31 by omega), h5, add0, nI_1]
    rw [cF, cF, h5]
    by_cases h1 : k < 1
    · obtain rfl : k = 0 := by omega
      obtain ⟨m', e⟩ := ih m a (b + 1) (i + 1) (by omega) (by omega) (by omega)
      refine ⟨m', ?_⟩
      rw [show b + ((if ¬ nI 0 < 0 ∧ ¬ 0 < nI 0 then 1 else 0) + cF τ 0 0 f (i + 1)) = b + 1 + cF τ 0 0 f (i + 1) by rw [if_pos (by decide)]; omega, show a + ((if ¬ nI 0 < 1 ∧ ¬ 4 < nI 0 then 1 else 0) + cF τ 1 4 f (i + 1)) = a + cF τ 1 4 f (i + 1) by rw [if_neg (by decide)]; omega, ← e, if_pos (show nI 0 < 1 by decide), if_pos (show nI 0 = 0 from rfl)]
    · have hk0 : ¬ nI k = 0 := by simp (disch := omega) only [lt_litR, lt_litL, eq_litR, eq_litL, lt_nn, eq_nn, lt_n0, z_cl, add_lit, eq_m1, eq_m1', m1_lt, false_or, or_false, if_pos, if_neg, zbI_some, zbV_some, wr_same, wr_cell, wr_slot, ne_eq, not_true_eq_false, not_false_eq_true, true_and, and_true, false_and, and_false, e10, e01, e00, if_true, if_false, Bool.false_eq_true, lit_ne, lit_lt, eq_self]; omega
      have hk1 : ¬ nI k < 1 := by simp (disch := omega) only [lt_litR, lt_litL, eq_litR, eq_litL, lt_nn, eq_nn, lt_n0, z_cl, add_lit, eq_m1, eq_m1', m1_lt, false_or, or_false, if_pos, if_neg, zbI_some, zbV_some, wr_same, wr_cell, wr_slot, ne_eq, not_true_eq_false, not_false_eq_true, true_and, and_true, false_and, and_false, e10, e01, e00, if_true, if_false, Bool.false_eq_true, lit_ne, lit_lt, eq_self]; omega
      have hk2 : ¬ (¬ nI k < 0 ∧ ¬ 0 < nI k) := by simp (disch := omega) only [lt_litR, lt_litL, eq_litR, eq_litL, lt_nn, eq_nn, lt_n0, z_cl, add_lit, eq_m1, eq_m1', m1_lt, false_or, or_false, if_pos, if_neg, zbI_some, zbV_some, wr_same, wr_cell, wr_slot, ne_eq, not_true_eq_false, not_false_eq_true, true_and, and_true, false_and, and_false, e10, e01, e00, if_true, if_false, Bool.false_eq_true, lit_ne, lit_lt, eq_self]; omega
      by_cases h4 : 4 < k
      · have hk4 : 4 < nI k := by simp (disch := omega) only [lt_litR, lt_litL, eq_litR, eq_litL, lt_nn, eq_nn, lt_n0, z_cl, add_lit, eq_m1, eq_m1', m1_lt, false_or, or_false, if_pos, if_neg, zbI_some, zbV_some, wr_same, wr_cell, wr_slot, ne_eq, not_true_eq_false, not_false_eq_true, true_and, and_true, false_and, and_false, e10, e01, e00, if_true, if_false, Bool.false_eq_true, lit_ne, lit_lt, eq_self]; exact h4
        obtain ⟨m', e⟩ := ih m a b (i + 1) (by omega) (by omega) (by omega)
        refine ⟨m', ?_⟩
        rw [if_neg hk2, if_neg (show ¬ (¬ nI k < 1 ∧ ¬ 4 < nI k) from fun h => h.2 hk4), Nat.zero_add, Nat.zero_add, ← e, if_neg hk1, if_pos hk4, if_neg hk0]
      · have hk4 : ¬ 4 < nI k := by simp (disch := omega) only [lt_litR, lt_litL, eq_litR, eq_litL, lt_nn, eq_nn, lt_n0, z_cl, add_lit, eq_m1, eq_m1', m1_lt, false_or, or_false, if_pos, if_neg, zbI_some, zbV_some, wr_same, wr_cell, wr_slot, ne_eq, not_true_eq_false, not_false_eq_true, true_and, and_true, false_and, and_false, e10, e01, e00, if_true, if_false, Bool.false_eq_true, lit_ne, lit_lt, eq_self]; omega
        obtain ⟨m', e⟩ := ih m (a + 1) b (i + 1) (by omega) (by omega) (by omega)
        refine ⟨m', ?_⟩
        rw [if_neg hk2, if_pos (show ¬ nI k < 1 ∧ ¬ 4 < nI k from ⟨hk1, hk4⟩), Nat.zero_add, ← Nat.add_assoc, ← e, if_neg hk1, if_neg hk4, if_neg hk0]
theorem t_total (d : Nat) {σ : zS} {n : Nat} (H : InvN σ n) (x : Int32) : ∃ v, zM (d + 4) mX7_total [.inr (.inr 0), .inl x] σ = some (1, v, σ) ∧ zM (d + 4) mX8_total [.inr (.inr 38), .inl x] σ = some (1, v, wr σ 38 0 0) ∧ InvN (wr σ 38 0 0) n := by
  have hH := H.2.2.1.1
  have h20 := H.2.2.1.2.1
  obtain ⟨b1, b2, b3, b4, b5⟩ := H.2.2.2.1
  have hn := hH.2.1
  have e0 : nI 0 = (0 : Int32) := rfl
  have hH0 : HRel σ (wr σ 38 0 0) n := hH.cong rfl rfl (fun _ _ => ⟨rfl, rfl, rfl, rfl⟩) (fun _ => rfl) (fun i _ => by simp (disch := omega) only [lt_litR, lt_litL, eq_litR, eq_litL, lt_nn, eq_nn, lt_n0, z_cl, add_lit, eq_m1, eq_m1', m1_lt, false_or, or_false, if_pos, if_neg, zbI_some, zbV_some, wr_same, wr_cell, wr_slot, ne_eq, not_true_eq_false, not_false_eq_true, true_and, and_true, false_and, and_false, e10, e01, e00, if_true, if_false, Bool.false_eq_true, lit_ne, lit_lt, eq_self, and_self])
  have hcf : ∀ lo hi f i, cF (wr σ 38 0 0) lo hi f i = cF σ lo hi f i := by
    intro lo hi f
    induction f with
    | zero => intro i; rfl
    | succ f ih => intro i; rw [cF, cF, ih]; simp (disch := omega) only [lt_litR, lt_litL, eq_litR, eq_litL, lt_nn, eq_nn, lt_n0, z_cl, add_lit, eq_m1, eq_m1', m1_lt, false_or, or_false, if_pos, if_neg, zbI_some, zbV_some, wr_same, wr_cell, wr_slot, ne_eq, not_true_eq_false, not_false_eq_true, true_and, and_true, false_and, and_false, e10, e01, e00, if_true, if_false, Bool.false_eq_true, lit_ne, lit_lt, eq_self]
  have hcn : ∀ lo hi, zM (d + 3) mX0_count [.inr (.inr 24), .inl lo, .inl hi] σ = some (1, nI (cF σ lo hi n 0), σ) := fun lo hi => by
    rw [qX0_count_24, qX0_count_24_0]
    have := c_countLoop d hH lo hi n 999999 0 0 (by omega) (by omega) (by omega)
    rw [e0, Nat.zero_add] at this
    exact this
  obtain ⟨m', e⟩ := m_totLoop (d + 3) hH0 (by simp (disch := omega) only [lt_litR, lt_litL, eq_litR, eq_litL, lt_nn, eq_nn, lt_n0, z_cl, add_lit, eq_m1, eq_m1', m1_lt, false_or, or_false, if_pos, if_neg, zbI_some, zbV_some, wr_same, wr_cell, wr_slot, ne_eq, not_true_eq_false, not_false_eq_true, true_and, and_true, false_and, and_false, e10, e01, e00, if_true, if_false, Bool.false_eq_true, lit_ne, lit_lt, eq_self, h20]) x n 999999 0 0 0 (by omega) (by omega) (by omega)
  rw [e0, Nat.zero_add, Nat.zero_add, hcf, hcf] at e
  have hm : zM (d + 4) mX8_total [.inr (.inr 38), .inl x] σ = if x = 0 then some (1, nI n, wr σ 38 0 0) else if x = 1 then some (1, nI (cF σ 1 4 n 0), wr σ 38 0 0) else if x = 2 then some (1, nI (cF σ 0 0 n 0), wr σ 38 0 0) else if x = 3 then some (1, σ 38 25, wr σ 38 0 0) else if x = 4 then some (1, σ 38 26, wr σ 38 0 0) else if x = 5 then some (1, σ 38 27, wr σ 38 0 0) else some (1, -1, wr σ 38 0 0) := by
    rw [qX8_total_38, qX8_total_38_0, e, qX8_total_38_12]
    simp (disch := omega) only [lt_litR, lt_litL, eq_litR, eq_litL, lt_nn, eq_nn, lt_n0, z_cl, add_lit, eq_m1, eq_m1', m1_lt, false_or, or_false, if_pos, if_neg, zbI_some, zbV_some, wr_same, wr_cell, wr_slot, ne_eq, not_true_eq_false, not_false_eq_true, true_and, and_true, false_and, and_false, e10, e01, e00, if_true, if_false, Bool.false_eq_true, lit_ne, lit_lt, eq_self, h20, Nat.lt_irrefl]
  rw [hm, qX7_total_0, qX7_total_0_0, s_size, zbI_some, hcn, hcn, zbI_some, zbI_some, hH.1]
  by_cases x0 : x = 0
  · exact ⟨_, by rw [if_pos x0], by rw [if_pos x0], H.thr 0⟩
  by_cases x1 : x = 1
  · exact ⟨_, by rw [if_neg x0, if_pos x1], by rw [if_neg x0, if_pos x1], H.thr 0⟩
  by_cases x2 : x = 2
  · exact ⟨_, by rw [if_neg x0, if_neg x1, if_pos x2], by rw [if_neg x0, if_neg x1, if_pos x2], H.thr 0⟩
  by_cases x3 : x = 3
  · refine ⟨σ 38 25, ?_, by rw [if_neg x0, if_neg x1, if_neg x2, if_pos x3], H.thr 0⟩
    rw [if_neg x0, if_neg x1, if_neg x2, if_pos x3, ← b2]
    rcases b5 with h | h <;> rw [h]
    · rfl
    · rfl
  by_cases x4 : x = 4
  · exact ⟨_, by rw [if_neg x0, if_neg x1, if_neg x2, if_neg x3, if_pos x4, b3], by rw [if_neg x0, if_neg x1, if_neg x2, if_neg x3, if_pos x4], H.thr 0⟩
  by_cases x5 : x = 5
  · exact ⟨_, by rw [if_neg x0, if_neg x1, if_neg x2, if_neg x3, if_neg x4, if_pos x5, b4], by rw [if_neg x0, if_neg x1, if_neg x2, if_neg x3, if_neg x4, if_pos x5], H.thr 0⟩
  exact ⟨_, by rw [if_neg x0, if_neg x1, if_neg x2, if_neg x3, if_neg x4, if_neg x5], by rw [if_neg x0, if_neg x1, if_neg x2, if_neg x3, if_neg x4, if_neg x5], H.thr 0⟩
