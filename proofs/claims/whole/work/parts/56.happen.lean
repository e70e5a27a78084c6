-- happen
theorem HRel.fin {σ τ τ' : zS} {N k r : Nat} (H : HRel σ τ N) (hN : N < 200) (hk : 5 ≤ k) (hk2 : k ≤ 7) (hr : r < N) (hop : σ 28 r = -1) (v : Int32) (hv : k = 7 → v = 0) (h1 : ∀ i, i ≠ N → τ' 50 i = τ 50 i ∧ τ' 51 i = τ 51 i ∧ τ' 52 i = τ 52 i) (h2 : τ' 50 N = nI k) (h3 : τ' 51 N = nI r) (h4 : τ' 52 N = v) :
    HRel (wr (wr (wr (wr (wr (wr σ 25 N (nI k)) 26 N (nI r)) 27 N v) 28 N (-1)) 24 5 (nI (N + 1))) 28 r (nI N)) τ' (N + 1) := by
  obtain ⟨a1, a2, a3, a4, a5, a6, a7⟩ := H
  have hE : ∀ k i, k < N → (kEnds τ' k i ↔ kEnds τ k i) := fun k i hk => by
    obtain ⟨b1, b2, b3⟩ := h1 k (by omega)
    simp only [kEnds, b1, b2]
  have hEN : ∀ i, i < 1000 → (kEnds τ' N i ↔ i = r) := fun i hi => by
    simp only [kEnds, h2, h3]
    simp (disch := omega) only [lt_litR, lt_litL, eq_litR, eq_litL, lt_nn, eq_nn, lt_n0, z_cl, add_lit, eq_m1, eq_m1', m1_lt, false_or, or_false, if_pos, if_neg, zbI_some, zbV_some, wr_same, wr_cell, wr_slot, ne_eq, not_true_eq_false, not_false_eq_true, true_and, and_true, false_and, and_false, e10, e01, e00, if_true, if_false, Bool.false_eq_true, lit_ne, lit_lt, eq_self]
    constructor
    · intro h; exact h.2.2.symm
    · intro h; exact ⟨by omega, by omega, h.symm⟩
  have hcn : kCnt τ' (N + 1) = kCnt τ N := by
    rw [kCnt, h2, kCnt_cong N (fun i hi => (h1 i (by omega)).1)]
    simp (disch := omega) only [lt_litR, lt_litL, eq_litR, eq_litL, lt_nn, eq_nn, lt_n0, z_cl, add_lit, eq_m1, eq_m1', m1_lt, false_or, or_false, if_pos, if_neg, zbI_some, zbV_some, wr_same, wr_cell, wr_slot, ne_eq, not_true_eq_false, not_false_eq_true, true_and, and_true, false_and, and_false, e10, e01, e00, if_true, if_false, Bool.false_eq_true, lit_ne, lit_lt, eq_self, Nat.add_zero]
  have hold : ∀ j, j < N → ¬ kEnds τ j r := by
    rcases a5 r hr with ⟨_, d2⟩ | ⟨kk, _, d2, d3, _⟩
    · exact d2
    · rw [hop] at d3; simp (disch := omega) only [lt_litR, lt_litL, eq_litR, eq_litL, lt_nn, eq_nn, lt_n0, z_cl, add_lit, eq_m1, eq_m1', m1_lt, false_or, or_false, if_pos, if_neg, zbI_some, zbV_some, wr_same, wr_cell, wr_slot, ne_eq, not_true_eq_false, not_false_eq_true, true_and, and_true, false_and, and_false, e10, e01, e00, if_true, if_false, Bool.false_eq_true, lit_ne, lit_lt, eq_self] at d3
  refine ⟨by simp (disch := omega) only [lt_litR, lt_litL, eq_litR, eq_litL, lt_nn, eq_nn, lt_n0, z_cl, add_lit, eq_m1, eq_m1', m1_lt, false_or, or_false, if_pos, if_neg, zbI_some, zbV_some, wr_same, wr_cell, wr_slot, ne_eq, not_true_eq_false, not_false_eq_true, true_and, and_true, false_and, and_false, e10, e01, e00, if_true, if_false, Bool.false_eq_true, lit_ne, lit_lt, eq_self], by omega, fun i hi => ?_, fun i hi => ?_, fun i hi => ?_, by rw [hcn]; simp (disch := omega) only [lt_litR, lt_litL, eq_litR, eq_litL, lt_nn, eq_nn, lt_n0, z_cl, add_lit, eq_m1, eq_m1', m1_lt, false_or, or_false, if_pos, if_neg, zbI_some, zbV_some, wr_same, wr_cell, wr_slot, ne_eq, not_true_eq_false, not_false_eq_true, true_and, and_true, false_and, and_false, e10, e01, e00, if_true, if_false, Bool.false_eq_true, lit_ne, lit_lt, eq_self, a6], fun j hj h8 => ?_⟩
  · by_cases hiN : i = N
    · subst hiN; rw [h2, h3, h4]; simp (disch := omega) only [lt_litR, lt_litL, eq_litR, eq_litL, lt_nn, eq_nn, lt_n0, z_cl, add_lit, eq_m1, eq_m1', m1_lt, false_or, or_false, if_pos, if_neg, zbI_some, zbV_some, wr_same, wr_cell, wr_slot, ne_eq, not_true_eq_false, not_false_eq_true, true_and, and_true, false_and, and_false, e10, e01, e00, if_true, if_false, Bool.false_eq_true, lit_ne, lit_lt, eq_self, and_self]
    · obtain ⟨b1, b2, b3⟩ := h1 i hiN
      obtain ⟨c1, c2, c3⟩ := a3 i (by omega)
      rw [b1, b2, b3]
      simp (disch := omega) only [lt_litR, lt_litL, eq_litR, eq_litL, lt_nn, eq_nn, lt_n0, z_cl, add_lit, eq_m1, eq_m1', m1_lt, false_or, or_false, if_pos, if_neg, zbI_some, zbV_some, wr_same, wr_cell, wr_slot, ne_eq, not_true_eq_false, not_false_eq_true, true_and, and_true, false_and, and_false, e10, e01, e00, if_true, if_false, Bool.false_eq_true, lit_ne, lit_lt, eq_self, c1, c2, c3, and_self]
  · by_cases hiN : i = N
    · subst hiN; rw [h2]
      refine ⟨⟨k, by omega, rfl⟩, fun h => ?_, fun x hx h => by have := (hEN x hx).mp h; omega⟩
      simp (disch := omega) only [lt_litR, lt_litL, eq_litR, eq_litL, lt_nn, eq_nn, lt_n0, z_cl, add_lit, eq_m1, eq_m1', m1_lt, false_or, or_false, if_pos, if_neg, zbI_some, zbV_some, wr_same, wr_cell, wr_slot, ne_eq, not_true_eq_false, not_false_eq_true, true_and, and_true, false_and, and_false, e10, e01, e00, if_true, if_false, Bool.false_eq_true, lit_ne, lit_lt, eq_self] at h
      rw [h4]
      exact hv (by omega)
    · obtain ⟨b1, b2, b3⟩ := h1 i hiN
      rw [b1, b3]
      exact ⟨(a4 i (by omega)).1, (a4 i (by omega)).2.1, fun x hx h => (a4 i (by omega)).2.2 x hx ((hE i x (by omega)).mp h)⟩
  · by_cases hir : i = r
    · subst hir
      refine Or.inr ⟨N, hr, by omega, by simp (disch := omega) only [lt_litR, lt_litL, eq_litR, eq_litL, lt_nn, eq_nn, lt_n0, z_cl, add_lit, eq_m1, eq_m1', m1_lt, false_or, or_false, if_pos, if_neg, zbI_some, zbV_some, wr_same, wr_cell, wr_slot, ne_eq, not_true_eq_false, not_false_eq_true, true_and, and_true, false_and, and_false, e10, e01, e00, if_true, if_false, Bool.false_eq_true, lit_ne, lit_lt, eq_self], (hEN i (by omega)).mpr rfl, fun j hj h => ?_⟩
      by_cases hjN : j = N
      · exact hjN
      · exact absurd ((hE j i (by omega)).mp h) (hold j (by omega))
    · by_cases hiN : i = N
      · subst hiN
        refine Or.inl ⟨by simp (disch := omega) only [lt_litR, lt_litL, eq_litR, eq_litL, lt_nn, eq_nn, lt_n0, z_cl, add_lit, eq_m1, eq_m1', m1_lt, false_or, or_false, if_pos, if_neg, zbI_some, zbV_some, wr_same, wr_cell, wr_slot, ne_eq, not_true_eq_false, not_false_eq_true, true_and, and_true, false_and, and_false, e10, e01, e00, if_true, if_false, Bool.false_eq_true, lit_ne, lit_lt, eq_self], fun j hj h => ?_⟩
        by_cases hjN : j = i
        · subst hjN; exact hir ((hEN _ (by omega)).mp h)
        · have h6 := (a4 j (by omega)).2.2 i (by omega) ((hE j i (by omega)).mp h)
          omega
      · rcases a5 i (by omega) with ⟨d1, d2⟩ | ⟨kk, d1, d2, d3, d4, d5⟩
        · refine Or.inl ⟨by simp (disch := omega) only [lt_litR, lt_litL, eq_litR, eq_litL, lt_nn, eq_nn, lt_n0, z_cl, add_lit, eq_m1, eq_m1', m1_lt, false_or, or_false, if_pos, if_neg, zbI_some, zbV_some, wr_same, wr_cell, wr_slot, ne_eq, not_true_eq_false, not_false_eq_true, true_and, and_true, false_and, and_false, e10, e01, e00, if_true, if_false, Bool.false_eq_true, lit_ne, lit_lt, eq_self, d1], fun j hj h => ?_⟩
          by_cases hjN : j = N
          · subst hjN; exact hir ((hEN _ (by omega)).mp h)
          · exact d2 j (by omega) ((hE j i (by omega)).mp h)
        · refine Or.inr ⟨kk, d1, by omega, by simp (disch := omega) only [lt_litR, lt_litL, eq_litR, eq_litL, lt_nn, eq_nn, lt_n0, z_cl, add_lit, eq_m1, eq_m1', m1_lt, false_or, or_false, if_pos, if_neg, zbI_some, zbV_some, wr_same, wr_cell, wr_slot, ne_eq, not_true_eq_false, not_false_eq_true, true_and, and_true, false_and, and_false, e10, e01, e00, if_true, if_false, Bool.false_eq_true, lit_ne, lit_lt, eq_self, d3], (hE kk i d2).mpr d4, fun j hj h => ?_⟩
          by_cases hjN : j = N
          · subst hjN; exact absurd ((hEN _ (by omega)).mp h) hir
          · exact d5 j (by omega) ((hE j i (by omega)).mp h)
  · by_cases hjN : j = N
    · subst hjN; rw [h2] at h8
      simp (disch := omega) only [lt_litR, lt_litL, eq_litR, eq_litL, lt_nn, eq_nn, lt_n0, z_cl, add_lit, eq_m1, eq_m1', m1_lt, false_or, or_false, if_pos, if_neg, zbI_some, zbV_some, wr_same, wr_cell, wr_slot, ne_eq, not_true_eq_false, not_false_eq_true, true_and, and_true, false_and, and_false, e10, e01, e00, if_true, if_false, Bool.false_eq_true, lit_ne, lit_lt, eq_self] at h8
      omega
    · rw [(h1 j hjN).1] at h8
      rw [kCnt_cong j (fun i hi => (h1 i (by omega)).1)]
      simp (disch := omega) only [lt_litR, lt_litL, eq_litR, eq_litL, lt_nn, eq_nn, lt_n0, z_cl, add_lit, eq_m1, eq_m1', m1_lt, false_or, or_false, if_pos, if_neg, zbI_some, zbV_some, wr_same, wr_cell, wr_slot, ne_eq, not_true_eq_false, not_false_eq_true, true_and, and_true, false_and, and_false, e10, e01, e00, if_true, if_false, Bool.false_eq_true, lit_ne, lit_lt, eq_self, a7 j (by omega) h8]
theorem HRel.sgn {σ τ τ' : zS} {N : Nat} (H : HRel σ τ N) (hN : N < 200) (v : Int32) (h1 : ∀ i, i ≠ N → τ' 50 i = τ 50 i ∧ τ' 51 i = τ 51 i ∧ τ' 52 i = τ 52 i) (h2 : τ' 50 N = nI 8) (h3 : τ' 51 N = 0) (h4 : τ' 52 N = v) :
    HRel (wr (wr (wr (wr (wr (wr (wr σ 25 N (nI 8)) 26 N 0) 27 N v) 28 N (-1)) 24 5 (nI (N + 1))) 29 (kCnt τ N) (nI N)) 24 6 (nI (kCnt τ N + 1))) τ' (N + 1) := by
  obtain ⟨a1, a2, a3, a4, a5, a6, a7⟩ := H
  have hE : ∀ k i, k < N → (kEnds τ' k i ↔ kEnds τ k i) := fun k i hk => by
    obtain ⟨b1, b2, b3⟩ := h1 k (by omega)
    simp only [kEnds, b1, b2]
  have hEN : ∀ i, ¬ kEnds τ' N i := fun i h => by
    have := h.2.1
    rw [h2] at this
    simp (disch := omega) only [lt_litR, lt_litL, eq_litR, eq_litL, lt_nn, eq_nn, lt_n0, z_cl, add_lit, eq_m1, eq_m1', m1_lt, false_or, or_false, if_pos, if_neg, zbI_some, zbV_some, wr_same, wr_cell, wr_slot, ne_eq, not_true_eq_false, not_false_eq_true, true_and, and_true, false_and, and_false, e10, e01, e00, if_true, if_false, Bool.false_eq_true, lit_ne, lit_lt, eq_self] at this
    omega
  have h8' : τ' 50 N = 8 := h2
  have hcn : kCnt τ' (N + 1) = kCnt τ N + 1 := by
    rw [kCnt, if_pos h8', kCnt_cong N (fun i hi => (h1 i (by omega)).1)]
  refine ⟨by simp (disch := omega) only [lt_litR, lt_litL, eq_litR, eq_litL, lt_nn, eq_nn, lt_n0, z_cl, add_lit, eq_m1, eq_m1', m1_lt, false_or, or_false, if_pos, if_neg, zbI_some, zbV_some, wr_same, wr_cell, wr_slot, ne_eq, not_true_eq_false, not_false_eq_true, true_and, and_true, false_and, and_false, e10, e01, e00, if_true, if_false, Bool.false_eq_true, lit_ne, lit_lt, eq_self], by omega, fun i hi => ?_, fun i hi => ?_, fun i hi => ?_, by rw [hcn]; simp (disch := omega) only [lt_litR, lt_litL, eq_litR, eq_litL, lt_nn, eq_nn, lt_n0, z_cl, add_lit, eq_m1, eq_m1', m1_lt, false_or, or_false, if_pos, if_neg, zbI_some, zbV_some, wr_same, wr_cell, wr_slot, ne_eq, not_true_eq_false, not_false_eq_true, true_and, and_true, false_and, and_false, e10, e01, e00, if_true, if_false, Bool.false_eq_true, lit_ne, lit_lt, eq_self], fun j hj h8 => ?_⟩
  · by_cases hiN : i = N
    · subst hiN; rw [h2, h3, h4]; simp (disch := omega) only [lt_litR, lt_litL, eq_litR, eq_litL, lt_nn, eq_nn, lt_n0, z_cl, add_lit, eq_m1, eq_m1', m1_lt, false_or, or_false, if_pos, if_neg, zbI_some, zbV_some, wr_same, wr_cell, wr_slot, ne_eq, not_true_eq_false, not_false_eq_true, true_and, and_true, false_and, and_false, e10, e01, e00, if_true, if_false, Bool.false_eq_true, lit_ne, lit_lt, eq_self, and_self]
    · obtain ⟨b1, b2, b3⟩ := h1 i hiN
      obtain ⟨c1, c2, c3⟩ := a3 i (by omega)
      rw [b1, b2, b3]
      simp (disch := omega) only [lt_litR, lt_litL, eq_litR, eq_litL, lt_nn, eq_nn, lt_n0, z_cl, add_lit, eq_m1, eq_m1', m1_lt, false_or, or_false, if_pos, if_neg, zbI_some, zbV_some, wr_same, wr_cell, wr_slot, ne_eq, not_true_eq_false, not_false_eq_true, true_and, and_true, false_and, and_false, e10, e01, e00, if_true, if_false, Bool.false_eq_true, lit_ne, lit_lt, eq_self, c1, c2, c3, and_self]
  · by_cases hiN : i = N
    · subst hiN; rw [h2]
      refine ⟨⟨8, by omega, rfl⟩, fun h => ?_, fun x _ h => absurd h (hEN x)⟩
      simp (disch := omega) only [lt_litR, lt_litL, eq_litR, eq_litL, lt_nn, eq_nn, lt_n0, z_cl, add_lit, eq_m1, eq_m1', m1_lt, false_or, or_false, if_pos, if_neg, zbI_some, zbV_some, wr_same, wr_cell, wr_slot, ne_eq, not_true_eq_false, not_false_eq_true, true_and, and_true, false_and, and_false, e10, e01, e00, if_true, if_false, Bool.false_eq_true, lit_ne, lit_lt, eq_self] at h
      omega
    · obtain ⟨b1, b2, b3⟩ := h1 i hiN
      rw [b1, b3]
      exact ⟨(a4 i (by omega)).1, (a4 i (by omega)).2.1, fun x hx h => (a4 i (by omega)).2.2 x hx ((hE i x (by omega)).mp h)⟩
  · by_cases hiN : i = N
    · subst hiN
      refine Or.inl ⟨by simp (disch := omega) only [lt_litR, lt_litL, eq_litR, eq_litL, lt_nn, eq_nn, lt_n0, z_cl, add_lit, eq_m1, eq_m1', m1_lt, false_or, or_false, if_pos, if_neg, zbI_some, zbV_some, wr_same, wr_cell, wr_slot, ne_eq, not_true_eq_false, not_false_eq_true, true_and, and_true, false_and, and_false, e10, e01, e00, if_true, if_false, Bool.false_eq_true, lit_ne, lit_lt, eq_self], fun j hj h => ?_⟩
      by_cases hjN : j = i
      · subst hjN; exact hEN _ h
      · have h6 := (a4 j (by omega)).2.2 i (by omega) ((hE j i (by omega)).mp h)
        omega
    · rcases a5 i (by omega) with ⟨d1, d2⟩ | ⟨kk, d1, d2, d3, d4, d5⟩
      · refine Or.inl ⟨by simp (disch := omega) only [lt_litR, lt_litL, eq_litR, eq_litL, lt_nn, eq_nn, lt_n0, z_cl, add_lit, eq_m1, eq_m1', m1_lt, false_or, or_false, if_pos, if_neg, zbI_some, zbV_some, wr_same, wr_cell, wr_slot, ne_eq, not_true_eq_false, not_false_eq_true, true_and, and_true, false_and, and_false, e10, e01, e00, if_true, if_false, Bool.false_eq_true, lit_ne, lit_lt, eq_self, d1], fun j hj h => ?_⟩
        by_cases hjN : j = N
        · subst hjN; exact hEN _ h
        · exact d2 j (by omega) ((hE j i (by omega)).mp h)
      · refine Or.inr ⟨kk, d1, by omega, by simp (disch := omega) only [lt_litR, lt_litL, eq_litR, eq_litL, lt_nn, eq_nn, lt_n0, z_cl, add_lit, eq_m1, eq_m1', m1_lt, false_or, or_false, if_pos, if_neg, zbI_some, zbV_some, wr_same, wr_cell, wr_slot, ne_eq, not_true_eq_false, not_false_eq_true, true_and, and_true, false_and, and_false, e10, e01, e00, if_true, if_false, Bool.false_eq_true, lit_ne, lit_lt, eq_self, d3], (hE kk i d2).mpr d4, fun j hj h => ?_⟩
        by_cases hjN : j = N
        · subst hjN; exact absurd h (hEN _)
        · exact d5 j (by omega) ((hE j i (by omega)).mp h)
  · rw [kCnt_cong j (fun i hi => (h1 i (by omega)).1)]
    by_cases hjN : j = N
    · subst hjN; simp (disch := omega) only [lt_litR, lt_litL, eq_litR, eq_litL, lt_nn, eq_nn, lt_n0, z_cl, add_lit, eq_m1, eq_m1', m1_lt, false_or, or_false, if_pos, if_neg, zbI_some, zbV_some, wr_same, wr_cell, wr_slot, ne_eq, not_true_eq_false, not_false_eq_true, true_and, and_true, false_and, and_false, e10, e01, e00, if_true, if_false, Bool.false_eq_true, lit_ne, lit_lt, eq_self]
    · rw [(h1 j hjN).1] at h8
      have h9 : kCnt τ (j + 1) ≤ kCnt τ N := kCnt_mono τ (by omega)
      rw [kCnt, if_pos h8] at h9
      simp (disch := omega) only [lt_litR, lt_litL, eq_litR, eq_litL, lt_nn, eq_nn, lt_n0, z_cl, add_lit, eq_m1, eq_m1', m1_lt, false_or, or_false, if_pos, if_neg, zbI_some, zbV_some, wr_same, wr_cell, wr_slot, ne_eq, not_true_eq_false, not_false_eq_true, true_and, and_true, false_and, and_false, e10, e01, e00, if_true, if_false, Bool.false_eq_true, lit_ne, lit_lt, eq_self, a7 j (by omega) h8]
theorem m_goneLoop (d : Nat) {σ : zS} {n r : Nat} (h20 : σ 38 20 = nI n) (hn : n ≤ 200) : ∀ (f m k : Nat), n - k = f → f < m → k ≤ 300 →
    ((∀ j, k ≤ j → j < n → ¬ kEnds σ j r) ∧ zexec zc_X8_isGone zu_X8_isGone (zM d) m 4 [.inr (.inr 38), .inl (nI r), .inl (nI k)] σ = some (1, 0, σ)) ∨ ((∃ j, k ≤ j ∧ j < n ∧ kEnds σ j r) ∧ zexec zc_X8_isGone zu_X8_isGone (zM d) m 4 [.inr (.inr 38), .inl (nI r), .inl (nI k)] σ = some (1, 1, σ)) := by
  intro f
  induction f with
  | zero =>
    intro m k hf hm hk
    obtain ⟨m, rfl⟩ : ∃ k, m = k + 1 := ⟨m - 1, by omega⟩
    refine Or.inl ⟨fun j j1 j2 => by omega, ?_⟩
    rw [qX8_isGone_38_4]
    simp (disch := omega) only [lt_litR, lt_litL, eq_litR, eq_litL, lt_nn, eq_nn, lt_n0, z_cl, add_lit, eq_m1, eq_m1', m1_lt, false_or, or_false, if_pos, if_neg, zbI_some, zbV_some, wr_same, wr_cell, wr_slot, ne_eq, not_true_eq_false, not_false_eq_true, true_and, and_true, false_and, and_false, e10, e01, e00, if_true, if_false, Bool.false_eq_true, lit_ne, lit_lt, eq_self, h20]
  | succ f ih =>
    intro m k hf hm hk
    obtain ⟨m, rfl⟩ : ∃ k, m = k + 1 := ⟨m - 1, by omega⟩
    rw [qX8_isGone_38_4]
    by_cases he : kEnds σ k r
    · refine Or.inr ⟨⟨k, Nat.le_refl _, by omega, he⟩, ?_⟩
      simp (disch := omega) only [lt_litR, lt_litL, eq_litR, eq_litL, lt_nn, eq_nn, lt_n0, z_cl, add_lit, eq_m1, eq_m1', m1_lt, false_or, or_false, if_pos, if_neg, zbI_some, zbV_some, wr_same, wr_cell, wr_slot, ne_eq, not_true_eq_false, not_false_eq_true, true_and, and_true, false_and, and_false, e10, e01, e00, if_true, if_false, Bool.false_eq_true, lit_ne, lit_lt, eq_self, h20, he.1, he.2.1, eq_true he.2.2]
    · have hnext : zexec zc_X8_isGone zu_X8_isGone (zM d) (m + 1) 4 [.inr (.inr 38), .inl (nI r), .inl (nI k)] σ = zexec zc_X8_isGone zu_X8_isGone (zM d) m 4 [.inr (.inr 38), .inl (nI r), .inl (nI (k + 1))] σ := by
        rw [qX8_isGone_38_4]
        by_cases h1 : σ 50 k < 5
        · simp (disch := omega) only [lt_litR, lt_litL, eq_litR, eq_litL, lt_nn, eq_nn, lt_n0, z_cl, add_lit, eq_m1, eq_m1', m1_lt, false_or, or_false, if_pos, if_neg, zbI_some, zbV_some, wr_same, wr_cell, wr_slot, ne_eq, not_true_eq_false, not_false_eq_true, true_and, and_true, false_and, and_false, e10, e01, e00, if_true, if_false, Bool.false_eq_true, lit_ne, lit_lt, eq_self, h20, h1]
        · by_cases h2 : 7 < σ 50 k
          · simp (disch := omega) only [lt_litR, lt_litL, eq_litR, eq_litL, lt_nn, eq_nn, lt_n0, z_cl, add_lit, eq_m1, eq_m1', m1_lt, false_or, or_false, if_pos, if_neg, zbI_some, zbV_some, wr_same, wr_cell, wr_slot, ne_eq, not_true_eq_false, not_false_eq_true, true_and, and_true, false_and, and_false, e10, e01, e00, if_true, if_false, Bool.false_eq_true, lit_ne, lit_lt, eq_self, h20, h1, h2]
          · have h3 : ¬ σ 51 k = nI r := fun h => he ⟨h1, h2, h⟩
            simp (disch := omega) only [lt_litR, lt_litL, eq_litR, eq_litL, lt_nn, eq_nn, lt_n0, z_cl, add_lit, eq_m1, eq_m1', m1_lt, false_or, or_false, if_pos, if_neg, zbI_some, zbV_some, wr_same, wr_cell, wr_slot, ne_eq, not_true_eq_false, not_false_eq_true, true_and, and_true, false_and, and_false, e10, e01, e00, if_true, if_false, Bool.false_eq_true, lit_ne, lit_lt, eq_self, h20, h1, h2, h3]
      rw [← qX8_isGone_38_4, hnext]
      rcases ih m (k + 1) (by omega) (by omega) (by omega) with ⟨g1, g2⟩ | ⟨⟨j, g1, g2, g3⟩, g4⟩
      · refine Or.inl ⟨fun j j1 j2 => ?_, g2⟩
        by_cases hj : j = k
        · subst hj; exact he
        · exact g1 j (by omega) j2
      · exact Or.inr ⟨⟨j, by omega, g2, g3⟩, g4⟩
theorem m_isGone (d : Nat) {σ τ : zS} {n r : Nat} (H : HRel σ τ n) (h20 : τ 38 20 = nI n) (hr : r < n) : zM (d + 1) mX8_isGone [.inr (.inr 38), .inl (nI r)] τ = some (1, if σ 28 r = -1 then 0 else 1, τ) := by
  have hn := H.2.1
  rw [qX8_isGone_38, qX8_isGone_38_0, nI_1]
  rcases H.2.2.2.2.1 r hr with ⟨d1, d2⟩ | ⟨k, d1, d2, d3, d4, d5⟩
  · rw [if_pos d1]
    rcases m_goneLoop d (r := r) h20 hn (n - (r + 1)) 999999 (r + 1) rfl (by omega) (by omega) with ⟨_, g⟩ | ⟨⟨j, j1, j2, j3⟩, _⟩
    · exact g
    · exact absurd j3 (d2 j j2)
  · rw [if_neg (by rw [d3, eq_m1 (by omega)]; exact fun h => h)]
    rcases m_goneLoop d (r := r) h20 hn (n - (r + 1)) 999999 (r + 1) rfl (by omega) (by omega) with ⟨g, _⟩ | ⟨_, g⟩
    · exact absurd d4 (g k (by omega) d2)
    · exact g
