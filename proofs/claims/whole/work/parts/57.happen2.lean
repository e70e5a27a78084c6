-- happen, on both sides
def isOp (σ τ : zS) (n : Nat) (x k : Int32) : Bool := decide (¬ x < 0 ∧ x < nI n ∧ τ 50 x.toNatClampNeg = k ∧ σ 28 x.toNatClampNeg = -1)
theorem c_isOpen (d : Nat) {σ τ : zS} {n : Nat} (H : HRel σ τ n) (x k : Int32) : zM (d + 2) mX0_isOpen [.inr (.inr 24), .inl x, .inl k] σ = some (1, if isOp σ τ n x k then 1 else 0, σ) := by
  have hn := H.2.1
  rw [qX0_isOpen_24, qX0_isOpen_24_0, s_holds, zbI_some, H.1]
  by_cases h1 : x < 0
  · have hno : isOp σ τ n x k = false := by rw [isOp]; simp [h1]
    rw [hno, if_neg (show ¬ (¬ x < 0 ∧ x < nI n) from fun h => h.1 h1), if_pos rfl]; rfl
  · obtain ⟨j, hj, rfl⟩ := nI_of h1
    have he : isOp σ τ n (nI j) k = decide (j < n ∧ τ 50 j = k ∧ σ 28 j = -1) := by
      rw [isOp, z_cl (by omega)]
      simp only [h1, not_false_eq_true, true_and, lt_nn hj (show n < 2 ^ 31 by omega)]
    rw [he]
    by_cases h2 : j < n
    · have hj2 := (H.2.2.1 j h2).1
      rw [if_pos (show ¬ nI j < 0 ∧ nI j < nI n from ⟨h1, nI_lt h2 (by omega)⟩), if_neg (by decide), if_neg (nI_in (by omega) (by omega)), z_cl (by omega), hj2]
      by_cases h3 : τ 50 j = k
      · rw [if_pos h3, if_neg (nin (by omega) (by omega))]
        by_cases h4 : σ 28 j = -1
        · rw [if_pos h4]; simp [h2, h3, h4]
        · rw [if_neg h4]; simp [h4]
      · rw [if_neg h3]; simp [h3]
    · rw [if_neg (show ¬ (¬ nI j < 0 ∧ nI j < nI n) from fun h => nI_nlt (by omega) (by omega) h.2), if_pos rfl]
      simp [h2]
theorem isOp_of {σ τ : zS} {n : Nat} {x k : Int32} (hn : n ≤ 200) (h : isOp σ τ n x k = true) : ∃ r, r < n ∧ x = nI r ∧ τ 50 r = k ∧ σ 28 r = -1 := by
  rw [isOp, decide_eq_true_eq] at h
  obtain ⟨h1, h2, h3, h4⟩ := h
  obtain ⟨j, hj, rfl⟩ := nI_of h1
  rw [z_cl (by omega)] at h3 h4
  exact ⟨j, (nI_ltI (by omega) (by omega)).mp h2, rfl, h3, h4⟩
theorem m_hap45 (d m : Nat) (σ : zS) (x y z : Int32) : zexec zc_X8_happen zu_X8_happen (zM d) (m + 1) 45 [.inr (.inr 38), .inl x, .inl y, .inl z] σ = some (1, 0, σ) := by
  rw [qX8_happen_38_45]; split <;> rfl
/-- an end is told to the reference -/
theorem m_hap41 (d m : Nat) {σ τ : zS} {n k : Nat} (H : HRel σ τ n) (h20 : τ 38 20 = nI n) (hk : 5 ≤ k) (hk2 : k ≤ 7) (y z : Int32) : zexec zc_X8_happen zu_X8_happen (zM (d + 1)) (m + 1) 41 [.inr (.inr 38), .inl (nI k), .inl y, .inl z] τ = if isOp σ τ n y (if k = 7 then 2 else 1) then some (1, 1, wr (wr (wr (wr τ 50 n (nI k)) 51 n y) 52 n z) 38 20 (nI (n + 1))) else some (1, 0, τ) := by
  have hn := H.2.1
  rw [qX8_happen_38_41, if_neg (show ¬ nI k = 8 by simp (disch := omega) only [lt_litR, lt_litL, eq_litR, eq_litL, lt_nn, eq_nn, lt_n0, z_cl, add_lit, eq_m1, eq_m1', m1_lt, false_or, or_false, if_pos, if_neg, zbI_some, zbV_some, wr_same, wr_cell, wr_slot, ne_eq, not_true_eq_false, not_false_eq_true, true_and, and_true, false_and, and_false, e10, e01, e00, if_true, if_false, Bool.false_eq_true, lit_ne, lit_lt, eq_self]; omega)]
  by_cases h1 : y < 0
  · have hno : ∀ q, isOp σ τ n y q = false := fun q => by rw [isOp]; simp [h1]
    rw [if_pos h1, hno]; rfl
  · obtain ⟨j, hj, rfl⟩ := nI_of h1
    have he : ∀ q, isOp σ τ n (nI j) q = decide (j < n ∧ τ 50 j = q ∧ σ 28 j = -1) := fun q => by
      rw [isOp, z_cl (by omega)]
      simp only [h1, not_false_eq_true, true_and, lt_nn hj (show n < 2 ^ 31 by omega)]
    rw [if_neg h1, h20, he]
    by_cases h2 : j < n
    · have hgn := m_isGone d H h20 h2
      have hin : ¬ (nI n < 0 ∨ 201 ≤ (nI n).toNatClampNeg) := nI_in (by omega) (by omega)
      rw [if_pos (nI_lt h2 (by omega)), if_neg (nI_in (by omega) (by omega)), z_cl (by omega), hgn, zbI_some, h20, if_neg hin, if_neg hin, if_neg hin, z_cl (by omega), nI_1]
      by_cases h7 : k = 7
      · rw [if_pos (show nI k = 7 by simp (disch := omega) only [lt_litR, lt_litL, eq_litR, eq_litL, lt_nn, eq_nn, lt_n0, z_cl, add_lit, eq_m1, eq_m1', m1_lt, false_or, or_false, if_pos, if_neg, zbI_some, zbV_some, wr_same, wr_cell, wr_slot, ne_eq, not_true_eq_false, not_false_eq_true, true_and, and_true, false_and, and_false, e10, e01, e00, if_true, if_false, Bool.false_eq_true, lit_ne, lit_lt, eq_self, h7]), if_pos h7]
        by_cases h3 : τ 50 j = 2
        · rw [if_pos h3]
          by_cases h4 : σ 28 j = -1
          · simp [h2, h3, h4]
          · simp [h4]
        · rw [if_neg h3]; simp [h3]
      · rw [if_neg (show ¬ nI k = 7 by simp (disch := omega) only [lt_litR, lt_litL, eq_litR, eq_litL, lt_nn, eq_nn, lt_n0, z_cl, add_lit, eq_m1, eq_m1', m1_lt, false_or, or_false, if_pos, if_neg, zbI_some, zbV_some, wr_same, wr_cell, wr_slot, ne_eq, not_true_eq_false, not_false_eq_true, true_and, and_true, false_and, and_false, e10, e01, e00, if_true, if_false, Bool.false_eq_true, lit_ne, lit_lt, eq_self]; omega), if_neg h7]
        by_cases h3 : τ 50 j = 1
        · rw [if_pos h3]
          by_cases h4 : σ 28 j = -1
          · simp [h2, h3, h4]
          · simp [h4]
        · rw [if_neg h3]; simp [h3]
    · rw [if_neg (nI_nlt (by omega) (by omega))]
      simp [h2]

/-- the state behind an event of the others -/
theorem InvN.grow {σ σ2 : zS} {n : Nat} (H : InvN σ n) (hn : n < 200) (hc : ∀ c, c ≠ 24 → c ≠ 25 → c ≠ 26 → c ≠ 27 → c ≠ 28 → c ≠ 29 → c ≠ 38 → c ≠ 50 → c ≠ 51 → c ≠ 52 → σ2 c = σ c) (h38 : ∀ k, k ≠ 0 → k ≠ 20 → σ2 38 k = σ 38 k) (h20 : σ2 38 20 = nI (n + 1)) (hH : HRel σ2 σ2 (n + 1)) (ht : ∀ i, i < n → tEq σ σ2 i) (hk : ¬ σ2 50 n < 5) : InvN σ2 (n + 1) := by
  obtain ⟨a1, ⟨a21, a22, a23⟩, ⟨a3, a4, a5⟩, ⟨b1, b2, b3, b4, b5⟩, ⟨c1, c2⟩, sd, c3, c4⟩ := H
  have hPc : Pc σ2 = Pc σ := Pc_cong (fun c c1 c2 => hc c (by omega) (by omega) (by omega) (by omega) (by omega) (by omega) (by omega) (by omega) (by omega) (by omega))
  have hcc : ∀ c, c < 24 ∨ (30 ≤ c ∧ c < 38) ∨ (38 < c ∧ c < 50) ∨ 52 < c → σ2 c = σ c := fun c h => hc c (by omega) (by omega) (by omega) (by omega) (by omega) (by omega) (by omega) (by omega) (by omega) (by omega)
  have hkn : kC σ2 n = false := by
    obtain ⟨⟨m, m1, m2⟩, _⟩ := hH.2.2.2.1 n (by omega)
    rw [kC_at h20 (by omega) (by omega), m2]
    rw [m2] at hk
    simp (disch := omega) only [lt_litR, lt_litL, eq_litR, eq_litL, lt_nn, eq_nn, lt_n0, z_cl, add_lit, eq_m1, eq_m1', m1_lt, false_or, or_false, if_pos, if_neg, zbI_some, zbV_some, wr_same, wr_cell, wr_slot, ne_eq, not_true_eq_false, not_false_eq_true, true_and, and_true, false_and, and_false, e10, e01, e00, if_true, if_false, Bool.false_eq_true, lit_ne, lit_lt, eq_self] at hk
    have : ¬ (¬ nI m < 1 ∧ ¬ 4 < nI m) := by
      simp (disch := omega) only [lt_litR, lt_litL, eq_litR, eq_litL, lt_nn, eq_nn, lt_n0, z_cl, add_lit, eq_m1, eq_m1', m1_lt, false_or, or_false, if_pos, if_neg, zbI_some, zbV_some, wr_same, wr_cell, wr_slot, ne_eq, not_true_eq_false, not_false_eq_true, true_and, and_true, false_and, and_false, e10, e01, e00, if_true, if_false, Bool.false_eq_true, lit_ne, lit_lt, eq_self]; omega
    simp only [this, decide_false]
  refine ⟨a1.cong (by rw [hcc 1 (by omega)]) (hcc 2 (by omega)) (h38 2 (by omega) (by omega)) (hcc 39 (by omega)), ⟨by rw [hcc 0 (by omega), h38 3 (by omega) (by omega), a21], by rw [hcc 0 (by omega), h38 28 (by omega) (by omega), a22], by rw [hcc 0 (by omega), h38 29 (by omega) (by omega), a23]⟩, ⟨hH, h20, ?_⟩, ⟨fun r hr => by rw [hcc 33 (by omega), hcc 53 (by omega), b1 r hr], by rw [hcc 32 (by omega), h38 25 (by omega) (by omega), b2], by rw [hcc 32 (by omega), h38 26 (by omega) (by omega), b3], by rw [hcc 32 (by omega), h38 27 (by omega) (by omega), b4], by rw [hcc 32 (by omega)]; exact b5⟩, ⟨by rw [hcc 0 (by omega), h38 11 (by omega) (by omega), c1], ?_⟩, sd, c3, by rw [h38 10 (by omega) (by omega), c4]⟩
  · by_cases hn0 : n = 0
    · subst hn0; exact hkn
    · rw [kC_at h20 (by omega) (by omega), (ht 0 (by omega)).1, ← kC_at a4 (by omega) (by omega)]
      exact a5
  · rw [hcc 0 (by omega), hPc]
    rcases c2 with h | ⟨h1, h2, h3, h4⟩
    · exact Or.inl h
    · have hR2 : PRel (Pc σ) σ2 := ⟨fun c x1 x2 => by rw [hcc c (by omega), h3.1 c x1 x2], h3.2⟩
      refine Or.inr ⟨h1, h2.cong (fun c _ _ => hcc c (by omega)) (hcc 43 (by omega)) (h38 10 (by omega) (by omega)), hR2, ?_⟩
      exact h4.keep h3.2.1 (prog_all h2.to) hR2 (fun k _ => by rw [hcc 30 (by omega)]) (fun r _ => by rw [hcc 31 (by omega)]) hH (by omega) a4 h20 ht hkn
theorem x_kinds (x : Int32) : x < 5 ∨ (∃ k, 5 ≤ k ∧ k ≤ 7 ∧ x = nI k) ∨ x = 8 ∨ 8 < x := by
  by_cases h5 : x < 5
  · exact Or.inl h5
  · have h0 : ¬ x < 0 := fun h => h5 (by
      rw [Int32.lt_iff_toInt_lt] at h ⊢
      have e0 : (0 : Int32).toInt = 0 := by decide
      have e5 : (5 : Int32).toInt = 5 := by decide
      omega)
    obtain ⟨j, hj, rfl⟩ := nI_of h0
    simp (disch := omega) only [lt_litR, lt_litL, eq_litR, eq_litL, lt_nn, eq_nn, lt_n0, z_cl, add_lit, eq_m1, eq_m1', m1_lt, false_or, or_false, if_pos, if_neg, zbI_some, zbV_some, wr_same, wr_cell, wr_slot, ne_eq, not_true_eq_false, not_false_eq_true, true_and, and_true, false_and, and_false, e10, e01, e00, if_true, if_false, Bool.false_eq_true, lit_ne, lit_lt, eq_self] at h5
    by_cases h8 : j = 8
    · subst h8; exact Or.inr (Or.inr (Or.inl rfl))
    · by_cases h9 : 8 < j
      · right; right; right; simp (disch := omega) only [lt_litR, lt_litL, eq_litR, eq_litL, lt_nn, eq_nn, lt_n0, z_cl, add_lit, eq_m1, eq_m1', m1_lt, false_or, or_false, if_pos, if_neg, zbI_some, zbV_some, wr_same, wr_cell, wr_slot, ne_eq, not_true_eq_false, not_false_eq_true, true_and, and_true, false_and, and_false, e10, e01, e00, if_true, if_false, Bool.false_eq_true, lit_ne, lit_lt, eq_self]; exact h9
      · exact Or.inr (Or.inl ⟨j, by omega, by omega, rfl⟩)
theorem m_happenE (D : Nat) {σ τ : zS} {n k : Nat} (H : HRel σ τ n) (h20 : τ 38 20 = nI n) (k5 : 5 ≤ k) (k7 : k ≤ 7) (y z : Int32) : zM (D + 2) mX8_happen [.inr (.inr 38), .inl (nI k), .inl y, .inl z] τ = if n < 200 ∧ (k = 5 ∨ z = 0) ∧ isOp σ τ n y (if k = 7 then 2 else 1) = true then some (1, 1, wr (wr (wr (wr (wr τ 38 0 0) 50 n (nI k)) 51 n y) 52 n z) 38 20 (nI (n + 1))) else some (1, 0, wr τ 38 0 0) := by
  have hn := H.2.1
  have hk8 : ¬ nI k = 8 := by simp (disch := omega) only [lt_litR, lt_litL, eq_litR, eq_litL, lt_nn, eq_nn, lt_n0, z_cl, add_lit, eq_m1, eq_m1', m1_lt, false_or, or_false, if_pos, if_neg, zbI_some, zbV_some, wr_same, wr_cell, wr_slot, ne_eq, not_true_eq_false, not_false_eq_true, true_and, and_true, false_and, and_false, e10, e01, e00, if_true, if_false, Bool.false_eq_true, lit_ne, lit_lt, eq_self]; omega
  have hH0 : HRel σ (wr τ 38 0 0) n := H.cong rfl rfl (fun _ _ => ⟨rfl, rfl, rfl, rfl⟩) (fun _ => rfl) (fun i _ => by simp (disch := omega) only [lt_litR, lt_litL, eq_litR, eq_litL, lt_nn, eq_nn, lt_n0, z_cl, add_lit, eq_m1, eq_m1', m1_lt, false_or, or_false, if_pos, if_neg, zbI_some, zbV_some, wr_same, wr_cell, wr_slot, ne_eq, not_true_eq_false, not_false_eq_true, true_and, and_true, false_and, and_false, e10, e01, e00, if_true, if_false, Bool.false_eq_true, lit_ne, lit_lt, eq_self, and_self])
  have h200 : wr τ 38 0 0 38 20 = nI n := by simp (disch := omega) only [lt_litR, lt_litL, eq_litR, eq_litL, lt_nn, eq_nn, lt_n0, z_cl, add_lit, eq_m1, eq_m1', m1_lt, false_or, or_false, if_pos, if_neg, zbI_some, zbV_some, wr_same, wr_cell, wr_slot, ne_eq, not_true_eq_false, not_false_eq_true, true_and, and_true, false_and, and_false, e10, e01, e00, if_true, if_false, Bool.false_eq_true, lit_ne, lit_lt, eq_self, h20]
  have isO : ∀ q, isOp σ (wr τ 38 0 0) n y q = isOp σ τ n y q := fun q => by
    rw [isOp, isOp, wr_cell _ _ _ (by omega)]
  rw [qX8_happen_38, qX8_happen_38_0, m_hap45, m_hap41 D _ hH0 h200 k5 k7, isO, h20, if_neg hk8, if_neg (show ¬ nI k < 5 by simp (disch := omega) only [lt_litR, lt_litL, eq_litR, eq_litL, lt_nn, eq_nn, lt_n0, z_cl, add_lit, eq_m1, eq_m1', m1_lt, false_or, or_false, if_pos, if_neg, zbI_some, zbV_some, wr_same, wr_cell, wr_slot, ne_eq, not_true_eq_false, not_false_eq_true, true_and, and_true, false_and, and_false, e10, e01, e00, if_true, if_false, Bool.false_eq_true, lit_ne, lit_lt, eq_self]; omega), if_neg (show ¬ 8 < nI k by simp (disch := omega) only [lt_litR, lt_litL, eq_litR, eq_litL, lt_nn, eq_nn, lt_n0, z_cl, add_lit, eq_m1, eq_m1', m1_lt, false_or, or_false, if_pos, if_neg, zbI_some, zbV_some, wr_same, wr_cell, wr_slot, ne_eq, not_true_eq_false, not_false_eq_true, true_and, and_true, false_and, and_false, e10, e01, e00, if_true, if_false, Bool.false_eq_true, lit_ne, lit_lt, eq_self]; omega)]
  by_cases h2 : n < 200
  · rw [if_pos (show nI n < 200 from nI_lt (b := 200) h2 (by omega))]
    by_cases hk5 : k = 5
    · rw [if_pos (show nI k = 5 by simp (disch := omega) only [lt_litR, lt_litL, eq_litR, eq_litL, lt_nn, eq_nn, lt_n0, z_cl, add_lit, eq_m1, eq_m1', m1_lt, false_or, or_false, if_pos, if_neg, zbI_some, zbV_some, wr_same, wr_cell, wr_slot, ne_eq, not_true_eq_false, not_false_eq_true, true_and, and_true, false_and, and_false, e10, e01, e00, if_true, if_false, Bool.false_eq_true, lit_ne, lit_lt, eq_self, hk5])]
      cases isOp σ τ n y (if k = 7 then 2 else 1) <;> simp [h2, hk5]
    · rw [if_neg (show ¬ nI k = 5 by simp (disch := omega) only [lt_litR, lt_litL, eq_litR, eq_litL, lt_nn, eq_nn, lt_n0, z_cl, add_lit, eq_m1, eq_m1', m1_lt, false_or, or_false, if_pos, if_neg, zbI_some, zbV_some, wr_same, wr_cell, wr_slot, ne_eq, not_true_eq_false, not_false_eq_true, true_and, and_true, false_and, and_false, e10, e01, e00, if_true, if_false, Bool.false_eq_true, lit_ne, lit_lt, eq_self]; exact hk5)]
      by_cases hz : z = 0
      · rw [if_pos hz]
        cases isOp σ τ n y (if k = 7 then 2 else 1) <;> simp [h2, hz]
      · rw [if_neg hz]; simp [hk5, hz]
  · rw [if_neg (show ¬ nI n < 200 from nI_nlt (b := 200) (by omega) (by omega)), if_neg (fun h => h2 h.1)]
theorem m_happenS (D : Nat) {τ : zS} {n : Nat} (h20 : τ 38 20 = nI n) (hn : n ≤ 200) (y z : Int32) : zM (D + 2) mX8_happen [.inr (.inr 38), .inl 8, .inl y, .inl z] τ = if n < 200 ∧ y = 0 then some (1, 1, wr (wr (wr (wr (wr τ 38 0 0) 50 n 8) 51 n y) 52 n z) 38 20 (nI (n + 1))) else some (1, 0, wr τ 38 0 0) := by
  rw [qX8_happen_38, qX8_happen_38_0, m_hap45, h20, if_neg (show ¬ (8 : Int32) < 5 by decide), if_neg (show ¬ (8 : Int32) < 8 by decide), if_neg (show ¬ (8 : Int32) = 5 by decide), if_pos (show (8 : Int32) = 8 from rfl), qX8_happen_38_41, if_pos rfl]
  by_cases h2 : n < 200
  · rw [if_pos (show nI n < 200 from nI_lt (b := 200) h2 (by omega))]
    by_cases hy : y = 0
    · rw [if_pos hy, if_pos (show n < 200 ∧ y = 0 from ⟨h2, hy⟩)]
      simp (disch := omega) only [lt_litR, lt_litL, eq_litR, eq_litL, lt_nn, eq_nn, lt_n0, z_cl, add_lit, eq_m1, eq_m1', m1_lt, false_or, or_false, if_pos, if_neg, zbI_some, zbV_some, wr_same, wr_cell, wr_slot, ne_eq, not_true_eq_false, not_false_eq_true, true_and, and_true, false_and, and_false, e10, e01, e00, if_true, if_false, Bool.false_eq_true, lit_ne, lit_lt, eq_self, h20]
    · rw [if_neg hy, if_neg (fun h => hy h.2)]
  · rw [if_neg (show ¬ nI n < 200 from nI_nlt (b := 200) (by omega) (by omega)), if_neg (fun h => h2 h.1)]
theorem t_happen (D : Nat) (hD : 10 ≤ D) {σ : zS} {n : Nat} (H : InvN σ n) (x y z : Int32) : ∃ v σ1 σ2 n', zM D mX7_happen [.inr (.inr 0), .inl x, .inl y, .inl z] σ = some (1, v, σ1) ∧ zM D mX8_happen [.inr (.inr 38), .inl x, .inl y, .inl z] σ1 = some (1, v, σ2) ∧ InvN σ2 n' := by
  obtain ⟨D, rfl⟩ : ∃ k, D = k + 5 := ⟨D - 5, by omega⟩
  have H0 := H
  obtain ⟨a1, ⟨a21, a22, a23⟩, ⟨a3, a4, a5⟩, _⟩ := H
  have hn := a3.2.1
  rw [qX7_happen_0, qX7_happen_0_0, qX0_addOfOthers_24, qX0_addOfOthers_24_0]
  -- a call that adds nothing
  have no : ∀ v0 : Option zR, zM (D + 5) mX8_happen [.inr (.inr 38), .inl x, .inl y, .inl z] σ = some (1, 0, wr σ 38 0 0) → v0 = some (1, 0, σ) → ∃ v σ1 σ2 n', zbI v0 (fun r1 s1 => if r1 = 0 ∨ r1 = 1 then some (1, r1, s1) else none) = some (1, v, σ1) ∧ zM (D + 5) mX8_happen [.inr (.inr 38), .inl x, .inl y, .inl z] σ1 = some (1, v, σ2) ∧ InvN σ2 n' := by
    intro v0 hm hv
    subst hv
    refine ⟨0, σ, wr σ 38 0 0, n, by rw [zbI_some, if_pos (Or.inl rfl)], hm, ?_⟩
    exact H0.frame (fun c _ _ => by simp (disch := omega) only [lt_litR, lt_litL, eq_litR, eq_litL, lt_nn, eq_nn, lt_n0, z_cl, add_lit, eq_m1, eq_m1', m1_lt, false_or, or_false, if_pos, if_neg, zbI_some, zbV_some, wr_same, wr_cell, wr_slot, ne_eq, not_true_eq_false, not_false_eq_true, true_and, and_true, false_and, and_false, e10, e01, e00, if_true, if_false, Bool.false_eq_true, lit_ne, lit_lt, eq_self]) (by simp (disch := omega) only [lt_litR, lt_litL, eq_litR, eq_litL, lt_nn, eq_nn, lt_n0, z_cl, add_lit, eq_m1, eq_m1', m1_lt, false_or, or_false, if_pos, if_neg, zbI_some, zbV_some, wr_same, wr_cell, wr_slot, ne_eq, not_true_eq_false, not_false_eq_true, true_and, and_true, false_and, and_false, e10, e01, e00, if_true, if_false, Bool.false_eq_true, lit_ne, lit_lt, eq_self]) (fun k hk => by simp (disch := omega) only [lt_litR, lt_litL, eq_litR, eq_litL, lt_nn, eq_nn, lt_n0, z_cl, add_lit, eq_m1, eq_m1', m1_lt, false_or, or_false, if_pos, if_neg, zbI_some, zbV_some, wr_same, wr_cell, wr_slot, ne_eq, not_true_eq_false, not_false_eq_true, true_and, and_true, false_and, and_false, e10, e01, e00, if_true, if_false, Bool.false_eq_true, lit_ne, lit_lt, eq_self]) ⟨by simp (disch := omega) only [lt_litR, lt_litL, eq_litR, eq_litL, lt_nn, eq_nn, lt_n0, z_cl, add_lit, eq_m1, eq_m1', m1_lt, false_or, or_false, if_pos, if_neg, zbI_some, zbV_some, wr_same, wr_cell, wr_slot, ne_eq, not_true_eq_false, not_false_eq_true, true_and, and_true, false_and, and_false, e10, e01, e00, if_true, if_false, Bool.false_eq_true, lit_ne, lit_lt, eq_self, a21], by simp (disch := omega) only [lt_litR, lt_litL, eq_litR, eq_litL, lt_nn, eq_nn, lt_n0, z_cl, add_lit, eq_m1, eq_m1', m1_lt, false_or, or_false, if_pos, if_neg, zbI_some, zbV_some, wr_same, wr_cell, wr_slot, ne_eq, not_true_eq_false, not_false_eq_true, true_and, and_true, false_and, and_false, e10, e01, e00, if_true, if_false, Bool.false_eq_true, lit_ne, lit_lt, eq_self, a22], by simp (disch := omega) only [lt_litR, lt_litL, eq_litR, eq_litL, lt_nn, eq_nn, lt_n0, z_cl, add_lit, eq_m1, eq_m1', m1_lt, false_or, or_false, if_pos, if_neg, zbI_some, zbV_some, wr_same, wr_cell, wr_slot, ne_eq, not_true_eq_false, not_false_eq_true, true_and, and_true, false_and, and_false, e10, e01, e00, if_true, if_false, Bool.false_eq_true, lit_ne, lit_lt, eq_self, a23]⟩
  rcases x_kinds x with h5 | ⟨k, k5, k7, rfl⟩ | rfl | h8
  · have hne : ¬ x = 5 ∧ ¬ x = 6 ∧ ¬ x = 7 ∧ ¬ x = 8 := by
      refine ⟨fun h => ?_, fun h => ?_, fun h => ?_, fun h => ?_⟩ <;> rw [h] at h5 <;> exact absurd h5 (by decide)
    refine no _ ?_ ?_
    · rw [qX8_happen_38, qX8_happen_38_0, if_pos h5, m_hap45]
      split <;> rfl
    · rw [qX0_fits_24, qX0_fits_24_0, if_neg hne.1, if_neg hne.2.1, if_neg hne.2.2.1, if_neg hne.2.2.2, zbI_some, if_pos rfl]
  · have hk8 : ¬ nI k = 8 := by simp (disch := omega) only [lt_litR, lt_litL, eq_litR, eq_litL, lt_nn, eq_nn, lt_n0, z_cl, add_lit, eq_m1, eq_m1', m1_lt, false_or, or_false, if_pos, if_neg, zbI_some, zbV_some, wr_same, wr_cell, wr_slot, ne_eq, not_true_eq_false, not_false_eq_true, true_and, and_true, false_and, and_false, e10, e01, e00, if_true, if_false, Bool.false_eq_true, lit_ne, lit_lt, eq_self]; omega
    have hfit : zM (D + 3) mX0_fits [.inr (.inr 24), .inl (nI k), .inl y, .inl z] σ = some (1, if isOp σ σ n y (if k = 7 then 2 else 1) = true ∧ (k = 5 ∨ z = 0) then 1 else 0, σ) := by
      rw [qX0_fits_24, qX0_fits_24_0, c_isOpen D a3, c_isOpen D a3, zbI_some, zbI_some]
      rcases (show k = 5 ∨ k = 6 ∨ k = 7 by omega) with rfl | rfl | rfl
      · rw [if_pos (show nI 5 = 5 from rfl), if_neg (show ¬ (5 : Nat) = 7 by decide)]
        cases isOp σ σ n y 1 <;> simp
      · rw [if_neg (show ¬ nI 6 = 5 by decide), if_pos (show nI 6 = 6 from rfl), if_neg (show ¬ (6 : Nat) = 7 by decide)]
        cases isOp σ σ n y 1 <;> simp
        by_cases hz : z = 0 <;> simp [hz]
      · rw [if_neg (show ¬ nI 7 = 5 by decide), if_neg (show ¬ nI 7 = 6 by decide), if_pos (show nI 7 = 7 from rfl), if_pos rfl]
        by_cases hz : z = 0 <;> cases isOp σ σ n y 2 <;> simp [hz, zbI_some]
    have hmod := m_happenE (D + 3) a3 a4 k5 k7 y z
    rw [hfit, zbI_some]
    by_cases hg : isOp σ σ n y (if k = 7 then 2 else 1) = true ∧ (k = 5 ∨ z = 0)
    · rw [if_pos hg, if_neg (by decide), s_add (D + 2) σ hn a3.1, a3.1]
      by_cases h2 : n < 200
      · obtain ⟨r, hr, rfl, hr2, hr3⟩ := isOp_of hn hg.1
        rw [if_pos h2, zbI_some, if_neg (by decide), if_neg hk8, c_holds (D + 2) (N := n + 1) (by simp (disch := omega) only [lt_litR, lt_litL, eq_litR, eq_litL, lt_nn, eq_nn, lt_n0, z_cl, add_lit, eq_m1, eq_m1', m1_lt, false_or, or_false, if_pos, if_neg, zbI_some, zbV_some, wr_same, wr_cell, wr_slot, ne_eq, not_true_eq_false, not_false_eq_true, true_and, and_true, false_and, and_false, e10, e01, e00, if_true, if_false, Bool.false_eq_true, lit_ne, lit_lt, eq_self]) (by omega) r (by omega), zbI_some, if_pos (show r < n + 1 by omega), if_neg (by decide), if_neg (nI_in (by omega) (by omega)), z_cl (by omega), zbI_some, if_pos (Or.inr rfl)]
        generalize hσ1 : wr (wr (wr (wr (wr (wr σ 25 n (nI k)) 26 n (nI r)) 27 n z) 28 n (-1)) 24 5 (nI (n + 1))) 28 r (nI n) = σ1
        have c1 : ∀ c, c ≠ 24 → c ≠ 25 → c ≠ 26 → c ≠ 27 → c ≠ 28 → σ1 c = σ c := fun c x1 x2 x3 x4 x5 => by rw [← hσ1]; simp (disch := omega) only [lt_litR, lt_litL, eq_litR, eq_litL, lt_nn, eq_nn, lt_n0, z_cl, add_lit, eq_m1, eq_m1', m1_lt, false_or, or_false, if_pos, if_neg, zbI_some, zbV_some, wr_same, wr_cell, wr_slot, ne_eq, not_true_eq_false, not_false_eq_true, true_and, and_true, false_and, and_false, e10, e01, e00, if_true, if_false, Bool.false_eq_true, lit_ne, lit_lt, eq_self]
        have hH1 : HRel σ σ1 n := a3.cong rfl rfl (fun _ _ => ⟨rfl, rfl, rfl, rfl⟩) (fun _ => rfl) (fun i _ => by rw [c1 50 (by omega) (by omega) (by omega) (by omega) (by omega), c1 51 (by omega) (by omega) (by omega) (by omega) (by omega), c1 52 (by omega) (by omega) (by omega) (by omega) (by omega)]; exact ⟨rfl, rfl, rfl⟩)
        have hm2 := m_happenE (D + 3) hH1 (by rw [c1 38 (by omega) (by omega) (by omega) (by omega) (by omega), a4]) k5 k7 (nI r) z
        have hiso : isOp σ σ1 n (nI r) (if k = 7 then 2 else 1) = true := by
          rw [← hg.1, isOp, isOp, c1 50 (by omega) (by omega) (by omega) (by omega) (by omega)]
        rw [if_pos ⟨h2, hg.2, hiso⟩] at hm2
        have hap := a3.fin (τ' := wr (wr (wr (wr (wr σ1 38 0 0) 50 n (nI k)) 51 n (nI r)) 52 n z) 38 20 (nI (n + 1))) h2 k5 k7 hr hr3 z (fun h => by rcases hg.2 with h9 | h9; omega; exact h9) (fun i hi => by simp (disch := omega) only [lt_litR, lt_litL, eq_litR, eq_litL, lt_nn, eq_nn, lt_n0, z_cl, add_lit, eq_m1, eq_m1', m1_lt, false_or, or_false, if_pos, if_neg, zbI_some, zbV_some, wr_same, wr_cell, wr_slot, ne_eq, not_true_eq_false, not_false_eq_true, true_and, and_true, false_and, and_false, e10, e01, e00, if_true, if_false, Bool.false_eq_true, lit_ne, lit_lt, eq_self, c1 50 (by omega) (by omega) (by omega) (by omega) (by omega), c1 51 (by omega) (by omega) (by omega) (by omega) (by omega), c1 52 (by omega) (by omega) (by omega) (by omega) (by omega), and_self]) (by simp (disch := omega) only [lt_litR, lt_litL, eq_litR, eq_litL, lt_nn, eq_nn, lt_n0, z_cl, add_lit, eq_m1, eq_m1', m1_lt, false_or, or_false, if_pos, if_neg, zbI_some, zbV_some, wr_same, wr_cell, wr_slot, ne_eq, not_true_eq_false, not_false_eq_true, true_and, and_true, false_and, and_false, e10, e01, e00, if_true, if_false, Bool.false_eq_true, lit_ne, lit_lt, eq_self]) (by simp (disch := omega) only [lt_litR, lt_litL, eq_litR, eq_litL, lt_nn, eq_nn, lt_n0, z_cl, add_lit, eq_m1, eq_m1', m1_lt, false_or, or_false, if_pos, if_neg, zbI_some, zbV_some, wr_same, wr_cell, wr_slot, ne_eq, not_true_eq_false, not_false_eq_true, true_and, and_true, false_and, and_false, e10, e01, e00, if_true, if_false, Bool.false_eq_true, lit_ne, lit_lt, eq_self]) (by simp (disch := omega) only [lt_litR, lt_litL, eq_litR, eq_litL, lt_nn, eq_nn, lt_n0, z_cl, add_lit, eq_m1, eq_m1', m1_lt, false_or, or_false, if_pos, if_neg, zbI_some, zbV_some, wr_same, wr_cell, wr_slot, ne_eq, not_true_eq_false, not_false_eq_true, true_and, and_true, false_and, and_false, e10, e01, e00, if_true, if_false, Bool.false_eq_true, lit_ne, lit_lt, eq_self])
        rw [hσ1] at hap
        refine ⟨1, σ1, _, n + 1, rfl, hm2, H0.grow h2 (fun c x1 x2 x3 x4 x5 x6 x7 x8 x9 x10 => by simp (disch := omega) only [lt_litR, lt_litL, eq_litR, eq_litL, lt_nn, eq_nn, lt_n0, z_cl, add_lit, eq_m1, eq_m1', m1_lt, false_or, or_false, if_pos, if_neg, zbI_some, zbV_some, wr_same, wr_cell, wr_slot, ne_eq, not_true_eq_false, not_false_eq_true, true_and, and_true, false_and, and_false, e10, e01, e00, if_true, if_false, Bool.false_eq_true, lit_ne, lit_lt, eq_self, c1 c x1 x2 x3 x4 x5]) (fun k x1 x2 => by simp (disch := omega) only [lt_litR, lt_litL, eq_litR, eq_litL, lt_nn, eq_nn, lt_n0, z_cl, add_lit, eq_m1, eq_m1', m1_lt, false_or, or_false, if_pos, if_neg, zbI_some, zbV_some, wr_same, wr_cell, wr_slot, ne_eq, not_true_eq_false, not_false_eq_true, true_and, and_true, false_and, and_false, e10, e01, e00, if_true, if_false, Bool.false_eq_true, lit_ne, lit_lt, eq_self, c1 38 (by omega) (by omega) (by omega) (by omega) (by omega)]) (by simp (disch := omega) only [lt_litR, lt_litL, eq_litR, eq_litL, lt_nn, eq_nn, lt_n0, z_cl, add_lit, eq_m1, eq_m1', m1_lt, false_or, or_false, if_pos, if_neg, zbI_some, zbV_some, wr_same, wr_cell, wr_slot, ne_eq, not_true_eq_false, not_false_eq_true, true_and, and_true, false_and, and_false, e10, e01, e00, if_true, if_false, Bool.false_eq_true, lit_ne, lit_lt, eq_self]) ?_ (fun i hi => ?_) ?_⟩
        · exact hap.cong (by simp (disch := omega) only [lt_litR, lt_litL, eq_litR, eq_litL, lt_nn, eq_nn, lt_n0, z_cl, add_lit, eq_m1, eq_m1', m1_lt, false_or, or_false, if_pos, if_neg, zbI_some, zbV_some, wr_same, wr_cell, wr_slot, ne_eq, not_true_eq_false, not_false_eq_true, true_and, and_true, false_and, and_false, e10, e01, e00, if_true, if_false, Bool.false_eq_true, lit_ne, lit_lt, eq_self]) (by simp (disch := omega) only [lt_litR, lt_litL, eq_litR, eq_litL, lt_nn, eq_nn, lt_n0, z_cl, add_lit, eq_m1, eq_m1', m1_lt, false_or, or_false, if_pos, if_neg, zbI_some, zbV_some, wr_same, wr_cell, wr_slot, ne_eq, not_true_eq_false, not_false_eq_true, true_and, and_true, false_and, and_false, e10, e01, e00, if_true, if_false, Bool.false_eq_true, lit_ne, lit_lt, eq_self]) (fun i _ => by simp (disch := omega) only [lt_litR, lt_litL, eq_litR, eq_litL, lt_nn, eq_nn, lt_n0, z_cl, add_lit, eq_m1, eq_m1', m1_lt, false_or, or_false, if_pos, if_neg, zbI_some, zbV_some, wr_same, wr_cell, wr_slot, ne_eq, not_true_eq_false, not_false_eq_true, true_and, and_true, false_and, and_false, e10, e01, e00, if_true, if_false, Bool.false_eq_true, lit_ne, lit_lt, eq_self, and_self]) (fun i => by simp (disch := omega) only [lt_litR, lt_litL, eq_litR, eq_litL, lt_nn, eq_nn, lt_n0, z_cl, add_lit, eq_m1, eq_m1', m1_lt, false_or, or_false, if_pos, if_neg, zbI_some, zbV_some, wr_same, wr_cell, wr_slot, ne_eq, not_true_eq_false, not_false_eq_true, true_and, and_true, false_and, and_false, e10, e01, e00, if_true, if_false, Bool.false_eq_true, lit_ne, lit_lt, eq_self]) (fun _ _ => ⟨rfl, rfl, rfl⟩)
        · rw [tEq]
          simp (disch := omega) only [lt_litR, lt_litL, eq_litR, eq_litL, lt_nn, eq_nn, lt_n0, z_cl, add_lit, eq_m1, eq_m1', m1_lt, false_or, or_false, if_pos, if_neg, zbI_some, zbV_some, wr_same, wr_cell, wr_slot, ne_eq, not_true_eq_false, not_false_eq_true, true_and, and_true, false_and, and_false, e10, e01, e00, if_true, if_false, Bool.false_eq_true, lit_ne, lit_lt, eq_self, c1 50 (by omega) (by omega) (by omega) (by omega) (by omega), c1 51 (by omega) (by omega) (by omega) (by omega) (by omega), c1 52 (by omega) (by omega) (by omega) (by omega) (by omega), and_self]
        · simp (disch := omega) only [lt_litR, lt_litL, eq_litR, eq_litL, lt_nn, eq_nn, lt_n0, z_cl, add_lit, eq_m1, eq_m1', m1_lt, false_or, or_false, if_pos, if_neg, zbI_some, zbV_some, wr_same, wr_cell, wr_slot, ne_eq, not_true_eq_false, not_false_eq_true, true_and, and_true, false_and, and_false, e10, e01, e00, if_true, if_false, Bool.false_eq_true, lit_ne, lit_lt, eq_self]
          omega
      · rw [if_neg h2, zbI_some, if_pos rfl]
        exact no _ (by rw [hmod, if_neg (fun h => h2 h.1)]) rfl
    · rw [if_neg hg, if_pos rfl]
      exact no _ (by rw [hmod, if_neg (fun h => hg ⟨h.2.2, h.2.1⟩)]) rfl
  · -- a signal
    have hmod := m_happenS (D + 3) a4 hn y z
    rw [qX0_fits_24, qX0_fits_24_0, if_neg (show ¬ (8 : Int32) = 5 by decide), if_neg (show ¬ (8 : Int32) = 6 by decide), if_neg (show ¬ (8 : Int32) = 7 by decide), if_pos (show (8 : Int32) = 8 from rfl)]
    by_cases hy : y = 0
    · rw [if_pos hy, zbI_some, if_neg (by decide), s_add (D + 2) σ hn a3.1, a3.1]
      by_cases h2 : n < 200
      · subst hy
        have hcn := kCnt_le σ n
        rw [if_pos h2, zbI_some, if_neg (by decide), if_pos rfl, qX0_addSignal_24, qX0_addSignal_24_0]
        have h246 : (wr (wr (wr (wr (wr σ 25 n 8) 26 n 0) 27 n z) 28 n (-1)) 24 5 (nI (n + 1))) 24 6 = nI (kCnt σ n) := by simp (disch := omega) only [lt_litR, lt_litL, eq_litR, eq_litL, lt_nn, eq_nn, lt_n0, z_cl, add_lit, eq_m1, eq_m1', m1_lt, false_or, or_false, if_pos, if_neg, zbI_some, zbV_some, wr_same, wr_cell, wr_slot, ne_eq, not_true_eq_false, not_false_eq_true, true_and, and_true, false_and, and_false, e10, e01, e00, if_true, if_false, Bool.false_eq_true, lit_ne, lit_lt, eq_self, a3.2.2.2.2.2.1]
        rw [h246, if_pos (show nI (kCnt σ n) < 200 from nI_lt (b := 200) (by omega) (by omega)), if_neg (nI_in (by omega) (by omega)), z_cl (by omega), nI_1, zbV_some, zbI_some, if_pos (Or.inr rfl)]
        have e8 : (8 : Int32) = nI 8 := rfl
        rw [e8]
        generalize hσ1 : wr (wr (wr (wr (wr (wr (wr σ 25 n (nI 8)) 26 n 0) 27 n z) 28 n (-1)) 24 5 (nI (n + 1))) 29 (kCnt σ n) (nI n)) 24 6 (nI (kCnt σ n + 1)) = σ1
        have c1 : ∀ c, c ≠ 24 → c ≠ 25 → c ≠ 26 → c ≠ 27 → c ≠ 28 → c ≠ 29 → σ1 c = σ c := fun c x1 x2 x3 x4 x5 x6 => by rw [← hσ1]; simp (disch := omega) only [lt_litR, lt_litL, eq_litR, eq_litL, lt_nn, eq_nn, lt_n0, z_cl, add_lit, eq_m1, eq_m1', m1_lt, false_or, or_false, if_pos, if_neg, zbI_some, zbV_some, wr_same, wr_cell, wr_slot, ne_eq, not_true_eq_false, not_false_eq_true, true_and, and_true, false_and, and_false, e10, e01, e00, if_true, if_false, Bool.false_eq_true, lit_ne, lit_lt, eq_self]
        have hm2 := m_happenS (D + 3) (τ := σ1) (by rw [c1 38 (by omega) (by omega) (by omega) (by omega) (by omega) (by omega), a4]) hn 0 z
        rw [if_pos ⟨h2, rfl⟩, e8] at hm2
        have hap := a3.sgn (τ' := wr (wr (wr (wr (wr σ1 38 0 0) 50 n (nI 8)) 51 n 0) 52 n z) 38 20 (nI (n + 1))) h2 z (fun i hi => by simp (disch := omega) only [lt_litR, lt_litL, eq_litR, eq_litL, lt_nn, eq_nn, lt_n0, z_cl, add_lit, eq_m1, eq_m1', m1_lt, false_or, or_false, if_pos, if_neg, zbI_some, zbV_some, wr_same, wr_cell, wr_slot, ne_eq, not_true_eq_false, not_false_eq_true, true_and, and_true, false_and, and_false, e10, e01, e00, if_true, if_false, Bool.false_eq_true, lit_ne, lit_lt, eq_self, c1 50 (by omega) (by omega) (by omega) (by omega) (by omega) (by omega), c1 51 (by omega) (by omega) (by omega) (by omega) (by omega) (by omega), c1 52 (by omega) (by omega) (by omega) (by omega) (by omega) (by omega), and_self]) (by simp (disch := omega) only [lt_litR, lt_litL, eq_litR, eq_litL, lt_nn, eq_nn, lt_n0, z_cl, add_lit, eq_m1, eq_m1', m1_lt, false_or, or_false, if_pos, if_neg, zbI_some, zbV_some, wr_same, wr_cell, wr_slot, ne_eq, not_true_eq_false, not_false_eq_true, true_and, and_true, false_and, and_false, e10, e01, e00, if_true, if_false, Bool.false_eq_true, lit_ne, lit_lt, eq_self]) (by simp (disch := omega) only [lt_litR, lt_litL, eq_litR, eq_litL, lt_nn, eq_nn, lt_n0, z_cl, add_lit, eq_m1, eq_m1', m1_lt, false_or, or_false, if_pos, if_neg, zbI_some, zbV_some, wr_same, wr_cell, wr_slot, ne_eq, not_true_eq_false, not_false_eq_true, true_and, and_true, false_and, and_false, e10, e01, e00, if_true, if_false, Bool.false_eq_true, lit_ne, lit_lt, eq_self]) (by simp (disch := omega) only [lt_litR, lt_litL, eq_litR, eq_litL, lt_nn, eq_nn, lt_n0, z_cl, add_lit, eq_m1, eq_m1', m1_lt, false_or, or_false, if_pos, if_neg, zbI_some, zbV_some, wr_same, wr_cell, wr_slot, ne_eq, not_true_eq_false, not_false_eq_true, true_and, and_true, false_and, and_false, e10, e01, e00, if_true, if_false, Bool.false_eq_true, lit_ne, lit_lt, eq_self])
        rw [hσ1] at hap
        refine ⟨1, σ1, _, n + 1, rfl, hm2, H0.grow h2 (fun c x1 x2 x3 x4 x5 x6 x7 x8 x9 x10 => by simp (disch := omega) only [lt_litR, lt_litL, eq_litR, eq_litL, lt_nn, eq_nn, lt_n0, z_cl, add_lit, eq_m1, eq_m1', m1_lt, false_or, or_false, if_pos, if_neg, zbI_some, zbV_some, wr_same, wr_cell, wr_slot, ne_eq, not_true_eq_false, not_false_eq_true, true_and, and_true, false_and, and_false, e10, e01, e00, if_true, if_false, Bool.false_eq_true, lit_ne, lit_lt, eq_self, c1 c x1 x2 x3 x4 x5 x6]) (fun k x1 x2 => by simp (disch := omega) only [lt_litR, lt_litL, eq_litR, eq_litL, lt_nn, eq_nn, lt_n0, z_cl, add_lit, eq_m1, eq_m1', m1_lt, false_or, or_false, if_pos, if_neg, zbI_some, zbV_some, wr_same, wr_cell, wr_slot, ne_eq, not_true_eq_false, not_false_eq_true, true_and, and_true, false_and, and_false, e10, e01, e00, if_true, if_false, Bool.false_eq_true, lit_ne, lit_lt, eq_self, c1 38 (by omega) (by omega) (by omega) (by omega) (by omega) (by omega)]) (by simp (disch := omega) only [lt_litR, lt_litL, eq_litR, eq_litL, lt_nn, eq_nn, lt_n0, z_cl, add_lit, eq_m1, eq_m1', m1_lt, false_or, or_false, if_pos, if_neg, zbI_some, zbV_some, wr_same, wr_cell, wr_slot, ne_eq, not_true_eq_false, not_false_eq_true, true_and, and_true, false_and, and_false, e10, e01, e00, if_true, if_false, Bool.false_eq_true, lit_ne, lit_lt, eq_self]) ?_ (fun i hi => ?_) ?_⟩
        · exact hap.cong (by simp (disch := omega) only [lt_litR, lt_litL, eq_litR, eq_litL, lt_nn, eq_nn, lt_n0, z_cl, add_lit, eq_m1, eq_m1', m1_lt, false_or, or_false, if_pos, if_neg, zbI_some, zbV_some, wr_same, wr_cell, wr_slot, ne_eq, not_true_eq_false, not_false_eq_true, true_and, and_true, false_and, and_false, e10, e01, e00, if_true, if_false, Bool.false_eq_true, lit_ne, lit_lt, eq_self]) (by simp (disch := omega) only [lt_litR, lt_litL, eq_litR, eq_litL, lt_nn, eq_nn, lt_n0, z_cl, add_lit, eq_m1, eq_m1', m1_lt, false_or, or_false, if_pos, if_neg, zbI_some, zbV_some, wr_same, wr_cell, wr_slot, ne_eq, not_true_eq_false, not_false_eq_true, true_and, and_true, false_and, and_false, e10, e01, e00, if_true, if_false, Bool.false_eq_true, lit_ne, lit_lt, eq_self]) (fun i _ => by simp (disch := omega) only [lt_litR, lt_litL, eq_litR, eq_litL, lt_nn, eq_nn, lt_n0, z_cl, add_lit, eq_m1, eq_m1', m1_lt, false_or, or_false, if_pos, if_neg, zbI_some, zbV_some, wr_same, wr_cell, wr_slot, ne_eq, not_true_eq_false, not_false_eq_true, true_and, and_true, false_and, and_false, e10, e01, e00, if_true, if_false, Bool.false_eq_true, lit_ne, lit_lt, eq_self, and_self]) (fun i => by simp (disch := omega) only [lt_litR, lt_litL, eq_litR, eq_litL, lt_nn, eq_nn, lt_n0, z_cl, add_lit, eq_m1, eq_m1', m1_lt, false_or, or_false, if_pos, if_neg, zbI_some, zbV_some, wr_same, wr_cell, wr_slot, ne_eq, not_true_eq_false, not_false_eq_true, true_and, and_true, false_and, and_false, e10, e01, e00, if_true, if_false, Bool.false_eq_true, lit_ne, lit_lt, eq_self]) (fun _ _ => ⟨rfl, rfl, rfl⟩)
        · rw [tEq]
          simp (disch := omega) only [lt_litR, lt_litL, eq_litR, eq_litL, lt_nn, eq_nn, lt_n0, z_cl, add_lit, eq_m1, eq_m1', m1_lt, false_or, or_false, if_pos, if_neg, zbI_some, zbV_some, wr_same, wr_cell, wr_slot, ne_eq, not_true_eq_false, not_false_eq_true, true_and, and_true, false_and, and_false, e10, e01, e00, if_true, if_false, Bool.false_eq_true, lit_ne, lit_lt, eq_self, c1 50 (by omega) (by omega) (by omega) (by omega) (by omega) (by omega), c1 51 (by omega) (by omega) (by omega) (by omega) (by omega) (by omega), c1 52 (by omega) (by omega) (by omega) (by omega) (by omega) (by omega), and_self]
        · simp (disch := omega) only [lt_litR, lt_litL, eq_litR, eq_litL, lt_nn, eq_nn, lt_n0, z_cl, add_lit, eq_m1, eq_m1', m1_lt, false_or, or_false, if_pos, if_neg, zbI_some, zbV_some, wr_same, wr_cell, wr_slot, ne_eq, not_true_eq_false, not_false_eq_true, true_and, and_true, false_and, and_false, e10, e01, e00, if_true, if_false, Bool.false_eq_true, lit_ne, lit_lt, eq_self]
          omega
      · rw [if_neg h2, zbI_some, if_pos rfl]
        exact no _ (by rw [hmod, if_neg (fun h => h2 h.1)]) rfl
    · rw [if_neg hy, zbI_some, if_pos rfl]
      exact no _ (by rw [hmod, if_neg (fun h => hy h.2)]) rfl
  · have hne : ¬ x = 5 ∧ ¬ x = 6 ∧ ¬ x = 7 ∧ ¬ x = 8 := by
      refine ⟨fun h => ?_, fun h => ?_, fun h => ?_, fun h => ?_⟩ <;> rw [h] at h8 <;> exact absurd h8 (by decide)
    have hn5 : ¬ x < 5 := fun h => by
      rw [Int32.lt_iff_toInt_lt] at h h8
      have e8 : (8 : Int32).toInt = 8 := by decide
      have e5 : (5 : Int32).toInt = 5 := by decide
      omega
    refine no _ ?_ ?_
    · rw [qX8_happen_38, qX8_happen_38_0, if_neg hn5, if_pos h8, m_hap45]
      split <;> rfl
    · rw [qX0_fits_24, qX0_fits_24_0, if_neg hne.1, if_neg hne.2.1, if_neg hne.2.2.1, if_neg hne.2.2.2, zbI_some, if_pos rfl]
