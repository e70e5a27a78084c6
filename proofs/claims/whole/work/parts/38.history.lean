-- the class's history beside the reference's
abbrev kEnds (τ : zS) (k i : Nat) : Prop := ¬ τ 50 k < 5 ∧ ¬ 7 < τ 50 k ∧ τ 51 k = nI i
def kCnt (τ : zS) : Nat → Nat
  | 0 => 0
  | n + 1 => kCnt τ n + (if τ 50 n = 8 then 1 else 0)
def HRel (σ τ : zS) (N : Nat) : Prop := σ 24 5 = nI N ∧ N ≤ 200 ∧
  (∀ i, i < N → σ 25 i = τ 50 i ∧ σ 26 i = τ 51 i ∧ σ 27 i = τ 52 i) ∧
  (∀ i, i < N → (∃ k, k ≤ 8 ∧ τ 50 i = nI k) ∧ ((τ 50 i = 7 ∨ τ 50 i = 3) → τ 52 i = 0) ∧ (∀ x, x < 1000 → kEnds τ i x → x < i)) ∧
  (∀ i, i < N → (σ 28 i = -1 ∧ ∀ k, k < N → ¬ kEnds τ k i) ∨ (∃ k, i < k ∧ k < N ∧ σ 28 i = nI k ∧ kEnds τ k i ∧ ∀ j, j < N → kEnds τ j i → j = k)) ∧
  σ 24 6 = nI (kCnt τ N) ∧ (∀ k, k < N → τ 50 k = 8 → σ 29 (kCnt τ k) = nI k)
theorem kCnt_le (τ : zS) : ∀ n, kCnt τ n ≤ n := by
  intro n
  induction n with
  | zero => exact Nat.le_refl _
  | succ n ih => rw [kCnt]; split <;> omega
theorem kCnt_mono (τ : zS) {a b : Nat} (h : a ≤ b) : kCnt τ a ≤ kCnt τ b := by
  induction b with
  | zero => obtain rfl : a = 0 := by omega
            exact Nat.le_refl _
  | succ b ih =>
    by_cases h2 : a = b + 1
    · subst h2; exact Nat.le_refl _
    · have := ih (by omega)
      rw [kCnt]
      omega
theorem kCnt_cong {τ τ' : zS} : ∀ n, (∀ i, i < n → τ' 50 i = τ 50 i) → kCnt τ' n = kCnt τ n := by
  intro n
  induction n with
  | zero => intro _; rfl
  | succ n ih => intro h; rw [kCnt, kCnt, ih (fun i hi => h i (by omega)), h n (by omega)]
/-- the signal of a number -/
theorem kCnt_find (τ : zS) : ∀ n m, m < kCnt τ n → ∃ k, k < n ∧ τ 50 k = 8 ∧ kCnt τ k = m := by
  intro n
  induction n with
  | zero => intro m h; exact absurd h (Nat.not_lt_zero _)
  | succ n ih =>
    intro m h
    by_cases h2 : m < kCnt τ n
    · obtain ⟨k, h3, h4⟩ := ih m h2; exact ⟨k, by omega, h4⟩
    · rw [kCnt] at h
      by_cases h8 : τ 50 n = 8
      · rw [if_pos h8] at h
        exact ⟨n, by omega, h8, by omega⟩
      · rw [if_neg h8] at h; omega
theorem kSig_none (τ : zS) {t : Nat} (ht : t < 1000) (h37 : τ 38 37 = nI t) : ∀ (c m k : Nat), m = kCnt τ k → k + c < 1000 → kCnt τ (k + c) ≤ t → kSig τ c m k = none := by
  intro c
  induction c with
  | zero => intro m k hm hk hc; rfl
  | succ c ih =>
    intro m k hm hk hc
    have h2 : kCnt τ (k + 1) ≤ kCnt τ (k + (c + 1)) := kCnt_mono τ (by omega)
    have h3 := kCnt_le τ k
    rw [kSig]
    have hk1 : k + (c + 1) = k + 1 + c := by omega
    by_cases h8 : τ 50 k = 8
    · rw [kCnt, if_pos h8] at h2
      have hne : ¬ nI m = τ 38 37 := fun h => by
        rw [h37] at h
        have := (nI_eq (by omega) (by omega)).mp h
        omega
      rw [if_pos h8, if_neg hne]
      exact ih _ _ (by rw [kCnt, if_pos h8, hm]) (by omega) (by rw [← hk1]; exact hc)
    · rw [if_neg h8]
      exact ih _ _ (by rw [kCnt, if_neg h8, hm, Nat.add_zero]) (by omega) (by rw [← hk1]; exact hc)
theorem kSig_some (τ : zS) {t j : Nat} (ht : t < 1000) (h37 : τ 38 37 = nI t) (h8 : τ 50 j = 8) (hj : kCnt τ j = t) : ∀ (c m k : Nat), m = kCnt τ k → k ≤ j → j < k + c → k + c < 1000 → kSig τ c m k = some (τ 52 j) := by
  intro c
  induction c with
  | zero => intro m k hm h1 h2; omega
  | succ c ih =>
    intro m k hm h1 h2 h3
    rw [kSig]
    have h4 := kCnt_le τ k
    by_cases hkj : k = j
    · subst hkj
      rw [if_pos h8, if_pos (by rw [h37, hm, hj])]
    · by_cases h9 : τ 50 k = 8
      · have h5 : kCnt τ (k + 1) ≤ kCnt τ j := kCnt_mono τ (by omega)
        rw [kCnt, if_pos h9] at h5
        have hne : ¬ nI m = τ 38 37 := fun h => by
          rw [h37] at h
          have := (nI_eq (by omega) (by omega)).mp h
          omega
        rw [if_pos h9, if_neg hne]
        exact ih _ _ (by rw [kCnt, if_pos h9, hm]) (by omega) (by omega) (by omega)
      · rw [if_neg h9]
        exact ih _ _ (by rw [kCnt, if_neg h9, hm, Nat.add_zero]) (by omega) (by omega) (by omega)
theorem kEnd_none (τ : zS) (i : Nat) : ∀ (c k : Nat), (∀ j, k ≤ j → j < k + c → ¬ kEnds τ j i) → kEnd τ (nI i) c k = none := by
  intro c
  induction c with
  | zero => intro k h; rfl
  | succ c ih =>
    intro k h
    rw [kEnd, if_neg (h k (Nat.le_refl _) (by omega))]
    exact ih _ (fun j h1 h2 => h j (by omega) (by omega))
def kGave (τ : zS) (k : Nat) : Int32 := if τ 50 k = 5 then τ 52 k else if τ 50 k = 6 then -1 else 0
theorem kEnd_some (τ : zS) (i j : Nat) (hj : kEnds τ j i) : ∀ (c k : Nat), k ≤ j → j < k + c → (∀ j', k ≤ j' → j' < j → ¬ kEnds τ j' i) → kEnd τ (nI i) c k = some (kGave τ j) := by
  intro c
  induction c with
  | zero => intro k h1 h2; omega
  | succ c ih =>
    intro k h1 h2 h
    by_cases hk : k = j
    · subst hk; rw [kEnd, if_pos hj]; rfl
    · rw [kEnd, if_neg (h k (Nat.le_refl _) (by omega))]
      exact ih _ (by omega) (by omega) (fun j' h3 h4 => h j' (by omega) h4)

-- the class's questions to its history
theorem c_kindAt (d : Nat) {σ τ : zS} {N : Nat} (H : HRel σ τ N) (i : Nat) (hi : i < 2 ^ 31) : zM (d + 2) mX0_kindAt [.inr (.inr 24), .inl (nI i)] σ = some (1, if i < N then τ 50 i else -1, σ) := by
  obtain ⟨h1, h2, h3, _⟩ := H
  rw [s_kindAt d σ (nI i) h1 h2]
  by_cases h : i < N
  · simp (disch := omega) only [lt_litR, lt_litL, eq_litR, eq_litL, lt_nn, eq_nn, lt_n0, z_cl, add_lit, eq_m1, eq_m1', m1_lt, false_or, or_false, if_pos, if_neg, zbI_some, zbV_some, wr_same, wr_cell, wr_slot, ne_eq, not_true_eq_false, not_false_eq_true, true_and, and_true, false_and, and_false, e10, e01, e00, if_true, if_false, Bool.false_eq_true, lit_ne, lit_lt, eq_self, (h3 i h).1]
  · simp (disch := omega) only [lt_litR, lt_litL, eq_litR, eq_litL, lt_nn, eq_nn, lt_n0, z_cl, add_lit, eq_m1, eq_m1', m1_lt, false_or, or_false, if_pos, if_neg, zbI_some, zbV_some, wr_same, wr_cell, wr_slot, ne_eq, not_true_eq_false, not_false_eq_true, true_and, and_true, false_and, and_false, e10, e01, e00, if_true, if_false, Bool.false_eq_true, lit_ne, lit_lt, eq_self]
theorem c_kindAt_neg (d : Nat) {σ τ : zS} {N : Nat} (H : HRel σ τ N) {i : Int32} (hi : i < 0) : zM (d + 2) mX0_kindAt [.inr (.inr 24), .inl i] σ = some (1, -1, σ) := by
  rw [s_kindAt d σ i H.1 H.2.1, if_neg (fun h => h.1 hi)]
theorem c_valueAt (d : Nat) {σ τ : zS} {N : Nat} (H : HRel σ τ N) (i : Nat) (hi : i < 2 ^ 31) : zM (d + 2) mX0_valueAt [.inr (.inr 24), .inl (nI i)] σ = some (1, if i < N then τ 52 i else 0, σ) := by
  obtain ⟨h1, h2, h3, _⟩ := H
  rw [s_valueAt d σ (nI i) h1 h2]
  by_cases h : i < N
  · simp (disch := omega) only [lt_litR, lt_litL, eq_litR, eq_litL, lt_nn, eq_nn, lt_n0, z_cl, add_lit, eq_m1, eq_m1', m1_lt, false_or, or_false, if_pos, if_neg, zbI_some, zbV_some, wr_same, wr_cell, wr_slot, ne_eq, not_true_eq_false, not_false_eq_true, true_and, and_true, false_and, and_false, e10, e01, e00, if_true, if_false, Bool.false_eq_true, lit_ne, lit_lt, eq_self, (h3 i h).2.2]
  · simp (disch := omega) only [lt_litR, lt_litL, eq_litR, eq_litL, lt_nn, eq_nn, lt_n0, z_cl, add_lit, eq_m1, eq_m1', m1_lt, false_or, or_false, if_pos, if_neg, zbI_some, zbV_some, wr_same, wr_cell, wr_slot, ne_eq, not_true_eq_false, not_false_eq_true, true_and, and_true, false_and, and_false, e10, e01, e00, if_true, if_false, Bool.false_eq_true, lit_ne, lit_lt, eq_self]
theorem c_refAt (d : Nat) {σ τ : zS} {N : Nat} (H : HRel σ τ N) (i : Nat) (hi : i < 2 ^ 31) : zM (d + 2) mX0_refAt [.inr (.inr 24), .inl (nI i)] σ = some (1, if i < N then τ 51 i else 0, σ) := by
  obtain ⟨h1, h2, h3, _⟩ := H
  rw [s_refAt d σ (nI i) h1 h2]
  by_cases h : i < N
  · simp (disch := omega) only [lt_litR, lt_litL, eq_litR, eq_litL, lt_nn, eq_nn, lt_n0, z_cl, add_lit, eq_m1, eq_m1', m1_lt, false_or, or_false, if_pos, if_neg, zbI_some, zbV_some, wr_same, wr_cell, wr_slot, ne_eq, not_true_eq_false, not_false_eq_true, true_and, and_true, false_and, and_false, e10, e01, e00, if_true, if_false, Bool.false_eq_true, lit_ne, lit_lt, eq_self, (h3 i h).2.1]
  · simp (disch := omega) only [lt_litR, lt_litL, eq_litR, eq_litL, lt_nn, eq_nn, lt_n0, z_cl, add_lit, eq_m1, eq_m1', m1_lt, false_or, or_false, if_pos, if_neg, zbI_some, zbV_some, wr_same, wr_cell, wr_slot, ne_eq, not_true_eq_false, not_false_eq_true, true_and, and_true, false_and, and_false, e10, e01, e00, if_true, if_false, Bool.false_eq_true, lit_ne, lit_lt, eq_self]
theorem c_holds (d : Nat) {σ : zS} {N : Nat} (h1 : σ 24 5 = nI N) (h2 : N ≤ 200) (i : Nat) (hi : i < 2 ^ 31) : zM (d + 1) mX0_holds [.inr (.inr 24), .inl (nI i)] σ = some (1, if i < N then 1 else 0, σ) := by
  rw [s_holds, h1]
  by_cases h : i < N
  · simp (disch := omega) only [lt_litR, lt_litL, eq_litR, eq_litL, lt_nn, eq_nn, lt_n0, z_cl, add_lit, eq_m1, eq_m1', m1_lt, false_or, or_false, if_pos, if_neg, zbI_some, zbV_some, wr_same, wr_cell, wr_slot, ne_eq, not_true_eq_false, not_false_eq_true, true_and, and_true, false_and, and_false, e10, e01, e00, if_true, if_false, Bool.false_eq_true, lit_ne, lit_lt, eq_self]
  · simp (disch := omega) only [lt_litR, lt_litL, eq_litR, eq_litL, lt_nn, eq_nn, lt_n0, z_cl, add_lit, eq_m1, eq_m1', m1_lt, false_or, or_false, if_pos, if_neg, zbI_some, zbV_some, wr_same, wr_cell, wr_slot, ne_eq, not_true_eq_false, not_false_eq_true, true_and, and_true, false_and, and_false, e10, e01, e00, if_true, if_false, Bool.false_eq_true, lit_ne, lit_lt, eq_self]
theorem c_isAt (d : Nat) {σ τ : zS} {N : Nat} (H : HRel σ τ N) (i : Nat) (hi : i < 2 ^ 31) (k r v : Int32) : zM (d + 2) mX0_isAt [.inr (.inr 24), .inl (nI i), .inl k, .inl r, .inl v] σ = some (1, if i < N ∧ τ 50 i = k ∧ τ 51 i = r ∧ τ 52 i = v then 1 else 0, σ) := by
  obtain ⟨h1, h2, h3, _⟩ := H
  rw [qX0_isAt_24, qX0_isAt_24_0, c_holds d h1 h2 i hi, zbI_some]
  by_cases h : i < N
  · obtain ⟨a1, a2, a3⟩ := h3 i h
    by_cases b1 : τ 50 i = k
    · by_cases b2 : τ 51 i = r
      · by_cases b3 : τ 52 i = v
        · simp (disch := omega) only [lt_litR, lt_litL, eq_litR, eq_litL, lt_nn, eq_nn, lt_n0, z_cl, add_lit, eq_m1, eq_m1', m1_lt, false_or, or_false, if_pos, if_neg, zbI_some, zbV_some, wr_same, wr_cell, wr_slot, ne_eq, not_true_eq_false, not_false_eq_true, true_and, and_true, false_and, and_false, e10, e01, e00, if_true, if_false, Bool.false_eq_true, lit_ne, lit_lt, eq_self, a1, a2, a3, eq_true b1, eq_true b2, eq_true b3]
        · simp (disch := omega) only [lt_litR, lt_litL, eq_litR, eq_litL, lt_nn, eq_nn, lt_n0, z_cl, add_lit, eq_m1, eq_m1', m1_lt, false_or, or_false, if_pos, if_neg, zbI_some, zbV_some, wr_same, wr_cell, wr_slot, ne_eq, not_true_eq_false, not_false_eq_true, true_and, and_true, false_and, and_false, e10, e01, e00, if_true, if_false, Bool.false_eq_true, lit_ne, lit_lt, eq_self, a1, a2, a3, eq_true b1, eq_true b2, b3]
      · simp (disch := omega) only [lt_litR, lt_litL, eq_litR, eq_litL, lt_nn, eq_nn, lt_n0, z_cl, add_lit, eq_m1, eq_m1', m1_lt, false_or, or_false, if_pos, if_neg, zbI_some, zbV_some, wr_same, wr_cell, wr_slot, ne_eq, not_true_eq_false, not_false_eq_true, true_and, and_true, false_and, and_false, e10, e01, e00, if_true, if_false, Bool.false_eq_true, lit_ne, lit_lt, eq_self, a1, a2, a3, eq_true b1, b2]
    · simp (disch := omega) only [lt_litR, lt_litL, eq_litR, eq_litL, lt_nn, eq_nn, lt_n0, z_cl, add_lit, eq_m1, eq_m1', m1_lt, false_or, or_false, if_pos, if_neg, zbI_some, zbV_some, wr_same, wr_cell, wr_slot, ne_eq, not_true_eq_false, not_false_eq_true, true_and, and_true, false_and, and_false, e10, e01, e00, if_true, if_false, Bool.false_eq_true, lit_ne, lit_lt, eq_self, a1, a2, a3, b1]
  · simp (disch := omega) only [lt_litR, lt_litL, eq_litR, eq_litL, lt_nn, eq_nn, lt_n0, z_cl, add_lit, eq_m1, eq_m1', m1_lt, false_or, or_false, if_pos, if_neg, zbI_some, zbV_some, wr_same, wr_cell, wr_slot, ne_eq, not_true_eq_false, not_false_eq_true, true_and, and_true, false_and, and_false, e10, e01, e00, if_true, if_false, Bool.false_eq_true, lit_ne, lit_lt, eq_self]
theorem c_endOf (d : Nat) {σ τ : zS} {N : Nat} (H : HRel σ τ N) {i b : Nat} (hi : i < N) (hb : b ≤ N) : (zM (d + 2) mX0_endOf [.inr (.inr 24), .inl (nI i), .inl (nI b)] σ = some (1, -1, σ) ∧ kEnd τ (nI i) (b - (i + 1)) (i + 1) = none) ∨
    (∃ k, i < k ∧ k < b ∧ kEnds τ k i ∧ zM (d + 2) mX0_endOf [.inr (.inr 24), .inl (nI i), .inl (nI b)] σ = some (1, nI k, σ) ∧ kEnd τ (nI i) (b - (i + 1)) (i + 1) = some (kGave τ k)) := by
  obtain ⟨h1, h2, h3, h4, h5, h6, h7⟩ := H
  rw [qX0_endOf_24, qX0_endOf_24_0, c_holds d h1 h2 i (by omega), zbI_some]
  rcases h5 i hi with ⟨a1, a2⟩ | ⟨k, a1, a2, a3, a4, a5⟩
  · refine Or.inl ⟨?_, kEnd_none τ i _ _ (fun j j1 j2 => a2 j (by omega))⟩
    simp (disch := omega) only [lt_litR, lt_litL, eq_litR, eq_litL, lt_nn, eq_nn, lt_n0, z_cl, add_lit, eq_m1, eq_m1', m1_lt, false_or, or_false, if_pos, if_neg, zbI_some, zbV_some, wr_same, wr_cell, wr_slot, ne_eq, not_true_eq_false, not_false_eq_true, true_and, and_true, false_and, and_false, e10, e01, e00, if_true, if_false, Bool.false_eq_true, lit_ne, lit_lt, eq_self, a1]
  · by_cases hk : k < b
    · refine Or.inr ⟨k, a1, hk, a4, ?_, kEnd_some τ i k a4 _ _ (by omega) (by omega) (fun j j1 j2 j3 => by have := a5 j (by omega) j3; omega)⟩
      simp (disch := omega) only [lt_litR, lt_litL, eq_litR, eq_litL, lt_nn, eq_nn, lt_n0, z_cl, add_lit, eq_m1, eq_m1', m1_lt, false_or, or_false, if_pos, if_neg, zbI_some, zbV_some, wr_same, wr_cell, wr_slot, ne_eq, not_true_eq_false, not_false_eq_true, true_and, and_true, false_and, and_false, e10, e01, e00, if_true, if_false, Bool.false_eq_true, lit_ne, lit_lt, eq_self, a3]
    · refine Or.inl ⟨?_, kEnd_none τ i _ _ (fun j j1 j2 j3 => by have := a5 j (by omega) j3; omega)⟩
      simp (disch := omega) only [lt_litR, lt_litL, eq_litR, eq_litL, lt_nn, eq_nn, lt_n0, z_cl, add_lit, eq_m1, eq_m1', m1_lt, false_or, or_false, if_pos, if_neg, zbI_some, zbV_some, wr_same, wr_cell, wr_slot, ne_eq, not_true_eq_false, not_false_eq_true, true_and, and_true, false_and, and_false, e10, e01, e00, if_true, if_false, Bool.false_eq_true, lit_ne, lit_lt, eq_self, a3]
theorem c_signal (d : Nat) {σ τ : zS} {N : Nat} (H : HRel σ τ N) {t b : Nat} (ht : t < 1000) (h37 : τ 38 37 = nI t) (hb : b ≤ N) : (zM (d + 1) mX0_signal [.inr (.inr 24), .inl (nI t), .inl (nI b)] σ = some (1, -1, σ) ∧ kSig τ b 0 0 = none) ∨
    (∃ k, k < b ∧ t ≤ k ∧ τ 50 k = 8 ∧ zM (d + 1) mX0_signal [.inr (.inr 24), .inl (nI t), .inl (nI b)] σ = some (1, nI k, σ) ∧ kSig τ b 0 0 = some (τ 52 k)) := by
  obtain ⟨h1, h2, h3, h4, h5, h6, h7⟩ := H
  have hcn := kCnt_le τ N
  rw [qX0_signal_24, qX0_signal_24_0]
  by_cases h : t < kCnt τ N
  · obtain ⟨k, k1, k2, k3⟩ := kCnt_find τ N t h
    have hk := h7 k k1 k2
    rw [k3] at hk
    by_cases hkb : k < b
    · refine Or.inr ⟨k, hkb, by rw [← k3]; exact kCnt_le τ k, k2, ?_, kSig_some τ ht h37 k2 k3 b 0 0 rfl (by omega) (by omega) (by omega)⟩
      simp (disch := omega) only [lt_litR, lt_litL, eq_litR, eq_litL, lt_nn, eq_nn, lt_n0, z_cl, add_lit, eq_m1, eq_m1', m1_lt, false_or, or_false, if_pos, if_neg, zbI_some, zbV_some, wr_same, wr_cell, wr_slot, ne_eq, not_true_eq_false, not_false_eq_true, true_and, and_true, false_and, and_false, e10, e01, e00, if_true, if_false, Bool.false_eq_true, lit_ne, lit_lt, eq_self, h6, hk]
    · have h8 : kCnt τ (0 + b) ≤ t := by rw [← k3]; exact kCnt_mono τ (by omega)
      refine Or.inl ⟨?_, kSig_none τ ht h37 b 0 0 rfl (by omega) h8⟩
      simp (disch := omega) only [lt_litR, lt_litL, eq_litR, eq_litL, lt_nn, eq_nn, lt_n0, z_cl, add_lit, eq_m1, eq_m1', m1_lt, false_or, or_false, if_pos, if_neg, zbI_some, zbV_some, wr_same, wr_cell, wr_slot, ne_eq, not_true_eq_false, not_false_eq_true, true_and, and_true, false_and, and_false, e10, e01, e00, if_true, if_false, Bool.false_eq_true, lit_ne, lit_lt, eq_self, h6, hk]
  · have h8 : kCnt τ (0 + b) ≤ kCnt τ N := kCnt_mono τ (by omega)
    refine Or.inl ⟨?_, kSig_none τ ht h37 b 0 0 rfl (by omega) (by omega)⟩
    simp (disch := omega) only [lt_litR, lt_litL, eq_litR, eq_litL, lt_nn, eq_nn, lt_n0, z_cl, add_lit, eq_m1, eq_m1', m1_lt, false_or, or_false, if_pos, if_neg, zbI_some, zbV_some, wr_same, wr_cell, wr_slot, ne_eq, not_true_eq_false, not_false_eq_true, true_and, and_true, false_and, and_false, e10, e01, e00, if_true, if_false, Bool.false_eq_true, lit_ne, lit_lt, eq_self, h6]

theorem HRel.cong {σ σ' τ τ' : zS} {N : Nat} (H : HRel σ τ N) (h1 : σ' 24 5 = σ 24 5) (h2 : σ' 24 6 = σ 24 6) (h3 : ∀ i, i < N → σ' 25 i = σ 25 i ∧ σ' 26 i = σ 26 i ∧ σ' 27 i = σ 27 i ∧ σ' 28 i = σ 28 i) (h4 : ∀ i, σ' 29 i = σ 29 i) (h5 : ∀ i, i < N → τ' 50 i = τ 50 i ∧ τ' 51 i = τ 51 i ∧ τ' 52 i = τ 52 i) : HRel σ' τ' N := by
  obtain ⟨a1, a2, a3, a4, a5, a6, a7⟩ := H
  have hE : ∀ k i, k < N → (kEnds τ' k i ↔ kEnds τ k i) := fun k i hk => by
    obtain ⟨b1, b2, b3⟩ := h5 k hk
    simp only [kEnds, b1, b2]
  refine ⟨by rw [h1, a1], a2, fun i hi => ?_, fun i hi => ?_, fun i hi => ?_, ?_, fun k hk h8 => ?_⟩
  · obtain ⟨b1, b2, b3⟩ := h5 i hi
    obtain ⟨c1, c2, c3, c4⟩ := h3 i hi
    rw [b1, b2, b3, c1, c2, c3]
    exact a3 i hi
  · obtain ⟨b1, b2, b3⟩ := h5 i hi
    rw [b1, b3]
    exact ⟨(a4 i hi).1, (a4 i hi).2.1, fun x hx h => (a4 i hi).2.2 x hx ((hE i x hi).mp h)⟩
  · rw [(h3 i hi).2.2.2]
    rcases a5 i hi with ⟨d1, d2⟩ | ⟨k, d1, d2, d3, d4, d5⟩
    · exact Or.inl ⟨d1, fun k hk h => d2 k hk ((hE k i hk).mp h)⟩
    · exact Or.inr ⟨k, d1, d2, d3, (hE k i d2).mpr d4, fun j hj h => d5 j hj ((hE j i hj).mp h)⟩
  · rw [h2, a6, kCnt_cong N (fun i hi => (h5 i hi).1)]
  · rw [(h5 k hk).1] at h8
    rw [h4, kCnt_cong k (fun i hi => (h5 i (by omega)).1)]
    exact a7 k hk h8
/-- a command, or a BEGIN, is added on both sides -/
theorem HRel.app {σ τ τ' : zS} {N k : Nat} (H : HRel σ τ N) (hN : N < 200) (hk : k ≤ 4) (r v : Int32) (hv : k = 3 → v = 0) (h1 : ∀ i, i ≠ N → τ' 50 i = τ 50 i ∧ τ' 51 i = τ 51 i ∧ τ' 52 i = τ 52 i) (h2 : τ' 50 N = nI k) (h3 : τ' 51 N = r) (h4 : τ' 52 N = v) :
    HRel (wr (wr (wr (wr (wr σ 25 N (nI k)) 26 N r) 27 N v) 28 N (-1)) 24 5 (nI (N + 1))) τ' (N + 1) := by
  obtain ⟨a1, a2, a3, a4, a5, a6, a7⟩ := H
  have hE : ∀ k i, k < N → (kEnds τ' k i ↔ kEnds τ k i) := fun k i hk => by
    obtain ⟨b1, b2, b3⟩ := h1 k (by omega)
    simp only [kEnds, b1, b2]
  have hEN : ∀ i, ¬ kEnds τ' N i := fun i h => by
    obtain ⟨b1, b2, b3⟩ := h
    rw [h2] at b1
    simp (disch := omega) only [lt_litR, lt_litL, eq_litR, eq_litL, lt_nn, eq_nn, lt_n0, z_cl, add_lit, eq_m1, eq_m1', m1_lt, false_or, or_false, if_pos, if_neg, zbI_some, zbV_some, wr_same, wr_cell, wr_slot, ne_eq, not_true_eq_false, not_false_eq_true, true_and, and_true, false_and, and_false, e10, e01, e00, if_true, if_false, Bool.false_eq_true, lit_ne, lit_lt, eq_self] at b1
    omega
  have hcn : kCnt τ' (N + 1) = kCnt τ N := by
    rw [kCnt, h2, kCnt_cong N (fun i hi => (h1 i (by omega)).1)]
    simp (disch := omega) only [lt_litR, lt_litL, eq_litR, eq_litL, lt_nn, eq_nn, lt_n0, z_cl, add_lit, eq_m1, eq_m1', m1_lt, false_or, or_false, if_pos, if_neg, zbI_some, zbV_some, wr_same, wr_cell, wr_slot, ne_eq, not_true_eq_false, not_false_eq_true, true_and, and_true, false_and, and_false, e10, e01, e00, if_true, if_false, Bool.false_eq_true, lit_ne, lit_lt, eq_self, Nat.add_zero]
  refine ⟨by simp (disch := omega) only [lt_litR, lt_litL, eq_litR, eq_litL, lt_nn, eq_nn, lt_n0, z_cl, add_lit, eq_m1, eq_m1', m1_lt, false_or, or_false, if_pos, if_neg, zbI_some, zbV_some, wr_same, wr_cell, wr_slot, ne_eq, not_true_eq_false, not_false_eq_true, true_and, and_true, false_and, and_false, e10, e01, e00, if_true, if_false, Bool.false_eq_true, lit_ne, lit_lt, eq_self], by omega, fun i hi => ?_, fun i hi => ?_, fun i hi => ?_, ?_, fun j hj h8 => ?_⟩
  · by_cases hiN : i = N
    · subst hiN; rw [h2, h3, h4]; simp (disch := omega) only [lt_litR, lt_litL, eq_litR, eq_litL, lt_nn, eq_nn, lt_n0, z_cl, add_lit, eq_m1, eq_m1', m1_lt, false_or, or_false, if_pos, if_neg, zbI_some, zbV_some, wr_same, wr_cell, wr_slot, ne_eq, not_true_eq_false, not_false_eq_true, true_and, and_true, false_and, and_false, e10, e01, e00, if_true, if_false, Bool.false_eq_true, lit_ne, lit_lt, eq_self, and_self]
    · obtain ⟨b1, b2, b3⟩ := h1 i hiN
      obtain ⟨c1, c2, c3⟩ := a3 i (by omega)
      rw [b1, b2, b3]
      simp (disch := omega) only [lt_litR, lt_litL, eq_litR, eq_litL, lt_nn, eq_nn, lt_n0, z_cl, add_lit, eq_m1, eq_m1', m1_lt, false_or, or_false, if_pos, if_neg, zbI_some, zbV_some, wr_same, wr_cell, wr_slot, ne_eq, not_true_eq_false, not_false_eq_true, true_and, and_true, false_and, and_false, e10, e01, e00, if_true, if_false, Bool.false_eq_true, lit_ne, lit_lt, eq_self, c1, c2, c3, and_self]
  · by_cases hiN : i = N
    · subst hiN; rw [h2]
      refine ⟨⟨k, by omega, rfl⟩, fun h => ?_, fun x _ h => absurd h (hEN x)⟩
      simp (disch := omega) only [lt_litR, lt_litL, eq_litR, eq_litL, lt_nn, eq_nn, lt_n0, z_cl, add_lit, eq_m1, eq_m1', m1_lt, false_or, or_false, if_pos, if_neg, zbI_some, zbV_some, wr_same, wr_cell, wr_slot, ne_eq, not_true_eq_false, not_false_eq_true, true_and, and_true, false_and, and_false, e10, e01, e00, if_true, if_false, Bool.false_eq_true, lit_ne, lit_lt, eq_self] at h
      rw [h4]
      exact hv (by omega)
    · obtain ⟨b1, b2, b3⟩ := h1 i hiN
      rw [b1, b3]
      exact ⟨(a4 i (by omega)).1, (a4 i (by omega)).2.1, fun x hx h => (a4 i (by omega)).2.2 x hx ((hE i x (by omega)).mp h)⟩
  · by_cases hiN : i = N
    · subst hiN
      refine Or.inl ⟨by simp (disch := omega) only [lt_litR, lt_litL, eq_litR, eq_litL, lt_nn, eq_nn, lt_n0, z_cl, add_lit, eq_m1, eq_m1', m1_lt, false_or, or_false, if_pos, if_neg, zbI_some, zbV_some, wr_same, wr_cell, wr_slot, ne_eq, not_true_eq_false, not_false_eq_true, true_and, and_true, false_and, and_false, e10, e01, e00, if_true, if_false, Bool.false_eq_true, lit_ne, lit_lt, eq_self], fun j hj h => ?_⟩
      by_cases hjN : j = i
      · subst hjN; exact hEN _ h
      · have h5 := (hE j i (by omega)).mp h
        have h6 := (a4 j (by omega)).2.2 i (by omega) h5
        omega
    · rcases a5 i (by omega) with ⟨d1, d2⟩ | ⟨kk, d1, d2, d3, d4, d5⟩
      · refine Or.inl ⟨by simp (disch := omega) only [lt_litR, lt_litL, eq_litR, eq_litL, lt_nn, eq_nn, lt_n0, z_cl, add_lit, eq_m1, eq_m1', m1_lt, false_or, or_false, if_pos, if_neg, zbI_some, zbV_some, wr_same, wr_cell, wr_slot, ne_eq, not_true_eq_false, not_false_eq_true, true_and, and_true, false_and, and_false, e10, e01, e00, if_true, if_false, Bool.false_eq_true, lit_ne, lit_lt, eq_self, d1], fun j hj h => ?_⟩
        by_cases hjN : j = N
        · subst hjN; exact hEN _ h
        · exact d2 j (by omega) ((hE j i (by omega)).mp h)
      · refine Or.inr ⟨kk, d1, by omega, by simp (disch := omega) only [lt_litR, lt_litL, eq_litR, eq_litL, lt_nn, eq_nn, lt_n0, z_cl, add_lit, eq_m1, eq_m1', m1_lt, false_or, or_false, if_pos, if_neg, zbI_some, zbV_some, wr_same, wr_cell, wr_slot, ne_eq, not_true_eq_false, not_false_eq_true, true_and, and_true, false_and, and_false, e10, e01, e00, if_true, if_false, Bool.false_eq_true, lit_ne, lit_lt, eq_self, d3], (hE kk i d2).mpr d4, fun j hj h => ?_⟩
        by_cases hjN : j = N
        · subst hjN; exact absurd h (hEN _)
        · exact d5 j (by omega) ((hE j i (by omega)).mp h)
  · rw [hcn]; simp (disch := omega) only [lt_litR, lt_litL, eq_litR, eq_litL, lt_nn, eq_nn, lt_n0, z_cl, add_lit, eq_m1, eq_m1', m1_lt, false_or, or_false, if_pos, if_neg, zbI_some, zbV_some, wr_same, wr_cell, wr_slot, ne_eq, not_true_eq_false, not_false_eq_true, true_and, and_true, false_and, and_false, e10, e01, e00, if_true, if_false, Bool.false_eq_true, lit_ne, lit_lt, eq_self, a6]
  · by_cases hjN : j = N
    · subst hjN; rw [h2] at h8
      simp (disch := omega) only [lt_litR, lt_litL, eq_litR, eq_litL, lt_nn, eq_nn, lt_n0, z_cl, add_lit, eq_m1, eq_m1', m1_lt, false_or, or_false, if_pos, if_neg, zbI_some, zbV_some, wr_same, wr_cell, wr_slot, ne_eq, not_true_eq_false, not_false_eq_true, true_and, and_true, false_and, and_false, e10, e01, e00, if_true, if_false, Bool.false_eq_true, lit_ne, lit_lt, eq_self] at h8
      omega
    · rw [(h1 j hjN).1] at h8
      rw [kCnt_cong j (fun i hi => (h1 i (by omega)).1)]
      simp (disch := omega) only [lt_litR, lt_litL, eq_litR, eq_litL, lt_nn, eq_nn, lt_n0, z_cl, add_lit, eq_m1, eq_m1', m1_lt, false_or, or_false, if_pos, if_neg, zbI_some, zbV_some, wr_same, wr_cell, wr_slot, ne_eq, not_true_eq_false, not_false_eq_true, true_and, and_true, false_and, and_false, e10, e01, e00, if_true, if_false, Bool.false_eq_true, lit_ne, lit_lt, eq_self, a7 j (by omega) h8]
