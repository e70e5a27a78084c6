-- tokens: the reference
def TM (τ : zS) (t : Nat → Nat) (m : Nat) : Prop := τ 38 2 = nI m ∧ m ≤ 400 ∧ ∀ i, i < m → τ 39 i = nI (t i) ∧ 32 ≤ t i ∧ t i ≤ 126
theorem m_see (d : Nat) {τ : zS} {t : Nat → Nat} {m q : Nat} (H : TM τ t m) (hq : q ≤ 500) : zM (d + 1) mX8_see [.inr (.inr 38), .inl (nI q)] τ = some (1, nI (if q < m then t q else 0), τ) := by
  obtain ⟨h1, h2, h3⟩ := H
  rw [qX8_see_38, qX8_see_38_0, h1]
  by_cases hqm : q < m
  · simp (disch := omega) only [lt_litR, lt_litL, eq_litR, eq_litL, lt_nn, eq_nn, lt_n0, z_cl, add_lit, eq_m1, eq_m1', m1_lt, false_or, or_false, if_pos, if_neg, zbI_some, zbV_some, wr_same, wr_cell, wr_slot, ne_eq, not_true_eq_false, not_false_eq_true, true_and, and_true, false_and, and_false, e10, e01, e00, if_true, if_false, Bool.false_eq_true, lit_ne, lit_lt, eq_self, (h3 q hqm).1]
  · simp (disch := omega) only [lt_litR, lt_litL, eq_litR, eq_litL, lt_nn, eq_nn, lt_n0, z_cl, add_lit, eq_m1, eq_m1', m1_lt, false_or, or_false, if_pos, if_neg, zbI_some, zbV_some, wr_same, wr_cell, wr_slot, ne_eq, not_true_eq_false, not_false_eq_true, true_and, and_true, false_and, and_false, e10, e01, e00, if_true, if_false, Bool.false_eq_true, lit_ne, lit_lt, eq_self]
    rfl
theorem m_isLetter (d : Nat) (σ : zS) {c : Nat} (hc : c < 1000) : zM (d + 1) mX8_isLetter [.inl (nI c)] σ = some (1, if isL c then 1 else 0, σ) := by
  rw [qX8_isLetter, qX8_isLetter_0, isL]
  by_cases h1 : c < 97
  · have : ¬ (97 ≤ c ∧ c ≤ 122) := by omega
    simp (disch := omega) only [lt_litR, lt_litL, eq_litR, eq_litL, lt_nn, eq_nn, lt_n0, z_cl, add_lit, eq_m1, eq_m1', m1_lt, false_or, or_false, if_pos, if_neg, zbI_some, zbV_some, wr_same, wr_cell, wr_slot, ne_eq, not_true_eq_false, not_false_eq_true, true_and, and_true, false_and, and_false, e10, e01, e00, if_true, if_false, Bool.false_eq_true, lit_ne, lit_lt, eq_self, this, decide_false]
  · by_cases h2 : 122 < c
    · have : ¬ (97 ≤ c ∧ c ≤ 122) := by omega
      simp (disch := omega) only [lt_litR, lt_litL, eq_litR, eq_litL, lt_nn, eq_nn, lt_n0, z_cl, add_lit, eq_m1, eq_m1', m1_lt, false_or, or_false, if_pos, if_neg, zbI_some, zbV_some, wr_same, wr_cell, wr_slot, ne_eq, not_true_eq_false, not_false_eq_true, true_and, and_true, false_and, and_false, e10, e01, e00, if_true, if_false, Bool.false_eq_true, lit_ne, lit_lt, eq_self, this, decide_false]
    · have : 97 ≤ c ∧ c ≤ 122 := by omega
      simp (disch := omega) only [lt_litR, lt_litL, eq_litR, eq_litL, lt_nn, eq_nn, lt_n0, z_cl, add_lit, eq_m1, eq_m1', m1_lt, false_or, or_false, if_pos, if_neg, zbI_some, zbV_some, wr_same, wr_cell, wr_slot, ne_eq, not_true_eq_false, not_false_eq_true, true_and, and_true, false_and, and_false, e10, e01, e00, if_true, if_false, Bool.false_eq_true, lit_ne, lit_lt, eq_self, this, decide_true]
theorem m_isDigit (d : Nat) (σ : zS) {c : Nat} (hc : c < 1000) : zM (d + 1) mX8_isDigit [.inl (nI c)] σ = some (1, if isD c then 1 else 0, σ) := by
  rw [qX8_isDigit, qX8_isDigit_0, isD]
  by_cases h1 : c < 48
  · have : ¬ (48 ≤ c ∧ c ≤ 57) := by omega
    simp (disch := omega) only [lt_litR, lt_litL, eq_litR, eq_litL, lt_nn, eq_nn, lt_n0, z_cl, add_lit, eq_m1, eq_m1', m1_lt, false_or, or_false, if_pos, if_neg, zbI_some, zbV_some, wr_same, wr_cell, wr_slot, ne_eq, not_true_eq_false, not_false_eq_true, true_and, and_true, false_and, and_false, e10, e01, e00, if_true, if_false, Bool.false_eq_true, lit_ne, lit_lt, eq_self, this, decide_false]
  · by_cases h2 : 57 < c
    · have : ¬ (48 ≤ c ∧ c ≤ 57) := by omega
      simp (disch := omega) only [lt_litR, lt_litL, eq_litR, eq_litL, lt_nn, eq_nn, lt_n0, z_cl, add_lit, eq_m1, eq_m1', m1_lt, false_or, or_false, if_pos, if_neg, zbI_some, zbV_some, wr_same, wr_cell, wr_slot, ne_eq, not_true_eq_false, not_false_eq_true, true_and, and_true, false_and, and_false, e10, e01, e00, if_true, if_false, Bool.false_eq_true, lit_ne, lit_lt, eq_self, this, decide_false]
    · have : 48 ≤ c ∧ c ≤ 57 := by omega
      simp (disch := omega) only [lt_litR, lt_litL, eq_litR, eq_litL, lt_nn, eq_nn, lt_n0, z_cl, add_lit, eq_m1, eq_m1', m1_lt, false_or, or_false, if_pos, if_neg, zbI_some, zbV_some, wr_same, wr_cell, wr_slot, ne_eq, not_true_eq_false, not_false_eq_true, true_and, and_true, false_and, and_false, e10, e01, e00, if_true, if_false, Bool.false_eq_true, lit_ne, lit_lt, eq_self, this, decide_true]
theorem m_isSign (d : Nat) (σ : zS) {c : Nat} (hc : c < 1000) : zM (d + 1) mX8_isSign [.inl (nI c)] σ = some (1, if isG c then 1 else 0, σ) := by
  rw [qX8_isSign, qX8_isSign_0]
  by_cases h0 : c = 59
  · rw [if_pos (show nI c = 59 by rw [h0]; rfl), h0]; rfl
  rw [if_neg (show ¬ nI c = 59 by simp (disch := omega) only [lt_litR, lt_litL, eq_litR, eq_litL, lt_nn, eq_nn, lt_n0, z_cl, add_lit, eq_m1, eq_m1', m1_lt, false_or, or_false, if_pos, if_neg, zbI_some, zbV_some, wr_same, wr_cell, wr_slot, ne_eq, not_true_eq_false, not_false_eq_true, true_and, and_true, false_and, and_false, e10, e01, e00, if_true, if_false, Bool.false_eq_true, lit_ne, lit_lt, eq_self]; exact h0)]
  by_cases h1 : c = 61
  · rw [if_pos (show nI c = 61 by rw [h1]; rfl), h1]; rfl
  rw [if_neg (show ¬ nI c = 61 by simp (disch := omega) only [lt_litR, lt_litL, eq_litR, eq_litL, lt_nn, eq_nn, lt_n0, z_cl, add_lit, eq_m1, eq_m1', m1_lt, false_or, or_false, if_pos, if_neg, zbI_some, zbV_some, wr_same, wr_cell, wr_slot, ne_eq, not_true_eq_false, not_false_eq_true, true_and, and_true, false_and, and_false, e10, e01, e00, if_true, if_false, Bool.false_eq_true, lit_ne, lit_lt, eq_self]; exact h1)]
  by_cases h2 : c = 43
  · rw [if_pos (show nI c = 43 by rw [h2]; rfl), h2]; rfl
  rw [if_neg (show ¬ nI c = 43 by simp (disch := omega) only [lt_litR, lt_litL, eq_litR, eq_litL, lt_nn, eq_nn, lt_n0, z_cl, add_lit, eq_m1, eq_m1', m1_lt, false_or, or_false, if_pos, if_neg, zbI_some, zbV_some, wr_same, wr_cell, wr_slot, ne_eq, not_true_eq_false, not_false_eq_true, true_and, and_true, false_and, and_false, e10, e01, e00, if_true, if_false, Bool.false_eq_true, lit_ne, lit_lt, eq_self]; exact h2)]
  by_cases h3 : c = 45
  · rw [if_pos (show nI c = 45 by rw [h3]; rfl), h3]; rfl
  rw [if_neg (show ¬ nI c = 45 by simp (disch := omega) only [lt_litR, lt_litL, eq_litR, eq_litL, lt_nn, eq_nn, lt_n0, z_cl, add_lit, eq_m1, eq_m1', m1_lt, false_or, or_false, if_pos, if_neg, zbI_some, zbV_some, wr_same, wr_cell, wr_slot, ne_eq, not_true_eq_false, not_false_eq_true, true_and, and_true, false_and, and_false, e10, e01, e00, if_true, if_false, Bool.false_eq_true, lit_ne, lit_lt, eq_self]; exact h3)]
  by_cases h4 : c = 42
  · rw [if_pos (show nI c = 42 by rw [h4]; rfl), h4]; rfl
  rw [if_neg (show ¬ nI c = 42 by simp (disch := omega) only [lt_litR, lt_litL, eq_litR, eq_litL, lt_nn, eq_nn, lt_n0, z_cl, add_lit, eq_m1, eq_m1', m1_lt, false_or, or_false, if_pos, if_neg, zbI_some, zbV_some, wr_same, wr_cell, wr_slot, ne_eq, not_true_eq_false, not_false_eq_true, true_and, and_true, false_and, and_false, e10, e01, e00, if_true, if_false, Bool.false_eq_true, lit_ne, lit_lt, eq_self]; exact h4)]
  by_cases h5 : c = 60
  · rw [if_pos (show nI c = 60 by rw [h5]; rfl), h5]; rfl
  rw [if_neg (show ¬ nI c = 60 by simp (disch := omega) only [lt_litR, lt_litL, eq_litR, eq_litL, lt_nn, eq_nn, lt_n0, z_cl, add_lit, eq_m1, eq_m1', m1_lt, false_or, or_false, if_pos, if_neg, zbI_some, zbV_some, wr_same, wr_cell, wr_slot, ne_eq, not_true_eq_false, not_false_eq_true, true_and, and_true, false_and, and_false, e10, e01, e00, if_true, if_false, Bool.false_eq_true, lit_ne, lit_lt, eq_self]; exact h5)]
  by_cases h6 : c = 40
  · rw [if_pos (show nI c = 40 by rw [h6]; rfl), h6]; rfl
  rw [if_neg (show ¬ nI c = 40 by simp (disch := omega) only [lt_litR, lt_litL, eq_litR, eq_litL, lt_nn, eq_nn, lt_n0, z_cl, add_lit, eq_m1, eq_m1', m1_lt, false_or, or_false, if_pos, if_neg, zbI_some, zbV_some, wr_same, wr_cell, wr_slot, ne_eq, not_true_eq_false, not_false_eq_true, true_and, and_true, false_and, and_false, e10, e01, e00, if_true, if_false, Bool.false_eq_true, lit_ne, lit_lt, eq_self]; exact h6)]
  by_cases h7 : c = 41
  · rw [if_pos (show nI c = 41 by rw [h7]; rfl), h7]; rfl
  rw [if_neg (show ¬ nI c = 41 by simp (disch := omega) only [lt_litR, lt_litL, eq_litR, eq_litL, lt_nn, eq_nn, lt_n0, z_cl, add_lit, eq_m1, eq_m1', m1_lt, false_or, or_false, if_pos, if_neg, zbI_some, zbV_some, wr_same, wr_cell, wr_slot, ne_eq, not_true_eq_false, not_false_eq_true, true_and, and_true, false_and, and_false, e10, e01, e00, if_true, if_false, Bool.false_eq_true, lit_ne, lit_lt, eq_self]; exact h7)]
  by_cases h8 : c = 63
  · rw [if_pos (show nI c = 63 by rw [h8]; rfl), h8]; rfl
  rw [if_neg (show ¬ nI c = 63 by simp (disch := omega) only [lt_litR, lt_litL, eq_litR, eq_litL, lt_nn, eq_nn, lt_n0, z_cl, add_lit, eq_m1, eq_m1', m1_lt, false_or, or_false, if_pos, if_neg, zbI_some, zbV_some, wr_same, wr_cell, wr_slot, ne_eq, not_true_eq_false, not_false_eq_true, true_and, and_true, false_and, and_false, e10, e01, e00, if_true, if_false, Bool.false_eq_true, lit_ne, lit_lt, eq_self]; exact h8)]
  by_cases h9 : c = 91
  · rw [if_pos (show nI c = 91 by rw [h9]; rfl), h9]; rfl
  rw [if_neg (show ¬ nI c = 91 by simp (disch := omega) only [lt_litR, lt_litL, eq_litR, eq_litL, lt_nn, eq_nn, lt_n0, z_cl, add_lit, eq_m1, eq_m1', m1_lt, false_or, or_false, if_pos, if_neg, zbI_some, zbV_some, wr_same, wr_cell, wr_slot, ne_eq, not_true_eq_false, not_false_eq_true, true_and, and_true, false_and, and_false, e10, e01, e00, if_true, if_false, Bool.false_eq_true, lit_ne, lit_lt, eq_self]; exact h9)]
  by_cases h10 : c = 93
  · rw [if_pos (show nI c = 93 by rw [h10]; rfl), h10]; rfl
  rw [if_neg (show ¬ nI c = 93 by simp (disch := omega) only [lt_litR, lt_litL, eq_litR, eq_litL, lt_nn, eq_nn, lt_n0, z_cl, add_lit, eq_m1, eq_m1', m1_lt, false_or, or_false, if_pos, if_neg, zbI_some, zbV_some, wr_same, wr_cell, wr_slot, ne_eq, not_true_eq_false, not_false_eq_true, true_and, and_true, false_and, and_false, e10, e01, e00, if_true, if_false, Bool.false_eq_true, lit_ne, lit_lt, eq_self]; exact h10)]
  by_cases h11 : c = 124
  · rw [if_pos (show nI c = 124 by rw [h11]; rfl), h11]; rfl
  rw [if_neg (show ¬ nI c = 124 by simp (disch := omega) only [lt_litR, lt_litL, eq_litR, eq_litL, lt_nn, eq_nn, lt_n0, z_cl, add_lit, eq_m1, eq_m1', m1_lt, false_or, or_false, if_pos, if_neg, zbI_some, zbV_some, wr_same, wr_cell, wr_slot, ne_eq, not_true_eq_false, not_false_eq_true, true_and, and_true, false_and, and_false, e10, e01, e00, if_true, if_false, Bool.false_eq_true, lit_ne, lit_lt, eq_self]; exact h11)]
  by_cases h12 : c = 44
  · rw [if_pos (show nI c = 44 by rw [h12]; rfl), h12]; rfl
  rw [if_neg (show ¬ nI c = 44 by simp (disch := omega) only [lt_litR, lt_litL, eq_litR, eq_litL, lt_nn, eq_nn, lt_n0, z_cl, add_lit, eq_m1, eq_m1', m1_lt, false_or, or_false, if_pos, if_neg, zbI_some, zbV_some, wr_same, wr_cell, wr_slot, ne_eq, not_true_eq_false, not_false_eq_true, true_and, and_true, false_and, and_false, e10, e01, e00, if_true, if_false, Bool.false_eq_true, lit_ne, lit_lt, eq_self]; exact h12)]
  by_cases h13 : c = 64
  · rw [if_pos (show nI c = 64 by rw [h13]; rfl), h13]; rfl
  rw [if_neg (show ¬ nI c = 64 by simp (disch := omega) only [lt_litR, lt_litL, eq_litR, eq_litL, lt_nn, eq_nn, lt_n0, z_cl, add_lit, eq_m1, eq_m1', m1_lt, false_or, or_false, if_pos, if_neg, zbI_some, zbV_some, wr_same, wr_cell, wr_slot, ne_eq, not_true_eq_false, not_false_eq_true, true_and, and_true, false_and, and_false, e10, e01, e00, if_true, if_false, Bool.false_eq_true, lit_ne, lit_lt, eq_self]; exact h13)]
  simp [isG, h0, h1, h2, h3, h4, h5, h6, h7, h8, h9, h10, h11, h12, h13]
def mTk (τ : zS) (j : Nat) (k p v : Int32) : zS := wr (wr (wr (wr τ 40 j k) 41 j p) 42 j v) 38 4 (nI (j + 1))
theorem m_token (d : Nat) {τ : zS} {j : Nat} (h : τ 38 4 = nI j) (hj : j < 402) (k p v : Int32) : zM (d + 1) mX8_token [.inr (.inr 38), .inl k, .inl p, .inl v] τ = some (0, 0, mTk τ j k p v) := by
  rw [qX8_token_38, qX8_token_38_0, mTk]
  simp (disch := omega) only [lt_litR, lt_litL, eq_litR, eq_litL, lt_nn, eq_nn, lt_n0, z_cl, add_lit, eq_m1, eq_m1', m1_lt, false_or, or_false, if_pos, if_neg, zbI_some, zbV_some, wr_same, wr_cell, wr_slot, ne_eq, not_true_eq_false, not_false_eq_true, true_and, and_true, false_and, and_false, e10, e01, e00, if_true, if_false, Bool.false_eq_true, lit_ne, lit_lt, eq_self, h]
set_option maxRecDepth 20000 in
theorem shl_or {a c : Nat} (hc : c < 256) (h : a * 256 + c < 2 ^ 31) : (nI a <<< ((8 : Int32) &&& 31)) ||| nI c = nI (a * 256 + c) := by
  have h1 : nI a <<< ((8 : Int32) &&& 31) = nI (a * 2 ^ 8) := pk_shlN ((8 : Int32) &&& 31) 8 (by decide) (by omega)
  rw [h1]
  apply Int32.toBitVec_inj.mp
  apply BitVec.eq_of_toNat_eq
  have e1 : ∀ n, n < 2 ^ 32 → (nI n).toBitVec.toNat = n := fun n hn => pk_tn hn
  rw [show (nI (a * 2 ^ 8) ||| nI c).toBitVec = (nI (a * 2 ^ 8)).toBitVec ||| (nI c).toBitVec from rfl, BitVec.toNat_or, e1 _ (by omega), e1 _ (by omega), e1 _ (by omega)]
  have := Nat.shiftLeft_add_eq_or_of_lt (a := a) (i := 8) (b := c) (by omega)
  rw [Nat.shiftLeft_eq] at this
  rw [← this]
def pkd (t : Nat → Nat) (p : Nat) : Nat → Nat
  | 0 => 0
  | k + 1 => pkd t p k * 256 + t (p + k)
def mNm (t : Nat → Nat) (p n : Nat) : Int32 := if n = 1 then (if t p < 105 then nI (20 + (t p - 97)) else 0) else mWord t p n
theorem m_spelt (d : Nat) (σ : zS) (a b c e : Int32) : zM (d + 1) mX8_spelt [.inl a, .inl b, .inl c, .inl e] σ = some (1, (((((a <<< (8 &&& 31)) ||| b) <<< (8 &&& 31)) ||| c) <<< (8 &&& 31)) ||| e, σ) := by
  rw [qX8_spelt, qX8_spelt_0]
theorem m_nameLoop (d : Nat) {τ : zS} {t : Nat → Nat} {m p n : Nat} (H : TM τ t m) (hn : p + n ≤ m) : ∀ (f M k : Nat), 4 - k = f → k ≤ 4 → k ≤ n → f < M → ∃ M', M ≤ M' + f + 1 ∧ zexec zc_X8_nameOf zu_X8_nameOf (zM d) M 38 [.inr (.inr 38), .inl (nI p), .inl (nI n), .inl (nI (pkd t p k)), .inl (nI k)] τ = zexec zc_X8_nameOf zu_X8_nameOf (zM d) M' 71 [.inr (.inr 38), .inl (nI p), .inl (nI n), .inl (nI (pkd t p (if n < 4 then n else 4)))] τ := by
  intro f
  have hm := H.2.1
  induction f with
  | zero =>
    intro M k hf hk hkn hM
    obtain ⟨M, rfl⟩ : ∃ q, M = q + 1 := ⟨M - 1, by omega⟩
    obtain rfl : k = 4 := by omega
    refine ⟨M, by omega, ?_⟩
    rw [qX8_nameOf_38_38, if_neg (show ¬ nI 4 < 4 by decide), if_neg (by omega)]
  | succ f ih =>
    intro M k hf hk hkn hM
    obtain ⟨M, rfl⟩ : ∃ q, M = q + 1 := ⟨M - 1, by omega⟩
    rw [qX8_nameOf_38_38, if_pos (show nI k < 4 from nI_lt (b := 4) (by omega) (by omega))]
    by_cases h : k < n
    · have hc := H.2.2 (p + k) (by omega)
      have hb : pkd t p k * 256 + t (p + k) < 2 ^ 31 := by
        have hb : ∀ k, k ≤ 3 → p + k < m → pkd t p k ≤ 127 * 256 ^ 2 + 127 * 256 + 127 := by
          intro k hk3 hkm
          have c0 := fun i (hi : p + i < m) => (H.2.2 (p + i) hi).2
          rcases (show k = 0 ∨ k = 1 ∨ k = 2 ∨ k = 3 by omega) with rfl | rfl | rfl | rfl
          · simp [pkd]
          · have := c0 0 (by omega); simp [pkd] at this ⊢; omega
          · have h0 := c0 0 (by omega); have h1 := c0 1 (by omega); simp [pkd] at h0 h1 ⊢; omega
          · have h0 := c0 0 (by omega); have h1 := c0 1 (by omega); have h2 := c0 2 (by omega); simp [pkd] at h0 h1 h2 ⊢; omega
        have := hb k (by omega) (by omega)
        omega
      rw [if_pos (nI_lt h (by omega)), nI_add, if_neg (nI_in (by omega) (by omega)), z_cl (by omega), hc.1, shl_or (by omega) hb, nI_1]
      obtain ⟨M', e1, e2⟩ := ih M (k + 1) (by omega) (by omega) (by omega) (by omega)
      exact ⟨M', by omega, e2⟩
    · obtain rfl : k = n := by omega
      refine ⟨M, by omega, ?_⟩
      rw [if_neg (nI_nlt (Nat.le_refl _) (by omega)), if_pos (by omega)]
theorem m_nameOf (d : Nat) {τ : zS} {t : Nat → Nat} {m p n : Nat} (H : TM τ t m) (hn : p + n ≤ m) (hn1 : 1 ≤ n) (hL : isL (t p) = true) : zM (d + 2) mX8_nameOf [.inr (.inr 38), .inl (nI p), .inl (nI n)] τ = some (1, mNm t p n, τ) := by
  have hm := H.2.1
  have hc := H.2.2
  have hL2 := hL
  simp only [isL, decide_eq_true_eq] at hL2
  rw [qX8_nameOf_38, qX8_nameOf_38_0, mNm]
  by_cases h1 : n = 1
  · rw [if_pos (show nI n = 1 by rw [h1]; rfl), if_pos h1, if_neg (nI_in (by omega) (by omega)), z_cl (by omega), (hc p (by omega)).1]
    by_cases h5 : t p < 105
    · rw [if_neg (show ¬ (104 : Int32) < nI (t p) from nI_nlt (b := t p) (a := 104) (by omega) (by omega)), if_neg (nin (by omega) (by omega)), if_pos h5]
      have : (20 : Int32) + nI (t p) - 97 = nI (20 + (t p - 97)) := by
        show nI 20 + nI (t p) - nI 97 = _
        rw [nI_add, pk_sub (by omega)]
        congr 1
        omega
      rw [this]
    · rw [if_pos (show (104 : Int32) < nI (t p) from nI_lt (a := 104) (by omega) (by omega)), if_neg h5]
  · rw [if_neg (show ¬ nI n = 1 by simp (disch := omega) only [lt_litR, lt_litL, eq_litR, eq_litL, lt_nn, eq_nn, lt_n0, z_cl, add_lit, eq_m1, eq_m1', m1_lt, false_or, or_false, if_pos, if_neg, zbI_some, zbV_some, wr_same, wr_cell, wr_slot, ne_eq, not_true_eq_false, not_false_eq_true, true_and, and_true, false_and, and_false, e10, e01, e00, if_true, if_false, Bool.false_eq_true, lit_ne, lit_lt, eq_self]; exact h1), if_neg h1, show (0 : Int32) = nI 0 from rfl]
    obtain ⟨M', e1, e2⟩ := m_nameLoop (d + 1) H hn 4 999999 0 (by omega) (by omega) (by omega) (by omega)
    obtain ⟨M', rfl⟩ : ∃ q, M' = q + 3 := ⟨M' - 3, by omega⟩
    rw [show pkd t p 0 = 0 from rfl] at e2
    rw [e2, qX8_nameOf_38_71, mWord]
    have c0 := (hc (p + 0) (by omega)).2
    have c1 := (hc (p + 1) (by omega)).2
    by_cases h3 : n = 3
    · have c2 := (hc (p + 2) (by omega)).2
      subst h3
      have eqs : ∀ a b c : Nat, a < 256 → b < 256 → c < 256 → ∀ x : Int32, x = nI (a * 65536 + b * 256 + c) → ((nI (pkd t p 3) = x) = (t (p + 0) = a ∧ t (p + 1) = b ∧ t (p + 2) = c)) := by
        intro a b c ha hb hc x hx
        rw [hx, eq_nn (by simp only [pkd]; omega) (by omega)]
        simp only [pkd]
        apply propext
        omega
      rw [if_neg (show ¬ nI 3 = 5 by decide), if_pos (show nI 3 = 3 from rfl), if_pos rfl, if_pos (show (3 : Nat) < 4 by decide)]
      simp only [m_spelt, zbI_some, w_act, w_any, w_sig, w_now, decide_eq_true_eq, eqs 97 99 116 (by omega) (by omega) (by omega) _ (show (((((0 : Int32) <<< (8 &&& 31)) ||| 97) <<< (8 &&& 31)) ||| 99) <<< (8 &&& 31) ||| 116 = nI (97 * 65536 + 99 * 256 + 116) by decide), eqs 97 110 121 (by omega) (by omega) (by omega) _ (show (((((0 : Int32) <<< (8 &&& 31)) ||| 97) <<< (8 &&& 31)) ||| 110) <<< (8 &&& 31) ||| 121 = nI (97 * 65536 + 110 * 256 + 121) by decide), eqs 115 105 103 (by omega) (by omega) (by omega) _ (show (((((0 : Int32) <<< (8 &&& 31)) ||| 115) <<< (8 &&& 31)) ||| 105) <<< (8 &&& 31) ||| 103 = nI (115 * 65536 + 105 * 256 + 103) by decide), eqs 110 111 119 (by omega) (by omega) (by omega) _ (show (((((0 : Int32) <<< (8 &&& 31)) ||| 110) <<< (8 &&& 31)) ||| 111) <<< (8 &&& 31) ||| 119 = nI (110 * 65536 + 111 * 256 + 119) by decide)]
      by_cases q1 : t (p + 0) = 97 ∧ t (p + 1) = 99 ∧ t (p + 2) = 116
      · rw [if_pos q1, if_pos q1]
      rw [if_neg q1, if_neg q1]
      by_cases q2 : t (p + 0) = 97 ∧ t (p + 1) = 110 ∧ t (p + 2) = 121
      · rw [if_pos q2, if_pos q2]
      rw [if_neg q2, if_neg q2]
      by_cases q3 : t (p + 0) = 115 ∧ t (p + 1) = 105 ∧ t (p + 2) = 103
      · rw [if_pos q3, if_pos q3]
      rw [if_neg q3, if_neg q3]
      by_cases q4 : t (p + 0) = 110 ∧ t (p + 1) = 111 ∧ t (p + 2) = 119
      · rw [if_pos q4, if_pos q4]
      rw [if_neg q4, if_neg q4]
    · have eqs : 4 ≤ n → ∀ a b c e : Nat, a < 128 → b < 256 → c < 256 → e < 256 → ∀ x : Int32, x = nI (a * 16777216 + b * 65536 + c * 256 + e) → ((nI (pkd t p 4) = x) = (t (p + 0) = a ∧ t (p + 1) = b ∧ t (p + 2) = c ∧ t (p + 3) = e)) := by
        intro h4 a b c e ha hb hcc he x hx
        have c2 := (hc (p + 2) (by omega)).2
        have c3 := (hc (p + 3) (by omega)).2
        rw [hx, eq_nn (by simp only [pkd]; omega) (by omega)]
        simp only [pkd]
        apply propext
        omega
      by_cases h4 : n = 4
      · subst h4
        rw [if_neg (show ¬ nI 4 = 5 by decide), if_neg (show ¬ nI 4 = 3 by decide), if_pos (show nI 4 = 4 from rfl), if_neg (show ¬ (4 : Nat) = 3 by decide), if_pos rfl, if_neg (show ¬ (4 : Nat) < 4 by decide)]
        simp only [m_spelt, zbI_some, w_stop, w_wait, decide_eq_true_eq, eqs (by omega) 115 116 111 112 (by omega) (by omega) (by omega) (by omega) _ (show (((((115 : Int32) <<< (8 &&& 31)) ||| 116) <<< (8 &&& 31)) ||| 111) <<< (8 &&& 31) ||| 112 = nI (115 * 16777216 + 116 * 65536 + 111 * 256 + 112) by decide), eqs (by omega) 119 97 105 116 (by omega) (by omega) (by omega) (by omega) _ (show (((((119 : Int32) <<< (8 &&& 31)) ||| 97) <<< (8 &&& 31)) ||| 105) <<< (8 &&& 31) ||| 116 = nI (119 * 16777216 + 97 * 65536 + 105 * 256 + 116) by decide)]
        by_cases q1 : t (p + 0) = 115 ∧ t (p + 1) = 116 ∧ t (p + 2) = 111 ∧ t (p + 3) = 112
        · rw [if_pos q1, if_pos q1]
        rw [if_neg q1, if_neg q1]
        by_cases q2 : t (p + 0) = 119 ∧ t (p + 1) = 97 ∧ t (p + 2) = 105 ∧ t (p + 3) = 116
        · rw [if_pos q2, if_pos q2]
        rw [if_neg q2, if_neg q2]
      · by_cases h5 : n = 5
        · subst h5
          have hl := hc (p + 4) (by omega)
          have e4 : nI p + 4 = nI (p + 4) := nI_add p 4
          rw [if_pos (show nI 5 = 5 from rfl), e4, if_neg (nI_in (show p + 4 < 400 by omega) (by omega)), if_neg (show ¬ nI 5 = 3 by decide), if_neg (show ¬ nI 5 = 4 by decide), if_pos (show nI 5 = 5 from rfl), if_neg (show ¬ (5 : Nat) = 3 by decide), if_neg (show ¬ (5 : Nat) = 4 by decide), if_pos rfl, if_neg (show ¬ (5 : Nat) < 4 by decide), z_cl (by omega), hl.1, m_spelt, zbI_some, qX8_nameOf_38_250, m_spelt, zbI_some, qX8_nameOf_38_276, m_spelt, zbI_some]
          have l1 : (nI (t (p + 4)) = 114) = (t (p + 4) = 114) := by simp (disch := omega) only [lt_litR, lt_litL, eq_litR, eq_litL, lt_nn, eq_nn, lt_n0, z_cl, add_lit, eq_m1, eq_m1', m1_lt, false_or, or_false, if_pos, if_neg, zbI_some, zbV_some, wr_same, wr_cell, wr_slot, ne_eq, not_true_eq_false, not_false_eq_true, true_and, and_true, false_and, and_false, e10, e01, e00, if_true, if_false, Bool.false_eq_true, lit_ne, lit_lt, eq_self]
          have l2 : (nI (t (p + 4)) = 100) = (t (p + 4) = 100) := by simp (disch := omega) only [lt_litR, lt_litL, eq_litR, eq_litL, lt_nn, eq_nn, lt_n0, z_cl, add_lit, eq_m1, eq_m1', m1_lt, false_or, or_false, if_pos, if_neg, zbI_some, zbV_some, wr_same, wr_cell, wr_slot, ne_eq, not_true_eq_false, not_false_eq_true, true_and, and_true, false_and, and_false, e10, e01, e00, if_true, if_false, Bool.false_eq_true, lit_ne, lit_lt, eq_self]
          have l3 : (nI (t (p + 4)) = 104) = (t (p + 4) = 104) := by simp (disch := omega) only [lt_litR, lt_litL, eq_litR, eq_litL, lt_nn, eq_nn, lt_n0, z_cl, add_lit, eq_m1, eq_m1', m1_lt, false_or, or_false, if_pos, if_neg, zbI_some, zbV_some, wr_same, wr_cell, wr_slot, ne_eq, not_true_eq_false, not_false_eq_true, true_and, and_true, false_and, and_false, e10, e01, e00, if_true, if_false, Bool.false_eq_true, lit_ne, lit_lt, eq_self]
          simp only [m_spelt, zbI_some, w_timer, w_ended, w_patch, decide_eq_true_eq, l1, l2, l3, eqs (by omega) 116 105 109 101 (by omega) (by omega) (by omega) (by omega) _ (show (((((116 : Int32) <<< (8 &&& 31)) ||| 105) <<< (8 &&& 31)) ||| 109) <<< (8 &&& 31) ||| 101 = nI (116 * 16777216 + 105 * 65536 + 109 * 256 + 101) by decide), eqs (by omega) 101 110 100 101 (by omega) (by omega) (by omega) (by omega) _ (show (((((101 : Int32) <<< (8 &&& 31)) ||| 110) <<< (8 &&& 31)) ||| 100) <<< (8 &&& 31) ||| 101 = nI (101 * 16777216 + 110 * 65536 + 100 * 256 + 101) by decide), eqs (by omega) 112 97 116 99 (by omega) (by omega) (by omega) (by omega) _ (show (((((112 : Int32) <<< (8 &&& 31)) ||| 97) <<< (8 &&& 31)) ||| 116) <<< (8 &&& 31) ||| 99 = nI (112 * 16777216 + 97 * 65536 + 116 * 256 + 99) by decide)]
          by_cases a1 : t (p + 0) = 116 ∧ t (p + 1) = 105 ∧ t (p + 2) = 109 ∧ t (p + 3) = 101
          · have b1 : ¬ (t (p + 0) = 101 ∧ t (p + 1) = 110 ∧ t (p + 2) = 100 ∧ t (p + 3) = 101) := by omega
            have b2 : ¬ (t (p + 0) = 112 ∧ t (p + 1) = 97 ∧ t (p + 2) = 116 ∧ t (p + 3) = 99) := by omega
            by_cases a2 : t (p + 4) = 114
            · rw [if_pos a1, if_pos a2, if_pos (by omega)]
            · rw [if_pos a1, if_neg a2, if_neg b1, if_neg b2, if_neg (by omega), if_neg (by omega), if_neg (by omega)]
          · rw [if_neg a1, if_neg (show ¬ (t (p + 0) = 116 ∧ t (p + 1) = 105 ∧ t (p + 2) = 109 ∧ t (p + 3) = 101 ∧ t (p + 4) = 114) from fun h => a1 ⟨h.1, h.2.1, h.2.2.1, h.2.2.2.1⟩)]
            by_cases a2 : t (p + 0) = 101 ∧ t (p + 1) = 110 ∧ t (p + 2) = 100 ∧ t (p + 3) = 101
            · have b2 : ¬ (t (p + 0) = 112 ∧ t (p + 1) = 97 ∧ t (p + 2) = 116 ∧ t (p + 3) = 99) := by omega
              by_cases a3 : t (p + 4) = 100
              · rw [if_pos a2, if_pos a3, if_pos (by omega)]
              · rw [if_pos a2, if_neg a3, if_neg b2, if_neg (by omega), if_neg (by omega)]
            · rw [if_neg a2, if_neg (show ¬ (t (p + 0) = 101 ∧ t (p + 1) = 110 ∧ t (p + 2) = 100 ∧ t (p + 3) = 101 ∧ t (p + 4) = 100) from fun h => a2 ⟨h.1, h.2.1, h.2.2.1, h.2.2.2.1⟩)]
              by_cases a3 : t (p + 0) = 112 ∧ t (p + 1) = 97 ∧ t (p + 2) = 116 ∧ t (p + 3) = 99
              · by_cases a4 : t (p + 4) = 104
                · rw [if_pos a3, if_pos a4, if_pos (by omega)]
                · rw [if_pos a3, if_neg a4, if_neg (by omega)]
              · rw [if_neg a3, if_neg (show ¬ (t (p + 0) = 112 ∧ t (p + 1) = 97 ∧ t (p + 2) = 116 ∧ t (p + 3) = 99 ∧ t (p + 4) = 104) from fun h => a3 ⟨h.1, h.2.1, h.2.2.1, h.2.2.2.1⟩)]
        · rw [if_neg (show ¬ nI n = 5 by simp (disch := omega) only [lt_litR, lt_litL, eq_litR, eq_litL, lt_nn, eq_nn, lt_n0, z_cl, add_lit, eq_m1, eq_m1', m1_lt, false_or, or_false, if_pos, if_neg, zbI_some, zbV_some, wr_same, wr_cell, wr_slot, ne_eq, not_true_eq_false, not_false_eq_true, true_and, and_true, false_and, and_false, e10, e01, e00, if_true, if_false, Bool.false_eq_true, lit_ne, lit_lt, eq_self]; exact h5), if_neg (show ¬ nI n = 3 by simp (disch := omega) only [lt_litR, lt_litL, eq_litR, eq_litL, lt_nn, eq_nn, lt_n0, z_cl, add_lit, eq_m1, eq_m1', m1_lt, false_or, or_false, if_pos, if_neg, zbI_some, zbV_some, wr_same, wr_cell, wr_slot, ne_eq, not_true_eq_false, not_false_eq_true, true_and, and_true, false_and, and_false, e10, e01, e00, if_true, if_false, Bool.false_eq_true, lit_ne, lit_lt, eq_self]; exact h3), if_neg (show ¬ nI n = 4 by simp (disch := omega) only [lt_litR, lt_litL, eq_litR, eq_litL, lt_nn, eq_nn, lt_n0, z_cl, add_lit, eq_m1, eq_m1', m1_lt, false_or, or_false, if_pos, if_neg, zbI_some, zbV_some, wr_same, wr_cell, wr_slot, ne_eq, not_true_eq_false, not_false_eq_true, true_and, and_true, false_and, and_false, e10, e01, e00, if_true, if_false, Bool.false_eq_true, lit_ne, lit_lt, eq_self]; exact h4), if_neg h3, if_neg h4, if_neg h5, if_neg (show ¬ nI n = 5 by simp (disch := omega) only [lt_litR, lt_litL, eq_litR, eq_litL, lt_nn, eq_nn, lt_n0, z_cl, add_lit, eq_m1, eq_m1', m1_lt, false_or, or_false, if_pos, if_neg, zbI_some, zbV_some, wr_same, wr_cell, wr_slot, ne_eq, not_true_eq_false, not_false_eq_true, true_and, and_true, false_and, and_false, e10, e01, e00, if_true, if_false, Bool.false_eq_true, lit_ne, lit_lt, eq_self]; exact h5)]
