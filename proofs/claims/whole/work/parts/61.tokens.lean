-- tokens: the class
def isL (c : Nat) : Bool := decide (97 ≤ c ∧ c ≤ 122)
def isD (c : Nat) : Bool := decide (48 ≤ c ∧ c ≤ 57)
def rE (Q : Nat → Bool) (t : Nat → Nat) (m : Nat) : Nat → Nat → Nat
  | 0, p => p
  | f + 1, p => if p < m ∧ Q (t p) = true then rE Q t m f (p + 1) else p
theorem rE_spec (Q : Nat → Bool) (t : Nat → Nat) (m : Nat) : ∀ f p, p ≤ m → m - p ≤ f → p ≤ rE Q t m f p ∧ rE Q t m f p ≤ m ∧ (∀ q, p ≤ q → q < rE Q t m f p → Q (t q) = true) ∧ (rE Q t m f p = m ∨ (rE Q t m f p < m ∧ Q (t (rE Q t m f p)) = false)) := by
  intro f
  induction f with
  | zero => intro p h1 h2; exact ⟨Nat.le_refl _, h1, fun q q1 q2 => by rw [rE] at q2; omega, Or.inl (by rw [rE]; omega)⟩
  | succ f ih =>
    intro p h1 h2
    rw [rE]
    by_cases hc : p < m ∧ Q (t p) = true
    · rw [if_pos hc]
      obtain ⟨a1, a2, a3, a4⟩ := ih (p + 1) (by omega) (by omega)
      refine ⟨by omega, a2, fun q q1 q2 => ?_, a4⟩
      by_cases hq : q = p
      · subst hq; exact hc.2
      · exact a3 q (by omega) q2
    · rw [if_neg hc]
      refine ⟨Nat.le_refl _, h1, fun q q1 q2 => by omega, ?_⟩
      by_cases hp : p = m
      · exact Or.inl hp
      · refine Or.inr ⟨by omega, ?_⟩
        cases hq : Q (t p) with
        | false => rfl
        | true => exact absurd ⟨by omega, hq⟩ hc
def TT (σ : zS) (t : Nat → Nat) (m : Nat) : Prop := σ 1 1 = nI m ∧ m ≤ 400 ∧ ∀ i, i < m → σ 2 i = nI (t i) ∧ 32 ≤ t i ∧ t i ≤ 126
theorem c_length (d : Nat) (σ : zS) : zM (d + 1) mX5_length [.inr (.inr 1)] σ = some (1, σ 1 1, σ) := by
  rw [qX5_length_1, qX5_length_1_0]
theorem c_at (d : Nat) {σ : zS} {t : Nat → Nat} {m p : Nat} (H : TT σ t m) (hp : p < m) : zM (d + 1) mX5_at [.inr (.inr 1), .inl (nI p)] σ = some (1, nI (t p), σ) := by
  obtain ⟨h1, h2, h3⟩ := H
  rw [qX5_at_1, qX5_at_1_0, h1]
  simp (disch := omega) only [lt_litR, lt_litL, eq_litR, eq_litL, lt_nn, eq_nn, lt_n0, z_cl, add_lit, eq_m1, eq_m1', m1_lt, false_or, or_false, if_pos, if_neg, zbI_some, zbV_some, wr_same, wr_cell, wr_slot, ne_eq, not_true_eq_false, not_false_eq_true, true_and, and_true, false_and, and_false, e10, e01, e00, if_true, if_false, Bool.false_eq_true, lit_ne, lit_lt, eq_self, (h3 p hp).1]
theorem c_at_out (d : Nat) {σ : zS} {t : Nat → Nat} {m p : Nat} (H : TT σ t m) (hp : m ≤ p) (hp2 : p < 2 ^ 31) : zM (d + 1) mX5_at [.inr (.inr 1), .inl (nI p)] σ = some (1, -1, σ) := by
  obtain ⟨h1, h2, h3⟩ := H
  rw [qX5_at_1, qX5_at_1_0, h1]
  simp (disch := omega) only [lt_litR, lt_litL, eq_litR, eq_litL, lt_nn, eq_nn, lt_n0, z_cl, add_lit, eq_m1, eq_m1', m1_lt, false_or, or_false, if_pos, if_neg, zbI_some, zbV_some, wr_same, wr_cell, wr_slot, ne_eq, not_true_eq_false, not_false_eq_true, true_and, and_true, false_and, and_false, e10, e01, e00, if_true, if_false, Bool.false_eq_true, lit_ne, lit_lt, eq_self]
theorem c_at_neg (d : Nat) (σ : zS) : zM (d + 1) mX5_at [.inr (.inr 1), .inl (-1)] σ = some (1, -1, σ) := by
  rw [qX5_at_1, qX5_at_1_0, if_pos (by decide)]
theorem c_isLetter (d : Nat) (σ : zS) {c : Nat} (hc : c < 1000) : zM (d + 1) mX6_isLetter [.inl (nI c)] σ = some (1, if isL c then 1 else 0, σ) := by
  rw [qX6_isLetter, qX6_isLetter_0, isL]
  by_cases h1 : c < 97
  · have : ¬ (97 ≤ c ∧ c ≤ 122) := by omega
    simp (disch := omega) only [lt_litR, lt_litL, eq_litR, eq_litL, lt_nn, eq_nn, lt_n0, z_cl, add_lit, eq_m1, eq_m1', m1_lt, false_or, or_false, if_pos, if_neg, zbI_some, zbV_some, wr_same, wr_cell, wr_slot, ne_eq, not_true_eq_false, not_false_eq_true, true_and, and_true, false_and, and_false, e10, e01, e00, if_true, if_false, Bool.false_eq_true, lit_ne, lit_lt, eq_self, this, decide_false]
  · by_cases h2 : 122 < c
    · have : ¬ (97 ≤ c ∧ c ≤ 122) := by omega
      simp (disch := omega) only [lt_litR, lt_litL, eq_litR, eq_litL, lt_nn, eq_nn, lt_n0, z_cl, add_lit, eq_m1, eq_m1', m1_lt, false_or, or_false, if_pos, if_neg, zbI_some, zbV_some, wr_same, wr_cell, wr_slot, ne_eq, not_true_eq_false, not_false_eq_true, true_and, and_true, false_and, and_false, e10, e01, e00, if_true, if_false, Bool.false_eq_true, lit_ne, lit_lt, eq_self, this, decide_false]
    · have : 97 ≤ c ∧ c ≤ 122 := by omega
      simp (disch := omega) only [lt_litR, lt_litL, eq_litR, eq_litL, lt_nn, eq_nn, lt_n0, z_cl, add_lit, eq_m1, eq_m1', m1_lt, false_or, or_false, if_pos, if_neg, zbI_some, zbV_some, wr_same, wr_cell, wr_slot, ne_eq, not_true_eq_false, not_false_eq_true, true_and, and_true, false_and, and_false, e10, e01, e00, if_true, if_false, Bool.false_eq_true, lit_ne, lit_lt, eq_self, this, decide_true]
theorem c_isDigit (d : Nat) (σ : zS) {c : Nat} (hc : c < 1000) : zM (d + 1) mX6_isDigit [.inl (nI c)] σ = some (1, if isD c then 1 else 0, σ) := by
  rw [qX6_isDigit, qX6_isDigit_0, isD]
  by_cases h1 : c < 48
  · have : ¬ (48 ≤ c ∧ c ≤ 57) := by omega
    simp (disch := omega) only [lt_litR, lt_litL, eq_litR, eq_litL, lt_nn, eq_nn, lt_n0, z_cl, add_lit, eq_m1, eq_m1', m1_lt, false_or, or_false, if_pos, if_neg, zbI_some, zbV_some, wr_same, wr_cell, wr_slot, ne_eq, not_true_eq_false, not_false_eq_true, true_and, and_true, false_and, and_false, e10, e01, e00, if_true, if_false, Bool.false_eq_true, lit_ne, lit_lt, eq_self, this, decide_false]
  · by_cases h2 : 57 < c
    · have : ¬ (48 ≤ c ∧ c ≤ 57) := by omega
      simp (disch := omega) only [lt_litR, lt_litL, eq_litR, eq_litL, lt_nn, eq_nn, lt_n0, z_cl, add_lit, eq_m1, eq_m1', m1_lt, false_or, or_false, if_pos, if_neg, zbI_some, zbV_some, wr_same, wr_cell, wr_slot, ne_eq, not_true_eq_false, not_false_eq_true, true_and, and_true, false_and, and_false, e10, e01, e00, if_true, if_false, Bool.false_eq_true, lit_ne, lit_lt, eq_self, this, decide_false]
    · have : 48 ≤ c ∧ c ≤ 57 := by omega
      simp (disch := omega) only [lt_litR, lt_litL, eq_litR, eq_litL, lt_nn, eq_nn, lt_n0, z_cl, add_lit, eq_m1, eq_m1', m1_lt, false_or, or_false, if_pos, if_neg, zbI_some, zbV_some, wr_same, wr_cell, wr_slot, ne_eq, not_true_eq_false, not_false_eq_true, true_and, and_true, false_and, and_false, e10, e01, e00, if_true, if_false, Bool.false_eq_true, lit_ne, lit_lt, eq_self, this, decide_true]
theorem c_isLetter_neg (d : Nat) (σ : zS) : zM (d + 1) mX6_isLetter [.inl (-1)] σ = some (1, 0, σ) := by
  rw [qX6_isLetter, qX6_isLetter_0, if_pos (by decide)]
theorem c_isDigit_neg (d : Nat) (σ : zS) : zM (d + 1) mX6_isDigit [.inl (-1)] σ = some (1, 0, σ) := by
  rw [qX6_isDigit, qX6_isDigit_0, if_pos (by decide)]
/-- a token begins here -/
def isS (t : Nat → Nat) (p : Nat) : Bool := decide (¬ t p = 32) && !(isL (t p) && decide (0 < p) && isL (t (p - 1))) && !(isD (t p) && decide (0 < p) && isD (t (p - 1)))
theorem c_isStart (d : Nat) {σ : zS} {t : Nat → Nat} {m p : Nat} (H : TT σ t m) (hp : p < m) : zM (d + 2) mX6_isStart [.inr (.inr 1), .inl (nI p)] σ = some (1, if isS t p then 1 else 0, σ) := by
  obtain ⟨h1, h2, h3⟩ := H
  have H0 : TT σ t m := ⟨h1, h2, h3⟩
  have hc := (h3 p hp).2
  rw [qX6_isStart_1, qX6_isStart_1_0, c_at d H0 hp, zbI_some, isS]
  by_cases hp0 : p = 0
  · subst hp0
    have e1 : nI 0 - 1 = (-1 : Int32) := rfl
    have hL := fun s' => c_isLetter d s' (c := t 0) (by omega)
    have hDg := fun s' => c_isDigit d s' (c := t 0) (by omega)
    rw [e1, c_at_neg, zbI_some]
    by_cases h32 : t 0 = 32
    · have hne : nI (t 0) = 32 := by simp (disch := omega) only [lt_litR, lt_litL, eq_litR, eq_litL, lt_nn, eq_nn, lt_n0, z_cl, add_lit, eq_m1, eq_m1', m1_lt, false_or, or_false, if_pos, if_neg, zbI_some, zbV_some, wr_same, wr_cell, wr_slot, ne_eq, not_true_eq_false, not_false_eq_true, true_and, and_true, false_and, and_false, e10, e01, e00, if_true, if_false, Bool.false_eq_true, lit_ne, lit_lt, eq_self]; exact h32
      rw [if_pos hne]
      simp [h32]
    · have hne : ¬ nI (t 0) = 32 := by simp (disch := omega) only [lt_litR, lt_litL, eq_litR, eq_litL, lt_nn, eq_nn, lt_n0, z_cl, add_lit, eq_m1, eq_m1', m1_lt, false_or, or_false, if_pos, if_neg, zbI_some, zbV_some, wr_same, wr_cell, wr_slot, ne_eq, not_true_eq_false, not_false_eq_true, true_and, and_true, false_and, and_false, e10, e01, e00, if_true, if_false, Bool.false_eq_true, lit_ne, lit_lt, eq_self]; exact h32
      rw [if_neg hne]
      simp only [hL, hDg, c_isLetter_neg, c_isDigit_neg, zbI_some]
      cases isL (t 0) <;> cases isD (t 0) <;> simp [h32]
  · have hc2 := (h3 (p - 1) (by omega)).2
    have e1 : nI p - 1 = nI (p - 1) := by
      obtain ⟨q, rfl⟩ : ∃ q, p = q + 1 := ⟨p - 1, by omega⟩
      exact nI_pred q
    have hpos : decide (0 < p) = true := by simp; omega
    have hL := fun s' => c_isLetter d s' (c := t p) (by omega)
    have hDg := fun s' => c_isDigit d s' (c := t p) (by omega)
    have hL2 := fun s' => c_isLetter d s' (c := t (p - 1)) (by omega)
    have hD2 := fun s' => c_isDigit d s' (c := t (p - 1)) (by omega)
    rw [e1, c_at d H0 (by omega), zbI_some, hpos]
    by_cases h32 : t p = 32
    · have hne : nI (t p) = 32 := by simp (disch := omega) only [lt_litR, lt_litL, eq_litR, eq_litL, lt_nn, eq_nn, lt_n0, z_cl, add_lit, eq_m1, eq_m1', m1_lt, false_or, or_false, if_pos, if_neg, zbI_some, zbV_some, wr_same, wr_cell, wr_slot, ne_eq, not_true_eq_false, not_false_eq_true, true_and, and_true, false_and, and_false, e10, e01, e00, if_true, if_false, Bool.false_eq_true, lit_ne, lit_lt, eq_self]; exact h32
      rw [if_pos hne]
      simp [h32]
    · have hne : ¬ nI (t p) = 32 := by simp (disch := omega) only [lt_litR, lt_litL, eq_litR, eq_litL, lt_nn, eq_nn, lt_n0, z_cl, add_lit, eq_m1, eq_m1', m1_lt, false_or, or_false, if_pos, if_neg, zbI_some, zbV_some, wr_same, wr_cell, wr_slot, ne_eq, not_true_eq_false, not_false_eq_true, true_and, and_true, false_and, and_false, e10, e01, e00, if_true, if_false, Bool.false_eq_true, lit_ne, lit_lt, eq_self]; exact h32
      rw [if_neg hne]
      simp only [hL, hDg, hL2, hD2, zbI_some]
      cases isL (t p) <;> cases isD (t p) <;> cases isL (t (p - 1)) <;> cases isD (t (p - 1)) <;> simp [h32]
/-- a token is added -/
def cTk (σ : zS) (j : Nat) (k p v : Int32) : zS := wr (wr (wr (wr σ 4 j k) 5 j p) 6 j v) 3 3 (nI (j + 1))
theorem c_tadd (d : Nat) {σ : zS} {j : Nat} (h : σ 3 3 = nI j) (hj : j < 401) (k p v : Int32) : zM (d + 1) mX6_add [.inr (.inr 3), .inl k, .inl p, .inl v] σ = some (0, 0, cTk σ j k p v) := by
  rw [qX6_add_3, qX6_add_3_0, cTk]
  simp (disch := omega) only [lt_litR, lt_litL, eq_litR, eq_litL, lt_nn, eq_nn, lt_n0, z_cl, add_lit, eq_m1, eq_m1', m1_lt, false_or, or_false, if_pos, if_neg, zbI_some, zbV_some, wr_same, wr_cell, wr_slot, ne_eq, not_true_eq_false, not_false_eq_true, true_and, and_true, false_and, and_false, e10, e01, e00, if_true, if_false, Bool.false_eq_true, lit_ne, lit_lt, eq_self, h]
