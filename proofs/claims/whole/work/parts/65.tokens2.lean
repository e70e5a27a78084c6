-- tokens: both sides
def wPair (c m : Int32) : Prop := (c = 1 ∧ m = 1) ∨ (c = 2 ∧ m = 2) ∨ (c = 4 ∧ m = 3) ∨ (c = 5 ∧ m = 4) ∨ (c = 6 ∧ m = 5) ∨ (c = 7 ∧ m = 6) ∨ (c = 8 ∧ m = 7) ∨ (c = 9 ∧ m = 8) ∨ (c = 3 ∧ m = 9)
def TokR (ck cp cv mk mp mv : Int32) : Prop := (cp = mp ∧ ¬ cp < 0) ∧ ((ck = 0 ∧ mk = 0) ∨ (ck = 1 ∧ (mk = 4 ∨ (mk = 1 ∧ mv = 0))) ∨ (∃ r, r < 8 ∧ ck = 2 ∧ cv = nI r ∧ mk = 1 ∧ mv = nI (20 + r)) ∨ (ck = 3 ∧ mk = 2 ∧ mv = cv) ∨ (ck = 4 ∧ mk = 1 ∧ wPair cv mv) ∨ (∃ c, 32 < c ∧ c < 127 ∧ ck = nI c ∧ mk = 3 ∧ mv = nI c))
def tR (σ τ : zS) (i : Nat) : Prop := TokR (σ 4 i) (σ 5 i) (σ 6 i) (τ 40 i) (τ 41 i) (τ 42 i)
theorem word_pair (t : Nat → Nat) (p n : Nat) : (cWord t p n = -1 ∧ mWord t p n = 0) ∨ (¬ cWord t p n = -1 ∧ wPair (cWord t p n) (mWord t p n)) := by
  rw [cWord, mWord]
  by_cases h3 : n = 3
  · rw [if_pos h3, if_pos h3]
    cases w_act t p <;> cases w_any t p <;> cases w_sig t p <;> cases w_now t p <;> simp [wPair]
  · rw [if_neg h3, if_neg h3]
    by_cases h4 : n = 4
    · rw [if_pos h4, if_pos h4]
      cases w_stop t p <;> cases w_wait t p <;> simp [wPair]
    · rw [if_neg h4, if_neg h4]
      by_cases h5 : n = 5
      · rw [if_pos h5, if_pos h5]
        cases w_timer t p <;> cases w_ended t p <;> cases w_patch t p <;> simp [wPair]
      · rw [if_neg h5, if_neg h5]
        exact Or.inl ⟨rfl, rfl⟩
def mNum (t : Nat → Nat) (p : Nat) : Nat → Nat → Int32 → Int32
  | 0, _, x => x
  | f + 1, q, x => mNum t p f (q + 1) (if q - p < 6 then 10 * x + nI (t q) - 48 else x)
theorem num_eq (t : Nat → Nat) (p : Nat) : ∀ (f q : Nat) (x : Int32), q + f ≤ p + 6 → mNum t p f q x = cNum t f q x := by
  intro f
  induction f with
  | zero => intro q x h; rfl
  | succ f ih =>
    intro q x h
    rw [mNum, cNum, if_pos (by omega), ih _ _ (by omega)]
    congr 1
    rw [Int32.mul_comm x 10, Int32.sub_eq_add_neg, Int32.sub_eq_add_neg, Int32.add_assoc]
/-- the reference behind a token -/
theorem m_good (d M k j : Nat) {τ : zS} (h : τ 38 4 = nI (j + 1)) (hj : j < 402) : (if (τ 38 4) = 0 then (zexec zc_X8_tokenize zu_X8_tokenize (zM d) M 9 [.inr (.inr 38), .inl (nI k), .inl 1] τ) else (if ((τ 38 4) - 1) < 0 ∨ 402 ≤ ((τ 38 4) - 1).toNatClampNeg then (none) else (if (τ 40 (((τ 38 4) - 1).toNatClampNeg)) = 4 then (zexec zc_X8_tokenize zu_X8_tokenize (zM d) M 9 [.inr (.inr 38), .inl (nI k), .inl 0] τ) else (zexec zc_X8_tokenize zu_X8_tokenize (zM d) M 9 [.inr (.inr 38), .inl (nI k), .inl 1] τ)))) = zexec zc_X8_tokenize zu_X8_tokenize (zM d) M 9 [.inr (.inr 38), .inl (nI k), .inl (if τ 40 j = 4 then 0 else 1)] τ := by
  rw [h, nI_pred, if_neg (show ¬ nI (j + 1) = 0 by simp (disch := omega) only [lt_litR, lt_litL, eq_litR, eq_litL, lt_nn, eq_nn, lt_n0, z_cl, add_lit, eq_m1, eq_m1', m1_lt, false_or, or_false, if_pos, if_neg, zbI_some, zbV_some, wr_same, wr_cell, wr_slot, ne_eq, not_true_eq_false, not_false_eq_true, true_and, and_true, false_and, and_false, e10, e01, e00, if_true, if_false, Bool.false_eq_true, lit_ne, lit_lt, eq_self]; omega), if_neg (nI_in hj (by omega)), z_cl (by omega)]
  by_cases h4 : τ 40 j = 4
  · rw [if_pos h4, if_pos h4]
  · rw [if_neg h4, if_neg h4]
theorem mTk_38 (τ : zS) (j : Nat) (k p v : Int32) : mTk τ j k p v 38 4 = nI (j + 1) ∧ mTk τ j k p v 40 j = k ∧ mTk τ j k p v 41 j = p ∧ mTk τ j k p v 42 j = v := by
  rw [mTk]; refine ⟨?_, ?_, ?_, ?_⟩ <;> simp (disch := omega) only [lt_litR, lt_litL, eq_litR, eq_litL, lt_nn, eq_nn, lt_n0, z_cl, add_lit, eq_m1, eq_m1', m1_lt, false_or, or_false, if_pos, if_neg, zbI_some, zbV_some, wr_same, wr_cell, wr_slot, ne_eq, not_true_eq_false, not_false_eq_true, true_and, and_true, false_and, and_false, e10, e01, e00, if_true, if_false, Bool.false_eq_true, lit_ne, lit_lt, eq_self]
def uFr (τ τ' : zS) (j : Nat) : Prop := (∀ c, c ≠ 38 → c ≠ 40 → c ≠ 41 → c ≠ 42 → τ' c = τ c) ∧ (∀ k, k ≠ 4 → τ' 38 k = τ 38 k) ∧ (∀ i, i < j → τ' 40 i = τ 40 i ∧ τ' 41 i = τ 41 i ∧ τ' 42 i = τ 42 i)
theorem uFr.rf {τ : zS} {j : Nat} : uFr τ τ j := ⟨fun _ _ _ _ _ => rfl, fun _ _ => rfl, fun _ _ => ⟨rfl, rfl, rfl⟩⟩
theorem uFr.tr {a b c : zS} {i j : Nat} (h : uFr a b i) (h2 : uFr b c j) (hij : i ≤ j) : uFr a c i :=
  ⟨fun x x1 x2 x3 x4 => (h2.1 x x1 x2 x3 x4).trans (h.1 x x1 x2 x3 x4), fun k hk => (h2.2.1 k hk).trans (h.2.1 k hk), fun k hk => by
    obtain ⟨a1, a2, a3⟩ := h2.2.2 k (by omega)
    obtain ⟨b1, b2, b3⟩ := h.2.2 k hk
    exact ⟨a1.trans b1, a2.trans b2, a3.trans b3⟩⟩
theorem mTk_fr (τ : zS) (j : Nat) (k p v : Int32) : uFr τ (mTk τ j k p v) j :=
  ⟨fun c h3 h4 h5 h6 => by rw [mTk]; simp (disch := omega) only [lt_litR, lt_litL, eq_litR, eq_litL, lt_nn, eq_nn, lt_n0, z_cl, add_lit, eq_m1, eq_m1', m1_lt, false_or, or_false, if_pos, if_neg, zbI_some, zbV_some, wr_same, wr_cell, wr_slot, ne_eq, not_true_eq_false, not_false_eq_true, true_and, and_true, false_and, and_false, e10, e01, e00, if_true, if_false, Bool.false_eq_true, lit_ne, lit_lt, eq_self], fun i hi => by rw [mTk]; simp (disch := omega) only [lt_litR, lt_litL, eq_litR, eq_litL, lt_nn, eq_nn, lt_n0, z_cl, add_lit, eq_m1, eq_m1', m1_lt, false_or, or_false, if_pos, if_neg, zbI_some, zbV_some, wr_same, wr_cell, wr_slot, ne_eq, not_true_eq_false, not_false_eq_true, true_and, and_true, false_and, and_false, e10, e01, e00, if_true, if_false, Bool.false_eq_true, lit_ne, lit_lt, eq_self], fun i hi => by rw [mTk]; simp (disch := omega) only [lt_litR, lt_litL, eq_litR, eq_litL, lt_nn, eq_nn, lt_n0, z_cl, add_lit, eq_m1, eq_m1', m1_lt, false_or, or_false, if_pos, if_neg, zbI_some, zbV_some, wr_same, wr_cell, wr_slot, ne_eq, not_true_eq_false, not_false_eq_true, true_and, and_true, false_and, and_false, e10, e01, e00, if_true, if_false, Bool.false_eq_true, lit_ne, lit_lt, eq_self, and_self]⟩
theorem TM.fr {τ τ' : zS} {t : Nat → Nat} {m j : Nat} (H : TM τ t m) (h : uFr τ τ' j) : TM τ' t m := by
  obtain ⟨a1, a2, a3⟩ := H
  refine ⟨by rw [h.2.1 2 (by omega), a1], a2, fun i hi => by rw [h.1 39 (by omega) (by omega) (by omega) (by omega)]; exact a3 i hi⟩
theorem m_numLoop (d : Nat) {τ : zS} {t : Nat → Nat} {m : Nat} (H : TM τ t m) (p : Nat) : ∀ (f M q : Nat) (x : Int32), p ≤ q → q ≤ m → m - q ≤ f → f < M → ∃ M', M = M' + (rE isD t m f q - q) ∧ zexec zc_X8_tokenize zu_X8_tokenize (zM (d + 1)) M 55 [.inr (.inr 38), .inl (nI q), .inl (nI p), .inl x] τ = zexec zc_X8_tokenize zu_X8_tokenize (zM (d + 1)) M' 55 [.inr (.inr 38), .inl (nI (rE isD t m f q)), .inl (nI p), .inl (mNum t p (rE isD t m f q - q) q x)] τ := by
  intro f
  have hm := H.2.1
  induction f with
  | zero => intro M q x hp hq hf hM; exact ⟨M, by rw [rE]; omega, by rw [rE, Nat.sub_self, mNum]⟩
  | succ f ih =>
    intro M q x hp hq hf hM
    rw [rE]
    by_cases hc : q < m ∧ isD (t q) = true
    · obtain ⟨M, rfl⟩ : ∃ k, M = k + 1 := ⟨M - 1, by omega⟩
      have hcc := (H.2.2 q hc.1).2
      rw [if_pos hc]
      obtain ⟨M', e1, e2⟩ := ih M (q + 1) (if q - p < 6 then 10 * x + nI (t q) - 48 else x) (by omega) (by omega) (by omega) (by omega)
      have hs := (rE_spec isD t m f (q + 1) (by omega) (by omega)).1
      refine ⟨M', by omega, ?_⟩
      rw [show rE isD t m f (q + 1) - q = (rE isD t m f (q + 1) - (q + 1)) + 1 by omega, mNum, ← e2, qX8_tokenize_38_55, m_see d H (by omega), zbI_some, if_pos hc.1, m_isDigit d τ (by omega), zbI_some, if_pos hc.2, if_neg (by decide), pk_sub hp, m_see d H (by omega), zbI_some, if_pos hc.1, nI_1]
      by_cases h6 : q - p < 6
      · rw [if_pos (show nI (q - p) < 6 from nI_lt (b := 6) h6 (by omega)), if_pos h6]
      · rw [if_neg (show ¬ nI (q - p) < 6 from nI_nlt (b := 6) (by omega) (by omega)), if_neg h6]
    · rw [if_neg hc]
      exact ⟨M, by omega, by rw [Nat.sub_self, mNum]⟩
theorem m_nameRun (d : Nat) {τ : zS} {t : Nat → Nat} {m : Nat} (H : TM τ t m) (p : Nat) : ∀ (f M q : Nat), q ≤ m → m - q ≤ f → f < M → ∃ M', M = M' + (rE isL t m f q - q) ∧ zexec zc_X8_tokenize zu_X8_tokenize (zM (d + 1)) M 136 [.inr (.inr 38), .inl (nI q), .inl (nI p)] τ = zexec zc_X8_tokenize zu_X8_tokenize (zM (d + 1)) M' 136 [.inr (.inr 38), .inl (nI (rE isL t m f q)), .inl (nI p)] τ := by
  intro f
  have hm := H.2.1
  induction f with
  | zero => intro M q hq hf hM; exact ⟨M, by rw [rE]; omega, by rw [rE]⟩
  | succ f ih =>
    intro M q hq hf hM
    rw [rE]
    by_cases hc : q < m ∧ isL (t q) = true
    · obtain ⟨M, rfl⟩ : ∃ k, M = k + 1 := ⟨M - 1, by omega⟩
      have hcc := (H.2.2 q hc.1).2
      rw [if_pos hc]
      obtain ⟨M', e1, e2⟩ := ih M (q + 1) (by omega) (by omega) (by omega)
      have hs := (rE_spec isL t m f (q + 1) (by omega) (by omega)).1
      refine ⟨M', by omega, ?_⟩
      rw [← e2, qX8_tokenize_38_136, m_see d H (by omega), zbI_some, if_pos hc.1, m_isLetter d τ (by omega), zbI_some, if_pos hc.2, if_neg (by decide), nI_1]
    · rw [if_neg hc]
      exact ⟨M, by omega, rfl⟩
theorem rE_end {Q : Nat → Bool} {t : Nat → Nat} {m f p : Nat} (h1 : p ≤ m) (h2 : m - p ≤ f) : Q (if rE Q t m f p < m then t (rE Q t m f p) else 0) = true → Q 0 = true := by
  obtain ⟨a1, a2, a3, a4⟩ := rE_spec Q t m f p h1 h2
  intro h
  rcases a4 with a4 | ⟨a4, a5⟩
  · rw [if_neg (by omega)] at h; exact h
  · rw [if_pos a4, a5] at h; exact absurd h (by decide)
/-- the class goes over a token's characters -/
theorem c_scanRun (d : Nat) {t : Nat → Nat} {m : Nat} {σ : zS} (H : TT σ t m) : ∀ (f M k : Nat), k + f ≤ m → (∀ q, k ≤ q → q < k + f → isS t q = false) → zexec zc_X6_scan zu_X6_scan (zM (d + 5)) (M + f) 12 [.inr (.inr 3), .inr (.inr 1), .inl (nI k)] σ = zexec zc_X6_scan zu_X6_scan (zM (d + 5)) M 12 [.inr (.inr 3), .inr (.inr 1), .inl (nI (k + f))] σ := by
  intro f
  have hm := H.2.1
  induction f with
  | zero => intro M k _ _; rfl
  | succ f ih =>
    intro M k h1 h2
    rw [← Nat.add_assoc, qX6_scan_3_1_12, c_length, zbI_some, H.1, if_pos (nI_lt (show k < m by omega) (by omega)), c_isStart (d + 3) H (by omega), zbI_some, h2 k (Nat.le_refl _) (by omega), if_neg (show ¬ false = true by decide), if_pos rfl, nI_1, ih M (k + 1) (by omega) (fun q q1 q2 => h2 q (by omega) (by omega)), show k + 1 + f = k + (f + 1) by omega]
