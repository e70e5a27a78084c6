-- decide, on both sides
theorem kProg.cong {P T T' : zS} (h : kProg P T) (h1 : ∀ c, 45 ≤ c → c ≤ 49 → T' c = T c) (h2 : T' 43 = T 43) (h3 : T' 38 10 = T 38 10) : kProg P T' := by
  obtain ⟨a1, k, sd, N, l, a2, a3, a4, a5, a6⟩ := h
  refine ⟨a1, k, sd, N, l, a2, a3, by rw [h3, a4], ?_, a6⟩
  rw [RpS, h1 45 (by omega) (by omega), h1 46 (by omega) (by omega), h1 47 (by omega) (by omega), h1 48 (by omega) (by omega), h1 49 (by omega) (by omega), h2]
  exact a5
theorem TapeOk.cong {σ σ' : zS} (h : TapeOk σ) (h1 : σ' 1 1 = σ 1 1) (h2 : σ' 2 = σ 2) (h3 : σ' 38 2 = σ 38 2) (h4 : σ' 39 = σ 39) : TapeOk σ' := by
  obtain ⟨m, a1, a2, a3, a4⟩ := h
  exact ⟨m, a1, by rw [h1, a2], by rw [h3, a3], fun i hi => by rw [h2, h4]; exact a4 i hi⟩
theorem InvN.frame {σ σ2 : zS} {n : Nat} (H : InvN σ n) (hc : ∀ c, c ≠ 0 → c ≠ 38 → σ2 c = σ c) (h09 : σ2 0 9 = σ 0 9) (h38 : ∀ k, (k = 2 ∨ k = 10 ∨ k = 11 ∨ k = 20 ∨ k = 25 ∨ k = 26 ∨ k = 27) → σ2 38 k = σ 38 k) (hf : σ2 0 10 = σ2 38 3 ∧ σ2 0 11 = σ2 38 28 ∧ σ2 0 12 = σ2 38 29) : InvN σ2 n := by
  obtain ⟨a1, a2, ⟨a3, a4, a5⟩, ⟨b1, b2, b3, b4, b5⟩, ⟨c1, c2⟩, sd, c3, c4⟩ := H
  have hPc : Pc σ2 = Pc σ := Pc_cong (fun c c1 c2 => hc c (by omega) (by omega))
  have hn := a3.2.1
  have hH : HRel σ2 σ2 n := a3.cong (by rw [hc 24 (by omega) (by omega)]) (by rw [hc 24 (by omega) (by omega)]) (fun i _ => by rw [hc 25 (by omega) (by omega), hc 26 (by omega) (by omega), hc 27 (by omega) (by omega), hc 28 (by omega) (by omega)]; exact ⟨rfl, rfl, rfl, rfl⟩) (fun i => by rw [hc 29 (by omega) (by omega)]) (fun i _ => by rw [hc 50 (by omega) (by omega), hc 51 (by omega) (by omega), hc 52 (by omega) (by omega)]; exact ⟨rfl, rfl, rfl⟩)
  refine ⟨a1.cong (by rw [hc 1 (by omega) (by omega)]) (hc 2 (by omega) (by omega)) (h38 2 (by omega)) (hc 39 (by omega) (by omega)), hf, ⟨hH, by rw [h38 20 (by omega), a4], ?_⟩, ⟨fun r hr => by rw [hc 33 (by omega) (by omega), hc 53 (by omega) (by omega), b1 r hr], by rw [hc 32 (by omega) (by omega), h38 25 (by omega), b2], by rw [hc 32 (by omega) (by omega), h38 26 (by omega), b3], by rw [hc 32 (by omega) (by omega), h38 27 (by omega), b4], by rw [hc 32 (by omega) (by omega)]; exact b5⟩, ⟨by rw [h09, h38 11 (by omega), c1], ?_⟩, sd, c3, by rw [h38 10 (by omega), c4]⟩
  · rw [← a5]; exact kC_cong (h38 20 (by omega)) (by rw [hc 50 (by omega) (by omega)])
  · rw [h09, hPc]
    rcases c2 with h | ⟨h1, h2, h3, h4⟩
    · exact Or.inl h
    · refine Or.inr ⟨h1, h2.cong (fun c _ _ => hc c (by omega) (by omega)) (hc 43 (by omega) (by omega)) (h38 10 (by omega)), ⟨fun c x1 x2 => by rw [hc c (by omega) (by omega), h3.1 c x1 x2], h3.2⟩, ?_⟩
      exact h4.keep h3.2.1 (prog_all h2.to) ⟨fun c x1 x2 => by rw [hc c (by omega) (by omega), h3.1 c x1 x2], h3.2⟩ (fun k _ => by rw [hc 30 (by omega) (by omega)]) (fun r _ => by rw [hc 31 (by omega) (by omega)]) hH (Nat.le_refl _) a4 (by rw [h38 20 (by omega), a4]) (fun i _ => by rw [tEq, hc 50 (by omega) (by omega), hc 51 (by omega) (by omega), hc 52 (by omega) (by omega)]; exact ⟨rfl, rfl, rfl⟩) (kC_false (by rw [h38 20 (by omega), a4]) hn (Nat.le_refl _) (by omega))
theorem m_raise (d : Nat) (τ : zS) (x : Int32) : zM (d + 1) mX8_raise [.inr (.inr 38), .inl x] τ = some (1, 0, wr τ 38 0 x) := by
  rw [qX8_raise_38, qX8_raise_38_0]
def mCp : Nat → Nat → zS → zS
  | 0, _, τ => τ
  | c + 1, k, τ => mCp c (k + 1) (wr τ 53 k (τ 54 k))
theorem mCp_cell : ∀ (c k : Nat) (τ : zS) (d : Nat), d ≠ 53 → mCp c k τ d = τ d := by
  intro c
  induction c with
  | zero => intro k τ d h; rfl
  | succ c ih => intro k τ d h; rw [mCp, ih _ _ _ h, wr_cell _ _ _ h]
theorem mCp_at : ∀ (c k : Nat) (τ : zS) (j : Nat), mCp c k τ 53 j = if k ≤ j ∧ j < k + c then τ 54 j else τ 53 j := by
  intro c
  induction c with
  | zero => intro k τ j; rw [mCp, if_neg (by omega)]
  | succ c ih =>
    intro k τ j
    rw [mCp, ih, wr_cell _ _ _ (by omega)]
    by_cases h : j = k
    · subst h; rw [if_neg (by omega), if_pos (by omega), wr_same]
    · rw [wr_slot _ _ _ h]
      by_cases h2 : k ≤ j ∧ j < k + (c + 1)
      · rw [if_pos (by omega), if_pos h2]
      · rw [if_neg (by omega), if_neg h2]
def mFin (τ : zS) : zS := wr (wr (wr (mCp 8 0 τ) 38 25 (if τ 38 38 = 0 then 0 else 1)) 38 26 (τ 38 36)) 38 27 (τ 38 37)
theorem m_seenLoop (d m : Nat) (x : Int32) : ∀ (c k : Nat) (τ : zS), k + c = 8 → zexec zc_X8_decide zu_X8_decide (zM d) (m + 1 + c) 109 [.inr (.inr 38), .inl x, .inl (nI k)] τ = some (1, x, wr (wr (wr (mCp c k τ) 38 25 (if τ 38 38 = 0 then 0 else 1)) 38 26 (τ 38 36)) 38 27 (τ 38 37)) := by
  intro c
  induction c with
  | zero =>
    intro k τ h
    obtain rfl : k = 8 := by omega
    rw [Nat.add_zero, qX8_decide_38_109, if_neg (by decide), mCp]
    by_cases h1 : τ 38 38 = 0
    · simp (disch := omega) only [lt_litR, lt_litL, eq_litR, eq_litL, lt_nn, eq_nn, lt_n0, z_cl, add_lit, eq_m1, eq_m1', m1_lt, false_or, or_false, if_pos, if_neg, zbI_some, zbV_some, wr_same, wr_cell, wr_slot, ne_eq, not_true_eq_false, not_false_eq_true, true_and, and_true, false_and, and_false, e10, e01, e00, if_true, if_false, Bool.false_eq_true, lit_ne, lit_lt, eq_self, eq_true h1]
    · simp (disch := omega) only [lt_litR, lt_litL, eq_litR, eq_litL, lt_nn, eq_nn, lt_n0, z_cl, add_lit, eq_m1, eq_m1', m1_lt, false_or, or_false, if_pos, if_neg, zbI_some, zbV_some, wr_same, wr_cell, wr_slot, ne_eq, not_true_eq_false, not_false_eq_true, true_and, and_true, false_and, and_false, e10, e01, e00, if_true, if_false, Bool.false_eq_true, lit_ne, lit_lt, eq_self, h1]
  | succ c ih =>
    intro k τ h
    have := ih (k + 1) (wr τ 53 k (τ 54 k)) (by omega)
    rw [← Nat.add_assoc, qX8_decide_38_109, mCp]
    simp (disch := omega) only [lt_litR, lt_litL, eq_litR, eq_litL, lt_nn, eq_nn, lt_n0, z_cl, add_lit, eq_m1, eq_m1', m1_lt, false_or, or_false, if_pos, if_neg, zbI_some, zbV_some, wr_same, wr_cell, wr_slot, ne_eq, not_true_eq_false, not_false_eq_true, true_and, and_true, false_and, and_false, e10, e01, e00, if_true, if_false, Bool.false_eq_true, lit_ne, lit_lt, eq_self, this]
theorem m_seen (d m : Nat) (x : Int32) (τ : zS) : zexec zc_X8_decide zu_X8_decide (zM d) (m + 1 + 8) 109 [.inr (.inr 38), .inl x, .inl 0] τ = some (1, x, mFin τ) := m_seenLoop d m x 8 0 τ rfl
theorem m_decide (D : Nat) {P σ : zS} (x : Int32) (hD : 640 ≤ D) (h11 : ¬ σ 38 11 = 0) (hP : kProg P σ) {n : Nat} (hn : σ 38 20 = nI n) (hn2 : n ≤ 200) (hc0 : kC σ 0 = false) :
    ∃ t : kSt, kTo P (0, 1, kInit (wr (wr (wr σ 38 29 (-1)) 38 28 1) 38 39 x)) t ∧ ¬ t.2.2 38 31 = 0 ∧
      (t.2.2 38 31 = 9 → zM D mX8_decide [.inr (.inr 38), .inl x] σ = some (1, t.2.2 38 35 - t.2.2 38 20 - 1, mFin (wr (wr (wr t.2.2 38 28 0) 38 0 0) 38 20 (t.2.2 38 35)))) ∧
      (t.2.2 38 31 = 2 → zM D mX8_decide [.inr (.inr 38), .inl x] σ = some (1, 0, wr (wr (wr t.2.2 38 28 2) 38 29 (t.2.2 38 40)) 38 0 1)) ∧
      (¬ t.2.2 38 31 = 9 → ¬ t.2.2 38 31 = 2 → zM D mX8_decide [.inr (.inr 38), .inl x] σ = some (1, 0, wr (wr t.2.2 38 28 (t.2.2 38 31)) 38 0 1)) := by
  obtain ⟨D, rfl⟩ : ∃ k, D = k + 2 := ⟨D - 2, by omega⟩
  obtain ⟨t, t1, t2, t3⟩ := m_run (P := P) (D + 1) (τ := wr (wr (wr σ 38 29 (-1)) 38 28 1) 38 39 x) (by omega) (hP.cong (fun c _ _ => by simp (disch := omega) only [lt_litR, lt_litL, eq_litR, eq_litL, lt_nn, eq_nn, lt_n0, z_cl, add_lit, eq_m1, eq_m1', m1_lt, false_or, or_false, if_pos, if_neg, zbI_some, zbV_some, wr_same, wr_cell, wr_slot, ne_eq, not_true_eq_false, not_false_eq_true, true_and, and_true, false_and, and_false, e10, e01, e00, if_true, if_false, Bool.false_eq_true, lit_ne, lit_lt, eq_self]) (by simp (disch := omega) only [lt_litR, lt_litL, eq_litR, eq_litL, lt_nn, eq_nn, lt_n0, z_cl, add_lit, eq_m1, eq_m1', m1_lt, false_or, or_false, if_pos, if_neg, zbI_some, zbV_some, wr_same, wr_cell, wr_slot, ne_eq, not_true_eq_false, not_false_eq_true, true_and, and_true, false_and, and_false, e10, e01, e00, if_true, if_false, Bool.false_eq_true, lit_ne, lit_lt, eq_self]) (by simp (disch := omega) only [lt_litR, lt_litL, eq_litR, eq_litL, lt_nn, eq_nn, lt_n0, z_cl, add_lit, eq_m1, eq_m1', m1_lt, false_or, or_false, if_pos, if_neg, zbI_some, zbV_some, wr_same, wr_cell, wr_slot, ne_eq, not_true_eq_false, not_false_eq_true, true_and, and_true, false_and, and_false, e10, e01, e00, if_true, if_false, Bool.false_eq_true, lit_ne, lit_lt, eq_self])) (n := n) (by simp (disch := omega) only [lt_litR, lt_litL, eq_litR, eq_litL, lt_nn, eq_nn, lt_n0, z_cl, add_lit, eq_m1, eq_m1', m1_lt, false_or, or_false, if_pos, if_neg, zbI_some, zbV_some, wr_same, wr_cell, wr_slot, ne_eq, not_true_eq_false, not_false_eq_true, true_and, and_true, false_and, and_false, e10, e01, e00, if_true, if_false, Bool.false_eq_true, lit_ne, lit_lt, eq_self, hn]) hn2 (by rw [← hc0]; exact kC_cong (by simp (disch := omega) only [lt_litR, lt_litL, eq_litR, eq_litL, lt_nn, eq_nn, lt_n0, z_cl, add_lit, eq_m1, eq_m1', m1_lt, false_or, or_false, if_pos, if_neg, zbI_some, zbV_some, wr_same, wr_cell, wr_slot, ne_eq, not_true_eq_false, not_false_eq_true, true_and, and_true, false_and, and_false, e10, e01, e00, if_true, if_false, Bool.false_eq_true, lit_ne, lit_lt, eq_self]) (by simp (disch := omega) only [lt_litR, lt_litL, eq_litR, eq_litL, lt_nn, eq_nn, lt_n0, z_cl, add_lit, eq_m1, eq_m1', m1_lt, false_or, or_false, if_pos, if_neg, zbI_some, zbV_some, wr_same, wr_cell, wr_slot, ne_eq, not_true_eq_false, not_false_eq_true, true_and, and_true, false_and, and_false, e10, e01, e00, if_true, if_false, Bool.false_eq_true, lit_ne, lit_lt, eq_self]))
  refine ⟨t, t2, t3, fun h => ?_, fun h => ?_, fun h h2 => ?_⟩
  · rw [qX8_decide_38, qX8_decide_38_0, if_neg h11, t1, zbV_some, if_pos h]
    exact m_seen (D + 1) 999990 _ _
  · rw [qX8_decide_38, qX8_decide_38_0, if_neg h11, t1, zbV_some, h, if_neg (by decide), if_pos rfl, if_neg (by decide), m_raise, zbI_some]
  · rw [qX8_decide_38, qX8_decide_38_0, if_neg h11, t1, zbV_some, if_neg h, if_neg h2, if_neg t3, m_raise, zbI_some]
