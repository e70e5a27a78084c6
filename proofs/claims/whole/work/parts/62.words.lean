-- the words
def w_act (t : Nat → Nat) (p : Nat) : Bool := decide (t (p + 0) = 97 ∧ t (p + 1) = 99 ∧ t (p + 2) = 116)
theorem c_sp_act (d : Nat) {σ : zS} {t : Nat → Nat} {m p e : Nat} (H : TT σ t m) (hp : p < e) (he : e ≤ m) : zM (d + 2) mX6_spells [.inr (.inr 1), .inl (nI p), .inl (nI e), .inr (.inr 1000)] σ = some (1, if e - p = 3 ∧ w_act t p = true then 1 else 0, σ) := by
  have hm := H.2.1
  have h8 := H.2.2
  rw [qX6_spells_1_1000, qX6_spells_1_1000_0, pk_sub (by omega)]
  by_cases hn : e - p = 3
  · rw [if_pos (show nI (e - p) = 3 by rw [hn]; rfl)]
    rw [qX6_spells_1_1000_15, if_pos (show (0 : Int32) < 3 by decide), show nI p + 0 = nI (p + 0) from nI_add p 0, c_at d H (show p + 0 < m by omega), zbI_some, if_neg (show ¬ ((0 : Int32) < 0 ∨ 3 ≤ ((0 : Int32)).toNatClampNeg) by decide), show (zstr 0).getD ((0 : Int32)).toNatClampNeg 0 = 97 from rfl]
    have b0 := (h8 (p + 0) (by omega)).2
    by_cases h0 : t (p + 0) = 97
    case neg =>
      rw [if_neg (show ¬ nI (t (p + 0)) = 97 by simp (disch := omega) only [lt_litR, lt_litL, eq_litR, eq_litL, lt_nn, eq_nn, lt_n0, z_cl, add_lit, eq_m1, eq_m1', m1_lt, false_or, or_false, if_pos, if_neg, zbI_some, zbV_some, wr_same, wr_cell, wr_slot, ne_eq, not_true_eq_false, not_false_eq_true, true_and, and_true, false_and, and_false, e10, e01, e00, if_true, if_false, Bool.false_eq_true, lit_ne, lit_lt, eq_self]; exact h0), if_neg (fun h => h0 (by have := h.2; simp only [w_act, decide_eq_true_eq] at this; exact this.1))]
    rw [if_pos (show nI (t (p + 0)) = 97 by simp (disch := omega) only [lt_litR, lt_litL, eq_litR, eq_litL, lt_nn, eq_nn, lt_n0, z_cl, add_lit, eq_m1, eq_m1', m1_lt, false_or, or_false, if_pos, if_neg, zbI_some, zbV_some, wr_same, wr_cell, wr_slot, ne_eq, not_true_eq_false, not_false_eq_true, true_and, and_true, false_and, and_false, e10, e01, e00, if_true, if_false, Bool.false_eq_true, lit_ne, lit_lt, eq_self, h0]), show (0 : Int32) + 1 = nI 1 from rfl]
    rw [qX6_spells_1_1000_15, if_pos (show nI 1 < 3 by decide), nI_add, c_at d H (show p + 1 < m by omega), zbI_some, if_neg (show ¬ (nI 1 < 0 ∨ 3 ≤ (nI 1).toNatClampNeg) by decide), show (zstr 0).getD (nI 1).toNatClampNeg 0 = 99 from rfl]
    have b1 := (h8 (p + 1) (by omega)).2
    by_cases h1 : t (p + 1) = 99
    case neg =>
      rw [if_neg (show ¬ nI (t (p + 1)) = 99 by simp (disch := omega) only [lt_litR, lt_litL, eq_litR, eq_litL, lt_nn, eq_nn, lt_n0, z_cl, add_lit, eq_m1, eq_m1', m1_lt, false_or, or_false, if_pos, if_neg, zbI_some, zbV_some, wr_same, wr_cell, wr_slot, ne_eq, not_true_eq_false, not_false_eq_true, true_and, and_true, false_and, and_false, e10, e01, e00, if_true, if_false, Bool.false_eq_true, lit_ne, lit_lt, eq_self]; exact h1), if_neg (fun h => h1 (by have := h.2; simp only [w_act, decide_eq_true_eq] at this; exact this.2.1))]
    rw [if_pos (show nI (t (p + 1)) = 99 by simp (disch := omega) only [lt_litR, lt_litL, eq_litR, eq_litL, lt_nn, eq_nn, lt_n0, z_cl, add_lit, eq_m1, eq_m1', m1_lt, false_or, or_false, if_pos, if_neg, zbI_some, zbV_some, wr_same, wr_cell, wr_slot, ne_eq, not_true_eq_false, not_false_eq_true, true_and, and_true, false_and, and_false, e10, e01, e00, if_true, if_false, Bool.false_eq_true, lit_ne, lit_lt, eq_self, h1]), show nI 1 + 1 = nI 2 from rfl]
    rw [qX6_spells_1_1000_15, if_pos (show nI 2 < 3 by decide), nI_add, c_at d H (show p + 2 < m by omega), zbI_some, if_neg (show ¬ (nI 2 < 0 ∨ 3 ≤ (nI 2).toNatClampNeg) by decide), show (zstr 0).getD (nI 2).toNatClampNeg 0 = 116 from rfl]
    have b2 := (h8 (p + 2) (by omega)).2
    by_cases h2 : t (p + 2) = 116
    case neg =>
      rw [if_neg (show ¬ nI (t (p + 2)) = 116 by simp (disch := omega) only [lt_litR, lt_litL, eq_litR, eq_litL, lt_nn, eq_nn, lt_n0, z_cl, add_lit, eq_m1, eq_m1', m1_lt, false_or, or_false, if_pos, if_neg, zbI_some, zbV_some, wr_same, wr_cell, wr_slot, ne_eq, not_true_eq_false, not_false_eq_true, true_and, and_true, false_and, and_false, e10, e01, e00, if_true, if_false, Bool.false_eq_true, lit_ne, lit_lt, eq_self]; exact h2), if_neg (fun h => h2 (by have := h.2; simp only [w_act, decide_eq_true_eq] at this; exact this.2.2))]
    rw [if_pos (show nI (t (p + 2)) = 116 by simp (disch := omega) only [lt_litR, lt_litL, eq_litR, eq_litL, lt_nn, eq_nn, lt_n0, z_cl, add_lit, eq_m1, eq_m1', m1_lt, false_or, or_false, if_pos, if_neg, zbI_some, zbV_some, wr_same, wr_cell, wr_slot, ne_eq, not_true_eq_false, not_false_eq_true, true_and, and_true, false_and, and_false, e10, e01, e00, if_true, if_false, Bool.false_eq_true, lit_ne, lit_lt, eq_self, h2]), show nI 2 + 1 = nI 3 from rfl]
    rw [qX6_spells_1_1000_15, if_neg (show ¬ nI 3 < 3 by decide), if_pos ⟨hn, by simp only [w_act, decide_eq_true_eq]; exact ⟨h0, h1, h2⟩⟩]
  · rw [if_neg (show ¬ nI (e - p) = 3 by simp (disch := omega) only [lt_litR, lt_litL, eq_litR, eq_litL, lt_nn, eq_nn, lt_n0, z_cl, add_lit, eq_m1, eq_m1', m1_lt, false_or, or_false, if_pos, if_neg, zbI_some, zbV_some, wr_same, wr_cell, wr_slot, ne_eq, not_true_eq_false, not_false_eq_true, true_and, and_true, false_and, and_false, e10, e01, e00, if_true, if_false, Bool.false_eq_true, lit_ne, lit_lt, eq_self]; exact hn), if_neg (fun h => hn h.1)]
def w_timer (t : Nat → Nat) (p : Nat) : Bool := decide (t (p + 0) = 116 ∧ t (p + 1) = 105 ∧ t (p + 2) = 109 ∧ t (p + 3) = 101 ∧ t (p + 4) = 114)
theorem c_sp_timer (d : Nat) {σ : zS} {t : Nat → Nat} {m p e : Nat} (H : TT σ t m) (hp : p < e) (he : e ≤ m) : zM (d + 2) mX6_spells [.inr (.inr 1), .inl (nI p), .inl (nI e), .inr (.inr 1001)] σ = some (1, if e - p = 5 ∧ w_timer t p = true then 1 else 0, σ) := by
  have hm := H.2.1
  have h8 := H.2.2
  rw [qX6_spells_1_1001, qX6_spells_1_1001_0, pk_sub (by omega)]
  by_cases hn : e - p = 5
  · rw [if_pos (show nI (e - p) = 5 by rw [hn]; rfl)]
    rw [qX6_spells_1_1001_15, if_pos (show (0 : Int32) < 5 by decide), show nI p + 0 = nI (p + 0) from nI_add p 0, c_at d H (show p + 0 < m by omega), zbI_some, if_neg (show ¬ ((0 : Int32) < 0 ∨ 5 ≤ ((0 : Int32)).toNatClampNeg) by decide), show (zstr 1).getD ((0 : Int32)).toNatClampNeg 0 = 116 from rfl]
    have b0 := (h8 (p + 0) (by omega)).2
    by_cases h0 : t (p + 0) = 116
    case neg =>
      rw [if_neg (show ¬ nI (t (p + 0)) = 116 by simp (disch := omega) only [lt_litR, lt_litL, eq_litR, eq_litL, lt_nn, eq_nn, lt_n0, z_cl, add_lit, eq_m1, eq_m1', m1_lt, false_or, or_false, if_pos, if_neg, zbI_some, zbV_some, wr_same, wr_cell, wr_slot, ne_eq, not_true_eq_false, not_false_eq_true, true_and, and_true, false_and, and_false, e10, e01, e00, if_true, if_false, Bool.false_eq_true, lit_ne, lit_lt, eq_self]; exact h0), if_neg (fun h => h0 (by have := h.2; simp only [w_timer, decide_eq_true_eq] at this; exact this.1))]
    rw [if_pos (show nI (t (p + 0)) = 116 by simp (disch := omega) only [lt_litR, lt_litL, eq_litR, eq_litL, lt_nn, eq_nn, lt_n0, z_cl, add_lit, eq_m1, eq_m1', m1_lt, false_or, or_false, if_pos, if_neg, zbI_some, zbV_some, wr_same, wr_cell, wr_slot, ne_eq, not_true_eq_false, not_false_eq_true, true_and, and_true, false_and, and_false, e10, e01, e00, if_true, if_false, Bool.false_eq_true, lit_ne, lit_lt, eq_self, h0]), show (0 : Int32) + 1 = nI 1 from rfl]
    rw [qX6_spells_1_1001_15, if_pos (show nI 1 < 5 by decide), nI_add, c_at d H (show p + 1 < m by omega), zbI_some, if_neg (show ¬ (nI 1 < 0 ∨ 5 ≤ (nI 1).toNatClampNeg) by decide), show (zstr 1).getD (nI 1).toNatClampNeg 0 = 105 from rfl]
    have b1 := (h8 (p + 1) (by omega)).2
    by_cases h1 : t (p + 1) = 105
    case neg =>
      rw [if_neg (show ¬ nI (t (p + 1)) = 105 by simp (disch := omega) only [lt_litR, lt_litL, eq_litR, eq_litL, lt_nn, eq_nn, lt_n0, z_cl, add_lit, eq_m1, eq_m1', m1_lt, false_or, or_false, if_pos, if_neg, zbI_some, zbV_some, wr_same, wr_cell, wr_slot, ne_eq, not_true_eq_false, not_false_eq_true, true_and, and_true, false_and, and_false, e10, e01, e00, if_true, if_false, Bool.false_eq_true, lit_ne, lit_lt, eq_self]; exact h1), if_neg (fun h => h1 (by have := h.2; simp only [w_timer, decide_eq_true_eq] at this; exact this.2.1))]
    rw [if_pos (show nI (t (p + 1)) = 105 by simp (disch := omega) only [lt_litR, lt_litL, eq_litR, eq_litL, lt_nn, eq_nn, lt_n0, z_cl, add_lit, eq_m1, eq_m1', m1_lt, false_or, or_false, if_pos, if_neg, zbI_some, zbV_some, wr_same, wr_cell, wr_slot, ne_eq, not_true_eq_false, not_false_eq_true, true_and, and_true, false_and, and_false, e10, e01, e00, if_true, if_false, Bool.false_eq_true, lit_ne, lit_lt, eq_self, h1]), show nI 1 + 1 = nI 2 from rfl]
    rw [qX6_spells_1_1001_15, if_pos (show nI 2 < 5 by decide), nI_add, c_at d H (show p + 2 < m by omega), zbI_some, if_neg (show ¬ (nI 2 < 0 ∨ 5 ≤ (nI 2).toNatClampNeg) by decide), show (zstr 1).getD (nI 2).toNatClampNeg 0 = 109 from rfl]
    have b2 := (h8 (p + 2) (by omega)).2
    by_cases h2 : t (p + 2) = 109
    case neg =>
      rw [if_neg (show ¬ nI (t (p + 2)) = 109 by simp (disch := omega) only [lt_litR, lt_litL, eq_litR, eq_litL, lt_nn, eq_nn, lt_n0, z_cl, add_lit, eq_m1, eq_m1', m1_lt, false_or, or_false, if_pos, if_neg, zbI_some, zbV_some, wr_same, wr_cell, wr_slot, ne_eq, not_true_eq_false, not_false_eq_true, true_and, and_true, false_and, and_false, e10, e01, e00, if_true, if_false, Bool.false_eq_true, lit_ne, lit_lt, eq_self]; exact h2), if_neg (fun h => h2 (by have := h.2; simp only [w_timer, decide_eq_true_eq] at this; exact this.2.2.1))]
    rw [if_pos (show nI (t (p + 2)) = 109 by simp (disch := omega) only [lt_litR, lt_litL, eq_litR, eq_litL, lt_nn, eq_nn, lt_n0, z_cl, add_lit, eq_m1, eq_m1', m1_lt, false_or, or_false, if_pos, if_neg, zbI_some, zbV_some, wr_same, wr_cell, wr_slot, ne_eq, not_true_eq_false, not_false_eq_true, true_and, and_true, false_and, and_false, e10, e01, e00, if_true, if_false, Bool.false_eq_true, lit_ne, lit_lt, eq_self, h2]), show nI 2 + 1 = nI 3 from rfl]
    rw [qX6_spells_1_1001_15, if_pos (show nI 3 < 5 by decide), nI_add, c_at d H (show p + 3 < m by omega), zbI_some, if_neg (show ¬ (nI 3 < 0 ∨ 5 ≤ (nI 3).toNatClampNeg) by decide), show (zstr 1).getD (nI 3).toNatClampNeg 0 = 101 from rfl]
    have b3 := (h8 (p + 3) (by omega)).2
    by_cases h3 : t (p + 3) = 101
    case neg =>
      rw [if_neg (show ¬ nI (t (p + 3)) = 101 by simp (disch := omega) only [lt_litR, lt_litL, eq_litR, eq_litL, lt_nn, eq_nn, lt_n0, z_cl, add_lit, eq_m1, eq_m1', m1_lt, false_or, or_false, if_pos, if_neg, zbI_some, zbV_some, wr_same, wr_cell, wr_slot, ne_eq, not_true_eq_false, not_false_eq_true, true_and, and_true, false_and, and_false, e10, e01, e00, if_true, if_false, Bool.false_eq_true, lit_ne, lit_lt, eq_self]; exact h3), if_neg (fun h => h3 (by have := h.2; simp only [w_timer, decide_eq_true_eq] at this; exact this.2.2.2.1))]
    rw [if_pos (show nI (t (p + 3)) = 101 by simp (disch := omega) only [lt_litR, lt_litL, eq_litR, eq_litL, lt_nn, eq_nn, lt_n0, z_cl, add_lit, eq_m1, eq_m1', m1_lt, false_or, or_false, if_pos, if_neg, zbI_some, zbV_some, wr_same, wr_cell, wr_slot, ne_eq, not_true_eq_false, not_false_eq_true, true_and, and_true, false_and, and_false, e10, e01, e00, if_true, if_false, Bool.false_eq_true, lit_ne, lit_lt, eq_self, h3]), show nI 3 + 1 = nI 4 from rfl]
    rw [qX6_spells_1_1001_15, if_pos (show nI 4 < 5 by decide), nI_add, c_at d H (show p + 4 < m by omega), zbI_some, if_neg (show ¬ (nI 4 < 0 ∨ 5 ≤ (nI 4).toNatClampNeg) by decide), show (zstr 1).getD (nI 4).toNatClampNeg 0 = 114 from rfl]
    have b4 := (h8 (p + 4) (by omega)).2
    by_cases h4 : t (p + 4) = 114
    case neg =>
      rw [if_neg (show ¬ nI (t (p + 4)) = 114 by simp (disch := omega) only [lt_litR, lt_litL, eq_litR, eq_litL, lt_nn, eq_nn, lt_n0, z_cl, add_lit, eq_m1, eq_m1', m1_lt, false_or, or_false, if_pos, if_neg, zbI_some, zbV_some, wr_same, wr_cell, wr_slot, ne_eq, not_true_eq_false, not_false_eq_true, true_and, and_true, false_and, and_false, e10, e01, e00, if_true, if_false, Bool.false_eq_true, lit_ne, lit_lt, eq_self]; exact h4), if_neg (fun h => h4 (by have := h.2; simp only [w_timer, decide_eq_true_eq] at this; exact this.2.2.2.2))]
    rw [if_pos (show nI (t (p + 4)) = 114 by simp (disch := omega) only [lt_litR, lt_litL, eq_litR, eq_litL, lt_nn, eq_nn, lt_n0, z_cl, add_lit, eq_m1, eq_m1', m1_lt, false_or, or_false, if_pos, if_neg, zbI_some, zbV_some, wr_same, wr_cell, wr_slot, ne_eq, not_true_eq_false, not_false_eq_true, true_and, and_true, false_and, and_false, e10, e01, e00, if_true, if_false, Bool.false_eq_true, lit_ne, lit_lt, eq_self, h4]), show nI 4 + 1 = nI 5 from rfl]
    rw [qX6_spells_1_1001_15, if_neg (show ¬ nI 5 < 5 by decide), if_pos ⟨hn, by simp only [w_timer, decide_eq_true_eq]; exact ⟨h0, h1, h2, h3, h4⟩⟩]
  · rw [if_neg (show ¬ nI (e - p) = 5 by simp (disch := omega) only [lt_litR, lt_litL, eq_litR, eq_litL, lt_nn, eq_nn, lt_n0, z_cl, add_lit, eq_m1, eq_m1', m1_lt, false_or, or_false, if_pos, if_neg, zbI_some, zbV_some, wr_same, wr_cell, wr_slot, ne_eq, not_true_eq_false, not_false_eq_true, true_and, and_true, false_and, and_false, e10, e01, e00, if_true, if_false, Bool.false_eq_true, lit_ne, lit_lt, eq_self]; exact hn), if_neg (fun h => hn h.1)]
def w_any (t : Nat → Nat) (p : Nat) : Bool := decide (t (p + 0) = 97 ∧ t (p + 1) = 110 ∧ t (p + 2) = 121)
theorem c_sp_any (d : Nat) {σ : zS} {t : Nat → Nat} {m p e : Nat} (H : TT σ t m) (hp : p < e) (he : e ≤ m) : zM (d + 2) mX6_spells [.inr (.inr 1), .inl (nI p), .inl (nI e), .inr (.inr 1002)] σ = some (1, if e - p = 3 ∧ w_any t p = true then 1 else 0, σ) := by
  have hm := H.2.1
  have h8 := H.2.2
  rw [qX6_spells_1_1002, qX6_spells_1_1002_0, pk_sub (by omega)]
  by_cases hn : e - p = 3
  · rw [if_pos (show nI (e - p) = 3 by rw [hn]; rfl)]
    rw [qX6_spells_1_1002_15, if_pos (show (0 : Int32) < 3 by decide), show nI p + 0 = nI (p + 0) from nI_add p 0, c_at d H (show p + 0 < m by omega), zbI_some, if_neg (show ¬ ((0 : Int32) < 0 ∨ 3 ≤ ((0 : Int32)).toNatClampNeg) by decide), show (zstr 2).getD ((0 : Int32)).toNatClampNeg 0 = 97 from rfl]
    have b0 := (h8 (p + 0) (by omega)).2
    by_cases h0 : t (p + 0) = 97
    case neg =>
      rw [if_neg (show ¬ nI (t (p + 0)) = 97 by simp (disch := omega) only [lt_litR, lt_litL, eq_litR, eq_litL, lt_nn, eq_nn, lt_n0, z_cl, add_lit, eq_m1, eq_m1', m1_lt, false_or, or_false, if_pos, if_neg, zbI_some, zbV_some, wr_same, wr_cell, wr_slot, ne_eq, not_true_eq_false, not_false_eq_true, true_and, and_true, false_and, and_false, e10, e01, e00, if_true, if_false, Bool.false_eq_true, lit_ne, lit_lt, eq_self]; exact h0), if_neg (fun h => h0 (by have := h.2; simp only [w_any, decide_eq_true_eq] at this; exact this.1))]
    rw [if_pos (show nI (t (p + 0)) = 97 by simp (disch := omega) only [lt_litR, lt_litL, eq_litR, eq_litL, lt_nn, eq_nn, lt_n0, z_cl, add_lit, eq_m1, eq_m1', m1_lt, false_or, or_false, if_pos, if_neg, zbI_some, zbV_some, wr_same, wr_cell, wr_slot, ne_eq, not_true_eq_false, not_false_eq_true, true_and, and_true, false_and, and_false, e10, e01, e00, if_true, if_false, Bool.false_eq_true, lit_ne, lit_lt, eq_self, h0]), show (0 : Int32) + 1 = nI 1 from rfl]
    rw [qX6_spells_1_1002_15, if_pos (show nI 1 < 3 by decide), nI_add, c_at d H (show p + 1 < m by omega), zbI_some, if_neg (show ¬ (nI 1 < 0 ∨ 3 ≤ (nI 1).toNatClampNeg) by decide), show (zstr 2).getD (nI 1).toNatClampNeg 0 = 110 from rfl]
    have b1 := (h8 (p + 1) (by omega)).2
    by_cases h1 : t (p + 1) = 110
    case neg =>
      rw [if_neg (show ¬ nI (t (p + 1)) = 110 by simp (disch := omega) only [lt_litR, lt_litL, eq_litR, eq_litL, lt_nn, eq_nn, lt_n0, z_cl, add_lit, eq_m1, eq_m1', m1_lt, false_or, or_false, if_pos, if_neg, zbI_some, zbV_some, wr_same, wr_cell, wr_slot, ne_eq, not_true_eq_false, not_false_eq_true, true_and, and_true, false_and, and_false, e10, e01, e00, if_true, if_false, Bool.false_eq_true, lit_ne, lit_lt, eq_self]; exact h1), if_neg (fun h => h1 (by have := h.2; simp only [w_any, decide_eq_true_eq] at this; exact this.2.1))]
    rw [if_pos (show nI (t (p + 1)) = 110 by simp (disch := omega) only [lt_litR, lt_litL, eq_litR, eq_litL, lt_nn, eq_nn, lt_n0, z_cl, add_lit, eq_m1, eq_m1', m1_lt, false_or, or_false, if_pos, if_neg, zbI_some, zbV_some, wr_same, wr_cell, wr_slot, ne_eq, not_true_eq_false, not_false_eq_true, true_and, and_true, false_and, and_false, e10, e01, e00, if_true, if_false, Bool.false_eq_true, lit_ne, lit_lt, eq_self, h1]), show nI 1 + 1 = nI 2 from rfl]
    rw [qX6_spells_1_1002_15, if_pos (show nI 2 < 3 by decide), nI_add, c_at d H (show p + 2 < m by omega), zbI_some, if_neg (show ¬ (nI 2 < 0 ∨ 3 ≤ (nI 2).toNatClampNeg) by decide), show (zstr 2).getD (nI 2).toNatClampNeg 0 = 121 from rfl]
    have b2 := (h8 (p + 2) (by omega)).2
    by_cases h2 : t (p + 2) = 121
    case neg =>
      rw [if_neg (show ¬ nI (t (p + 2)) = 121 by simp (disch := omega) only [lt_litR, lt_litL, eq_litR, eq_litL, lt_nn, eq_nn, lt_n0, z_cl, add_lit, eq_m1, eq_m1', m1_lt, false_or, or_false, if_pos, if_neg, zbI_some, zbV_some, wr_same, wr_cell, wr_slot, ne_eq, not_true_eq_false, not_false_eq_true, true_and, and_true, false_and, and_false, e10, e01, e00, if_true, if_false, Bool.false_eq_true, lit_ne, lit_lt, eq_self]; exact h2), if_neg (fun h => h2 (by have := h.2; simp only [w_any, decide_eq_true_eq] at this; exact this.2.2))]
    rw [if_pos (show nI (t (p + 2)) = 121 by simp (disch := omega) only [lt_litR, lt_litL, eq_litR, eq_litL, lt_nn, eq_nn, lt_n0, z_cl, add_lit, eq_m1, eq_m1', m1_lt, false_or, or_false, if_pos, if_neg, zbI_some, zbV_some, wr_same, wr_cell, wr_slot, ne_eq, not_true_eq_false, not_false_eq_true, true_and, and_true, false_and, and_false, e10, e01, e00, if_true, if_false, Bool.false_eq_true, lit_ne, lit_lt, eq_self, h2]), show nI 2 + 1 = nI 3 from rfl]
    rw [qX6_spells_1_1002_15, if_neg (show ¬ nI 3 < 3 by decide), if_pos ⟨hn, by simp only [w_any, decide_eq_true_eq]; exact ⟨h0, h1, h2⟩⟩]
  · rw [if_neg (show ¬ nI (e - p) = 3 by simp (disch := omega) only [lt_litR, lt_litL, eq_litR, eq_litL, lt_nn, eq_nn, lt_n0, z_cl, add_lit, eq_m1, eq_m1', m1_lt, false_or, or_false, if_pos, if_neg, zbI_some, zbV_some, wr_same, wr_cell, wr_slot, ne_eq, not_true_eq_false, not_false_eq_true, true_and, and_true, false_and, and_false, e10, e01, e00, if_true, if_false, Bool.false_eq_true, lit_ne, lit_lt, eq_self]; exact hn), if_neg (fun h => hn h.1)]
def w_ended (t : Nat → Nat) (p : Nat) : Bool := decide (t (p + 0) = 101 ∧ t (p + 1) = 110 ∧ t (p + 2) = 100 ∧ t (p + 3) = 101 ∧ t (p + 4) = 100)
theorem c_sp_ended (d : Nat) {σ : zS} {t : Nat → Nat} {m p e : Nat} (H : TT σ t m) (hp : p < e) (he : e ≤ m) : zM (d + 2) mX6_spells [.inr (.inr 1), .inl (nI p), .inl (nI e), .inr (.inr 1003)] σ = some (1, if e - p = 5 ∧ w_ended t p = true then 1 else 0, σ) := by
  have hm := H.2.1
  have h8 := H.2.2
  rw [qX6_spells_1_1003, qX6_spells_1_1003_0, pk_sub (by omega)]
  by_cases hn : e - p = 5
  · rw [if_pos (show nI (e - p) = 5 by rw [hn]; rfl)]
    rw [qX6_spells_1_1003_15, if_pos (show (0 : Int32) < 5 by decide), show nI p + 0 = nI (p + 0) from nI_add p 0, c_at d H (show p + 0 < m by omega), zbI_some, if_neg (show ¬ ((0 : Int32) < 0 ∨ 5 ≤ ((0 : Int32)).toNatClampNeg) by decide), show (zstr 3).getD ((0 : Int32)).toNatClampNeg 0 = 101 from rfl]
    have b0 := (h8 (p + 0) (by omega)).2
    by_cases h0 : t (p + 0) = 101
    case neg =>
      rw [if_neg (show ¬ nI (t (p + 0)) = 101 by simp (disch := omega) only [lt_litR, lt_litL, eq_litR, eq_litL, lt_nn, eq_nn, lt_n0, z_cl, add_lit, eq_m1, eq_m1', m1_lt, false_or, or_false, if_pos, if_neg, zbI_some, zbV_some, wr_same, wr_cell, wr_slot, ne_eq, not_true_eq_false, not_false_eq_true, true_and, and_true, false_and, and_false, e10, e01, e00, if_true, if_false, Bool.false_eq_true, lit_ne, lit_lt, eq_self]; exact h0), if_neg (fun h => h0 (by have := h.2; simp only [w_ended, decide_eq_true_eq] at this; exact this.1))]
    rw [if_pos (show nI (t (p + 0)) = 101 by simp (disch := omega) only [lt_litR, lt_litL, eq_litR, eq_litL, lt_nn, eq_nn, lt_n0, z_cl, add_lit, eq_m1, eq_m1', m1_lt, false_or, or_false, if_pos, if_neg, zbI_some, zbV_some, wr_same, wr_cell, wr_slot, ne_eq, not_true_eq_false, not_false_eq_true, true_and, and_true, false_and, and_false, e10, e01, e00, if_true, if_false, Bool.false_eq_true, lit_ne, lit_lt, eq_self, h0]), show (0 : Int32) + 1 = nI 1 from rfl]
    rw [qX6_spells_1_1003_15, if_pos (show nI 1 < 5 by decide), nI_add, c_at d H (show p + 1 < m by omega), zbI_some, if_neg (show ¬ (nI 1 < 0 ∨ 5 ≤ (nI 1).toNatClampNeg) by decide), show (zstr 3).getD (nI 1).toNatClampNeg 0 = 110 from rfl]
    have b1 := (h8 (p + 1) (by omega)).2
    by_cases h1 : t (p + 1) = 110
    case neg =>
      rw [if_neg (show ¬ nI (t (p + 1)) = 110 by simp (disch := omega) only [lt_litR, lt_litL, eq_litR, eq_litL, lt_nn, eq_nn, lt_n0, z_cl, add_lit, eq_m1, eq_m1', m1_lt, false_or, or_false, if_pos, if_neg, zbI_some, zbV_some, wr_same, wr_cell, wr_slot, ne_eq, not_true_eq_false, not_false_eq_true, true_and, and_true, false_and, and_false, e10, e01, e00, if_true, if_false, Bool.false_eq_true, lit_ne, lit_lt, eq_self]; exact h1), if_neg (fun h => h1 (by have := h.2; simp only [w_ended, decide_eq_true_eq] at this; exact this.2.1))]
    rw [if_pos (show nI (t (p + 1)) = 110 by simp (disch := omega) only [lt_litR, lt_litL, eq_litR, eq_litL, lt_nn, eq_nn, lt_n0, z_cl, add_lit, eq_m1, eq_m1', m1_lt, false_or, or_false, if_pos, if_neg, zbI_some, zbV_some, wr_same, wr_cell, wr_slot, ne_eq, not_true_eq_false, not_false_eq_true, true_and, and_true, false_and, and_false, e10, e01, e00, if_true, if_false, Bool.false_eq_true, lit_ne, lit_lt, eq_self, h1]), show nI 1 + 1 = nI 2 from rfl]
    rw [qX6_spells_1_1003_15, if_pos (show nI 2 < 5 by decide), nI_add, c_at d H (show p + 2 < m by omega), zbI_some, if_neg (show ¬ (nI 2 < 0 ∨ 5 ≤ (nI 2).toNatClampNeg) by decide), show (zstr 3).getD (nI 2).toNatClampNeg 0 = 100 from rfl]
    have b2 := (h8 (p + 2) (by omega)).2
    by_cases h2 : t (p + 2) = 100
    case neg =>
      rw [if_neg (show ¬ nI (t (p + 2)) = 100 by simp (disch := omega) only [lt_litR, lt_litL, eq_litR, eq_litL, lt_nn, eq_nn, lt_n0, z_cl, add_lit, eq_m1, eq_m1', m1_lt, false_or, or_false, if_pos, if_neg, zbI_some, zbV_some, wr_same, wr_cell, wr_slot, ne_eq, not_true_eq_false, not_false_eq_true, true_and, and_true, false_and, and_false, e10, e01, e00, if_true, if_false, Bool.false_eq_true, lit_ne, lit_lt, eq_self]; exact h2), if_neg (fun h => h2 (by have := h.2; simp only [w_ended, decide_eq_true_eq] at this; exact this.2.2.1))]
    rw [if_pos (show nI (t (p + 2)) = 100 by simp (disch := omega) only [lt_litR, lt_litL, eq_litR, eq_litL, lt_nn, eq_nn, lt_n0, z_cl, add_lit, eq_m1, eq_m1', m1_lt, false_or, or_false, if_pos, if_neg, zbI_some, zbV_some, wr_same, wr_cell, wr_slot, ne_eq, not_true_eq_false, not_false_eq_true, true_and, and_true, false_and, and_false, e10, e01, e00, if_true, if_false, Bool.false_eq_true, lit_ne, lit_lt, eq_self, h2]), show nI 2 + 1 = nI 3 from rfl]
    rw [qX6_spells_1_1003_15, if_pos (show nI 3 < 5 by decide), nI_add, c_at d H (show p + 3 < m by omega), zbI_some, if_neg (show ¬ (nI 3 < 0 ∨ 5 ≤ (nI 3).toNatClampNeg) by decide), show (zstr 3).getD (nI 3).toNatClampNeg 0 = 101 from rfl]
    have b3 := (h8 (p + 3) (by omega)).2
    by_cases h3 : t (p + 3) = 101
    case neg =>
      rw [if_neg (show ¬ nI (t (p + 3)) = 101 by simp (disch := omega) only [lt_litR, lt_litL, eq_litR, eq_litL, lt_nn, eq_nn, lt_n0, z_cl, add_lit, eq_m1, eq_m1', m1_lt, false_or, or_false, if_pos, if_neg, zbI_some, zbV_some, wr_same, wr_cell, wr_slot, ne_eq, not_true_eq_false, not_false_eq_true, true_and, and_true, false_and, and_false, e10, e01, e00, if_true, if_false, Bool.false_eq_true, lit_ne, lit_lt, eq_self]; exact h3), if_neg (fun h => h3 (by have := h.2; simp only [w_ended, decide_eq_true_eq] at this; exact this.2.2.2.1))]
    rw [if_pos (show nI (t (p + 3)) = 101 by simp (disch := omega) only [lt_litR, lt_litL, eq_litR, eq_litL, lt_nn, eq_nn, lt_n0, z_cl, add_lit, eq_m1, eq_m1', m1_lt, false_or, or_false, if_pos, if_neg, zbI_some, zbV_some, wr_same, wr_cell, wr_slot, ne_eq, not_true_eq_false, not_false_eq_true, true_and, and_true, false_and, and_false, e10, e01, e00, if_true, if_false, Bool.false_eq_true, lit_ne, lit_lt, eq_self, h3]), show nI 3 + 1 = nI 4 from rfl]
    rw [qX6_spells_1_1003_15, if_pos (show nI 4 < 5 by decide), nI_add, c_at d H (show p + 4 < m by omega), zbI_some, if_neg (show ¬ (nI 4 < 0 ∨ 5 ≤ (nI 4).toNatClampNeg) by decide), show (zstr 3).getD (nI 4).toNatClampNeg 0 = 100 from rfl]
    have b4 := (h8 (p + 4) (by omega)).2
    by_cases h4 : t (p + 4) = 100
    case neg =>
      rw [if_neg (show ¬ nI (t (p + 4)) = 100 by simp (disch := omega) only [lt_litR, lt_litL, eq_litR, eq_litL, lt_nn, eq_nn, lt_n0, z_cl, add_lit, eq_m1, eq_m1', m1_lt, false_or, or_false, if_pos, if_neg, zbI_some, zbV_some, wr_same, wr_cell, wr_slot, ne_eq, not_true_eq_false, not_false_eq_true, true_and, and_true, false_and, and_false, e10, e01, e00, if_true, if_false, Bool.false_eq_true, lit_ne, lit_lt, eq_self]; exact h4), if_neg (fun h => h4 (by have := h.2; simp only [w_ended, decide_eq_true_eq] at this; exact this.2.2.2.2))]
    rw [if_pos (show nI (t (p + 4)) = 100 by simp (disch := omega) only [lt_litR, lt_litL, eq_litR, eq_litL, lt_nn, eq_nn, lt_n0, z_cl, add_lit, eq_m1, eq_m1', m1_lt, false_or, or_false, if_pos, if_neg, zbI_some, zbV_some, wr_same, wr_cell, wr_slot, ne_eq, not_true_eq_false, not_false_eq_true, true_and, and_true, false_and, and_false, e10, e01, e00, if_true, if_false, Bool.false_eq_true, lit_ne, lit_lt, eq_self, h4]), show nI 4 + 1 = nI 5 from rfl]
    rw [qX6_spells_1_1003_15, if_neg (show ¬ nI 5 < 5 by decide), if_pos ⟨hn, by simp only [w_ended, decide_eq_true_eq]; exact ⟨h0, h1, h2, h3, h4⟩⟩]
  · rw [if_neg (show ¬ nI (e - p) = 5 by simp (disch := omega) only [lt_litR, lt_litL, eq_litR, eq_litL, lt_nn, eq_nn, lt_n0, z_cl, add_lit, eq_m1, eq_m1', m1_lt, false_or, or_false, if_pos, if_neg, zbI_some, zbV_some, wr_same, wr_cell, wr_slot, ne_eq, not_true_eq_false, not_false_eq_true, true_and, and_true, false_and, and_false, e10, e01, e00, if_true, if_false, Bool.false_eq_true, lit_ne, lit_lt, eq_self]; exact hn), if_neg (fun h => hn h.1)]
def w_sig (t : Nat → Nat) (p : Nat) : Bool := decide (t (p + 0) = 115 ∧ t (p + 1) = 105 ∧ t (p + 2) = 103)
theorem c_sp_sig (d : Nat) {σ : zS} {t : Nat → Nat} {m p e : Nat} (H : TT σ t m) (hp : p < e) (he : e ≤ m) : zM (d + 2) mX6_spells [.inr (.inr 1), .inl (nI p), .inl (nI e), .inr (.inr 1004)] σ = some (1, if e - p = 3 ∧ w_sig t p = true then 1 else 0, σ) := by
  have hm := H.2.1
  have h8 := H.2.2
  rw [qX6_spells_1_1004, qX6_spells_1_1004_0, pk_sub (by omega)]
  by_cases hn : e - p = 3
  · rw [if_pos (show nI (e - p) = 3 by rw [hn]; rfl)]
    rw [qX6_spells_1_1004_15, if_pos (show (0 : Int32) < 3 by decide), show nI p + 0 = nI (p + 0) from nI_add p 0, c_at d H (show p + 0 < m by omega), zbI_some, if_neg (show ¬ ((0 : Int32) < 0 ∨ 3 ≤ ((0 : Int32)).toNatClampNeg) by decide), show (zstr 4).getD ((0 : Int32)).toNatClampNeg 0 = 115 from rfl]
    have b0 := (h8 (p + 0) (by omega)).2
    by_cases h0 : t (p + 0) = 115
    case neg =>
      rw [if_neg (show ¬ nI (t (p + 0)) = 115 by simp (disch := omega) only [lt_litR, lt_litL, eq_litR, eq_litL, lt_nn, eq_nn, lt_n0, z_cl, add_lit, eq_m1, eq_m1', m1_lt, false_or, or_false, if_pos, if_neg, zbI_some, zbV_some, wr_same, wr_cell, wr_slot, ne_eq, not_true_eq_false, not_false_eq_true, true_and, and_true, false_and, and_false, e10, e01, e00, if_true, if_false, Bool.false_eq_true, lit_ne, lit_lt, eq_self]; exact h0), if_neg (fun h => h0 (by have := h.2; simp only [w_sig, decide_eq_true_eq] at this; exact this.1))]
    rw [if_pos (show nI (t (p + 0)) = 115 by simp (disch := omega) only [lt_litR, lt_litL, eq_litR, eq_litL, lt_nn, eq_nn, lt_n0, z_cl, add_lit, eq_m1, eq_m1', m1_lt, false_or, or_false, if_pos, if_neg, zbI_some, zbV_some, wr_same, wr_cell, wr_slot, ne_eq, not_true_eq_false, not_false_eq_true, true_and, and_true, false_and, and_false, e10, e01, e00, if_true, if_false, Bool.false_eq_true, lit_ne, lit_lt, eq_self, h0]), show (0 : Int32) + 1 = nI 1 from rfl]
    rw [qX6_spells_1_1004_15, if_pos (show nI 1 < 3 by decide), nI_add, c_at d H (show p + 1 < m by omega), zbI_some, if_neg (show ¬ (nI 1 < 0 ∨ 3 ≤ (nI 1).toNatClampNeg) by decide), show (zstr 4).getD (nI 1).toNatClampNeg 0 = 105 from rfl]
    have b1 := (h8 (p + 1) (by omega)).2
    by_cases h1 : t (p + 1) = 105
    case neg =>
      rw [if_neg (show ¬ nI (t (p + 1)) = 105 by simp (disch := omega) only [lt_litR, lt_litL, eq_litR, eq_litL, lt_nn, eq_nn, lt_n0, z_cl, add_lit, eq_m1, eq_m1', m1_lt, false_or, or_false, if_pos, if_neg, zbI_some, zbV_some, wr_same, wr_cell, wr_slot, ne_eq, not_true_eq_false, not_false_eq_true, true_and, and_true, false_and, and_false, e10, e01, e00, if_true, if_false, Bool.false_eq_true, lit_ne, lit_lt, eq_self]; exact h1), if_neg (fun h => h1 (by have := h.2; simp only [w_sig, decide_eq_true_eq] at this; exact this.2.1))]
    rw [if_pos (show nI (t (p + 1)) = 105 by simp (disch := omega) only [lt_litR, lt_litL, eq_litR, eq_litL, lt_nn, eq_nn, lt_n0, z_cl, add_lit, eq_m1, eq_m1', m1_lt, false_or, or_false, if_pos, if_neg, zbI_some, zbV_some, wr_same, wr_cell, wr_slot, ne_eq, not_true_eq_false, not_false_eq_true, true_and, and_true, false_and, and_false, e10, e01, e00, if_true, if_false, Bool.false_eq_true, lit_ne, lit_lt, eq_self, h1]), show nI 1 + 1 = nI 2 from rfl]
    rw [qX6_spells_1_1004_15, if_pos (show nI 2 < 3 by decide), nI_add, c_at d H (show p + 2 < m by omega), zbI_some, if_neg (show ¬ (nI 2 < 0 ∨ 3 ≤ (nI 2).toNatClampNeg) by decide), show (zstr 4).getD (nI 2).toNatClampNeg 0 = 103 from rfl]
    have b2 := (h8 (p + 2) (by omega)).2
    by_cases h2 : t (p + 2) = 103
    case neg =>
      rw [if_neg (show ¬ nI (t (p + 2)) = 103 by simp (disch := omega) only [lt_litR, lt_litL, eq_litR, eq_litL, lt_nn, eq_nn, lt_n0, z_cl, add_lit, eq_m1, eq_m1', m1_lt, false_or, or_false, if_pos, if_neg, zbI_some, zbV_some, wr_same, wr_cell, wr_slot, ne_eq, not_true_eq_false, not_false_eq_true, true_and, and_true, false_and, and_false, e10, e01, e00, if_true, if_false, Bool.false_eq_true, lit_ne, lit_lt, eq_self]; exact h2), if_neg (fun h => h2 (by have := h.2; simp only [w_sig, decide_eq_true_eq] at this; exact this.2.2))]
    rw [if_pos (show nI (t (p + 2)) = 103 by simp (disch := omega) only [lt_litR, lt_litL, eq_litR, eq_litL, lt_nn, eq_nn, lt_n0, z_cl, add_lit, eq_m1, eq_m1', m1_lt, false_or, or_false, if_pos, if_neg, zbI_some, zbV_some, wr_same, wr_cell, wr_slot, ne_eq, not_true_eq_false, not_false_eq_true, true_and, and_true, false_and, and_false, e10, e01, e00, if_true, if_false, Bool.false_eq_true, lit_ne, lit_lt, eq_self, h2]), show nI 2 + 1 = nI 3 from rfl]
    rw [qX6_spells_1_1004_15, if_neg (show ¬ nI 3 < 3 by decide), if_pos ⟨hn, by simp only [w_sig, decide_eq_true_eq]; exact ⟨h0, h1, h2⟩⟩]
  · rw [if_neg (show ¬ nI (e - p) = 3 by simp (disch := omega) only [lt_litR, lt_litL, eq_litR, eq_litL, lt_nn, eq_nn, lt_n0, z_cl, add_lit, eq_m1, eq_m1', m1_lt, false_or, or_false, if_pos, if_neg, zbI_some, zbV_some, wr_same, wr_cell, wr_slot, ne_eq, not_true_eq_false, not_false_eq_true, true_and, and_true, false_and, and_false, e10, e01, e00, if_true, if_false, Bool.false_eq_true, lit_ne, lit_lt, eq_self]; exact hn), if_neg (fun h => hn h.1)]
def w_now (t : Nat → Nat) (p : Nat) : Bool := decide (t (p + 0) = 110 ∧ t (p + 1) = 111 ∧ t (p + 2) = 119)
theorem c_sp_now (d : Nat) {σ : zS} {t : Nat → Nat} {m p e : Nat} (H : TT σ t m) (hp : p < e) (he : e ≤ m) : zM (d + 2) mX6_spells [.inr (.inr 1), .inl (nI p), .inl (nI e), .inr (.inr 1005)] σ = some (1, if e - p = 3 ∧ w_now t p = true then 1 else 0, σ) := by
  have hm := H.2.1
  have h8 := H.2.2
  rw [qX6_spells_1_1005, qX6_spells_1_1005_0, pk_sub (by omega)]
  by_cases hn : e - p = 3
  · rw [if_pos (show nI (e - p) = 3 by rw [hn]; rfl)]
    rw [qX6_spells_1_1005_15, if_pos (show (0 : Int32) < 3 by decide), show nI p + 0 = nI (p + 0) from nI_add p 0, c_at d H (show p + 0 < m by omega), zbI_some, if_neg (show ¬ ((0 : Int32) < 0 ∨ 3 ≤ ((0 : Int32)).toNatClampNeg) by decide), show (zstr 5).getD ((0 : Int32)).toNatClampNeg 0 = 110 from rfl]
    have b0 := (h8 (p + 0) (by omega)).2
    by_cases h0 : t (p + 0) = 110
    case neg =>
      rw [if_neg (show ¬ nI (t (p + 0)) = 110 by simp (disch := omega) only [lt_litR, lt_litL, eq_litR, eq_litL, lt_nn, eq_nn, lt_n0, z_cl, add_lit, eq_m1, eq_m1', m1_lt, false_or, or_false, if_pos, if_neg, zbI_some, zbV_some, wr_same, wr_cell, wr_slot, ne_eq, not_true_eq_false, not_false_eq_true, true_and, and_true, false_and, and_false, e10, e01, e00, if_true, if_false, Bool.false_eq_true, lit_ne, lit_lt, eq_self]; exact h0), if_neg (fun h => h0 (by have := h.2; simp only [w_now, decide_eq_true_eq] at this; exact this.1))]
    rw [if_pos (show nI (t (p + 0)) = 110 by simp (disch := omega) only [lt_litR, lt_litL, eq_litR, eq_litL, lt_nn, eq_nn, lt_n0, z_cl, add_lit, eq_m1, eq_m1', m1_lt, false_or, or_false, if_pos, if_neg, zbI_some, zbV_some, wr_same, wr_cell, wr_slot, ne_eq, not_true_eq_false, not_false_eq_true, true_and, and_true, false_and, and_false, e10, e01, e00, if_true, if_false, Bool.false_eq_true, lit_ne, lit_lt, eq_self, h0]), show (0 : Int32) + 1 = nI 1 from rfl]
    rw [qX6_spells_1_1005_15, if_pos (show nI 1 < 3 by decide), nI_add, c_at d H (show p + 1 < m by omega), zbI_some, if_neg (show ¬ (nI 1 < 0 ∨ 3 ≤ (nI 1).toNatClampNeg) by decide), show (zstr 5).getD (nI 1).toNatClampNeg 0 = 111 from rfl]
    have b1 := (h8 (p + 1) (by omega)).2
    by_cases h1 : t (p + 1) = 111
    case neg =>
      rw [if_neg (show ¬ nI (t (p + 1)) = 111 by simp (disch := omega) only [lt_litR, lt_litL, eq_litR, eq_litL, lt_nn, eq_nn, lt_n0, z_cl, add_lit, eq_m1, eq_m1', m1_lt, false_or, or_false, if_pos, if_neg, zbI_some, zbV_some, wr_same, wr_cell, wr_slot, ne_eq, not_true_eq_false, not_false_eq_true, true_and, and_true, false_and, and_false, e10, e01, e00, if_true, if_false, Bool.false_eq_true, lit_ne, lit_lt, eq_self]; exact h1), if_neg (fun h => h1 (by have := h.2; simp only [w_now, decide_eq_true_eq] at this; exact this.2.1))]
    rw [if_pos (show nI (t (p + 1)) = 111 by simp (disch := omega) only [lt_litR, lt_litL, eq_litR, eq_litL, lt_nn, eq_nn, lt_n0, z_cl, add_lit, eq_m1, eq_m1', m1_lt, false_or, or_false, if_pos, if_neg, zbI_some, zbV_some, wr_same, wr_cell, wr_slot, ne_eq, not_true_eq_false, not_false_eq_true, true_and, and_true, false_and, and_false, e10, e01, e00, if_true, if_false, Bool.false_eq_true, lit_ne, lit_lt, eq_self, h1]), show nI 1 + 1 = nI 2 from rfl]
    rw [qX6_spells_1_1005_15, if_pos (show nI 2 < 3 by decide), nI_add, c_at d H (show p + 2 < m by omega), zbI_some, if_neg (show ¬ (nI 2 < 0 ∨ 3 ≤ (nI 2).toNatClampNeg) by decide), show (zstr 5).getD (nI 2).toNatClampNeg 0 = 119 from rfl]
    have b2 := (h8 (p + 2) (by omega)).2
    by_cases h2 : t (p + 2) = 119
    case neg =>
      rw [if_neg (show ¬ nI (t (p + 2)) = 119 by simp (disch := omega) only [lt_litR, lt_litL, eq_litR, eq_litL, lt_nn, eq_nn, lt_n0, z_cl, add_lit, eq_m1, eq_m1', m1_lt, false_or, or_false, if_pos, if_neg, zbI_some, zbV_some, wr_same, wr_cell, wr_slot, ne_eq, not_true_eq_false, not_false_eq_true, true_and, and_true, false_and, and_false, e10, e01, e00, if_true, if_false, Bool.false_eq_true, lit_ne, lit_lt, eq_self]; exact h2), if_neg (fun h => h2 (by have := h.2; simp only [w_now, decide_eq_true_eq] at this; exact this.2.2))]
    rw [if_pos (show nI (t (p + 2)) = 119 by simp (disch := omega) only [lt_litR, lt_litL, eq_litR, eq_litL, lt_nn, eq_nn, lt_n0, z_cl, add_lit, eq_m1, eq_m1', m1_lt, false_or, or_false, if_pos, if_neg, zbI_some, zbV_some, wr_same, wr_cell, wr_slot, ne_eq, not_true_eq_false, not_false_eq_true, true_and, and_true, false_and, and_false, e10, e01, e00, if_true, if_false, Bool.false_eq_true, lit_ne, lit_lt, eq_self, h2]), show nI 2 + 1 = nI 3 from rfl]
    rw [qX6_spells_1_1005_15, if_neg (show ¬ nI 3 < 3 by decide), if_pos ⟨hn, by simp only [w_now, decide_eq_true_eq]; exact ⟨h0, h1, h2⟩⟩]
  · rw [if_neg (show ¬ nI (e - p) = 3 by simp (disch := omega) only [lt_litR, lt_litL, eq_litR, eq_litL, lt_nn, eq_nn, lt_n0, z_cl, add_lit, eq_m1, eq_m1', m1_lt, false_or, or_false, if_pos, if_neg, zbI_some, zbV_some, wr_same, wr_cell, wr_slot, ne_eq, not_true_eq_false, not_false_eq_true, true_and, and_true, false_and, and_false, e10, e01, e00, if_true, if_false, Bool.false_eq_true, lit_ne, lit_lt, eq_self]; exact hn), if_neg (fun h => hn h.1)]
def w_patch (t : Nat → Nat) (p : Nat) : Bool := decide (t (p + 0) = 112 ∧ t (p + 1) = 97 ∧ t (p + 2) = 116 ∧ t (p + 3) = 99 ∧ t (p + 4) = 104)
theorem c_sp_patch (d : Nat) {σ : zS} {t : Nat → Nat} {m p e : Nat} (H : TT σ t m) (hp : p < e) (he : e ≤ m) : zM (d + 2) mX6_spells [.inr (.inr 1), .inl (nI p), .inl (nI e), .inr (.inr 1006)] σ = some (1, if e - p = 5 ∧ w_patch t p = true then 1 else 0, σ) := by
  have hm := H.2.1
  have h8 := H.2.2
  rw [qX6_spells_1_1006, qX6_spells_1_1006_0, pk_sub (by omega)]
  by_cases hn : e - p = 5
  · rw [if_pos (show nI (e - p) = 5 by rw [hn]; rfl)]
    rw [qX6_spells_1_1006_15, if_pos (show (0 : Int32) < 5 by decide), show nI p + 0 = nI (p + 0) from nI_add p 0, c_at d H (show p + 0 < m by omega), zbI_some, if_neg (show ¬ ((0 : Int32) < 0 ∨ 5 ≤ ((0 : Int32)).toNatClampNeg) by decide), show (zstr 6).getD ((0 : Int32)).toNatClampNeg 0 = 112 from rfl]
    have b0 := (h8 (p + 0) (by omega)).2
    by_cases h0 : t (p + 0) = 112
    case neg =>
      rw [if_neg (show ¬ nI (t (p + 0)) = 112 by simp (disch := omega) only [lt_litR, lt_litL, eq_litR, eq_litL, lt_nn, eq_nn, lt_n0, z_cl, add_lit, eq_m1, eq_m1', m1_lt, false_or, or_false, if_pos, if_neg, zbI_some, zbV_some, wr_same, wr_cell, wr_slot, ne_eq, not_true_eq_false, not_false_eq_true, true_and, and_true, false_and, and_false, e10, e01, e00, if_true, if_false, Bool.false_eq_true, lit_ne, lit_lt, eq_self]; exact h0), if_neg (fun h => h0 (by have := h.2; simp only [w_patch, decide_eq_true_eq] at this; exact this.1))]
    rw [if_pos (show nI (t (p + 0)) = 112 by simp (disch := omega) only [lt_litR, lt_litL, eq_litR, eq_litL, lt_nn, eq_nn, lt_n0, z_cl, add_lit, eq_m1, eq_m1', m1_lt, false_or, or_false, if_pos, if_neg, zbI_some, zbV_some, wr_same, wr_cell, wr_slot, ne_eq, not_true_eq_false, not_false_eq_true, true_and, and_true, false_and, and_false, e10, e01, e00, if_true, if_false, Bool.false_eq_true, lit_ne, lit_lt, eq_self, h0]), show (0 : Int32) + 1 = nI 1 from rfl]
    rw [qX6_spells_1_1006_15, if_pos (show nI 1 < 5 by decide), nI_add, c_at d H (show p + 1 < m by omega), zbI_some, if_neg (show ¬ (nI 1 < 0 ∨ 5 ≤ (nI 1).toNatClampNeg) by decide), show (zstr 6).getD (nI 1).toNatClampNeg 0 = 97 from rfl]
    have b1 := (h8 (p + 1) (by omega)).2
    by_cases h1 : t (p + 1) = 97
    case neg =>
      rw [if_neg (show ¬ nI (t (p + 1)) = 97 by simp (disch := omega) only [lt_litR, lt_litL, eq_litR, eq_litL, lt_nn, eq_nn, lt_n0, z_cl, add_lit, eq_m1, eq_m1', m1_lt, false_or, or_false, if_pos, if_neg, zbI_some, zbV_some, wr_same, wr_cell, wr_slot, ne_eq, not_true_eq_false, not_false_eq_true, true_and, and_true, false_and, and_false, e10, e01, e00, if_true, if_false, Bool.false_eq_true, lit_ne, lit_lt, eq_self]; exact h1), if_neg (fun h => h1 (by have := h.2; simp only [w_patch, decide_eq_true_eq] at this; exact this.2.1))]
    rw [if_pos (show nI (t (p + 1)) = 97 by simp (disch := omega) only [lt_litR, lt_litL, eq_litR, eq_litL, lt_nn, eq_nn, lt_n0, z_cl, add_lit, eq_m1, eq_m1', m1_lt, false_or, or_false, if_pos, if_neg, zbI_some, zbV_some, wr_same, wr_cell, wr_slot, ne_eq, not_true_eq_false, not_false_eq_true, true_and, and_true, false_and, and_false, e10, e01, e00, if_true, if_false, Bool.false_eq_true, lit_ne, lit_lt, eq_self, h1]), show nI 1 + 1 = nI 2 from rfl]
    rw [qX6_spells_1_1006_15, if_pos (show nI 2 < 5 by decide), nI_add, c_at d H (show p + 2 < m by omega), zbI_some, if_neg (show ¬ (nI 2 < 0 ∨ 5 ≤ (nI 2).toNatClampNeg) by decide), show (zstr 6).getD (nI 2).toNatClampNeg 0 = 116 from rfl]
    have b2 := (h8 (p + 2) (by omega)).2
    by_cases h2 : t (p + 2) = 116
    case neg =>
      rw [if_neg (show ¬ nI (t (p + 2)) = 116 by simp (disch := omega) only [lt_litR, lt_litL, eq_litR, eq_litL, lt_nn, eq_nn, lt_n0, z_cl, add_lit, eq_m1, eq_m1', m1_lt, false_or, or_false, if_pos, if_neg, zbI_some, zbV_some, wr_same, wr_cell, wr_slot, ne_eq, not_true_eq_false, not_false_eq_true, true_and, and_true, false_and, and_false, e10, e01, e00, if_true, if_false, Bool.false_eq_true, lit_ne, lit_lt, eq_self]; exact h2), if_neg (fun h => h2 (by have := h.2; simp only [w_patch, decide_eq_true_eq] at this; exact this.2.2.1))]
    rw [if_pos (show nI (t (p + 2)) = 116 by simp (disch := omega) only [lt_litR, lt_litL, eq_litR, eq_litL, lt_nn, eq_nn, lt_n0, z_cl, add_lit, eq_m1, eq_m1', m1_lt, false_or, or_false, if_pos, if_neg, zbI_some, zbV_some, wr_same, wr_cell, wr_slot, ne_eq, not_true_eq_false, not_false_eq_true, true_and, and_true, false_and, and_false, e10, e01, e00, if_true, if_false, Bool.false_eq_true, lit_ne, lit_lt, eq_self, h2]), show nI 2 + 1 = nI 3 from rfl]
    rw [qX6_spells_1_1006_15, if_pos (show nI 3 < 5 by decide), nI_add, c_at d H (show p + 3 < m by omega), zbI_some, if_neg (show ¬ (nI 3 < 0 ∨ 5 ≤ (nI 3).toNatClampNeg) by decide), show (zstr 6).getD (nI 3).toNatClampNeg 0 = 99 from rfl]
    have b3 := (h8 (p + 3) (by omega)).2
    by_cases h3 : t (p + 3) = 99
    case neg =>
      rw [if_neg (show ¬ nI (t (p + 3)) = 99 by simp (disch := omega) only [lt_litR, lt_litL, eq_litR, eq_litL, lt_nn, eq_nn, lt_n0, z_cl, add_lit, eq_m1, eq_m1', m1_lt, false_or, or_false, if_pos, if_neg, zbI_some, zbV_some, wr_same, wr_cell, wr_slot, ne_eq, not_true_eq_false, not_false_eq_true, true_and, and_true, false_and, and_false, e10, e01, e00, if_true, if_false, Bool.false_eq_true, lit_ne, lit_lt, eq_self]; exact h3), if_neg (fun h => h3 (by have := h.2; simp only [w_patch, decide_eq_true_eq] at this; exact this.2.2.2.1))]
    rw [if_pos (show nI (t (p + 3)) = 99 by simp (disch := omega) only [lt_litR, lt_litL, eq_litR, eq_litL, lt_nn, eq_nn, lt_n0, z_cl, add_lit, eq_m1, eq_m1', m1_lt, false_or, or_false, if_pos, if_neg, zbI_some, zbV_some, wr_same, wr_cell, wr_slot, ne_eq, not_true_eq_false, not_false_eq_true, true_and, and_true, false_and, and_false, e10, e01, e00, if_true, if_false, Bool.false_eq_true, lit_ne, lit_lt, eq_self, h3]), show nI 3 + 1 = nI 4 from rfl]
    rw [qX6_spells_1_1006_15, if_pos (show nI 4 < 5 by decide), nI_add, c_at d H (show p + 4 < m by omega), zbI_some, if_neg (show ¬ (nI 4 < 0 ∨ 5 ≤ (nI 4).toNatClampNeg) by decide), show (zstr 6).getD (nI 4).toNatClampNeg 0 = 104 from rfl]
    have b4 := (h8 (p + 4) (by omega)).2
    by_cases h4 : t (p + 4) = 104
    case neg =>
      rw [if_neg (show ¬ nI (t (p + 4)) = 104 by simp (disch := omega) only [lt_litR, lt_litL, eq_litR, eq_litL, lt_nn, eq_nn, lt_n0, z_cl, add_lit, eq_m1, eq_m1', m1_lt, false_or, or_false, if_pos, if_neg, zbI_some, zbV_some, wr_same, wr_cell, wr_slot, ne_eq, not_true_eq_false, not_false_eq_true, true_and, and_true, false_and, and_false, e10, e01, e00, if_true, if_false, Bool.false_eq_true, lit_ne, lit_lt, eq_self]; exact h4), if_neg (fun h => h4 (by have := h.2; simp only [w_patch, decide_eq_true_eq] at this; exact this.2.2.2.2))]
    rw [if_pos (show nI (t (p + 4)) = 104 by simp (disch := omega) only [lt_litR, lt_litL, eq_litR, eq_litL, lt_nn, eq_nn, lt_n0, z_cl, add_lit, eq_m1, eq_m1', m1_lt, false_or, or_false, if_pos, if_neg, zbI_some, zbV_some, wr_same, wr_cell, wr_slot, ne_eq, not_true_eq_false, not_false_eq_true, true_and, and_true, false_and, and_false, e10, e01, e00, if_true, if_false, Bool.false_eq_true, lit_ne, lit_lt, eq_self, h4]), show nI 4 + 1 = nI 5 from rfl]
    rw [qX6_spells_1_1006_15, if_neg (show ¬ nI 5 < 5 by decide), if_pos ⟨hn, by simp only [w_patch, decide_eq_true_eq]; exact ⟨h0, h1, h2, h3, h4⟩⟩]
  · rw [if_neg (show ¬ nI (e - p) = 5 by simp (disch := omega) only [lt_litR, lt_litL, eq_litR, eq_litL, lt_nn, eq_nn, lt_n0, z_cl, add_lit, eq_m1, eq_m1', m1_lt, false_or, or_false, if_pos, if_neg, zbI_some, zbV_some, wr_same, wr_cell, wr_slot, ne_eq, not_true_eq_false, not_false_eq_true, true_and, and_true, false_and, and_false, e10, e01, e00, if_true, if_false, Bool.false_eq_true, lit_ne, lit_lt, eq_self]; exact hn), if_neg (fun h => hn h.1)]
def w_stop (t : Nat → Nat) (p : Nat) : Bool := decide (t (p + 0) = 115 ∧ t (p + 1) = 116 ∧ t (p + 2) = 111 ∧ t (p + 3) = 112)
theorem c_sp_stop (d : Nat) {σ : zS} {t : Nat → Nat} {m p e : Nat} (H : TT σ t m) (hp : p < e) (he : e ≤ m) : zM (d + 2) mX6_spells [.inr (.inr 1), .inl (nI p), .inl (nI e), .inr (.inr 1007)] σ = some (1, if e - p = 4 ∧ w_stop t p = true then 1 else 0, σ) := by
  have hm := H.2.1
  have h8 := H.2.2
  rw [qX6_spells_1_1007, qX6_spells_1_1007_0, pk_sub (by omega)]
  by_cases hn : e - p = 4
  · rw [if_pos (show nI (e - p) = 4 by rw [hn]; rfl)]
    rw [qX6_spells_1_1007_15, if_pos (show (0 : Int32) < 4 by decide), show nI p + 0 = nI (p + 0) from nI_add p 0, c_at d H (show p + 0 < m by omega), zbI_some, if_neg (show ¬ ((0 : Int32) < 0 ∨ 4 ≤ ((0 : Int32)).toNatClampNeg) by decide), show (zstr 7).getD ((0 : Int32)).toNatClampNeg 0 = 115 from rfl]
    have b0 := (h8 (p + 0) (by omega)).2
    by_cases h0 : t (p + 0) = 115
    case neg =>
      rw [if_neg (show ¬ nI (t (p + 0)) = 115 by simp (disch := omega) only [lt_litR, lt_litL, eq_litR, eq_litL, lt_nn, eq_nn, lt_n0, z_cl, add_lit, eq_m1, eq_m1', m1_lt, false_or, or_false, if_pos, if_neg, zbI_some, zbV_some, wr_same, wr_cell, wr_slot, ne_eq, not_true_eq_false, not_false_eq_true, true_and, and_true, false_and, and_false, e10, e01, e00, if_true, if_false, Bool.false_eq_true, lit_ne, lit_lt, eq_self]; exact h0), if_neg (fun h => h0 (by have := h.2; simp only [w_stop, decide_eq_true_eq] at this; exact this.1))]
    rw [if_pos (show nI (t (p + 0)) = 115 by simp (disch := omega) only [lt_litR, lt_litL, eq_litR, eq_litL, lt_nn, eq_nn, lt_n0, z_cl, add_lit, eq_m1, eq_m1', m1_lt, false_or, or_false, if_pos, if_neg, zbI_some, zbV_some, wr_same, wr_cell, wr_slot, ne_eq, not_true_eq_false, not_false_eq_true, true_and, and_true, false_and, and_false, e10, e01, e00, if_true, if_false, Bool.false_eq_true, lit_ne, lit_lt, eq_self, h0]), show (0 : Int32) + 1 = nI 1 from rfl]
    rw [qX6_spells_1_1007_15, if_pos (show nI 1 < 4 by decide), nI_add, c_at d H (show p + 1 < m by omega), zbI_some, if_neg (show ¬ (nI 1 < 0 ∨ 4 ≤ (nI 1).toNatClampNeg) by decide), show (zstr 7).getD (nI 1).toNatClampNeg 0 = 116 from rfl]
    have b1 := (h8 (p + 1) (by omega)).2
    by_cases h1 : t (p + 1) = 116
    case neg =>
      rw [if_neg (show ¬ nI (t (p + 1)) = 116 by simp (disch := omega) only [lt_litR, lt_litL, eq_litR, eq_litL, lt_nn, eq_nn, lt_n0, z_cl, add_lit, eq_m1, eq_m1', m1_lt, false_or, or_false, if_pos, if_neg, zbI_some, zbV_some, wr_same, wr_cell, wr_slot, ne_eq, not_true_eq_false, not_false_eq_true, true_and, and_true, false_and, and_false, e10, e01, e00, if_true, if_false, Bool.false_eq_true, lit_ne, lit_lt, eq_self]; exact h1), if_neg (fun h => h1 (by have := h.2; simp only [w_stop, decide_eq_true_eq] at this; exact this.2.1))]
    rw [if_pos (show nI (t (p + 1)) = 116 by simp (disch := omega) only [lt_litR, lt_litL, eq_litR, eq_litL, lt_nn, eq_nn, lt_n0, z_cl, add_lit, eq_m1, eq_m1', m1_lt, false_or, or_false, if_pos, if_neg, zbI_some, zbV_some, wr_same, wr_cell, wr_slot, ne_eq, not_true_eq_false, not_false_eq_true, true_and, and_true, false_and, and_false, e10, e01, e00, if_true, if_false, Bool.false_eq_true, lit_ne, lit_lt, eq_self, h1]), show nI 1 + 1 = nI 2 from rfl]
    rw [qX6_spells_1_1007_15, if_pos (show nI 2 < 4 by decide), nI_add, c_at d H (show p + 2 < m by omega), zbI_some, if_neg (show ¬ (nI 2 < 0 ∨ 4 ≤ (nI 2).toNatClampNeg) by decide), show (zstr 7).getD (nI 2).toNatClampNeg 0 = 111 from rfl]
    have b2 := (h8 (p + 2) (by omega)).2
    by_cases h2 : t (p + 2) = 111
    case neg =>
      rw [if_neg (show ¬ nI (t (p + 2)) = 111 by simp (disch := omega) only [lt_litR, lt_litL, eq_litR, eq_litL, lt_nn, eq_nn, lt_n0, z_cl, add_lit, eq_m1, eq_m1', m1_lt, false_or, or_false, if_pos, if_neg, zbI_some, zbV_some, wr_same, wr_cell, wr_slot, ne_eq, not_true_eq_false, not_false_eq_true, true_and, and_true, false_and, and_false, e10, e01, e00, if_true, if_false, Bool.false_eq_true, lit_ne, lit_lt, eq_self]; exact h2), if_neg (fun h => h2 (by have := h.2; simp only [w_stop, decide_eq_true_eq] at this; exact this.2.2.1))]
    rw [if_pos (show nI (t (p + 2)) = 111 by simp (disch := omega) only [lt_litR, lt_litL, eq_litR, eq_litL, lt_nn, eq_nn, lt_n0, z_cl, add_lit, eq_m1, eq_m1', m1_lt, false_or, or_false, if_pos, if_neg, zbI_some, zbV_some, wr_same, wr_cell, wr_slot, ne_eq, not_true_eq_false, not_false_eq_true, true_and, and_true, false_and, and_false, e10, e01, e00, if_true, if_false, Bool.false_eq_true, lit_ne, lit_lt, eq_self, h2]), show nI 2 + 1 = nI 3 from rfl]
    rw [qX6_spells_1_1007_15, if_pos (show nI 3 < 4 by decide), nI_add, c_at d H (show p + 3 < m by omega), zbI_some, if_neg (show ¬ (nI 3 < 0 ∨ 4 ≤ (nI 3).toNatClampNeg) by decide), show (zstr 7).getD (nI 3).toNatClampNeg 0 = 112 from rfl]
    have b3 := (h8 (p + 3) (by omega)).2
    by_cases h3 : t (p + 3) = 112
    case neg =>
      rw [if_neg (show ¬ nI (t (p + 3)) = 112 by simp (disch := omega) only [lt_litR, lt_litL, eq_litR, eq_litL, lt_nn, eq_nn, lt_n0, z_cl, add_lit, eq_m1, eq_m1', m1_lt, false_or, or_false, if_pos, if_neg, zbI_some, zbV_some, wr_same, wr_cell, wr_slot, ne_eq, not_true_eq_false, not_false_eq_true, true_and, and_true, false_and, and_false, e10, e01, e00, if_true, if_false, Bool.false_eq_true, lit_ne, lit_lt, eq_self]; exact h3), if_neg (fun h => h3 (by have := h.2; simp only [w_stop, decide_eq_true_eq] at this; exact this.2.2.2))]
    rw [if_pos (show nI (t (p + 3)) = 112 by simp (disch := omega) only [lt_litR, lt_litL, eq_litR, eq_litL, lt_nn, eq_nn, lt_n0, z_cl, add_lit, eq_m1, eq_m1', m1_lt, false_or, or_false, if_pos, if_neg, zbI_some, zbV_some, wr_same, wr_cell, wr_slot, ne_eq, not_true_eq_false, not_false_eq_true, true_and, and_true, false_and, and_false, e10, e01, e00, if_true, if_false, Bool.false_eq_true, lit_ne, lit_lt, eq_self, h3]), show nI 3 + 1 = nI 4 from rfl]
    rw [qX6_spells_1_1007_15, if_neg (show ¬ nI 4 < 4 by decide), if_pos ⟨hn, by simp only [w_stop, decide_eq_true_eq]; exact ⟨h0, h1, h2, h3⟩⟩]
  · rw [if_neg (show ¬ nI (e - p) = 4 by simp (disch := omega) only [lt_litR, lt_litL, eq_litR, eq_litL, lt_nn, eq_nn, lt_n0, z_cl, add_lit, eq_m1, eq_m1', m1_lt, false_or, or_false, if_pos, if_neg, zbI_some, zbV_some, wr_same, wr_cell, wr_slot, ne_eq, not_true_eq_false, not_false_eq_true, true_and, and_true, false_and, and_false, e10, e01, e00, if_true, if_false, Bool.false_eq_true, lit_ne, lit_lt, eq_self]; exact hn), if_neg (fun h => hn h.1)]
def w_wait (t : Nat → Nat) (p : Nat) : Bool := decide (t (p + 0) = 119 ∧ t (p + 1) = 97 ∧ t (p + 2) = 105 ∧ t (p + 3) = 116)
theorem c_sp_wait (d : Nat) {σ : zS} {t : Nat → Nat} {m p e : Nat} (H : TT σ t m) (hp : p < e) (he : e ≤ m) : zM (d + 2) mX6_spells [.inr (.inr 1), .inl (nI p), .inl (nI e), .inr (.inr 1008)] σ = some (1, if e - p = 4 ∧ w_wait t p = true then 1 else 0, σ) := by
  have hm := H.2.1
  have h8 := H.2.2
  rw [qX6_spells_1_1008, qX6_spells_1_1008_0, pk_sub (by omega)]
  by_cases hn : e - p = 4
  · rw [if_pos (show nI (e - p) = 4 by rw [hn]; rfl)]
    rw [qX6_spells_1_1008_15, if_pos (show (0 : Int32) < 4 by decide), show nI p + 0 = nI (p + 0) from nI_add p 0, c_at d H (show p + 0 < m by omega), zbI_some, if_neg (show ¬ ((0 : Int32) < 0 ∨ 4 ≤ ((0 : Int32)).toNatClampNeg) by decide), show (zstr 8).getD ((0 : Int32)).toNatClampNeg 0 = 119 from rfl]
    have b0 := (h8 (p + 0) (by omega)).2
    by_cases h0 : t (p + 0) = 119
    case neg =>
      rw [if_neg (show ¬ nI (t (p + 0)) = 119 by simp (disch := omega) only [lt_litR, lt_litL, eq_litR, eq_litL, lt_nn, eq_nn, lt_n0, z_cl, add_lit, eq_m1, eq_m1', m1_lt, false_or, or_false, if_pos, if_neg, zbI_some, zbV_some, wr_same, wr_cell, wr_slot, ne_eq, not_true_eq_false, not_false_eq_true, true_and, and_true, false_and, and_false, e10, e01, e00, if_true, if_false, Bool.false_eq_true, lit_ne, lit_lt, eq_self]; exact h0), if_neg (fun h => h0 (by have := h.2; simp only [w_wait, decide_eq_true_eq] at this; exact this.1))]
    rw [if_pos (show nI (t (p + 0)) = 119 by simp (disch := omega) only [lt_litR, lt_litL, eq_litR, eq_litL, lt_nn, eq_nn, lt_n0, z_cl, add_lit, eq_m1, eq_m1', m1_lt, false_or, or_false, if_pos, if_neg, zbI_some, zbV_some, wr_same, wr_cell, wr_slot, ne_eq, not_true_eq_false, not_false_eq_true, true_and, and_true, false_and, and_false, e10, e01, e00, if_true, if_false, Bool.false_eq_true, lit_ne, lit_lt, eq_self, h0]), show (0 : Int32) + 1 = nI 1 from rfl]
    rw [qX6_spells_1_1008_15, if_pos (show nI 1 < 4 by decide), nI_add, c_at d H (show p + 1 < m by omega), zbI_some, if_neg (show ¬ (nI 1 < 0 ∨ 4 ≤ (nI 1).toNatClampNeg) by decide), show (zstr 8).getD (nI 1).toNatClampNeg 0 = 97 from rfl]
    have b1 := (h8 (p + 1) (by omega)).2
    by_cases h1 : t (p + 1) = 97
    case neg =>
      rw [if_neg (show ¬ nI (t (p + 1)) = 97 by simp (disch := omega) only [lt_litR, lt_litL, eq_litR, eq_litL, lt_nn, eq_nn, lt_n0, z_cl, add_lit, eq_m1, eq_m1', m1_lt, false_or, or_false, if_pos, if_neg, zbI_some, zbV_some, wr_same, wr_cell, wr_slot, ne_eq, not_true_eq_false, not_false_eq_true, true_and, and_true, false_and, and_false, e10, e01, e00, if_true, if_false, Bool.false_eq_true, lit_ne, lit_lt, eq_self]; exact h1), if_neg (fun h => h1 (by have := h.2; simp only [w_wait, decide_eq_true_eq] at this; exact this.2.1))]
    rw [if_pos (show nI (t (p + 1)) = 97 by simp (disch := omega) only [lt_litR, lt_litL, eq_litR, eq_litL, lt_nn, eq_nn, lt_n0, z_cl, add_lit, eq_m1, eq_m1', m1_lt, false_or, or_false, if_pos, if_neg, zbI_some, zbV_some, wr_same, wr_cell, wr_slot, ne_eq, not_true_eq_false, not_false_eq_true, true_and, and_true, false_and, and_false, e10, e01, e00, if_true, if_false, Bool.false_eq_true, lit_ne, lit_lt, eq_self, h1]), show nI 1 + 1 = nI 2 from rfl]
    rw [qX6_spells_1_1008_15, if_pos (show nI 2 < 4 by decide), nI_add, c_at d H (show p + 2 < m by omega), zbI_some, if_neg (show ¬ (nI 2 < 0 ∨ 4 ≤ (nI 2).toNatClampNeg) by decide), show (zstr 8).getD (nI 2).toNatClampNeg 0 = 105 from rfl]
    have b2 := (h8 (p + 2) (by omega)).2
    by_cases h2 : t (p + 2) = 105
    case neg =>
      rw [if_neg (show ¬ nI (t (p + 2)) = 105 by simp (disch := omega) only [lt_litR, lt_litL, eq_litR, eq_litL, lt_nn, eq_nn, lt_n0, z_cl, add_lit, eq_m1, eq_m1', m1_lt, false_or, or_false, if_pos, if_neg, zbI_some, zbV_some, wr_same, wr_cell, wr_slot, ne_eq, not_true_eq_false, not_false_eq_true, true_and, and_true, false_and, and_false, e10, e01, e00, if_true, if_false, Bool.false_eq_true, lit_ne, lit_lt, eq_self]; exact h2), if_neg (fun h => h2 (by have := h.2; simp only [w_wait, decide_eq_true_eq] at this; exact this.2.2.1))]
    rw [if_pos (show nI (t (p + 2)) = 105 by simp (disch := omega) only [lt_litR, lt_litL, eq_litR, eq_litL, lt_nn, eq_nn, lt_n0, z_cl, add_lit, eq_m1, eq_m1', m1_lt, false_or, or_false, if_pos, if_neg, zbI_some, zbV_some, wr_same, wr_cell, wr_slot, ne_eq, not_true_eq_false, not_false_eq_true, true_and, and_true, false_and, and_false, e10, e01, e00, if_true, if_false, Bool.false_eq_true, lit_ne, lit_lt, eq_self, h2]), show nI 2 + 1 = nI 3 from rfl]
    rw [qX6_spells_1_1008_15, if_pos (show nI 3 < 4 by decide), nI_add, c_at d H (show p + 3 < m by omega), zbI_some, if_neg (show ¬ (nI 3 < 0 ∨ 4 ≤ (nI 3).toNatClampNeg) by decide), show (zstr 8).getD (nI 3).toNatClampNeg 0 = 116 from rfl]
    have b3 := (h8 (p + 3) (by omega)).2
    by_cases h3 : t (p + 3) = 116
    case neg =>
      rw [if_neg (show ¬ nI (t (p + 3)) = 116 by simp (disch := omega) only [lt_litR, lt_litL, eq_litR, eq_litL, lt_nn, eq_nn, lt_n0, z_cl, add_lit, eq_m1, eq_m1', m1_lt, false_or, or_false, if_pos, if_neg, zbI_some, zbV_some, wr_same, wr_cell, wr_slot, ne_eq, not_true_eq_false, not_false_eq_true, true_and, and_true, false_and, and_false, e10, e01, e00, if_true, if_false, Bool.false_eq_true, lit_ne, lit_lt, eq_self]; exact h3), if_neg (fun h => h3 (by have := h.2; simp only [w_wait, decide_eq_true_eq] at this; exact this.2.2.2))]
    rw [if_pos (show nI (t (p + 3)) = 116 by simp (disch := omega) only [lt_litR, lt_litL, eq_litR, eq_litL, lt_nn, eq_nn, lt_n0, z_cl, add_lit, eq_m1, eq_m1', m1_lt, false_or, or_false, if_pos, if_neg, zbI_some, zbV_some, wr_same, wr_cell, wr_slot, ne_eq, not_true_eq_false, not_false_eq_true, true_and, and_true, false_and, and_false, e10, e01, e00, if_true, if_false, Bool.false_eq_true, lit_ne, lit_lt, eq_self, h3]), show nI 3 + 1 = nI 4 from rfl]
    rw [qX6_spells_1_1008_15, if_neg (show ¬ nI 4 < 4 by decide), if_pos ⟨hn, by simp only [w_wait, decide_eq_true_eq]; exact ⟨h0, h1, h2, h3⟩⟩]
  · rw [if_neg (show ¬ nI (e - p) = 4 by simp (disch := omega) only [lt_litR, lt_litL, eq_litR, eq_litL, lt_nn, eq_nn, lt_n0, z_cl, add_lit, eq_m1, eq_m1', m1_lt, false_or, or_false, if_pos, if_neg, zbI_some, zbV_some, wr_same, wr_cell, wr_slot, ne_eq, not_true_eq_false, not_false_eq_true, true_and, and_true, false_and, and_false, e10, e01, e00, if_true, if_false, Bool.false_eq_true, lit_ne, lit_lt, eq_self]; exact hn), if_neg (fun h => hn h.1)]
def cWord (t : Nat → Nat) (p n : Nat) : Int32 := if n = 3 then (if w_act t p then 1 else if w_any t p then 4 else if w_sig t p then 6 else if w_now t p then 7 else -1) else if n = 4 then (if w_stop t p then 9 else if w_wait t p then 3 else -1) else if n = 5 then (if w_timer t p then 2 else if w_ended t p then 5 else if w_patch t p then 8 else -1) else -1
def mWord (t : Nat → Nat) (p n : Nat) : Int32 := if n = 3 then (if w_act t p then 1 else if w_any t p then 3 else if w_sig t p then 5 else if w_now t p then 6 else 0) else if n = 4 then (if w_stop t p then 8 else if w_wait t p then 9 else 0) else if n = 5 then (if w_timer t p then 2 else if w_ended t p then 4 else if w_patch t p then 7 else 0) else 0
theorem c_sortOfWord (d : Nat) {σ : zS} {t : Nat → Nat} {m p e : Nat} (H : TT σ t m) (hp : p < e) (he : e ≤ m) : zM (d + 3) mX6_sortOfWord [.inr (.inr 1), .inl (nI p), .inl (nI e)] σ = some (1, cWord t p (e - p), σ) := by
  rw [qX6_sortOfWord_1, qX6_sortOfWord_1_0]
  simp only [c_sp_act d H hp he, c_sp_timer d H hp he, c_sp_any d H hp he, c_sp_ended d H hp he, c_sp_sig d H hp he, c_sp_now d H hp he, c_sp_patch d H hp he, c_sp_stop d H hp he, c_sp_wait d H hp he, zbI_some]
  rw [cWord]
  by_cases h3 : e - p = 3
  · simp only [h3, show ¬ (3 : Nat) = 5 by decide, show ¬ (3 : Nat) = 4 by decide, true_and, false_and, if_false, if_true]
    cases w_act t p <;> cases w_any t p <;> cases w_sig t p <;> cases w_now t p <;> simp
  · by_cases h4 : e - p = 4
    · simp only [h4, show ¬ (4 : Nat) = 5 by decide, show ¬ (4 : Nat) = 3 by decide, true_and, false_and, if_false, if_true]
      cases w_stop t p <;> cases w_wait t p <;> simp
    · by_cases h5 : e - p = 5
      · simp only [h5, show ¬ (5 : Nat) = 3 by decide, show ¬ (5 : Nat) = 4 by decide, true_and, false_and, if_false, if_true]
        cases w_timer t p <;> cases w_ended t p <;> cases w_patch t p <;> simp
      · simp only [h3, h4, h5, false_and, if_false, if_true]
