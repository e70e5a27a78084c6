-- numbers: what simp wants
theorem lt_litR {a k : Nat} (ha : a < 2 ^ 31) (hk : (OfNat.ofNat k : Nat) < 2 ^ 31) : (nI a < (no_index (OfNat.ofNat k) : Int32)) = (a < OfNat.ofNat k) := propext (nI_ltI ha hk)
theorem lt_litL {a k : Nat} (ha : a < 2 ^ 31) (hk : (OfNat.ofNat k : Nat) < 2 ^ 31) : ((no_index (OfNat.ofNat k) : Int32) < nI a) = (OfNat.ofNat k < a) := propext (nI_ltI hk ha)
theorem eq_litR {a k : Nat} (ha : a < 2 ^ 31) (hk : (OfNat.ofNat k : Nat) < 2 ^ 31) : (nI a = (no_index (OfNat.ofNat k) : Int32)) = (a = OfNat.ofNat k) := propext (nI_eq ha hk)
theorem eq_litL {a k : Nat} (ha : a < 2 ^ 31) (hk : (OfNat.ofNat k : Nat) < 2 ^ 31) : ((no_index (OfNat.ofNat k) : Int32) = nI a) = (OfNat.ofNat k = a) := propext (nI_eq hk ha)
theorem lt_nn {a k : Nat} (ha : a < 2 ^ 31) (hk : k < 2 ^ 31) : (nI a < nI k) = (a < k) := propext (nI_ltI ha hk)
theorem eq_nn {a k : Nat} (ha : a < 2 ^ 31) (hk : k < 2 ^ 31) : (nI a = nI k) = (a = k) := propext (nI_eq ha hk)
theorem lt_n0 {a : Nat} (ha : a < 2 ^ 31) : (nI a < 0) = False := eq_false (nI_pos ha)
theorem add_lit (a k : Nat) : nI a + (no_index (OfNat.ofNat k) : Int32) = nI (a + OfNat.ofNat k) := nI_add a k
theorem eq_m1 {a : Nat} (ha : a < 2 ^ 31) : (nI a = -1) = False := eq_false (fun h => nI_pos ha (by rw [h]; decide))
theorem eq_m1' {a : Nat} (ha : a < 2 ^ 31) : (-1 = nI a) = False := eq_false (fun h => nI_pos ha (by rw [← h]; decide))
theorem m1_lt {a : Nat} (ha : a < 2 ^ 31) : (-1 < nI a) = True := by
  refine eq_true ?_
  have : (nI a).toInt = (a : Int) := nI_toInt ha
  rw [Int32.lt_iff_toInt_lt, this]
  have : (-1 : Int32).toInt = -1 := by decide
  omega
theorem lit_ne {a b : Nat} (h : (OfNat.ofNat a : Nat) ≠ OfNat.ofNat b) (ha : (OfNat.ofNat a : Nat) < 2 ^ 31) (hb : (OfNat.ofNat b : Nat) < 2 ^ 31) : ((no_index (OfNat.ofNat a) : Int32) = (no_index (OfNat.ofNat b) : Int32)) = False := eq_false (fun h2 => h ((nI_eq ha hb).mp h2))
theorem lit_lt {a b : Nat} (ha : (OfNat.ofNat a : Nat) < 2 ^ 31) (hb : (OfNat.ofNat b : Nat) < 2 ^ 31) : ((no_index (OfNat.ofNat a) : Int32) < (no_index (OfNat.ofNat b) : Int32)) = ((OfNat.ofNat a : Nat) < OfNat.ofNat b) := propext (nI_ltI ha hb)
theorem s_add (d : Nat) (σ : zS) {a : Nat} (h : a ≤ 200) (hs : σ 24 5 = nI a) (x y z : Int32) : zM (d + 1) mX0_add [.inr (.inr 24), .inl x, .inl y, .inl z] σ = if a < 200 then some (1, 1, wr (wr (wr (wr (wr σ 25 a x) 26 a y) 27 a z) 28 a (-1)) 24 5 (nI (a + 1))) else some (1, 0, σ) := by
  rw [qX0_add_24, qX0_add_24_0]
  by_cases ha : a < 200
  · simp (disch := omega) only [lt_litR, lt_litL, eq_litR, eq_litL, lt_nn, eq_nn, lt_n0, z_cl, add_lit, eq_m1, eq_m1', m1_lt, false_or, or_false, if_pos, if_neg, zbI_some, zbV_some, wr_same, wr_cell, wr_slot, ne_eq, not_true_eq_false, not_false_eq_true, true_and, and_true, false_and, and_false, e10, e01, e00, if_true, if_false, Bool.false_eq_true, lit_ne, lit_lt, eq_self, hs]
  · simp (disch := omega) only [lt_litR, lt_litL, eq_litR, eq_litL, lt_nn, eq_nn, lt_n0, z_cl, add_lit, eq_m1, eq_m1', m1_lt, false_or, or_false, if_pos, if_neg, zbI_some, zbV_some, wr_same, wr_cell, wr_slot, ne_eq, not_true_eq_false, not_false_eq_true, true_and, and_true, false_and, and_false, e10, e01, e00, if_true, if_false, Bool.false_eq_true, lit_ne, lit_lt, eq_self, hs]
