-- assignments
section
variable {mm s sd : Nat} {σ τ : zS} {p dep ne ni nn : Nat}
theorem PB.set (H : PB mm s sd σ τ p dep ne ni nn) {c : Nat} (hc : c = 8 ∨ c = 9 ∨ c = 10 ∨ c = 11) (q : Nat) (v : Int32) : PB mm s sd (wr σ c q v) τ p dep ne ni nn := by
  obtain ⟨a1, a2, a3, a4, a5, a6, a7, a8, a9, a10, a11, a12, a13, a14, a15, a16, a17, a18, a19⟩ := H
  exact ⟨fun i hi => by rw [tR, wr_cell _ _ _ (by omega), wr_cell _ _ _ (by omega), wr_cell _ _ _ (by omega)]; exact a1 i hi, by rw [wr_cell _ _ _ (by omega)]; exact a2, fun i hi => by rw [wr_cell _ _ _ (by omega)]; exact a3 i hi, a4, a5, by rw [wr_cell _ _ _ (by omega), a6], a7, a8, by rw [wr_cell _ _ _ (by omega), a9], a10, a11, a12, a13, by rw [wr_cell _ _ _ (by omega), a14], a15, by rw [wr_cell _ _ _ (by omega), a16], a17, a18, a19⟩
theorem PB.w42 (H : PB mm s sd σ τ p dep ne ni nn) {k : Nat} (hk : k = 42 ∨ k = 43 ∨ k = 14 ∨ k = 41) (v : Int32) : PB mm s sd σ (wr τ 38 k v) p dep ne ni nn := by
  obtain ⟨a1, a2, a3, a4, a5, a6, a7, a8, a9, a10, a11, a12, a13, a14, a15, a16, a17, a18, a19⟩ := H
  exact ⟨fun i hi => by rw [tR, wr_cell _ _ _ (by omega), wr_cell _ _ _ (by omega), wr_cell _ _ _ (by omega)]; exact a1 i hi, a2, a3, a4, a5, a6, a7, by rw [wr_slot _ _ _ (by omega), a8], a9, by rw [wr_slot _ _ _ (by omega), a10], a11, by rw [wr_slot _ _ _ (by omega), a12], a13, a14, a15, a16, by rw [wr_cell _ _ _ (by omega), a17], a18, a19.1, by rw [wr_slot _ _ _ (by omega)]; exact a19.2⟩
theorem pFr.set {q c : Nat} (hc : c = 8 ∨ c = 9 ∨ c = 10 ∨ c = 11) (hq : ne ≤ q) (v : Int32) : pFr σ (wr σ c q v) ne ni :=
  ⟨fun x h1 h2 h3 => wr_cell _ _ _ (by omega), fun k hk => by rw [wr_cell _ _ _ (by omega)], fun x j h1 h2 h3 => by
    by_cases hx : x = c
    · subst hx; exact wr_slot _ _ _ (by omega)
    · rw [wr_cell _ _ _ hx], fun i hi => by rw [wr_cell _ _ _ (by omega), wr_cell _ _ _ (by omega)]; exact ⟨rfl, rfl⟩⟩
theorem c_takeK (d : Nat) (H : PB mm s sd σ τ p dep ne ni nn) {c : Nat} (hc : 1 < c) (hc2 : c < 1000) : zM (d + 2) mX6_take [.inr (.inr 3), .inl (nI c)] σ = if σ 4 p = nI c then some (1, 1, wr σ 3 4 (nI (p + 1))) else some (1, 0, σ) := by
  rw [qX6_take_3, qX6_take_3_0, c_kind d H, zbI_some]
  by_cases h : σ 4 p = nI c
  · rw [if_pos h, if_pos h, c_skip d H (H.ltS hc hc2 h), zbV_some]
  · rw [if_neg h, if_neg h]
theorem m_readNumber (d : Nat) (H : PB mm s sd σ τ p dep ne ni nn) : zM (d + 2) mX8_readNumber [.inr (.inr 38)] τ = if σ 4 p = nI 3 then some (1, 1, wr (wr τ 38 43 (σ 6 p)) 38 8 (nI (p + 1))) else some (1, 0, wr τ 38 3 (σ 5 p)) := by
  have H0 := H
  obtain ⟨a1, a2, a3, a4, a5, a6, a7, a8, a9, a10, a11, a12, a13, a14, a15, a16, a17, a18, a19⟩ := H
  obtain ⟨hpl, hk⟩ := a1 p a11
  rw [qX8_readNumber_38, qX8_readNumber_38_0, a10, if_neg (nI_in (by omega) (by omega)), z_cl (by omega), if_neg (nin (by omega) (by omega)), m_refuse d H0, zbI_some, if_pos (Or.inl rfl), nI_1]
  rcases hk with ⟨h1, h2⟩ | ⟨h1, h2⟩ | ⟨r, hr, h1, h2, h3, h4⟩ | ⟨h1, h2, h3⟩ | ⟨h1, h2, h3⟩ | ⟨c, hc, hc2, h1, h2, h3⟩
  · rw [h1, h2, if_neg (by decide), if_neg (by decide)]
  · have : ¬ τ 40 p = 2 := by rcases h2 with h2 | ⟨h2, _⟩ <;> rw [h2] <;> decide
    rw [h1, if_neg this, if_neg (by decide)]
  · rw [h1, h3, if_neg (by decide), if_neg (by decide)]
  · rw [h1, h2, if_pos rfl, if_pos (show (3 : Int32) = nI 3 from rfl), h3]
  · rw [h1, h2, if_neg (by decide), if_neg (by decide)]
  · rw [h1, h2, if_neg (by decide), if_neg (by simp (disch := omega) only [lt_litR, lt_litL, eq_litR, eq_litL, lt_nn, eq_nn, lt_n0, z_cl, add_lit, eq_m1, eq_m1', m1_lt, false_or, or_false, if_pos, if_neg, zbI_some, zbV_some, wr_same, wr_cell, wr_slot, ne_eq, not_true_eq_false, not_false_eq_true, true_and, and_true, false_and, and_false, e10, e01, e00, if_true, if_false, Bool.false_eq_true, lit_ne, lit_lt, eq_self]; omega)]
theorem m_readRegister (d : Nat) (H : PB mm s sd σ τ p dep ne ni nn) : zM (d + 2) mX8_readRegister [.inr (.inr 38)] τ = if σ 4 p = nI 2 then some (1, 1, wr (wr τ 38 42 (σ 6 p)) 38 8 (nI (p + 1))) else some (1, 0, wr τ 38 3 (σ 5 p)) := by
  have H0 := H
  obtain ⟨a1, a2, a3, a4, a5, a6, a7, a8, a9, a10, a11, a12, a13, a14, a15, a16, a17, a18, a19⟩ := H
  obtain ⟨hpl, hk⟩ := a1 p a11
  have hin : ¬ (nI p < 0 ∨ 402 ≤ p) := nin (by omega) (by omega)
  rw [qX8_readRegister_38, qX8_readRegister_38_0, a10, z_cl (by omega), if_neg hin, if_neg hin, if_neg hin, m_refuse d H0, zbI_some, if_pos (Or.inl rfl), nI_1]
  rcases hk with ⟨h1, h2⟩ | ⟨h1, h2⟩ | ⟨r, hr, h1, h2, h3, h4⟩ | ⟨h1, h2, h3⟩ | ⟨h1, h2, h3⟩ | ⟨c, hc, hc2, h1, h2, h3⟩
  · rw [h1, h2, if_neg (by decide), if_neg (by decide)]
  · rcases h2 with h2 | ⟨h2, h3⟩
    · rw [h1, h2, if_neg (by decide), if_neg (by decide)]
    · rw [h1, h2, h3, if_pos rfl, if_pos (by decide), if_neg (by decide)]
  · have hsub : nI (20 + r) - 20 = nI r := by
      show nI (20 + r) - nI 20 = _
      rw [pk_sub (by omega)]; congr 1; omega
    rw [h1, h3, if_pos rfl, h4, if_neg (show ¬ nI (20 + r) < 20 from nI_nlt (b := 20) (by omega) (by omega)), if_pos (show (2 : Int32) = nI 2 from rfl), hsub, h2]
  · rw [h1, h2, if_neg (by decide), if_neg (by decide)]
  · have hv : τ 42 p < 20 := by
      rcases h3 with ⟨_, h⟩ | ⟨_, h⟩ | ⟨_, h⟩ | ⟨_, h⟩ | ⟨_, h⟩ | ⟨_, h⟩ | ⟨_, h⟩ | ⟨_, h⟩ | ⟨_, h⟩ <;> rw [h] <;> decide
    rw [h1, h2, if_pos rfl, if_pos hv, if_neg (by decide)]
  · rw [h1, h2, if_neg (by decide), if_neg (by simp (disch := omega) only [lt_litR, lt_litL, eq_litR, eq_litL, lt_nn, eq_nn, lt_n0, z_cl, add_lit, eq_m1, eq_m1', m1_lt, false_or, or_false, if_pos, if_neg, zbI_some, zbV_some, wr_same, wr_cell, wr_slot, ne_eq, not_true_eq_false, not_false_eq_true, true_and, and_true, false_and, and_false, e10, e01, e00, if_true, if_false, Bool.false_eq_true, lit_ne, lit_lt, eq_self]; omega)]
theorem reg_val (H : PB mm s sd σ τ p dep ne ni nn) (h : σ 4 p = nI 2) : ∃ r, r < 8 ∧ σ 6 p = nI r := by
  obtain ⟨hpl, hk⟩ := H.1 p H.le.1
  rw [h] at hk
  rcases hk with ⟨h1, h2⟩ | ⟨h1, h2⟩ | ⟨r, hr, h1, h2, h3, h4⟩ | ⟨h1, h2, h3⟩ | ⟨h1, h2, h3⟩ | ⟨c, hc, hc2, h1, h2, h3⟩
  · exact absurd h1 (by decide)
  · exact absurd h1 (by decide)
  · exact ⟨r, hr, h2⟩
  · exact absurd h1 (by decide)
  · exact absurd h1 (by decide)
  · simp (disch := omega) only [lt_litR, lt_litL, eq_litR, eq_litL, lt_nn, eq_nn, lt_n0, z_cl, add_lit, eq_m1, eq_m1', m1_lt, false_or, or_false, if_pos, if_neg, zbI_some, zbV_some, wr_same, wr_cell, wr_slot, ne_eq, not_true_eq_false, not_false_eq_true, true_and, and_true, false_and, and_false, e10, e01, e00, if_true, if_false, Bool.false_eq_true, lit_ne, lit_lt, eq_self] at h1; omega
theorem c_readFirst (d : Nat) (H : PB mm s sd σ τ p dep ne ni nn) {e k : Nat} (he : e < ne) (hk : 1 < k) (hk2 : k < 1000) : zM (d + 3) mX2_readFirst [.inr (.inr 23), .inl (nI e), .inl (nI k)] σ = if σ 4 p = nI k then some (1, 1, wr (wr σ 10 e (σ 6 p)) 3 4 (nI (p + 1))) else some (1, 0, wr σ 10 e (σ 6 p)) := by
  have h7 := H.2.2.2.2.2.2.2.2.2.2.2.2.2.1
  have h8 := H.2.2.2.2.2.2.2.2.2.2.2.2.2.2.1
  rw [qX2_readFirst_23, qX2_readFirst_23_0, c_value (d + 1) H, zbI_some, c_setFirst d h7 h8 he, zbV_some, c_takeK d (H.set (by omega) e (σ 6 p)) hk hk2, wr_cell _ _ _ (by omega)]
  by_cases h : σ 4 p = nI k
  · simp only [if_pos h]; rw [zbI_some, if_pos (Or.inr rfl)]
  · simp only [if_neg h]; rw [zbI_some, if_pos (Or.inl rfl)]
theorem c_readSecond (d : Nat) (H : PB mm s sd σ τ p dep ne ni nn) {e : Nat} (he : e < ne) : zM (d + 3) mX2_readSecond [.inr (.inr 23), .inl (nI e)] σ = if σ 4 p = nI 2 then some (1, 1, wr (wr σ 11 e (σ 6 p)) 3 4 (nI (p + 1))) else some (1, 0, wr σ 11 e (σ 6 p)) := by
  have h7 := H.2.2.2.2.2.2.2.2.2.2.2.2.2.1
  have h8 := H.2.2.2.2.2.2.2.2.2.2.2.2.2.2.1
  have e2 : (2 : Int32) = nI 2 := rfl
  rw [qX2_readSecond_23, qX2_readSecond_23_0, c_value (d + 1) H, zbI_some, c_setSecond d h7 h8 he, zbV_some, e2, c_takeK d (H.set (by omega) e (σ 6 p)) (by omega) (by omega), wr_cell _ _ _ (by omega)]
  by_cases h : σ 4 p = nI 2
  · simp only [if_pos h]; rw [zbI_some, if_pos (Or.inr rfl)]
  · simp only [if_neg h]; rw [zbI_some, if_pos (Or.inl rfl)]
theorem c_noX (d : Nat) (H : PB mm s sd σ τ p dep ne ni nn) (h : σ 4 p = 1) : zM (d + 5) mX2_readX [.inr (.inr 23), .inl (nI dep)] σ = some (1, 0, σ) := by
  rw [qX2_readX_23, qX2_readX_23_0, qX2_readPart_23, qX2_readPart_23_0, qX2_readTerm_23, qX2_readTerm_23_0, qX2_readFactor_23, qX2_readFactor_23_0, c_kind d H, zbI_some, h, if_neg (show ¬ (1 : Int32) = 3 by decide), if_neg (show ¬ (1 : Int32) = 2 by decide), if_neg (show ¬ (1 : Int32) = 45 by decide), if_neg (show ¬ (1 : Int32) = 40 by decide), zbI_some, if_pos rfl, zbI_some, if_pos rfl, zbI_some, if_pos rfl]
end
