theorem n10 : ¬ (1 : Int32) = 0 := by decide
theorem m_deeper (d : Nat) {mm s sd : Nat} {σ τ : zS} {p dep ne ni nn : Nat} (H : PB mm s sd σ τ p dep ne ni nn) : zM (d + 2) mX8_deeper [.inr (.inr 38)] τ = if dep = 10 then some (1, 0, wr τ 38 3 (σ 5 p)) else some (1, 1, wr (wr τ 38 9 (nI (dep + 1))) 38 8 (nI (p + 1))) := by
  have h9 := H.2.2.2.2.2.2.2.2.2.2.2.1
  have h10 := H.2.2.2.2.2.2.2.2.2.1
  have hle := H.le
  rw [qX8_deeper_38, qX8_deeper_38_0, h9, h10, m_refuse d H, zbI_some, if_pos (Or.inl rfl), nI_1, nI_1]
  by_cases h : dep = 10
  · rw [if_pos h, if_pos (show nI dep = 10 by rw [h]; rfl)]
  · rw [if_neg h, if_neg (show ¬ nI dep = 10 by simp (disch := omega) only [lt_litR, lt_litL, eq_litR, eq_litL, lt_nn, eq_nn, lt_n0, z_cl, add_lit, eq_m1, eq_m1', m1_lt, false_or, or_false, if_pos, if_neg, zbI_some, zbV_some, wr_same, wr_cell, wr_slot, ne_eq, not_true_eq_false, not_false_eq_true, true_and, and_true, false_and, and_false, e10, e01, e00, if_true, if_false, Bool.false_eq_true, lit_ne, lit_lt, eq_self]; exact h)]
/-- deeper, on both sides -/
theorem PB.deep {mm s sd : Nat} {σ τ : zS} {p dep ne ni nn : Nat} (H : PB mm s sd σ τ p dep ne ni nn) (hp : p < mm) (hd : dep < 10) : PB mm s sd (wr σ 3 4 (nI (p + 1))) (wr (wr τ 38 9 (nI (dep + 1))) 38 8 (nI (p + 1))) (p + 1) (dep + 1) ne ni nn ∧ xFr σ (wr σ 3 4 (nI (p + 1))) ni ∧ yFr sd τ (wr (wr τ 38 9 (nI (dep + 1))) 38 8 (nI (p + 1))) nn := by
  have hx : xFr σ (wr σ 3 4 (nI (p + 1))) ni := xFr.next _
  have hy : yFr sd τ (wr (wr τ 38 9 (nI (dep + 1))) 38 8 (nI (p + 1))) nn := (yFr.w (by omega) _).tr (yFr.w (by omega) _) (Nat.le_refl _)
  have hle := H.le
  refine ⟨H.of hx hy (by rw [wr_same]) (by rw [wr_same]) (by omega) (by rw [wr_slot _ _ _ (by omega), wr_same]) (by omega) (by rw [wr_cell _ _ _ (by omega)]; exact H.2.2.2.2.2.2.2.2.2.2.2.2.2.2.2.1) (by rw [wr_cell _ _ _ (by omega), wr_cell _ _ _ (by omega)]; exact H.2.2.2.2.2.2.2.2.2.2.2.2.2.2.2.2.1) (by omega) (by omega), hx, hy⟩
theorem c_skip2 (d : Nat) {σ : zS} {p s : Nat} (h : σ 3 4 = nI p) (h2 : σ 3 3 = nI (s + 1)) (hp : p < s) (hs : s ≤ 401) : zM (d + 1) mX6_skip [.inr (.inr 3)] σ = some (0, 0, wr σ 3 4 (nI (p + 1))) := by
  rw [qX6_skip_3, qX6_skip_3_0, h, h2, nI_pred]
  simp (disch := omega) only [lt_litR, lt_litL, eq_litR, eq_litL, lt_nn, eq_nn, lt_n0, z_cl, add_lit, eq_m1, eq_m1', m1_lt, false_or, or_false, if_pos, if_neg, zbI_some, zbV_some, wr_same, wr_cell, wr_slot, ne_eq, not_true_eq_false, not_false_eq_true, true_and, and_true, false_and, and_false, e10, e01, e00, if_true, if_false, Bool.false_eq_true, lit_ne, lit_lt, eq_self]
/-- a number or a register -/
theorem XG.leaf {mm s sd : Nat} {σ τ : zS} {p dep ne ni nn h : Nat} (H : PB mm s sd σ τ p dep ne ni nn) (hp : p < mm) (hh : 1 ≤ h) (k v o : Int32) (hk : (o = 48 ∧ k = 0) ∨ (o = 114 ∧ k = 1 ∧ ∃ r, r < 8 ∧ v = nI r)) :
    XRes mm s sd σ τ p dep ne ni nn h (some (1, 1, wr (wr (wr (wr σ 13 ni k) 14 ni v) 7 8 (nI (ni + 1))) 3 4 (nI (p + 1)))) (some (1, 1, wr (wr (mNd τ sd nn o v 0 0) 38 41 (nI (800 * (1 - sd) + nn))) 38 8 (nI (p + 1)))) := by
  have hle := H.le
  have H0 := H
  obtain ⟨a1, a2, a3, a4, a5, a6, a7, a8, a9, a10, a11, a12, a13, a14, a15, a16, a17, a18, a19⟩ := H
  obtain ⟨e0, e1, e2, e3, e4, e5, e6⟩ := mNd_at τ sd nn o v 0 0
  have hx : xFr σ (wr (wr (wr (wr σ 13 ni k) 14 ni v) 7 8 (nI (ni + 1))) 3 4 (nI (p + 1))) ni := (xFr.item k v).tr (xFr.next _) (Nat.le_refl _)
  have hy : yFr sd τ (wr (wr (mNd τ sd nn o v 0 0) 38 41 (nI (800 * (1 - sd) + nn))) 38 8 (nI (p + 1))) nn := ((yFr.node hle.2.2.2.2.1 (by omega) o v 0 0).tr (yFr.w (by omega) _) (Nat.le_refl _)).tr (yFr.w (by omega) _) (Nat.le_refl _)
  refine ⟨1, _, _, rfl, rfl, hx, hy, Or.inr ⟨rfl, p + 1, ni + 1, nn + 1, 800 * (1 - sd) + nn, H0.of hx hy (by rw [wr_same]) (by rw [wr_same]) (by omega) ?_ a13 ?_ ?_ (by omega) (by omega), by omega, by omega, by omega, by omega, ?_, ?_⟩⟩
  · rw [wr_slot _ _ _ (by omega), wr_slot _ _ _ (by omega), e6, a12]
  · rw [wr_cell _ _ _ (by omega), wr_same]
  · rw [wr_cell _ _ _ (by omega), wr_cell _ _ _ (by omega), e0]
  · rw [wr_slot _ _ _ (by omega), wr_same]
  · rw [show nn + 1 - nn = 0 + 1 by omega]
    have c45 : wr (wr (mNd τ sd nn o v 0 0) 38 41 (nI (800 * (1 - sd) + nn))) 38 8 (nI (p + 1)) 45 = mNd τ sd nn o v 0 0 45 := by rw [wr_cell _ _ _ (by omega), wr_cell _ _ _ (by omega)]
    have c46 : wr (wr (mNd τ sd nn o v 0 0) 38 41 (nI (800 * (1 - sd) + nn))) 38 8 (nI (p + 1)) 46 = mNd τ sd nn o v 0 0 46 := by rw [wr_cell _ _ _ (by omega), wr_cell _ _ _ (by omega)]
    have m45 : mkT (800 * (1 - sd) + nn) (800 * (1 - sd) + (nn + 1)) (mNd τ sd nn o v 0 0 45) (800 * (1 - sd) + nn) = o := by rw [mkT, if_pos (by omega), e1]
    refine ⟨by omega, hh, ?_⟩
    rw [c45, c46, m45, e2]
    rcases hk with ⟨rfl, rfl⟩ | ⟨rfl, rfl, hr⟩
    · exact Or.inl ⟨rfl, rfl, by simp (disch := omega) only [lt_litR, lt_litL, eq_litR, eq_litL, lt_nn, eq_nn, lt_n0, z_cl, add_lit, eq_m1, eq_m1', m1_lt, false_or, or_false, if_pos, if_neg, zbI_some, zbV_some, wr_same, wr_cell, wr_slot, ne_eq, not_true_eq_false, not_false_eq_true, true_and, and_true, false_and, and_false, e10, e01, e00, if_true, if_false, Bool.false_eq_true, lit_ne, lit_lt, eq_self], by simp (disch := omega) only [lt_litR, lt_litL, eq_litR, eq_litL, lt_nn, eq_nn, lt_n0, z_cl, add_lit, eq_m1, eq_m1', m1_lt, false_or, or_false, if_pos, if_neg, zbI_some, zbV_some, wr_same, wr_cell, wr_slot, ne_eq, not_true_eq_false, not_false_eq_true, true_and, and_true, false_and, and_false, e10, e01, e00, if_true, if_false, Bool.false_eq_true, lit_ne, lit_lt, eq_self]⟩
    · exact Or.inr (Or.inl ⟨rfl, rfl, by simp (disch := omega) only [lt_litR, lt_litL, eq_litR, eq_litL, lt_nn, eq_nn, lt_n0, z_cl, add_lit, eq_m1, eq_m1', m1_lt, false_or, or_false, if_pos, if_neg, zbI_some, zbV_some, wr_same, wr_cell, wr_slot, ne_eq, not_true_eq_false, not_false_eq_true, true_and, and_true, false_and, and_false, e10, e01, e00, if_true, if_false, Bool.false_eq_true, lit_ne, lit_lt, eq_self], by simp (disch := omega) only [lt_litR, lt_litL, eq_litR, eq_litL, lt_nn, eq_nn, lt_n0, z_cl, add_lit, eq_m1, eq_m1', m1_lt, false_or, or_false, if_pos, if_neg, zbI_some, zbV_some, wr_same, wr_cell, wr_slot, ne_eq, not_true_eq_false, not_false_eq_true, true_and, and_true, false_and, and_false, e10, e01, e00, if_true, if_false, Bool.false_eq_true, lit_ne, lit_lt, eq_self], hr⟩)
theorem t_factor {mm s sd ne dep : Nat} (hdep : dep ≤ 10) (hX1 : dep < 10 → XOK mm s sd ne (dep + 1)) (hF1 : dep < 10 → FOK mm s sd ne (dep + 1)) : FOK mm s sd ne dep := by
  intro D hD σ τ p ni nn H
  obtain ⟨d, rfl⟩ : ∃ k, D = k + 5 := ⟨D - 5, by omega⟩
  have hle := H.le
  have H0 := H
  obtain ⟨a1, a2, a3, a4, a5, a6, a7, a8, a9, a10, a11, a12, a13, a14, a15, a16, a17, a18, a19⟩ := H
  obtain ⟨hpl, hk⟩ := a1 p a11
  have e40 : (40 : Int32) = nI 40 := rfl
  have e45 : (45 : Int32) = nI 45 := rfl
  have hin : ¬ (nI p < 0 ∨ 402 ≤ p) := nin (by omega) (by omega)
  -- where neither - nor ( stands
  have no : ∀ M, ¬ σ 4 p = nI 45 → ¬ σ 4 p = nI 40 → zexec zc_X8_readFactor zu_X8_readFactor (zM (d + 4)) (M + 1) 109 [.inr (.inr 38)] τ = some (1, 0, wr τ 38 3 (σ 5 p)) := by
    intro M h1 h2
    rw [qX8_readFactor_38_109, e45, e40, m_is (d + 3) H0 (by omega) (by omega), zbI_some, if_neg h1, if_pos rfl, m_is (d + 3) H0 (by omega) (by omega), zbI_some, if_neg h2, if_pos rfl, m_refuse (d + 3) H0, zbI_some, if_pos (Or.inl rfl)]
  rw [qX2_readFactor_23, qX2_readFactor_23_0, c_kind (d + 3) H0, zbI_some, qX8_readFactor_38, qX8_readFactor_38_0, a10, z_cl (by omega), if_neg hin, if_neg hin, if_neg hin]
  rcases hk with ⟨h1, h2⟩ | ⟨h1, h2⟩ | ⟨r, hr, h1, h2, h3, h4⟩ | ⟨h1, h2, h3⟩ | ⟨h1, h2, h3⟩ | ⟨c, hc, hc2, h1, h2, h3⟩
  · rw [h1, h2, if_neg (by decide), if_neg (by decide), if_neg (by decide), if_neg (by decide), if_neg (by decide), if_neg (by decide), no _ (by rw [h1]; decide) (by rw [h1]; decide)]
    exact XRes.no H0 xFr.rf yFr.rf
  · have hm : (if τ 40 p = 2 then (zbI (zM (d + 4) mX8_node [.inr (.inr 38), .inl 48, .inl (τ 42 p), .inl 0, .inl 0] τ) (fun r1 s1 => some (1, 1, wr (wr s1 38 41 r1) 38 8 ((s1 38 8) + 1)))) else (if τ 40 p = 1 then (if nI p < 0 ∨ 402 ≤ p then none else (if τ 42 p < 20 then (zexec zc_X8_readFactor zu_X8_readFactor (zM (d + 4)) 999999 109 [.inr (.inr 38)] τ) else (if nI p < 0 ∨ 402 ≤ p then none else (zbI (zM (d + 4) mX8_node [.inr (.inr 38), .inl 114, .inl (τ 42 p - 20), .inl 0, .inl 0] τ) (fun r2 s2 => some (1, 1, wr (wr s2 38 41 r2) 38 8 ((s2 38 8) + 1))))))) else zexec zc_X8_readFactor zu_X8_readFactor (zM (d + 4)) 999999 109 [.inr (.inr 38)] τ)) = some (1, 0, wr τ 38 3 (σ 5 p)) := by
      rw [no _ (by rw [h1]; decide) (by rw [h1]; decide), if_neg hin]
      rcases h2 with h2 | ⟨h2, h3⟩
      · rw [h2, if_neg (by decide), if_neg (by decide)]
      · rw [h2, h3, if_neg (by decide), if_pos rfl, if_pos (by decide)]
    rw [h1, if_neg (by decide), if_neg (by decide), if_neg (by decide), if_neg (by decide)]
    first | rw [hm] | (simp only [if_neg hin] at hm ⊢; rw [hm])
    exact XRes.no H0 xFr.rf yFr.rf
  · have hp : p < mm := H0.lt ⟨by rw [h1]; decide, by rw [h1]; decide⟩
    have hsub : nI (20 + r) - 20 = nI r := by
      show nI (20 + r) - nI 20 = _
      rw [pk_sub (by omega)]; congr 1; omega
    rw [h1, h3, if_neg (by decide), if_pos rfl, if_neg (by decide), if_neg (by decide), if_pos rfl, if_neg hin, h4, if_neg (show ¬ nI (20 + r) < 20 from nI_nlt (b := 20) (by omega) (by omega)), if_neg hin, hsub, c_value (d + 3) H0, zbI_some, h2, c_addItem (d + 3) a16 (by omega), zbV_some, m_node (d + 3) a7 a8 a17 (by omega), zbI_some]
    obtain ⟨s', rfl⟩ : ∃ q, s = q + 1 := ⟨s - 1, by omega⟩
    rw [c_skip2 (d + 3) (p := p) (s := s') (by simp (disch := omega) only [lt_litR, lt_litL, eq_litR, eq_litL, lt_nn, eq_nn, lt_n0, z_cl, add_lit, eq_m1, eq_m1', m1_lt, false_or, or_false, if_pos, if_neg, zbI_some, zbV_some, wr_same, wr_cell, wr_slot, ne_eq, not_true_eq_false, not_false_eq_true, true_and, and_true, false_and, and_false, e10, e01, e00, if_true, if_false, Bool.false_eq_true, lit_ne, lit_lt, eq_self, a9]) (by simp (disch := omega) only [lt_litR, lt_litL, eq_litR, eq_litL, lt_nn, eq_nn, lt_n0, z_cl, add_lit, eq_m1, eq_m1', m1_lt, false_or, or_false, if_pos, if_neg, zbI_some, zbV_some, wr_same, wr_cell, wr_slot, ne_eq, not_true_eq_false, not_false_eq_true, true_and, and_true, false_and, and_false, e10, e01, e00, if_true, if_false, Bool.false_eq_true, lit_ne, lit_lt, eq_self, a6]) (by omega) (by omega), zbV_some, (mNd_at τ sd nn 114 (nI r) 0 0).2.2.2.2.2.2, a10, nI_1]
    exact XG.leaf H0 hp (by omega) 1 (nI r) 114 (Or.inr ⟨rfl, rfl, r, hr, rfl⟩)
  · have hp : p < mm := H0.lt ⟨by rw [h1]; decide, by rw [h1]; decide⟩
    rw [h1, h2, if_pos rfl, if_pos rfl, if_pos rfl, h3, c_value (d + 3) H0, zbI_some, c_addItem (d + 3) a16 (by omega), zbV_some, m_node (d + 3) a7 a8 a17 (by omega), zbI_some]
    obtain ⟨s', rfl⟩ : ∃ q, s = q + 1 := ⟨s - 1, by omega⟩
    rw [c_skip2 (d + 3) (p := p) (s := s') (by simp (disch := omega) only [lt_litR, lt_litL, eq_litR, eq_litL, lt_nn, eq_nn, lt_n0, z_cl, add_lit, eq_m1, eq_m1', m1_lt, false_or, or_false, if_pos, if_neg, zbI_some, zbV_some, wr_same, wr_cell, wr_slot, ne_eq, not_true_eq_false, not_false_eq_true, true_and, and_true, false_and, and_false, e10, e01, e00, if_true, if_false, Bool.false_eq_true, lit_ne, lit_lt, eq_self, a9]) (by simp (disch := omega) only [lt_litR, lt_litL, eq_litR, eq_litL, lt_nn, eq_nn, lt_n0, z_cl, add_lit, eq_m1, eq_m1', m1_lt, false_or, or_false, if_pos, if_neg, zbI_some, zbV_some, wr_same, wr_cell, wr_slot, ne_eq, not_true_eq_false, not_false_eq_true, true_and, and_true, false_and, and_false, e10, e01, e00, if_true, if_false, Bool.false_eq_true, lit_ne, lit_lt, eq_self, a6]) (by omega) (by omega), zbV_some, (mNd_at τ sd nn 48 (σ 6 p) 0 0).2.2.2.2.2.2, a10, nI_1]
    exact XG.leaf H0 hp (by omega) 0 (σ 6 p) 48 (Or.inl ⟨rfl, rfl⟩)
  · have hv : τ 42 p < 20 := by
      rcases h3 with ⟨_, h⟩ | ⟨_, h⟩ | ⟨_, h⟩ | ⟨_, h⟩ | ⟨_, h⟩ | ⟨_, h⟩ | ⟨_, h⟩ | ⟨_, h⟩ | ⟨_, h⟩ <;> rw [h] <;> decide
    rw [h1, h2, if_neg (by decide), if_neg (by decide), if_neg (by decide), if_neg (by decide), if_neg (by decide), if_pos rfl, if_neg hin, if_pos hv, no _ (by rw [h1]; decide) (by rw [h1]; decide)]
    exact XRes.no H0 xFr.rf yFr.rf
  · have hp : p < mm := H0.ltS (c := c) (by omega) (by omega) h1
    rw [h1, h2, if_neg (show ¬ nI c = 3 by simp (disch := omega) only [lt_litR, lt_litL, eq_litR, eq_litL, lt_nn, eq_nn, lt_n0, z_cl, add_lit, eq_m1, eq_m1', m1_lt, false_or, or_false, if_pos, if_neg, zbI_some, zbV_some, wr_same, wr_cell, wr_slot, ne_eq, not_true_eq_false, not_false_eq_true, true_and, and_true, false_and, and_false, e10, e01, e00, if_true, if_false, Bool.false_eq_true, lit_ne, lit_lt, eq_self]; omega), if_neg (show ¬ nI c = 2 by simp (disch := omega) only [lt_litR, lt_litL, eq_litR, eq_litL, lt_nn, eq_nn, lt_n0, z_cl, add_lit, eq_m1, eq_m1', m1_lt, false_or, or_false, if_pos, if_neg, zbI_some, zbV_some, wr_same, wr_cell, wr_slot, ne_eq, not_true_eq_false, not_false_eq_true, true_and, and_true, false_and, and_false, e10, e01, e00, if_true, if_false, Bool.false_eq_true, lit_ne, lit_lt, eq_self]; omega), if_neg (show ¬ (3 : Int32) = 2 by decide), if_neg (show ¬ (3 : Int32) = 1 by decide)]
    by_cases h45 : c = 45
    · subst h45
      rw [if_pos (show nI 45 = 45 from rfl), qX8_readFactor_38_109, e45, m_is (d + 3) H0 (by omega) (by omega), zbI_some, if_pos h1, if_neg (show ¬ (1 : Int32) = 0 by decide), qX8_readFactor_38_134, m_deeper (d + 2) H0]
      by_cases hd : dep = 10
      · rw [if_pos hd, zbI_some, if_pos rfl, if_neg (show ¬ nI dep < 10 from nI_nlt (b := 10) (by omega) (by omega))]
        exact XRes.no H0 xFr.rf yFr.rf
      · obtain ⟨H1, fx, fy⟩ := H0.deep hp (by omega)
        rw [if_neg hd, zbI_some, if_neg n10, if_neg n10, if_pos (show nI dep < 10 from nI_lt (b := 10) (by omega) (by omega)), c_skip (d + 3) H0 hp, zbV_some, if_neg (show ¬ nI 45 = 40 by decide), nI_1]
        obtain ⟨r, σ1, τ1, o1, o2, gx, gy, g⟩ := hF1 (by omega) (d + 4) (by omega) _ _ _ _ _ H1
        rw [o1, o2, zbI_some, zbI_some]
        rcases g with ⟨rfl, g⟩ | ⟨rfl, p1, ni1, nn1, x, H2, G2⟩
        · rw [if_pos rfl, if_pos rfl]
          exact ⟨0, σ1, τ1, rfl, rfl, fx.tr gx (Nat.le_refl _), fy.tr gy (Nat.le_refl _), Or.inl ⟨rfl, g⟩⟩
        · have hle2 := H2.le
          have gi := G2.ile
          have G20 := G2
          obtain ⟨q1, q2, q3, q4, q5, q6⟩ := G2
          obtain ⟨e0, e1, e2, e3, e4, e5, e6⟩ := mNd_at τ1 sd nn1 110 (nI x) 0 0
          rw [if_neg n10, if_neg n10, if_neg n10, q5, c_addItem (d + 3) H2.2.2.2.2.2.2.2.2.2.2.2.2.2.2.2.1 (by omega), zbV_some, m_node (d + 3) H2.2.2.2.2.2.2.1 H2.2.2.2.2.2.2.2.1 H2.2.2.2.2.2.2.2.2.2.2.2.2.2.2.2.2.1 (by omega), zbI_some, e6, H2.2.2.2.2.2.2.2.2.2.2.2.1, nI_pred]
          have xN : xFr σ1 (wr (wr (wr σ1 13 ni1 2) 14 ni1 0) 7 8 (nI (ni1 + 1))) ni1 := xFr.item 2 0
          have yN : yFr sd τ1 (wr (wr (mNd τ1 sd nn1 110 (nI x) 0 0) 38 41 (nI (800 * (1 - sd) + nn1))) 38 9 (nI dep)) nn1 := ((yFr.node hle.2.2.2.2.1 (by omega) 110 (nI x) 0 0).tr (yFr.w (by omega) _) (Nat.le_refl _)).tr (yFr.w (by omega) _) (Nat.le_refl _)
          refine ⟨1, _, _, rfl, rfl, (fx.tr gx (Nat.le_refl _)).tr xN (by omega), (fy.tr gy (Nat.le_refl _)).tr yN (by omega), Or.inr ⟨rfl, p1, ni1 + 1, nn1 + 1, 800 * (1 - sd) + nn1, H2.of xN yN ?_ ?_ hle2.1 (by rw [wr_same]) hdep (by rw [wr_same]) ?_ (by omega) (by omega), by omega, by omega, by omega, by omega, ?_, ?_⟩⟩
          · simp (disch := omega) only [lt_litR, lt_litL, eq_litR, eq_litL, lt_nn, eq_nn, lt_n0, z_cl, add_lit, eq_m1, eq_m1', m1_lt, false_or, or_false, if_pos, if_neg, zbI_some, zbV_some, wr_same, wr_cell, wr_slot, ne_eq, not_true_eq_false, not_false_eq_true, true_and, and_true, false_and, and_false, e10, e01, e00, if_true, if_false, Bool.false_eq_true, lit_ne, lit_lt, eq_self, H2.2.2.2.2.2.2.2.2.1]
          · rw [wr_slot _ _ _ (by omega), wr_slot _ _ _ (by omega), e6, H2.2.2.2.2.2.2.2.2.2.1]
          · rw [wr_cell _ _ _ (by omega), wr_cell _ _ _ (by omega), e0]
          · rw [wr_slot _ _ _ (by omega), wr_same]
          · rw [show nn1 + 1 - nn = (nn1 - nn) + 1 by omega]
            have R := G20.rep (nn2 := nn1 + 1) (k := nn1 - nn) xN yN (by omega) (by omega) (Nat.le_refl _)
            refine ⟨by omega, by omega, Or.inr (Or.inr (Or.inl ⟨x, ni1, ?_, ?_, RepX_mono R (Nat.le_refl _) (by omega), rfl, by simp (disch := omega) only [lt_litR, lt_litL, eq_litR, eq_litL, lt_nn, eq_nn, lt_n0, z_cl, add_lit, eq_m1, eq_m1', m1_lt, false_or, or_false, if_pos, if_neg, zbI_some, zbV_some, wr_same, wr_cell, wr_slot, ne_eq, not_true_eq_false, not_false_eq_true, true_and, and_true, false_and, and_false, e10, e01, e00, if_true, if_false, Bool.false_eq_true, lit_ne, lit_lt, eq_self]⟩))⟩
            · rw [mkT, if_pos (by omega), wr_cell _ _ _ (by omega), wr_cell _ _ _ (by omega), e1]
            · rw [wr_cell _ _ _ (by omega), wr_cell _ _ _ (by omega), e2]
    · by_cases h40 : c = 40
      · subst h40
        rw [if_neg (show ¬ nI 40 = 45 by decide), if_pos (show nI 40 = 40 from rfl), qX8_readFactor_38_109, e45, e40, m_is (d + 3) H0 (by omega) (by omega), zbI_some, if_neg (show ¬ σ 4 p = nI 45 by rw [h1]; decide), if_pos rfl, m_is (d + 3) H0 (by omega) (by omega), zbI_some, if_pos h1, if_neg (show ¬ (1 : Int32) = 0 by decide), qX8_readFactor_38_134, m_deeper (d + 2) H0]
        by_cases hd : dep = 10
        · rw [if_pos hd, zbI_some, if_pos rfl, if_neg (show ¬ nI dep < 10 from nI_nlt (b := 10) (by omega) (by omega))]
          exact XRes.no H0 xFr.rf yFr.rf
        · obtain ⟨H1, fx, fy⟩ := H0.deep hp (by omega)
          have e41 : (41 : Int32) = nI 41 := rfl
          rw [if_neg hd, zbI_some, if_neg n10, if_pos rfl, if_pos (show nI dep < 10 from nI_lt (b := 10) (by omega) (by omega)), c_skip (d + 3) H0 hp, zbV_some, nI_1, e41]
          obtain ⟨r, σ1, τ1, o1, o2, gx, gy, g⟩ := hX1 (by omega) (d + 4) (by omega) _ _ _ _ _ H1
          rw [o1, o2, zbI_some, zbI_some]
          rcases g with ⟨rfl, g⟩ | ⟨rfl, p1, ni1, nn1, x, H2, G2⟩
          · rw [if_pos rfl, if_pos rfl]
            exact ⟨0, σ1, τ1, rfl, rfl, fx.tr gx (Nat.le_refl _), fy.tr gy (Nat.le_refl _), Or.inl ⟨rfl, g⟩⟩
          · have hle2 := H2.le
            have gi := G2.ile
            have G20 := G2
            obtain ⟨q1, q2, q3, q4, q5, q6⟩ := G2
            rw [if_neg n10, if_neg n10, (t_take (d + 2) H2 (c := 41) (by omega) (by omega)).1, m_want (d + 1) H2 (c := 41) (by omega) (by omega)]
            by_cases h41 : σ1 4 p1 = nI 41
            · have hp1 := H2.ltS (c := 41) (by omega) (by omega) h41
              rw [if_pos h41, if_pos h41, zbI_some, zbI_some, if_neg n10, if_neg n10, if_pos rfl]
              have h9 : wr τ1 38 8 (nI (p1 + 1)) 38 9 - 1 = nI dep := by rw [wr_slot _ _ _ (by omega), H2.2.2.2.2.2.2.2.2.2.2.2.1, nI_pred]
              rw [h9]
              have xN : xFr σ1 (wr σ1 3 4 (nI (p1 + 1))) ni1 := xFr.next _
              have yN : yFr sd τ1 (wr (wr τ1 38 8 (nI (p1 + 1))) 38 9 (nI dep)) nn1 := (yFr.w (by omega) _).tr (yFr.w (by omega) _) (Nat.le_refl _)
              refine ⟨1, _, _, rfl, rfl, (fx.tr gx (Nat.le_refl _)).tr xN (by omega), (fy.tr gy (Nat.le_refl _)).tr yN (by omega), Or.inr ⟨rfl, p1 + 1, ni1, nn1, x, H2.of xN yN (by rw [wr_same]) (by rw [wr_slot _ _ _ (by omega), wr_same]) (by omega) (by rw [wr_same]) hdep (by rw [wr_cell _ _ _ (by omega)]; exact H2.2.2.2.2.2.2.2.2.2.2.2.2.2.2.2.1) (by rw [wr_cell _ _ _ (by omega), wr_cell _ _ _ (by omega)]; exact H2.2.2.2.2.2.2.2.2.2.2.2.2.2.2.2.2.1) (by omega) (by omega), by omega, by omega, by omega, q4, ?_, ?_⟩⟩
              · rw [wr_slot _ _ _ (by omega), wr_slot _ _ _ (by omega), q5]
              · exact RepX_mono (G20.rep (nn2 := nn1) (k := nn1 - nn) xN yN (Nat.le_refl _) (by omega) (Nat.le_refl _)) (Nat.le_refl _) (by omega)
            · rw [if_neg h41, if_neg h41, zbI_some, zbI_some, if_pos rfl, if_pos rfl]
              exact XRes.no H2 (fx.tr gx (Nat.le_refl _)) (fy.tr gy (Nat.le_refl _))
      · rw [if_neg (show ¬ nI c = 45 by simp (disch := omega) only [lt_litR, lt_litL, eq_litR, eq_litL, lt_nn, eq_nn, lt_n0, z_cl, add_lit, eq_m1, eq_m1', m1_lt, false_or, or_false, if_pos, if_neg, zbI_some, zbV_some, wr_same, wr_cell, wr_slot, ne_eq, not_true_eq_false, not_false_eq_true, true_and, and_true, false_and, and_false, e10, e01, e00, if_true, if_false, Bool.false_eq_true, lit_ne, lit_lt, eq_self]; exact h45), if_neg (show ¬ nI c = 40 by simp (disch := omega) only [lt_litR, lt_litL, eq_litR, eq_litL, lt_nn, eq_nn, lt_n0, z_cl, add_lit, eq_m1, eq_m1', m1_lt, false_or, or_false, if_pos, if_neg, zbI_some, zbV_some, wr_same, wr_cell, wr_slot, ne_eq, not_true_eq_false, not_false_eq_true, true_and, and_true, false_and, and_false, e10, e01, e00, if_true, if_false, Bool.false_eq_true, lit_ne, lit_lt, eq_self]; exact h40), no _ (by rw [h1, e45.symm]; simp (disch := omega) only [lt_litR, lt_litL, eq_litR, eq_litL, lt_nn, eq_nn, lt_n0, z_cl, add_lit, eq_m1, eq_m1', m1_lt, false_or, or_false, if_pos, if_neg, zbI_some, zbV_some, wr_same, wr_cell, wr_slot, ne_eq, not_true_eq_false, not_false_eq_true, true_and, and_true, false_and, and_false, e10, e01, e00, if_true, if_false, Bool.false_eq_true, lit_ne, lit_lt, eq_self]; exact h45) (by rw [h1, e40.symm]; simp (disch := omega) only [lt_litR, lt_litL, eq_litR, eq_litL, lt_nn, eq_nn, lt_n0, z_cl, add_lit, eq_m1, eq_m1', m1_lt, false_or, or_false, if_pos, if_neg, zbI_some, zbV_some, wr_same, wr_cell, wr_slot, ne_eq, not_true_eq_false, not_false_eq_true, true_and, and_true, false_and, and_false, e10, e01, e00, if_true, if_false, Bool.false_eq_true, lit_ne, lit_lt, eq_self]; exact h40)]
        exact XRes.no H0 xFr.rf yFr.rf
theorem t_allX (mm s sd ne : Nat) : ∀ g dep, dep + g = 10 → FOK mm s sd ne dep ∧ XOK mm s sd ne dep := by
  intro g
  induction g with
  | zero =>
    intro dep h
    have hF : FOK mm s sd ne dep := t_factor (by omega) (fun h => by omega) (fun h => by omega)
    exact ⟨hF, t_X (t_sum (t_term hF (by omega)) (by omega)) (by omega)⟩
  | succ g ih =>
    intro dep h
    obtain ⟨i1, i2⟩ := ih (dep + 1) (by omega)
    have hF : FOK mm s sd ne dep := t_factor (by omega) (fun _ => i2) (fun _ => i1)
    exact ⟨hF, t_X (t_sum (t_term hF (by omega)) (by omega)) (by omega)⟩
theorem t_readX (mm s sd ne dep : Nat) (h : dep ≤ 10) : XOK mm s sd ne dep := (t_allX mm s sd ne (10 - dep) dep (by omega)).2
