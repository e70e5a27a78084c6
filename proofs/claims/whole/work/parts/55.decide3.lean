theorem mFin_cell (τ : zS) {c : Nat} (h : c ≠ 38) (h2 : c ≠ 53) : mFin τ c = τ c := by
  rw [mFin]; simp (disch := omega) only [lt_litR, lt_litL, eq_litR, eq_litL, lt_nn, eq_nn, lt_n0, z_cl, add_lit, eq_m1, eq_m1', m1_lt, false_or, or_false, if_pos, if_neg, zbI_some, zbV_some, wr_same, wr_cell, wr_slot, ne_eq, not_true_eq_false, not_false_eq_true, true_and, and_true, false_and, and_false, e10, e01, e00, if_true, if_false, Bool.false_eq_true, lit_ne, lit_lt, eq_self, mCp_cell]
theorem mFin_53 (τ : zS) {r : Nat} (h : r < 8) : mFin τ 53 r = τ 54 r := by
  rw [mFin]; simp (disch := omega) only [lt_litR, lt_litL, eq_litR, eq_litL, lt_nn, eq_nn, lt_n0, z_cl, add_lit, eq_m1, eq_m1', m1_lt, false_or, or_false, if_pos, if_neg, zbI_some, zbV_some, wr_same, wr_cell, wr_slot, ne_eq, not_true_eq_false, not_false_eq_true, true_and, and_true, false_and, and_false, e10, e01, e00, if_true, if_false, Bool.false_eq_true, lit_ne, lit_lt, eq_self, mCp_at]
theorem mFin_38 (τ : zS) {k : Nat} (h : k ≠ 25) (h2 : k ≠ 26) (h3 : k ≠ 27) : mFin τ 38 k = τ 38 k := by
  rw [mFin]; simp (disch := omega) only [lt_litR, lt_litL, eq_litR, eq_litL, lt_nn, eq_nn, lt_n0, z_cl, add_lit, eq_m1, eq_m1', m1_lt, false_or, or_false, if_pos, if_neg, zbI_some, zbV_some, wr_same, wr_cell, wr_slot, ne_eq, not_true_eq_false, not_false_eq_true, true_and, and_true, false_and, and_false, e10, e01, e00, if_true, if_false, Bool.false_eq_true, lit_ne, lit_lt, eq_self, mCp_cell]
theorem t_decide (D : Nat) (hD : 700 ≤ D) {σ : zS} {n : Nat} (H : InvN σ n) (x : Int32) : ∃ k v σ1 v2 σ2 n', zM D mX7_decide [.inr (.inr 0), .inl x] σ = some (k, v, σ1) ∧ zM D mX8_decide [.inr (.inr 38), .inl x] σ1 = some (1, v2, σ2) ∧ ((k = 1 ∧ σ2 38 0 = 0 ∧ v = v2) ∨ (k = 2 ∧ σ2 38 0 = 1)) ∧ InvN σ2 n' := by
  obtain ⟨D, rfl⟩ : ∃ k, D = k + 9 := ⟨D - 9, by omega⟩
  have H0 := H
  obtain ⟨a1, ⟨a21, a22, a23⟩, ⟨a3, a4, a5⟩, ⟨b1, b2, b3, b4, b5⟩, ⟨c1, c2⟩, sd, c3, c4⟩ := H
  have hn := a3.2.1
  rcases c2 with h9 | ⟨h9, hP, hR, hC⟩
  · refine ⟨2, 0, wr (wr σ 0 11 1) 0 12 (-1), 0, wr (wr (wr (wr (wr σ 0 11 1) 0 12 (-1)) 38 29 (-1)) 38 28 1) 38 0 1, n, ?_, ?_, Or.inr ⟨rfl, by simp (disch := omega) only [lt_litR, lt_litL, eq_litR, eq_litL, lt_nn, eq_nn, lt_n0, z_cl, add_lit, eq_m1, eq_m1', m1_lt, false_or, or_false, if_pos, if_neg, zbI_some, zbV_some, wr_same, wr_cell, wr_slot, ne_eq, not_true_eq_false, not_false_eq_true, true_and, and_true, false_and, and_false, e10, e01, e00, if_true, if_false, Bool.false_eq_true, lit_ne, lit_lt, eq_self]⟩, ?_⟩
    · rw [qX7_decide_0, qX7_decide_0_0, s_size, zbI_some, if_pos h9]
    · rw [qX8_decide_38, qX8_decide_38_0, if_pos (by rw [wr_cell _ _ _ (by omega), wr_cell _ _ _ (by omega), ← c1, h9]), m_raise, zbI_some]
    · exact H0.frame (fun c h1 h2 => by simp (disch := omega) only [lt_litR, lt_litL, eq_litR, eq_litL, lt_nn, eq_nn, lt_n0, z_cl, add_lit, eq_m1, eq_m1', m1_lt, false_or, or_false, if_pos, if_neg, zbI_some, zbV_some, wr_same, wr_cell, wr_slot, ne_eq, not_true_eq_false, not_false_eq_true, true_and, and_true, false_and, and_false, e10, e01, e00, if_true, if_false, Bool.false_eq_true, lit_ne, lit_lt, eq_self]) (by simp (disch := omega) only [lt_litR, lt_litL, eq_litR, eq_litL, lt_nn, eq_nn, lt_n0, z_cl, add_lit, eq_m1, eq_m1', m1_lt, false_or, or_false, if_pos, if_neg, zbI_some, zbV_some, wr_same, wr_cell, wr_slot, ne_eq, not_true_eq_false, not_false_eq_true, true_and, and_true, false_and, and_false, e10, e01, e00, if_true, if_false, Bool.false_eq_true, lit_ne, lit_lt, eq_self]) (fun k hk => by simp (disch := omega) only [lt_litR, lt_litL, eq_litR, eq_litL, lt_nn, eq_nn, lt_n0, z_cl, add_lit, eq_m1, eq_m1', m1_lt, false_or, or_false, if_pos, if_neg, zbI_some, zbV_some, wr_same, wr_cell, wr_slot, ne_eq, not_true_eq_false, not_false_eq_true, true_and, and_true, false_and, and_false, e10, e01, e00, if_true, if_false, Bool.false_eq_true, lit_ne, lit_lt, eq_self]) ⟨by simp (disch := omega) only [lt_litR, lt_litL, eq_litR, eq_litL, lt_nn, eq_nn, lt_n0, z_cl, add_lit, eq_m1, eq_m1', m1_lt, false_or, or_false, if_pos, if_neg, zbI_some, zbV_some, wr_same, wr_cell, wr_slot, ne_eq, not_true_eq_false, not_false_eq_true, true_and, and_true, false_and, and_false, e10, e01, e00, if_true, if_false, Bool.false_eq_true, lit_ne, lit_lt, eq_self, a21], by simp (disch := omega) only [lt_litR, lt_litL, eq_litR, eq_litL, lt_nn, eq_nn, lt_n0, z_cl, add_lit, eq_m1, eq_m1', m1_lt, false_or, or_false, if_pos, if_neg, zbI_some, zbV_some, wr_same, wr_cell, wr_slot, ne_eq, not_true_eq_false, not_false_eq_true, true_and, and_true, false_and, and_false, e10, e01, e00, if_true, if_false, Bool.false_eq_true, lit_ne, lit_lt, eq_self], by simp (disch := omega) only [lt_litR, lt_litL, eq_litR, eq_litL, lt_nn, eq_nn, lt_n0, z_cl, add_lit, eq_m1, eq_m1', m1_lt, false_or, or_false, if_pos, if_neg, zbI_some, zbV_some, wr_same, wr_cell, wr_slot, ne_eq, not_true_eq_false, not_false_eq_true, true_and, and_true, false_and, and_false, e10, e01, e00, if_true, if_false, Bool.false_eq_true, lit_ne, lit_lt, eq_self]⟩
  · have hz := hR.2.1
    have hW := prog_all hP.to
    have hJ := prog_jumps hP.to
    have hHτ : HRel σ (wr (wr (wr σ 38 29 (-1)) 38 28 1) 38 39 x) n := a3.cong rfl rfl (fun _ _ => ⟨rfl, rfl, rfl, rfl⟩) (fun _ => rfl) (fun i _ => by simp (disch := omega) only [lt_litR, lt_litL, eq_litR, eq_litL, lt_nn, eq_nn, lt_n0, z_cl, add_lit, eq_m1, eq_m1', m1_lt, false_or, or_false, if_pos, if_neg, zbI_some, zbV_some, wr_same, wr_cell, wr_slot, ne_eq, not_true_eq_false, not_false_eq_true, true_and, and_true, false_and, and_false, e10, e01, e00, if_true, if_false, Bool.false_eq_true, lit_ne, lit_lt, eq_self, and_self])
    have h20τ : wr (wr (wr σ 38 29 (-1)) 38 28 1) 38 39 x 38 20 = nI n := by simp (disch := omega) only [lt_litR, lt_litL, eq_litR, eq_litL, lt_nn, eq_nn, lt_n0, z_cl, add_lit, eq_m1, eq_m1', m1_lt, false_or, or_false, if_pos, if_neg, zbI_some, zbV_some, wr_same, wr_cell, wr_slot, ne_eq, not_true_eq_false, not_false_eq_true, true_and, and_true, false_and, and_false, e10, e01, e00, if_true, if_false, Bool.false_eq_true, lit_ne, lit_lt, eq_self, a4]
    have hCτ : CRs (Pc σ) σ (wr (wr (wr σ 38 29 (-1)) 38 28 1) 38 39 x) n := hC.keep hz hW hR (fun _ _ => rfl) (fun _ _ => rfl) hHτ (Nat.le_refl _) a4 h20τ (fun i _ => by rw [tEq]; simp (disch := omega) only [lt_litR, lt_litL, eq_litR, eq_litL, lt_nn, eq_nn, lt_n0, z_cl, add_lit, eq_m1, eq_m1', m1_lt, false_or, or_false, if_pos, if_neg, zbI_some, zbV_some, wr_same, wr_cell, wr_slot, ne_eq, not_true_eq_false, not_false_eq_true, true_and, and_true, false_and, and_false, e10, e01, e00, if_true, if_false, Bool.false_eq_true, lit_ne, lit_lt, eq_self, and_self]) (kC_false h20τ hn (Nat.le_refl _) (by omega))
    obtain ⟨σ1, t, k1, k2, k3, k4⟩ := c_decide D x h9 hz hW hJ hCτ h20τ (by simp (disch := omega) only [lt_litR, lt_litL, eq_litR, eq_litL, lt_nn, eq_nn, lt_n0, z_cl, add_lit, eq_m1, eq_m1', m1_lt, false_or, or_false, if_pos, if_neg, zbI_some, zbV_some, wr_same, wr_cell, wr_slot, ne_eq, not_true_eq_false, not_false_eq_true, true_and, and_true, false_and, and_false, e10, e01, e00, if_true, if_false, Bool.false_eq_true, lit_ne, lit_lt, eq_self]) hR hHτ
    -- the reference's side
    have lo : ∀ c, 38 ≤ c → σ1 c = σ c := fun c hc => k3.1 c (by omega) (by omega) (by omega) (by omega) (by omega) (by omega) (by omega) (by omega) (by omega) (by omega) (by omega) (by omega) (by omega) (by omega)
    have hPc1 : Pc σ1 = Pc σ := Pc_cong (fun c x1 x2 => k3.1 c (by omega) (by omega) (by omega) (by omega) (by omega) (by omega) (by omega) (by omega) (by omega) (by omega) (by omega) (by omega) (by omega) (by omega))
    obtain ⟨t', m1, m2, m3, m4, m5⟩ := m_decide (D + 9) (P := Pc σ) (σ := σ1) x (by omega) (by rw [lo 38 (by omega), ← c1, h9]; decide) ((hP.cong (fun c _ _ => lo c (by omega)) (lo 43 (by omega)) (by rw [lo 38 (by omega)])).to) (n := n) (by rw [lo 38 (by omega), a4]) hn (by rw [← a5]; exact kC_cong (by rw [lo 38 (by omega)]) (by rw [lo 50 (by omega)]))
    have hov : wr (wr (wr σ1 38 29 (-1)) 38 28 1) 38 39 x = ov (wr (wr (wr σ 38 29 (-1)) 38 28 1) 38 39 x) σ1 := by
      rw [ov_wr _ _ _ _ (by omega), ov_wr _ _ _ _ (by omega), ov_wr _ _ _ _ (by omega)]
      have : ov σ σ1 = σ1 := by
        funext c
        by_cases hc : c < 38
        · rw [ov_lo _ _ hc]
        · rw [ov_rd _ _ (by omega), lo c (by omega)]
      rw [this]
    have ht' : t' = ovS t σ1 := by
      have h1 := k1.ov σ1
      have h2 : ovS (0, 1, kInit (wr (wr (wr σ 38 29 (-1)) 38 28 1) 38 39 x)) σ1 = (0, 1, kInit (wr (wr (wr σ1 38 29 (-1)) 38 28 1) 38 39 x)) := by
        rw [hov, kInit_ov]; rfl
      rw [h2] at h1
      refine m1.un h1 m2 ?_
      show ¬ ov t.2.2 σ1 38 31 = 0
      rw [ov_rd _ _ (by omega)]
      exact k2
    have e' : t'.2.2 = ov t.2.2 σ1 := by rw [ht']; rfl
    have hi : ∀ c, 38 ≤ c → t'.2.2 c = t.2.2 c := fun c hc => by rw [e', ov_rd _ _ hc]
    have hl : ∀ c, c < 38 → t'.2.2 c = σ1 c := fun c hc => by rw [e', ov_lo _ _ hc]
    have hsm := k1.same
    simp only at hsm
    have s38 : ∀ k, ¬ (31 ≤ k ∧ k ≤ 40) → k ≠ 44 → k ≠ 28 → k ≠ 29 → t.2.2 38 k = σ 38 k := fun k y1 y2 y3 y4 => by
      rw [hsm.2 k (by omega) y2, kInit_38 _ (by omega)]; simp (disch := omega) only [lt_litR, lt_litL, eq_litR, eq_litL, lt_nn, eq_nn, lt_n0, z_cl, add_lit, eq_m1, eq_m1', m1_lt, false_or, or_false, if_pos, if_neg, zbI_some, zbV_some, wr_same, wr_cell, wr_slot, ne_eq, not_true_eq_false, not_false_eq_true, true_and, and_true, false_and, and_false, e10, e01, e00, if_true, if_false, Bool.false_eq_true, lit_ne, lit_lt, eq_self]
    have sc : ∀ c, 38 < c → c ≠ 50 → c ≠ 51 → c ≠ 52 → c ≠ 54 → t.2.2 c = σ c := fun c y1 y2 y3 y4 y5 => by
      rw [hsm.1 c (by omega) y2 y3 y4 y5, kInit_cell _ (by omega) y5]; simp (disch := omega) only [lt_litR, lt_litL, eq_litR, eq_litL, lt_nn, eq_nn, lt_n0, z_cl, add_lit, eq_m1, eq_m1', m1_lt, false_or, or_false, if_pos, if_neg, zbI_some, zbV_some, wr_same, wr_cell, wr_slot, ne_eq, not_true_eq_false, not_false_eq_true, true_and, and_true, false_and, and_false, e10, e01, e00, if_true, if_false, Bool.false_eq_true, lit_ne, lit_lt, eq_self]
    have stab : ∀ i, i < n → tEq σ t.2.2 i := fun i hi => by
      have := kTo_tab2 h20τ hn k1 i hi
      rw [tEq] at this ⊢
      simp (disch := omega) only [lt_litR, lt_litL, eq_litR, eq_litL, lt_nn, eq_nn, lt_n0, z_cl, add_lit, eq_m1, eq_m1', m1_lt, false_or, or_false, if_pos, if_neg, zbI_some, zbV_some, wr_same, wr_cell, wr_slot, ne_eq, not_true_eq_false, not_false_eq_true, true_and, and_true, false_and, and_false, e10, e01, e00, if_true, if_false, Bool.false_eq_true, lit_ne, lit_lt, eq_self] at this
      exact this
    have hPc2 : ∀ σ2 : zS, (∀ c, 15 ≤ c → c ≤ 22 → σ2 c = σ1 c) → Pc σ2 = Pc σ := fun σ2 h => by rw [Pc_cong h, hPc1]
    have cls : ∀ c, 1 ≤ c → c ≤ 23 → σ1 c = σ c := fun c x1 x2 => k3.1 c (by omega) (by omega) (by omega) (by omega) (by omega) (by omega) (by omega) (by omega) (by omega) (by omega) (by omega) (by omega) (by omega) (by omega)
    rcases k4 with ⟨e2, w2, τ', p', s', q1, q2, q3, q4, q5, q6, q7, q8, q9, q10, q11⟩ | ⟨q1, q2, q3, q4, q5, q6, q7, q8⟩
    · -- it is added
      have h31 : t'.2.2 38 31 = 9 := by rw [hi 38 (by omega), q2, wr_same]
      have hτ' : ∀ k, k ≠ 31 → t.2.2 38 k = τ' 38 k := fun k hk => by rw [q2, wr_slot _ _ _ hk]
      have hτc : ∀ c, c ≠ 38 → t.2.2 c = τ' c := fun c hc => by rw [q2, wr_cell _ _ _ hc]
      have q40 := q4
      obtain ⟨d1, d2, d3, d4, d5, d6, d7, d8, d9, d10, d11, d12, d13, d14, d15, d16, d17, d18, d19⟩ := q4
      obtain ⟨f1, f2, f3, f4, f5⟩ := d17.2 q5
      have hp' := f1.2.1
      have h35 : t'.2.2 38 35 = nI p' := by rw [hi 38 (by omega), hτ' 35 (by omega), d15.2.2.2.2.2.2.2.1 q5]
      have h20 : t'.2.2 38 20 = nI n := by rw [hi 38 (by omega), s38 20 (by omega) (by omega) (by omega) (by omega), a4]
      refine ⟨1, _, σ1, _, _, p', q1, m3 h31, Or.inl ⟨rfl, ?_, by rw [h35, h20]⟩, ?_⟩
      · rw [mFin_38 _ (by omega) (by omega) (by omega)]; simp (disch := omega) only [lt_litR, lt_litL, eq_litR, eq_litL, lt_nn, eq_nn, lt_n0, z_cl, add_lit, eq_m1, eq_m1', m1_lt, false_or, or_false, if_pos, if_neg, zbI_some, zbV_some, wr_same, wr_cell, wr_slot, ne_eq, not_true_eq_false, not_false_eq_true, true_and, and_true, false_and, and_false, e10, e01, e00, if_true, if_false, Bool.false_eq_true, lit_ne, lit_lt, eq_self]
      generalize hσ2 : mFin (wr (wr (wr t'.2.2 38 28 0) 38 0 0) 38 20 (t'.2.2 38 35)) = σ2
      have g1 : ∀ c, c < 38 → σ2 c = σ1 c := fun c hc => by rw [← hσ2, mFin_cell _ (by omega) (by omega), wr_cell _ _ _ (by omega), wr_cell _ _ _ (by omega), wr_cell _ _ _ (by omega), hl c hc]
      have g2 : ∀ c, 38 < c → c ≠ 53 → σ2 c = τ' c := fun c hc hc2 => by rw [← hσ2, mFin_cell _ (by omega) hc2, wr_cell _ _ _ (by omega), wr_cell _ _ _ (by omega), wr_cell _ _ _ (by omega), hi c (by omega), hτc c (by omega)]
      have g3 : ∀ k, k ≠ 25 → k ≠ 26 → k ≠ 27 → k ≠ 28 → k ≠ 0 → k ≠ 20 → σ2 38 k = t.2.2 38 k := fun k x1 x2 x3 x4 x5 x6 => by rw [← hσ2, mFin_38 _ x1 x2 x3, wr_slot _ _ _ x6, wr_slot _ _ _ x5, wr_slot _ _ _ x4, hi 38 (by omega)]
      have g20 : σ2 38 20 = nI p' := by rw [← hσ2, mFin_38 _ (by omega) (by omega) (by omega), wr_same, h35]
      have hH2 : HRel σ2 σ2 p' := f1.cong (by rw [g1 24 (by omega)]) (by rw [g1 24 (by omega)]) (fun i _ => by rw [g1 25 (by omega), g1 26 (by omega), g1 27 (by omega), g1 28 (by omega)]; exact ⟨rfl, rfl, rfl, rfl⟩) (fun i => by rw [g1 29 (by omega)]) (fun i _ => by rw [g2 50 (by omega) (by omega), g2 51 (by omega) (by omega), g2 52 (by omega) (by omega)]; exact ⟨rfl, rfl, rfl⟩)
      have hP2 : Pc σ2 = Pc σ := hPc2 σ2 (fun c x1 x2 => g1 c (by omega))
      have hR2 : PRel (Pc σ) σ2 := ⟨fun c x1 x2 => by rw [g1 c (by omega), cls c (by omega) (by omega), hR.1 c x1 x2], hR.2⟩
      refine ⟨a1.cong (by rw [g1 1 (by omega), cls 1 (by omega) (by omega)]) (by rw [g1 2 (by omega), cls 2 (by omega) (by omega)]) (by rw [g3 2 (by omega) (by omega) (by omega) (by omega) (by omega) (by omega), s38 2 (by omega) (by omega) (by omega) (by omega)]) (by rw [g2 39 (by omega) (by omega), ← hτc 39 (by omega), sc 39 (by omega) (by omega) (by omega) (by omega) (by omega)]), ⟨?_, ?_, ?_⟩, ⟨hH2, g20, ?_⟩, ⟨fun r hr => ?_, ?_, ?_, ?_, ?_⟩, ⟨?_, Or.inr ⟨?_, ?_, by rw [hP2]; exact hR2, ?_⟩⟩, sd, c3, ?_⟩
      · rw [g1 0 (by omega), k3.2 10 (by omega) (by omega), a21, g3 3 (by omega) (by omega) (by omega) (by omega) (by omega) (by omega), s38 3 (by omega) (by omega) (by omega) (by omega)]
      · rw [g1 0 (by omega), q8, ← hσ2, mFin_38 _ (by omega) (by omega) (by omega)]; simp (disch := omega) only [lt_litR, lt_litL, eq_litR, eq_litL, lt_nn, eq_nn, lt_n0, z_cl, add_lit, eq_m1, eq_m1', m1_lt, false_or, or_false, if_pos, if_neg, zbI_some, zbV_some, wr_same, wr_cell, wr_slot, ne_eq, not_true_eq_false, not_false_eq_true, true_and, and_true, false_and, and_false, e10, e01, e00, if_true, if_false, Bool.false_eq_true, lit_ne, lit_lt, eq_self]
      · rw [g1 0 (by omega), q9, g3 29 (by omega) (by omega) (by omega) (by omega) (by omega) (by omega), hsm.2 29 (by omega) (by omega), kInit_38 _ (by omega)]; simp (disch := omega) only [lt_litR, lt_litL, eq_litR, eq_litL, lt_nn, eq_nn, lt_n0, z_cl, add_lit, eq_m1, eq_m1', m1_lt, false_or, or_false, if_pos, if_neg, zbI_some, zbV_some, wr_same, wr_cell, wr_slot, ne_eq, not_true_eq_false, not_false_eq_true, true_and, and_true, false_and, and_false, e10, e01, e00, if_true, if_false, Bool.false_eq_true, lit_ne, lit_lt, eq_self]
      · by_cases hn0 : n = 0
        · subst hn0
          rw [kC_at g20 hp' (by omega), g2 50 (by omega) (by omega), f5]
          decide
        · rw [kC_at g20 hp' (by omega), g2 50 (by omega) (by omega), ← hτc 50 (by omega), (stab 0 (by omega)).1, ← kC_at a4 hn (by omega)]
          exact a5
      · rw [g1 33 (by omega), q10 r hr, d4 r hr, ← hσ2, mFin_53 _ hr]
        simp (disch := omega) only [lt_litR, lt_litL, eq_litR, eq_litL, lt_nn, eq_nn, lt_n0, z_cl, add_lit, eq_m1, eq_m1', m1_lt, false_or, or_false, if_pos, if_neg, zbI_some, zbV_some, wr_same, wr_cell, wr_slot, ne_eq, not_true_eq_false, not_false_eq_true, true_and, and_true, false_and, and_false, e10, e01, e00, if_true, if_false, Bool.false_eq_true, lit_ne, lit_lt, eq_self, hi 54 (by omega), hτc 54 (by omega)]
      · rw [g1 32 (by omega), q11 5 (by omega) (by omega), d8, ← hσ2, mFin]
        simp (disch := omega) only [lt_litR, lt_litL, eq_litR, eq_litL, lt_nn, eq_nn, lt_n0, z_cl, add_lit, eq_m1, eq_m1', m1_lt, false_or, or_false, if_pos, if_neg, zbI_some, zbV_some, wr_same, wr_cell, wr_slot, ne_eq, not_true_eq_false, not_false_eq_true, true_and, and_true, false_and, and_false, e10, e01, e00, if_true, if_false, Bool.false_eq_true, lit_ne, lit_lt, eq_self, hi 38 (by omega), hτ' 38 (by omega), d18]
        rcases q6 with h | h <;> subst h <;> decide
      · rw [g1 32 (by omega), q11 3 (by omega) (by omega), d7, ← hσ2, mFin]
        simp (disch := omega) only [lt_litR, lt_litL, eq_litR, eq_litL, lt_nn, eq_nn, lt_n0, z_cl, add_lit, eq_m1, eq_m1', m1_lt, false_or, or_false, if_pos, if_neg, zbI_some, zbV_some, wr_same, wr_cell, wr_slot, ne_eq, not_true_eq_false, not_false_eq_true, true_and, and_true, false_and, and_false, e10, e01, e00, if_true, if_false, Bool.false_eq_true, lit_ne, lit_lt, eq_self, hi 38 (by omega), hτ' 36 (by omega), d15.2.2.2.2.2.2.2.2.1]
      · rw [g1 32 (by omega), q11 2 (by omega) (by omega), d5, ← hσ2, mFin]
        simp (disch := omega) only [lt_litR, lt_litL, eq_litR, eq_litL, lt_nn, eq_nn, lt_n0, z_cl, add_lit, eq_m1, eq_m1', m1_lt, false_or, or_false, if_pos, if_neg, zbI_some, zbV_some, wr_same, wr_cell, wr_slot, ne_eq, not_true_eq_false, not_false_eq_true, true_and, and_true, false_and, and_false, e10, e01, e00, if_true, if_false, Bool.false_eq_true, lit_ne, lit_lt, eq_self, hi 38 (by omega), hτ' 37 (by omega)]
      · rw [g1 32 (by omega), q11 5 (by omega) (by omega), d8]
        rcases q6 with h | h <;> subst h <;> decide
      · rw [g1 0 (by omega), k3.2 9 (by omega) (by omega), c1, g3 11 (by omega) (by omega) (by omega) (by omega) (by omega) (by omega), s38 11 (by omega) (by omega) (by omega) (by omega)]
      · rw [g1 0 (by omega), k3.2 9 (by omega) (by omega), h9]
      · rw [hP2]
        refine hP.cong (fun c x1 x2 => ?_) ?_ ?_
        · rw [g2 c (by omega) (by omega), ← hτc c (by omega), sc c (by omega) (by omega) (by omega) (by omega) (by omega)]
        · rw [g2 43 (by omega) (by omega), ← hτc 43 (by omega), sc 43 (by omega) (by omega) (by omega) (by omega) (by omega)]
        · rw [g3 10 (by omega) (by omega) (by omega) (by omega) (by omega) (by omega), s38 10 (by omega) (by omega) (by omega) (by omega)]
      · rw [hP2]
        have hS2 : SimW (Pc σ) σ2 e2 w2 τ' n p' n s' := q40.cong (fun c x1 x2 => g1 c (by omega)) (fun c x1 x2 => g1 c (by omega)) (fun k _ => by rw [g1 30 (by omega)]) (g1 31 (by omega)) (g1 34 (by omega))
        exact CRs.live hz hW h20τ q3 hS2 q5 q6 (by rw [g1 30 (by omega), q7]) g20 (fun i _ => by rw [tEq, g2 50 (by omega) (by omega), g2 51 (by omega) (by omega), g2 52 (by omega) (by omega)]; exact ⟨rfl, rfl, rfl⟩) hH2
      · rw [g3 10 (by omega) (by omega) (by omega) (by omega) (by omega) (by omega), s38 10 (by omega) (by omega) (by omega) (by omega), c4]
    · -- it is refused
      have hst9 : ¬ t'.2.2 38 31 = 9 := by
        rw [hi 38 (by omega)]
        rcases q2 with h | h | h | h <;> rw [h] <;> decide
      -- what the reference has behind it
      have fin : ∀ (σ2 : zS) (v28 v29 : Int32), σ2 = wr (wr (wr t'.2.2 38 28 v28) 38 29 v29) 38 0 1 → v28 = t.2.2 38 31 → v29 = (if t.2.2 38 31 = 2 then t.2.2 38 40 else -1) → InvN σ2 n := by
        intro σ2 v28 v29 hσ2 h28 h29
        have g1 : ∀ c, c < 38 → σ2 c = σ1 c := fun c hc => by rw [hσ2, wr_cell _ _ _ (by omega), wr_cell _ _ _ (by omega), wr_cell _ _ _ (by omega), hl c hc]
        have g2 : ∀ c, 38 < c → σ2 c = t.2.2 c := fun c hc => by rw [hσ2, wr_cell _ _ _ (by omega), wr_cell _ _ _ (by omega), wr_cell _ _ _ (by omega), hi c (by omega)]
        have g3 : ∀ k, k ≠ 28 → k ≠ 29 → k ≠ 0 → σ2 38 k = t.2.2 38 k := fun k x1 x2 x3 => by rw [hσ2, wr_slot _ _ _ x3, wr_slot _ _ _ x2, wr_slot _ _ _ x1, hi 38 (by omega)]
        have g20 : σ2 38 20 = nI n := by rw [g3 20 (by omega) (by omega) (by omega), s38 20 (by omega) (by omega) (by omega) (by omega), a4]
        have hH2 : HRel σ2 σ2 n := q7.cong (by rw [g1 24 (by omega)]) (by rw [g1 24 (by omega)]) (fun i _ => by rw [g1 25 (by omega), g1 26 (by omega), g1 27 (by omega), g1 28 (by omega)]; exact ⟨rfl, rfl, rfl, rfl⟩) (fun i => by rw [g1 29 (by omega)]) (fun i _ => by rw [g2 50 (by omega), g2 51 (by omega), g2 52 (by omega)]; exact ⟨rfl, rfl, rfl⟩)
        have hP2 : Pc σ2 = Pc σ := hPc2 σ2 (fun c x1 x2 => g1 c (by omega))
        have hR1 : PRel (Pc σ) σ1 := ⟨fun c x1 x2 => by rw [cls c (by omega) (by omega), hR.1 c x1 x2], hR.2⟩
        have hR2 : PRel (Pc σ) σ2 := ⟨fun c x1 x2 => by rw [g1 c (by omega), cls c (by omega) (by omega), hR.1 c x1 x2], hR.2⟩
        have st2 : ∀ i, i < n → tEq (wr (wr (wr σ 38 29 (-1)) 38 28 1) 38 39 x) σ2 i := fun i hi2 => by
          obtain ⟨y1, y2, y3⟩ := stab i hi2
          rw [tEq, g2 50 (by omega), g2 51 (by omega), g2 52 (by omega), y1, y2, y3]
          simp (disch := omega) only [lt_litR, lt_litL, eq_litR, eq_litL, lt_nn, eq_nn, lt_n0, z_cl, add_lit, eq_m1, eq_m1', m1_lt, false_or, or_false, if_pos, if_neg, zbI_some, zbV_some, wr_same, wr_cell, wr_slot, ne_eq, not_true_eq_false, not_false_eq_true, true_and, and_true, false_and, and_false, e10, e01, e00, if_true, if_false, Bool.false_eq_true, lit_ne, lit_lt, eq_self, and_self]
        have hk0 : kC σ2 0 = false := by
          by_cases hn0 : n = 0
          · subst hn0; exact kC_false g20 hn (by omega) (by omega)
          · rw [kC_at g20 hn (by omega), g2 50 (by omega), (stab 0 (by omega)).1, ← kC_at a4 hn (by omega)]
            exact a5
        have hCR1 : CRs (Pc σ) σ1 σ2 n := q8 σ2 (hH2.cong (by rw [g1 24 (by omega)]) (by rw [g1 24 (by omega)]) (fun i _ => by rw [g1 25 (by omega), g1 26 (by omega), g1 27 (by omega), g1 28 (by omega)]; exact ⟨rfl, rfl, rfl, rfl⟩) (fun i => by rw [g1 29 (by omega)]) (fun _ _ => ⟨rfl, rfl, rfl⟩)) g20 st2 hk0
        refine ⟨a1.cong (by rw [g1 1 (by omega), cls 1 (by omega) (by omega)]) (by rw [g1 2 (by omega), cls 2 (by omega) (by omega)]) (by rw [g3 2 (by omega) (by omega) (by omega), s38 2 (by omega) (by omega) (by omega) (by omega)]) (by rw [g2 39 (by omega), sc 39 (by omega) (by omega) (by omega) (by omega) (by omega)]), ⟨?_, ?_, ?_⟩, ⟨hH2, g20, hk0⟩, ⟨fun r hr => ?_, ?_, ?_, ?_, ?_⟩, ⟨?_, Or.inr ⟨?_, ?_, by rw [hP2]; exact hR2, ?_⟩⟩, sd, c3, ?_⟩
        · rw [g1 0 (by omega), k3.2 10 (by omega) (by omega), a21, g3 3 (by omega) (by omega) (by omega), s38 3 (by omega) (by omega) (by omega) (by omega)]
        · rw [g1 0 (by omega), q3, hσ2, ← h28]; simp (disch := omega) only [lt_litR, lt_litL, eq_litR, eq_litL, lt_nn, eq_nn, lt_n0, z_cl, add_lit, eq_m1, eq_m1', m1_lt, false_or, or_false, if_pos, if_neg, zbI_some, zbV_some, wr_same, wr_cell, wr_slot, ne_eq, not_true_eq_false, not_false_eq_true, true_and, and_true, false_and, and_false, e10, e01, e00, if_true, if_false, Bool.false_eq_true, lit_ne, lit_lt, eq_self]
        · rw [g1 0 (by omega), q4, hσ2, ← h29]; simp (disch := omega) only [lt_litR, lt_litL, eq_litR, eq_litL, lt_nn, eq_nn, lt_n0, z_cl, add_lit, eq_m1, eq_m1', m1_lt, false_or, or_false, if_pos, if_neg, zbI_some, zbV_some, wr_same, wr_cell, wr_slot, ne_eq, not_true_eq_false, not_false_eq_true, true_and, and_true, false_and, and_false, e10, e01, e00, if_true, if_false, Bool.false_eq_true, lit_ne, lit_lt, eq_self]
        · rw [g1 33 (by omega), q6, b1 r hr, g2 53 (by omega), sc 53 (by omega) (by omega) (by omega) (by omega) (by omega)]
        · rw [g1 32 (by omega), q5, b2, g3 25 (by omega) (by omega) (by omega), s38 25 (by omega) (by omega) (by omega) (by omega)]
        · rw [g1 32 (by omega), q5, b3, g3 26 (by omega) (by omega) (by omega), s38 26 (by omega) (by omega) (by omega) (by omega)]
        · rw [g1 32 (by omega), q5, b4, g3 27 (by omega) (by omega) (by omega), s38 27 (by omega) (by omega) (by omega) (by omega)]
        · rw [g1 32 (by omega), q5]; exact b5
        · rw [g1 0 (by omega), k3.2 9 (by omega) (by omega), c1, g3 11 (by omega) (by omega) (by omega), s38 11 (by omega) (by omega) (by omega) (by omega)]
        · rw [g1 0 (by omega), k3.2 9 (by omega) (by omega), h9]
        · rw [hP2]
          refine hP.cong (fun c x1 x2 => ?_) ?_ ?_
          · rw [g2 c (by omega), sc c (by omega) (by omega) (by omega) (by omega) (by omega)]
          · rw [g2 43 (by omega), sc 43 (by omega) (by omega) (by omega) (by omega) (by omega)]
          · rw [g3 10 (by omega) (by omega) (by omega), s38 10 (by omega) (by omega) (by omega) (by omega)]
        · rw [hP2]
          exact hCR1.keep hz hW hR2 (fun k _ => by rw [g1 30 (by omega)]) (fun r _ => by rw [g1 31 (by omega)]) hH2 (Nat.le_refl _) g20 g20 (fun _ _ => ⟨rfl, rfl, rfl⟩) (kC_false g20 hn (Nat.le_refl _) (by omega))
        · rw [g3 10 (by omega) (by omega) (by omega), s38 10 (by omega) (by omega) (by omega) (by omega), c4]
      by_cases h2 : t.2.2 38 31 = 2
      · refine ⟨2, 0, σ1, _, _, n, q1, m4 (by rw [hi 38 (by omega), h2]), Or.inr ⟨rfl, by simp (disch := omega) only [lt_litR, lt_litL, eq_litR, eq_litL, lt_nn, eq_nn, lt_n0, z_cl, add_lit, eq_m1, eq_m1', m1_lt, false_or, or_false, if_pos, if_neg, zbI_some, zbV_some, wr_same, wr_cell, wr_slot, ne_eq, not_true_eq_false, not_false_eq_true, true_and, and_true, false_and, and_false, e10, e01, e00, if_true, if_false, Bool.false_eq_true, lit_ne, lit_lt, eq_self]⟩, fin _ 2 (t'.2.2 38 40) rfl (by rw [h2]) (by rw [if_pos h2, hi 38 (by omega)])⟩
      · have h29 : t'.2.2 38 29 = -1 := by
          rw [hi 38 (by omega), hsm.2 29 (by omega) (by omega), kInit_38 _ (by omega)]; simp (disch := omega) only [lt_litR, lt_litL, eq_litR, eq_litL, lt_nn, eq_nn, lt_n0, z_cl, add_lit, eq_m1, eq_m1', m1_lt, false_or, or_false, if_pos, if_neg, zbI_some, zbV_some, wr_same, wr_cell, wr_slot, ne_eq, not_true_eq_false, not_false_eq_true, true_and, and_true, false_and, and_false, e10, e01, e00, if_true, if_false, Bool.false_eq_true, lit_ne, lit_lt, eq_self]
        refine ⟨2, 0, σ1, _, _, n, q1, m5 hst9 (by rw [hi 38 (by omega)]; exact h2), Or.inr ⟨rfl, by simp (disch := omega) only [lt_litR, lt_litL, eq_litR, eq_litL, lt_nn, eq_nn, lt_n0, z_cl, add_lit, eq_m1, eq_m1', m1_lt, false_or, or_false, if_pos, if_neg, zbI_some, zbV_some, wr_same, wr_cell, wr_slot, ne_eq, not_true_eq_false, not_false_eq_true, true_and, and_true, false_and, and_false, e10, e01, e00, if_true, if_false, Bool.false_eq_true, lit_ne, lit_lt, eq_self]⟩, fin _ (t'.2.2 38 31) (-1) ?_ (by rw [hi 38 (by omega)]) (by rw [if_neg h2])⟩
        have := wr_id (wr t'.2.2 38 28 (t'.2.2 38 31)) 38 29
        rw [wr_slot _ _ _ (by omega), h29] at this
        rw [this]
