theorem t_term {mm s sd ne dep : Nat} (hF : FOK mm s sd ne dep) (hdep : dep ≤ 10) : TOK mm s sd ne dep := by
  intro D hD σ τ p ni nn H
  obtain ⟨D, rfl⟩ : ∃ k, D = k + 1 := ⟨D - 1, by omega⟩
  have hle := H.le
  rw [qX2_readTerm_23, qX2_readTerm_23_0, qX8_readTerm_38, qX8_readTerm_38_0]
  obtain ⟨r, σ1, τ1, o1, o2, gx, gy, g⟩ := hF D (by omega) _ _ _ _ _ H
  rw [o1, o2, zbI_some, zbI_some]
  rcases g with ⟨rfl, g⟩ | ⟨rfl, p1, ni1, nn1, y, H2, G2⟩
  · rw [if_pos rfl, if_pos rfl]
    exact ⟨0, σ1, τ1, rfl, rfl, gx, gy, Or.inl ⟨rfl, g⟩⟩
  · rw [if_neg (by decide), if_neg (by decide), show (0 : Int32) = nI 0 from rfl]
    have hle2 := H2.le
    exact t_termLoop hF hdep D (by omega) 500 999999 999999 0 σ1 τ1 p1 ni1 nn1 y H2 (G2.up (by omega)) gx gy (by omega) (by omega) (by omega) (by omega)
theorem sign_val {mm s sd : Nat} {σ τ : zS} {p dep ne ni nn : Nat} (H : PB mm s sd σ τ p dep ne ni nn) {c : Nat} (hc : 32 < c) (hc2 : c < 127) (h : σ 4 p = nI c) : τ 42 p = nI c ∧ τ 40 p = 3 := by
  obtain ⟨a1, a2, a3, a4, a5, a6, a7, a8, a9, a10, a11, a12, a13, a14, a15, a16, a17, a18, a19⟩ := H
  obtain ⟨hp, h5⟩ := a1 p a11
  rw [h] at h5
  rcases h5 with ⟨h1, h2⟩ | ⟨h1, h2⟩ | ⟨r, hr, h1, h2, h3, h4⟩ | ⟨h1, h2, h3⟩ | ⟨h1, h2, h3⟩ | ⟨c', hc', hc2', h1, h2, h3⟩
  · simp (disch := omega) only [lt_litR, lt_litL, eq_litR, eq_litL, lt_nn, eq_nn, lt_n0, z_cl, add_lit, eq_m1, eq_m1', m1_lt, false_or, or_false, if_pos, if_neg, zbI_some, zbV_some, wr_same, wr_cell, wr_slot, ne_eq, not_true_eq_false, not_false_eq_true, true_and, and_true, false_and, and_false, e10, e01, e00, if_true, if_false, Bool.false_eq_true, lit_ne, lit_lt, eq_self] at h1; omega
  · simp (disch := omega) only [lt_litR, lt_litL, eq_litR, eq_litL, lt_nn, eq_nn, lt_n0, z_cl, add_lit, eq_m1, eq_m1', m1_lt, false_or, or_false, if_pos, if_neg, zbI_some, zbV_some, wr_same, wr_cell, wr_slot, ne_eq, not_true_eq_false, not_false_eq_true, true_and, and_true, false_and, and_false, e10, e01, e00, if_true, if_false, Bool.false_eq_true, lit_ne, lit_lt, eq_self] at h1; omega
  · simp (disch := omega) only [lt_litR, lt_litL, eq_litR, eq_litL, lt_nn, eq_nn, lt_n0, z_cl, add_lit, eq_m1, eq_m1', m1_lt, false_or, or_false, if_pos, if_neg, zbI_some, zbV_some, wr_same, wr_cell, wr_slot, ne_eq, not_true_eq_false, not_false_eq_true, true_and, and_true, false_and, and_false, e10, e01, e00, if_true, if_false, Bool.false_eq_true, lit_ne, lit_lt, eq_self] at h1; omega
  · simp (disch := omega) only [lt_litR, lt_litL, eq_litR, eq_litL, lt_nn, eq_nn, lt_n0, z_cl, add_lit, eq_m1, eq_m1', m1_lt, false_or, or_false, if_pos, if_neg, zbI_some, zbV_some, wr_same, wr_cell, wr_slot, ne_eq, not_true_eq_false, not_false_eq_true, true_and, and_true, false_and, and_false, e10, e01, e00, if_true, if_false, Bool.false_eq_true, lit_ne, lit_lt, eq_self] at h1; omega
  · simp (disch := omega) only [lt_litR, lt_litL, eq_litR, eq_litL, lt_nn, eq_nn, lt_n0, z_cl, add_lit, eq_m1, eq_m1', m1_lt, false_or, or_false, if_pos, if_neg, zbI_some, zbV_some, wr_same, wr_cell, wr_slot, ne_eq, not_true_eq_false, not_false_eq_true, true_and, and_true, false_and, and_false, e10, e01, e00, if_true, if_false, Bool.false_eq_true, lit_ne, lit_lt, eq_self] at h1; omega
  · have := (nI_eq (by omega) (by omega)).mp h1
    subst this; exact ⟨h3, h2⟩
theorem t_sumLoop {mm s sd ne dep : Nat} (hT : TOK mm s sd ne dep) (hdep : dep ≤ 10) (D : Nat) (hD : 30 * (11 - dep) + 21 ≤ D) {σ0 τ0 : zS} {p0 ni0 nn0 : Nat} : ∀ (f M1 M2 q : Nat) (σ τ : zS) (p ni nn x : Nat), PB mm s sd σ τ p dep ne ni nn → XG sd σ τ p0 ni0 nn0 (33 - 3 * dep) p ni nn x → xFr σ0 σ ni0 → yFr sd τ0 τ nn0 → mm - p ≤ f → q ≤ p → f < M1 → f < M2 →
    XRes mm s sd σ0 τ0 p0 dep ne ni0 nn0 (33 - 3 * dep) (zexec zc_X2_readPart zu_X2_readPart (zM D) M1 12 [.inr (.inr 23), .inl (nI dep), .inl (nI q)] σ) (zexec zc_X8_readSum zu_X8_readSum (zM D) M2 9 [.inr (.inr 38)] τ) := by
  intro f
  obtain ⟨d, rfl⟩ : ∃ d, D = d + 3 := ⟨D - 3, by omega⟩
  have e43 : (43 : Int32) = nI 43 := rfl
  have e45 : (45 : Int32) = nI 45 := rfl
  -- no sign: through
  have stop : ∀ (M1 M2 q : Nat) (σ τ : zS) (p ni nn x : Nat), PB mm s sd σ τ p dep ne ni nn → XG sd σ τ p0 ni0 nn0 (33 - 3 * dep) p ni nn x → xFr σ0 σ ni0 → yFr sd τ0 τ nn0 → ¬ σ 4 p = nI 43 → ¬ σ 4 p = nI 45 → XRes mm s sd σ0 τ0 p0 dep ne ni0 nn0 (33 - 3 * dep) (zexec zc_X2_readPart zu_X2_readPart (zM (d + 3)) (M1 + 1) 12 [.inr (.inr 23), .inl (nI dep), .inl (nI q)] σ) (zexec zc_X8_readSum zu_X8_readSum (zM (d + 3)) (M2 + 1) 9 [.inr (.inr 38)] τ) := by
    intro M1 M2 q σ τ p ni nn x H G hx hy h43 h45
    rw [qX2_readPart_23_12, c_kind (d + 2) H, zbI_some, qX8_readSum_38_9, e43, e45, m_is (d + 2) H (by omega) (by omega), zbI_some, if_neg h43, if_neg h43, if_pos rfl, m_is (d + 2) H (by omega) (by omega), zbI_some, if_neg h45, if_pos rfl, c_kind (d + 2) H, zbI_some, if_neg h45]
    refine ⟨1, σ, τ, ?_, rfl, hx, hy, Or.inr ⟨rfl, p, ni, nn, x, H, G⟩⟩
    split <;> rfl
  induction f with
  | zero =>
    intro M1 M2 q σ τ p ni nn x H G hx hy hf hq h1 h2
    obtain ⟨M1, rfl⟩ : ∃ k, M1 = k + 1 := ⟨M1 - 1, by omega⟩
    obtain ⟨M2, rfl⟩ : ∃ k, M2 = k + 1 := ⟨M2 - 1, by omega⟩
    have hle := H.le
    exact stop M1 M2 q σ τ p ni nn x H G hx hy (fun h => by have := H.ltS (c := 43) (by omega) (by omega) h; omega) (fun h => by have := H.ltS (c := 45) (by omega) (by omega) h; omega)
  | succ f ih =>
    intro M1 M2 q σ τ p ni nn x H G hx hy hf hq h1 h2
    obtain ⟨M1, rfl⟩ : ∃ k, M1 = k + 1 := ⟨M1 - 1, by omega⟩
    obtain ⟨M2, rfl⟩ : ∃ k, M2 = k + 1 := ⟨M2 - 1, by omega⟩
    have hle := H.le
    have h10 := H.2.2.2.2.2.2.2.2.2.1
    -- a sign and a term behind it
    have go : ∀ (cg : Nat) (k : Int32), (cg = 43 ∧ k = 4) ∨ (cg = 45 ∧ k = 5) → σ 4 p = nI cg → p < mm → XRes mm s sd σ0 τ0 p0 dep ne ni0 nn0 (33 - 3 * dep)
        (zbV (zM (d + 3) mX6_skip [.inr (.inr 3)] σ) (fun s3 => zbI (zM (d + 3) mX2_readTerm [.inr (.inr 23), .inl (nI dep)] s3) (fun r4 s4 => if r4 = 0 then (some (1, 0, s4)) else (zbV (zM (d + 3) mX1_addItem [.inr (.inr 7), .inl k, .inl 0] s4) (fun s5 => zexec zc_X2_readPart zu_X2_readPart (zM (d + 3)) M1 12 [.inr (.inr 23), .inl (nI dep), .inl (nI q + 1)] s5)))))
        (if (τ 38 8) < 0 ∨ 402 ≤ (τ 38 8).toNatClampNeg then (none) else (zbI (zM (d + 3) mX8_readTerm [.inr (.inr 38)] (wr τ 38 8 ((τ 38 8) + 1))) (fun r3 s3 => if r3 = 0 then (some (1, 0, s3)) else (zbI (zM (d + 3) mX8_node [.inr (.inr 38), .inl (τ 42 ((τ 38 8).toNatClampNeg)), .inl (τ 38 41), .inl (s3 38 41), .inl 0] s3) (fun r4 s4 => zexec zc_X8_readSum zu_X8_readSum (zM (d + 3)) M2 9 [.inr (.inr 38)] (wr s4 38 41 r4)))))) := by
      intro cg k hck hs hp
      obtain ⟨H1, fx, fy⟩ := H.skip hp
      have hsv := (sign_val H (by omega) (by omega) hs).1
      rw [c_skip (d + 2) H hp, zbV_some, h10, if_neg (nI_in (by omega) (by omega)), z_cl (by omega), nI_1 q, nI_1 p, hsv, G.2.2.2.2.1]
      obtain ⟨r, σ1, τ1, o1, o2, gx, gy, g⟩ := hT (d + 3) hD _ _ _ _ _ H1
      rw [o1, o2, zbI_some, zbI_some]
      have gi := G.ile
      have gn := G.2.2.2.1
      rcases g with ⟨rfl, g⟩ | ⟨rfl, p1, ni1, nn1, y, H2, G2⟩
      · rw [if_pos rfl, if_pos rfl]
        exact ⟨0, σ1, τ1, rfl, rfl, hx.tr (fx.tr gx (Nat.le_refl _)) (by omega), hy.tr (fy.tr gy (Nat.le_refl _)) (by omega), Or.inl ⟨rfl, g⟩⟩
      · have hle2 := H2.le
        have hi2 := G2.ile
        have gb2 := G2
        obtain ⟨q1, q2, q3, q4, q5, q6⟩ := gb2
        rw [if_neg (by decide), if_neg (by decide), c_addItem (d + 2) H2.2.2.2.2.2.2.2.2.2.2.2.2.2.2.2.1 (by omega), zbV_some, q5, m_node (d + 2) H2.2.2.2.2.2.2.1 H2.2.2.2.2.2.2.2.1 H2.2.2.2.2.2.2.2.2.2.2.2.2.2.2.2.2.1 (by omega), zbI_some]
        have hko : (nI cg = 60 ∧ k = 3) ∨ (nI cg = 43 ∧ k = 4) ∨ (nI cg = 45 ∧ k = 5) ∨ (nI cg = 42 ∧ k = 6) := by
          rcases hck with ⟨rfl, rfl⟩ | ⟨rfl, rfl⟩
          · exact Or.inr (Or.inl ⟨rfl, rfl⟩)
          · exact Or.inr (Or.inr (Or.inl ⟨rfl, rfl⟩))
        have G3 := XG.bin (h := 33 - 3 * dep) (h' := 32 - 3 * dep) hle.2.2.2.2.1 G G2 (fx.tr gx (Nat.le_refl _)) (fy.tr gy (Nat.le_refl _)) (by omega) (by omega) k (nI cg) hko 0
        have fx3 := (fx.tr gx (Nat.le_refl _)).tr (xFr.item (σ := σ1) (ni := ni1) k 0) (by omega)
        have fy3 := (fy.tr gy (Nat.le_refl _)).tr ((yFr.node (τ := τ1) hle.2.2.2.2.1 (show nn1 < 800 by omega) (nI cg) (nI x) (nI y) 0).tr (yFr.w (k := 41) (by omega) (nI (800 * (1 - sd) + nn1))) (Nat.le_refl _)) (by omega)
        obtain ⟨e0, _, _, _, _, _, e6⟩ := mNd_at τ1 sd nn1 (nI cg) (nI x) (nI y) 0
        have H3 : PB mm s sd (wr (wr (wr σ1 13 ni1 k) 14 ni1 0) 7 8 (nI (ni1 + 1))) (wr (mNd τ1 sd nn1 (nI cg) (nI x) (nI y) 0) 38 41 (nI (800 * (1 - sd) + nn1))) p1 dep ne (ni1 + 1) (nn1 + 1) := by
          refine H2.of (xFr.item _ _) ((yFr.node hle.2.2.2.2.1 (by omega) _ _ _ _).tr (yFr.w (by omega) _) (Nat.le_refl _)) ?_ ?_ hle2.1 ?_ hdep (by rw [wr_same]) ?_ (by omega) (by omega)
          · simp (disch := omega) only [lt_litR, lt_litL, eq_litR, eq_litL, lt_nn, eq_nn, lt_n0, z_cl, add_lit, eq_m1, eq_m1', m1_lt, false_or, or_false, if_pos, if_neg, zbI_some, zbV_some, wr_same, wr_cell, wr_slot, ne_eq, not_true_eq_false, not_false_eq_true, true_and, and_true, false_and, and_false, e10, e01, e00, if_true, if_false, Bool.false_eq_true, lit_ne, lit_lt, eq_self, H2.2.2.2.2.2.2.2.2.1]
          · rw [wr_slot _ _ _ (by omega), e6, H2.2.2.2.2.2.2.2.2.2.1]
          · rw [wr_slot _ _ _ (by omega), e6, H2.2.2.2.2.2.2.2.2.2.2.2.1]
          · rw [wr_cell _ _ _ (by omega), e0]
        exact ih M1 M2 (q + 1) _ _ p1 (ni1 + 1) (nn1 + 1) _ H3 G3 (hx.tr fx3 (by omega)) (hy.tr fy3 (by omega)) (by omega) (by omega) (by omega) (by omega)
    by_cases h43 : σ 4 p = nI 43
    · have hp := H.ltS (c := 43) (by omega) (by omega) h43
      rw [qX2_readPart_23_12, c_kind (d + 2) H, zbI_some, qX8_readSum_38_9, e43, m_is (d + 2) H (by omega) (by omega), zbI_some, if_pos (show nI q < 400 from nI_lt (b := 400) (by omega) (by omega)), if_pos h43, if_pos h43, if_neg (by decide), c_kind (d + 2) H, zbI_some, if_pos h43]
      exact go 43 4 (Or.inl ⟨rfl, rfl⟩) h43 hp
    · by_cases h45 : σ 4 p = nI 45
      · have hp := H.ltS (c := 45) (by omega) (by omega) h45
        rw [qX2_readPart_23_12, c_kind (d + 2) H, zbI_some, qX8_readSum_38_9, e43, e45, m_is (d + 2) H (by omega) (by omega), zbI_some, if_pos (show nI q < 400 from nI_lt (b := 400) (by omega) (by omega)), if_neg h43, if_neg h43, if_pos rfl, m_is (d + 2) H (by omega) (by omega), zbI_some, if_pos h45, if_neg (by decide), c_kind (d + 2) H, zbI_some, if_pos h45, c_kind (d + 2) H, zbI_some, if_neg h43]
        exact go 45 5 (Or.inr ⟨rfl, rfl⟩) h45 hp
      · exact stop M1 M2 q σ τ p ni nn x H G hx hy h43 h45
theorem t_sum {mm s sd ne dep : Nat} (hT : TOK mm s sd ne dep) (hdep : dep ≤ 10) : SOK mm s sd ne dep := by
  intro D hD σ τ p ni nn H
  obtain ⟨D, rfl⟩ : ∃ k, D = k + 1 := ⟨D - 1, by omega⟩
  have hle := H.le
  rw [qX2_readPart_23, qX2_readPart_23_0, qX8_readSum_38, qX8_readSum_38_0]
  obtain ⟨r, σ1, τ1, o1, o2, gx, gy, g⟩ := hT D (by omega) _ _ _ _ _ H
  rw [o1, o2, zbI_some, zbI_some]
  rcases g with ⟨rfl, g⟩ | ⟨rfl, p1, ni1, nn1, y, H2, G2⟩
  · rw [if_pos rfl, if_pos rfl]
    exact ⟨0, σ1, τ1, rfl, rfl, gx, gy, Or.inl ⟨rfl, g⟩⟩
  · rw [if_neg (by decide), if_neg (by decide), show (0 : Int32) = nI 0 from rfl]
    have hle2 := H2.le
    exact t_sumLoop hT hdep D (by omega) 500 999999 999999 0 σ1 τ1 p1 ni1 nn1 y H2 (G2.up (by omega)) gx gy (by omega) (by omega) (by omega) (by omega)
theorem t_X {mm s sd ne dep : Nat} (hS : SOK mm s sd ne dep) (hdep : dep ≤ 10) : XOK mm s sd ne dep := by
  intro D hD σ τ p ni nn H
  obtain ⟨d, rfl⟩ : ∃ k, D = k + 4 := ⟨D - 4, by omega⟩
  have hle := H.le
  have e60 : (60 : Int32) = nI 60 := rfl
  rw [qX2_readX_23, qX2_readX_23_0, qX8_readX_38, qX8_readX_38_0, e60]
  obtain ⟨r, σ1, τ1, o1, o2, gx, gy, g⟩ := hS (d + 3) (by omega) _ _ _ _ _ H
  rw [o1, o2, zbI_some, zbI_some]
  rcases g with ⟨rfl, g⟩ | ⟨rfl, p1, ni1, nn1, x, H1, G1⟩
  · rw [if_pos rfl, if_pos rfl]
    exact ⟨0, σ1, τ1, rfl, rfl, gx, gy, Or.inl ⟨rfl, g⟩⟩
  · have hle1 := H1.le
    rw [if_neg (by decide), if_neg (by decide), (t_take (d + 1) H1 (c := 60) (by omega) (by omega)).1, (t_take (d + 1) H1 (c := 60) (by omega) (by omega)).2]
    by_cases h60 : σ1 4 p1 = nI 60
    · have hp := H1.ltS (c := 60) (by omega) (by omega) h60
      obtain ⟨H2, fx, fy⟩ := H1.skip hp
      rw [if_pos h60, if_pos h60, zbI_some, zbI_some, if_neg (by decide), if_neg (by decide)]
      obtain ⟨r, σ2, τ2, o3, o4, hx2, hy2, g⟩ := hS (d + 3) (by omega) _ _ _ _ _ H2
      rw [o3, o4, zbI_some, zbI_some]
      have gi := G1.ile
      have gn := G1.2.2.2.1
      rcases g with ⟨rfl, g⟩ | ⟨rfl, p2, ni2, nn2, y, H3, G3⟩
      · rw [if_pos rfl, if_pos rfl]
        exact ⟨0, σ2, τ2, rfl, rfl, gx.tr (fx.tr hx2 (Nat.le_refl _)) (by omega), gy.tr (fy.tr hy2 (Nat.le_refl _)) (by omega), Or.inl ⟨rfl, g⟩⟩
      · have hle3 := H3.le
        have gi3 := G3.ile
        have gb := G3
        obtain ⟨q1, q2, q3, q4, q5, q6⟩ := gb
        have x41 : wr τ1 38 8 (nI (p1 + 1)) 38 41 = nI x := by rw [wr_slot _ _ _ (by omega), G1.2.2.2.2.1]
        rw [if_neg (by decide), if_neg (by decide), c_addItem (d + 2) H3.2.2.2.2.2.2.2.2.2.2.2.2.2.2.2.1 (by omega), zbV_some, x41, q5, m_node (d + 2) H3.2.2.2.2.2.2.1 H3.2.2.2.2.2.2.2.1 H3.2.2.2.2.2.2.2.2.2.2.2.2.2.2.2.2.1 (by omega), zbI_some]
        have G4 := XG.bin (h := 34 - 3 * dep) (h' := 33 - 3 * dep) hle.2.2.2.2.1 (G1.up (by omega)) G3 (fx.tr hx2 (Nat.le_refl _)) (fy.tr hy2 (Nat.le_refl _)) (by omega) (by omega) 3 (nI 60) (by decide) 0
        obtain ⟨e0, _, _, _, _, _, e6⟩ := mNd_at τ2 sd nn2 (nI 60) (nI x) (nI y) 0
        have H4 : PB mm s sd (wr (wr (wr σ2 13 ni2 3) 14 ni2 0) 7 8 (nI (ni2 + 1))) (wr (mNd τ2 sd nn2 (nI 60) (nI x) (nI y) 0) 38 41 (nI (800 * (1 - sd) + nn2))) p2 dep ne (ni2 + 1) (nn2 + 1) := by
          refine H3.of (xFr.item _ _) ((yFr.node hle.2.2.2.2.1 (by omega) _ _ _ _).tr (yFr.w (by omega) _) (Nat.le_refl _)) ?_ ?_ hle3.1 ?_ hdep (by rw [wr_same]) ?_ (by omega) (by omega)
          · simp (disch := omega) only [lt_litR, lt_litL, eq_litR, eq_litL, lt_nn, eq_nn, lt_n0, z_cl, add_lit, eq_m1, eq_m1', m1_lt, false_or, or_false, if_pos, if_neg, zbI_some, zbV_some, wr_same, wr_cell, wr_slot, ne_eq, not_true_eq_false, not_false_eq_true, true_and, and_true, false_and, and_false, e10, e01, e00, if_true, if_false, Bool.false_eq_true, lit_ne, lit_lt, eq_self, H3.2.2.2.2.2.2.2.2.1]
          · rw [wr_slot _ _ _ (by omega), e6, H3.2.2.2.2.2.2.2.2.2.1]
          · rw [wr_slot _ _ _ (by omega), e6, H3.2.2.2.2.2.2.2.2.2.2.2.1]
          · rw [wr_cell _ _ _ (by omega), e0]
        refine ⟨1, _, _, rfl, rfl, gx.tr ((fx.tr hx2 (Nat.le_refl _)).tr (xFr.item _ _) (by omega)) (by omega), gy.tr ((fy.tr hy2 (Nat.le_refl _)).tr ((yFr.node hle.2.2.2.2.1 (by omega) _ _ _ _).tr (yFr.w (by omega) _) (Nat.le_refl _)) (by omega)) (by omega), Or.inr ⟨rfl, p2, ni2 + 1, nn2 + 1, _, H4, G4⟩⟩
    · rw [if_neg h60, if_neg h60, zbI_some, zbI_some, if_pos rfl, if_pos rfl]
      exact ⟨1, σ1, τ1, rfl, rfl, gx, gy, Or.inr ⟨rfl, p1, ni1, nn1, x, H1, G1.up (by omega)⟩⟩
