-- single statements
def cE (σ : zS) (ne ni : Nat) (k t : Int32) : zS := wr (wr (wr (wr (wr (wr σ 8 ne k) 9 ne t) 10 ne 0) 11 ne 0) 12 ne (nI ni)) 7 7 (nI (ne + 1))
theorem c_addE (d : Nat) {σ : zS} {ne ni : Nat} (h7 : σ 7 7 = nI ne) (h8 : σ 7 8 = nI ni) (hn : ne < 200) (k t : Int32) : zM (d + 1) mX1_add [.inr (.inr 7), .inl k, .inl t] σ = some (1, nI ne, cE σ ne ni k t) := by
  rw [qX1_add_7, qX1_add_7_0, cE]
  simp (disch := omega) only [lt_litR, lt_litL, eq_litR, eq_litL, lt_nn, eq_nn, lt_n0, z_cl, add_lit, eq_m1, eq_m1', m1_lt, false_or, or_false, if_pos, if_neg, zbI_some, zbV_some, wr_same, wr_cell, wr_slot, ne_eq, not_true_eq_false, not_false_eq_true, true_and, and_true, false_and, and_false, e10, e01, e00, if_true, if_false, Bool.false_eq_true, lit_ne, lit_lt, eq_self, h7, h8]
theorem cE_fr (σ : zS) (ne ni : Nat) (k t : Int32) : pFr σ (cE σ ne ni k t) ne ni ∧ cE σ ne ni k t 7 7 = nI (ne + 1) ∧ cE σ ne ni k t 7 8 = σ 7 8 ∧ cE σ ne ni k t 7 9 = σ 7 9 ∧ cE σ ne ni k t 3 = σ 3 ∧ cE σ ne ni k t 8 ne = k ∧ cE σ ne ni k t 9 ne = t ∧ cE σ ne ni k t 10 ne = 0 ∧ cE σ ne ni k t 11 ne = 0 ∧ cE σ ne ni k t 12 ne = nI ni := by
  refine ⟨⟨fun c h1 h2 h3 => by rw [cE]; simp (disch := omega) only [lt_litR, lt_litL, eq_litR, eq_litL, lt_nn, eq_nn, lt_n0, z_cl, add_lit, eq_m1, eq_m1', m1_lt, false_or, or_false, if_pos, if_neg, zbI_some, zbV_some, wr_same, wr_cell, wr_slot, ne_eq, not_true_eq_false, not_false_eq_true, true_and, and_true, false_and, and_false, e10, e01, e00, if_true, if_false, Bool.false_eq_true, lit_ne, lit_lt, eq_self], fun j hj => by rw [cE]; simp (disch := omega) only [lt_litR, lt_litL, eq_litR, eq_litL, lt_nn, eq_nn, lt_n0, z_cl, add_lit, eq_m1, eq_m1', m1_lt, false_or, or_false, if_pos, if_neg, zbI_some, zbV_some, wr_same, wr_cell, wr_slot, ne_eq, not_true_eq_false, not_false_eq_true, true_and, and_true, false_and, and_false, e10, e01, e00, if_true, if_false, Bool.false_eq_true, lit_ne, lit_lt, eq_self], fun c q h1 h2 h3 => ?_, fun i hi => by rw [cE]; simp (disch := omega) only [lt_litR, lt_litL, eq_litR, eq_litL, lt_nn, eq_nn, lt_n0, z_cl, add_lit, eq_m1, eq_m1', m1_lt, false_or, or_false, if_pos, if_neg, zbI_some, zbV_some, wr_same, wr_cell, wr_slot, ne_eq, not_true_eq_false, not_false_eq_true, true_and, and_true, false_and, and_false, e10, e01, e00, if_true, if_false, Bool.false_eq_true, lit_ne, lit_lt, eq_self, and_self]⟩, ?_, ?_, ?_, ?_, ?_, ?_, ?_, ?_, ?_⟩
  · rw [cE]
    rcases (show c = 8 ∨ c = 9 ∨ c = 10 ∨ c = 11 ∨ c = 12 by omega) with rfl | rfl | rfl | rfl | rfl <;> simp (disch := omega) only [lt_litR, lt_litL, eq_litR, eq_litL, lt_nn, eq_nn, lt_n0, z_cl, add_lit, eq_m1, eq_m1', m1_lt, false_or, or_false, if_pos, if_neg, zbI_some, zbV_some, wr_same, wr_cell, wr_slot, ne_eq, not_true_eq_false, not_false_eq_true, true_and, and_true, false_and, and_false, e10, e01, e00, if_true, if_false, Bool.false_eq_true, lit_ne, lit_lt, eq_self]
  all_goals rw [cE]; simp (disch := omega) only [lt_litR, lt_litL, eq_litR, eq_litL, lt_nn, eq_nn, lt_n0, z_cl, add_lit, eq_m1, eq_m1', m1_lt, false_or, or_false, if_pos, if_neg, zbI_some, zbV_some, wr_same, wr_cell, wr_slot, ne_eq, not_true_eq_false, not_false_eq_true, true_and, and_true, false_and, and_false, e10, e01, e00, if_true, if_false, Bool.false_eq_true, lit_ne, lit_lt, eq_self]
theorem c_dholds (d : Nat) {σ : zS} {ne e : Nat} (h7 : σ 7 7 = nI ne) (hn : ne ≤ 200) (he : e < ne) : zM (d + 1) mX1_holds [.inr (.inr 7), .inl (nI e)] σ = some (1, 1, σ) := by
  rw [qX1_holds_7, qX1_holds_7_0, h7]
  simp (disch := omega) only [lt_litR, lt_litL, eq_litR, eq_litL, lt_nn, eq_nn, lt_n0, z_cl, add_lit, eq_m1, eq_m1', m1_lt, false_or, or_false, if_pos, if_neg, zbI_some, zbV_some, wr_same, wr_cell, wr_slot, ne_eq, not_true_eq_false, not_false_eq_true, true_and, and_true, false_and, and_false, e10, e01, e00, if_true, if_false, Bool.false_eq_true, lit_ne, lit_lt, eq_self]
theorem c_setSort (d : Nat) {σ : zS} {ne e : Nat} (h7 : σ 7 7 = nI ne) (hn : ne ≤ 200) (he : e < ne) (v : Int32) : zM (d + 2) mX1_setSort [.inr (.inr 7), .inl (nI e), .inl v] σ = some (0, 0, wr σ 8 e v) := by
  rw [qX1_setSort_7, qX1_setSort_7_0, c_dholds d h7 hn he, zbI_some]
  simp (disch := omega) only [lt_litR, lt_litL, eq_litR, eq_litL, lt_nn, eq_nn, lt_n0, z_cl, add_lit, eq_m1, eq_m1', m1_lt, false_or, or_false, if_pos, if_neg, zbI_some, zbV_some, wr_same, wr_cell, wr_slot, ne_eq, not_true_eq_false, not_false_eq_true, true_and, and_true, false_and, and_false, e10, e01, e00, if_true, if_false, Bool.false_eq_true, lit_ne, lit_lt, eq_self]
theorem c_setFirst (d : Nat) {σ : zS} {ne e : Nat} (h7 : σ 7 7 = nI ne) (hn : ne ≤ 200) (he : e < ne) (v : Int32) : zM (d + 2) mX1_setFirst [.inr (.inr 7), .inl (nI e), .inl v] σ = some (0, 0, wr σ 10 e v) := by
  rw [qX1_setFirst_7, qX1_setFirst_7_0, c_dholds d h7 hn he, zbI_some]
  simp (disch := omega) only [lt_litR, lt_litL, eq_litR, eq_litL, lt_nn, eq_nn, lt_n0, z_cl, add_lit, eq_m1, eq_m1', m1_lt, false_or, or_false, if_pos, if_neg, zbI_some, zbV_some, wr_same, wr_cell, wr_slot, ne_eq, not_true_eq_false, not_false_eq_true, true_and, and_true, false_and, and_false, e10, e01, e00, if_true, if_false, Bool.false_eq_true, lit_ne, lit_lt, eq_self]
theorem c_setSecond (d : Nat) {σ : zS} {ne e : Nat} (h7 : σ 7 7 = nI ne) (hn : ne ≤ 200) (he : e < ne) (v : Int32) : zM (d + 2) mX1_setSecond [.inr (.inr 7), .inl (nI e), .inl v] σ = some (0, 0, wr σ 11 e v) := by
  rw [qX1_setSecond_7, qX1_setSecond_7_0, c_dholds d h7 hn he, zbI_some]
  simp (disch := omega) only [lt_litR, lt_litL, eq_litR, eq_litL, lt_nn, eq_nn, lt_n0, z_cl, add_lit, eq_m1, eq_m1', m1_lt, false_or, or_false, if_pos, if_neg, zbI_some, zbV_some, wr_same, wr_cell, wr_slot, ne_eq, not_true_eq_false, not_false_eq_true, true_and, and_true, false_and, and_false, e10, e01, e00, if_true, if_false, Bool.false_eq_true, lit_ne, lit_lt, eq_self]
theorem XG.rx {sd : Nat} {σ τ : zS} {p0 ni0 nn0 h p ni nn x : Nat} (H : XG sd σ τ p0 ni0 nn0 h p ni nn x) (hh : h ≤ 34) (hn : nn ≤ 500) : RX (σ 13) (σ 14) (mkT (800 * (1 - sd) + nn0) (800 * (1 - sd) + nn) (τ 45)) (τ 46) (τ 47) x ni0 ni :=
  ⟨nn - nn0, by omega, RepX_mono H.2.2.2.2.2 (Nat.le_refl _) hh⟩
/-- over a node that came behind -/
theorem RX.nd {sd : Nat} {τ : zS} {S V : Nat → Int32} {nn nn1 x i j : Nat} (o u v w : Int32) (H : RX S V (mkT (800 * (1 - sd) + nn) (800 * (1 - sd) + nn1) (τ 45)) (τ 46) (τ 47) x i j) : RX S V (mkT (800 * (1 - sd) + nn) (800 * (1 - sd) + nn1) (τ 45)) (mNd τ sd nn1 o u v w 46) (mNd τ sd nn1 o u v w 47) x i j :=
  RX_tr (fun m hm => by
    have hr := mkT_in hm
    exact ⟨rfl, mNd_ne _ _ _ _ _ _ _ (by omega) (by omega) (by omega), mNd_ne _ _ _ _ _ _ _ (by omega) (by omega) (by omega)⟩) H (fun _ _ _ => ⟨rfl, rfl⟩)
/-- stop X ; -/
theorem t_stop (d : Nat) {mm s sd : Nat} {σ τ : zS} {p dep ne ni nn nj nc : Nat} (H : PS mm s sd σ τ p dep ne ni nn nj nc) (hD : 30 * (11 - dep) + 40 ≤ d) (hp : p < mm) :
    SRes mm s sd σ τ p dep ne ni nn 0 (zbI (zM (d + 3) mX2_readStop [.inr (.inr 23), .inl (nI dep)] σ) (fun r9 s9 => if r9 = 0 then (some (1, 0, s9)) else (zbI (zM (d + 3) mX6_take [.inr (.inr 3), .inl 59] s9) (fun r10 s10 => if r10 = 0 then (some (1, 0, s10)) else (some (1, 1, s10))))))
      (zbI (zM (d + 3) mX8_readX [.inr (.inr 38)] (wr (wr τ 38 14 (nI (nc + 1))) 38 8 (nI p + 1))) (fun r3 s3 => if r3 = 0 then (some (1, 0, s3)) else (zbI (zM (d + 3) mX8_node [.inr (.inr 38), .inl 8, .inl (s3 38 41), .inl 0, .inl 0] s3) (fun r4 s4 => zbI (zM (d + 3) mX8_want [.inr (.inr 38), .inl 59] (wr s4 38 41 r4)) (fun r5 s5 => if r5 = 0 ∨ r5 = 1 then (some (1, r5, s5)) else (none)))))) := by
  obtain ⟨H, hnj, hnc, hjc, h2ne⟩ := H
  have hle := H.le
  have H0 := H
  obtain ⟨a1, a2, a3, a4, a5, a6, a7, a8, a9, a10, a11, a12, a13, a14, a15, a16, a17, a18, a19⟩ := H
  obtain ⟨c1, c2, c3, c4, c5, c6, c7, c8, c9, c10⟩ := cE_fr σ ne ni 9 0
  obtain ⟨s', rfl⟩ : ∃ q, s = q + 1 := ⟨s - 1, by omega⟩
  rw [qX2_readStop_23, qX2_readStop_23_0, c_addE (d + 1) a14 a16 (by omega), zbI_some, c_skip2 (d + 1) (p := p) (s := s') (by rw [c5, a9]) (by rw [c5, a6]) (by omega) (by omega), zbV_some, nI_1]
  have hx0 : pFr σ (wr (cE σ ne ni 9 0) 3 4 (nI (p + 1))) ne ni := c1.tr ((xFr.next (ni := ni) (nI (p + 1))).p (ne + 1)) (by omega) (Nat.le_refl _)
  have hy0 : qFr sd τ (wr (wr τ 38 14 (nI (nc + 1))) 38 8 (nI (p + 1))) nn := (qFr.w (by omega) _).tr (qFr.w (by omega) _) (Nat.le_refl _)
  have H1 : PB mm (s' + 1) sd (wr (cE σ ne ni 9 0) 3 4 (nI (p + 1))) (wr (wr τ 38 14 (nI (nc + 1))) 38 8 (nI (p + 1))) (p + 1) dep (ne + 1) ni nn := H0.ofP hx0 hy0 (by rw [wr_same]) (by rw [wr_same]) (by omega) (by simp (disch := omega) only [lt_litR, lt_litL, eq_litR, eq_litL, lt_nn, eq_nn, lt_n0, z_cl, add_lit, eq_m1, eq_m1', m1_lt, false_or, or_false, if_pos, if_neg, zbI_some, zbV_some, wr_same, wr_cell, wr_slot, ne_eq, not_true_eq_false, not_false_eq_true, true_and, and_true, false_and, and_false, e10, e01, e00, if_true, if_false, Bool.false_eq_true, lit_ne, lit_lt, eq_self, a12]) a13 (by rw [wr_cell _ _ _ (by omega), c2]) (by omega) (by rw [wr_cell _ _ _ (by omega), c3, a16]) (by simp (disch := omega) only [lt_litR, lt_litL, eq_litR, eq_litL, lt_nn, eq_nn, lt_n0, z_cl, add_lit, eq_m1, eq_m1', m1_lt, false_or, or_false, if_pos, if_neg, zbI_some, zbV_some, wr_same, wr_cell, wr_slot, ne_eq, not_true_eq_false, not_false_eq_true, true_and, and_true, false_and, and_false, e10, e01, e00, if_true, if_false, Bool.false_eq_true, lit_ne, lit_lt, eq_self, a17]) (by omega) (by omega)
  obtain ⟨r, σ1, τ1, o1, o2, gx, gy, g⟩ := t_readX mm (s' + 1) sd (ne + 1) dep a13 (d + 2) (by omega) _ _ _ _ _ H1
  rw [o1, zM_mono o2 (show d + 2 ≤ d + 3 by omega), zbI_some, zbI_some]
  rcases g with ⟨rfl, g⟩ | ⟨rfl, p1, ni1, nn1, x, H2, G2⟩
  · rw [if_pos (Or.inl rfl), zbI_some, if_pos rfl, if_pos rfl]
    exact SRes.no2 (hx0.tr (gx.p (ne + 1)) (by omega) (Nat.le_refl _)) (hy0.tr gy.q (Nat.le_refl _)) g
  · have hle2 := H2.le
    have gi := G2.ile
    have G20 := G2
    obtain ⟨q1, q2, q3, q4, q5, q6⟩ := G2
    rw [if_pos (Or.inr rfl), zbI_some, if_neg n10, if_neg n10, q5]
    have hE : ∀ c, 8 ≤ c → c ≤ 12 → σ1 c = cE σ ne ni 9 0 c := fun c h1 h2 => by rw [gx.1 c (by omega) (by omega) (by omega) (by omega), wr_cell _ _ _ (by omega)]
    refine t_fin d 8 (nI x) 0 0 H2 (hx0.tr (gx.p (ne + 1)) (by omega) (Nat.le_refl _)) (hy0.tr gy.q (Nat.le_refl _)) (by omega) (by omega) (by omega) q4 (by omega) h2ne hle.2.2.2.1 (nj := nj) (nc := nc + 1) ?_ ?_ (by omega) ?_
    · rw [gx.2.2.1 9 (by omega), wr_cell _ _ _ (by omega), c4, hnj]
    · rw [gy.2.1 14 (by omega) (by omega) (by omega) (by omega)]; simp (disch := omega) only [lt_litR, lt_litL, eq_litR, eq_litL, lt_nn, eq_nn, lt_n0, z_cl, add_lit, eq_m1, eq_m1', m1_lt, false_or, or_false, if_pos, if_neg, zbI_some, zbV_some, wr_same, wr_cell, wr_slot, ne_eq, not_true_eq_false, not_false_eq_true, true_and, and_true, false_and, and_false, e10, e01, e00, if_true, if_false, Bool.false_eq_true, lit_ne, lit_lt, eq_self]
    · obtain ⟨e0, e1, e2, e3, e4, e5, e6⟩ := mNd_at τ1 sd nn1 8 (nI x) 0 0
      refine ⟨by omega, by rw [hE 12 (by omega) (by omega), c10], by omega, by omega, Or.inr (Or.inl ⟨rfl, e1, by rw [hE 8 (by omega) (by omega), c6], x, e2, (G20.rx (by omega) (by omega)).nd _ _ _ _⟩)⟩
