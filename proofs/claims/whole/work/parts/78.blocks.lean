-- choices and loops
def LRes (mm s sd : Nat) (σ τ : zS) (p dep ne ni nn k : Nat) (oc om : Option zR) : Prop := ∃ r σ' τ', oc = some (1, r, σ') ∧ om = some (1, r, τ') ∧ pFr σ σ' ne ni ∧ qFr sd τ τ' nn ∧
  ((r = 0 ∧ ∃ pf, pf ≤ mm ∧ σ' 3 4 = nI pf ∧ τ' 38 3 = σ' 5 pf) ∨ (r = 1 ∧ ∃ p' ne' ni' nn' nj' nc' l, PS mm s sd σ' τ' p' dep ne' ni' nn' nj' nc' ∧ p ≤ p' ∧ 2 * ne' + p ≤ 2 * ne + p' ∧ ni' + p ≤ ni + p' ∧ nn' + p ≤ nn + p' ∧ nn ≤ nn' ∧ τ' 38 41 = hdOf l ∧ LC σ' τ' k l (800 * (1 - sd) + nn) (800 * (1 - sd) + nn') ne ne' ni ni' ∧ (σ' 4 p' = 0 ∨ σ' 4 p' = nI 93 ∨ σ' 4 p' = nI 124)))
def LOK (mm s sd dep : Nat) : Prop := ∀ D, 30 * (11 - dep) + 60 ≤ D → ∀ (σ τ : zS) (p ne ni nn nj nc : Nat), PS mm s sd σ τ p dep ne ni nn nj nc → LRes mm s sd σ τ p dep ne ni nn (10 - dep) (zM D mX2_readStatements [.inr (.inr 23), .inl (nI dep)] σ) (zM D mX8_readList [.inr (.inr 38)] τ)
theorem RX.wide {B : Nat} {σ2 σF τ2 τF : zS} {nn nn1 nnF x i j : Nat} (H : RX (σ2 13) (σ2 14) (mkT (B + nn) (B + nn1) (τ2 45)) (τ2 46) (τ2 47) x i j) (hI : ∀ q, i ≤ q → q < j → σF 13 q = σ2 13 q ∧ σF 14 q = σ2 14 q) (hN : ∀ c n, 45 ≤ c → c ≤ 49 → B + nn ≤ n → n < B + nn1 → τF c n = τ2 c n) (h : nn1 ≤ nnF) : RX (σF 13) (σF 14) (mkT (B + nn) (B + nnF) (τF 45)) (τF 46) (τF 47) x i j :=
  RX_tr (fun m hm => by
    have hr := mkT_in hm
    rw [mkT, mkT, if_pos hr, if_pos (by omega)]
    exact ⟨hN 45 m (by omega) (by omega) hr.1 hr.2, hN 46 m (by omega) (by omega) hr.1 hr.2, hN 47 m (by omega) (by omega) hr.1 hr.2⟩) H hI
theorem PB.dp {mm s sd : Nat} {σ τ : zS} {p dep ne ni nn : Nat} (H : PB mm s sd σ τ p dep ne ni nn) {dep' : Nat} (h : dep' ≤ 10) : PB mm s sd σ (wr τ 38 9 (nI dep')) p dep' ne ni nn := by
  have hle := H.le
  refine H.ofP pFr.rf (qFr.w (by omega) _) H.2.2.2.2.2.2.2.2.1 ?_ hle.1 (by rw [wr_same]) h H.2.2.2.2.2.2.2.2.2.2.2.2.2.1 H.2.2.2.2.2.2.2.2.2.2.2.2.2.2.1 H.2.2.2.2.2.2.2.2.2.2.2.2.2.2.2.1 ?_ hle.2.2.1 hle.2.2.2.1
  · rw [wr_slot _ _ _ (by omega), H.2.2.2.2.2.2.2.2.2.1]
  · rw [wr_cell _ _ _ (by omega), H.2.2.2.2.2.2.2.2.2.2.2.2.2.2.2.2.1]
/-- where a block was opened -/
def OP (mm s sd : Nat) (σ τ σ2 τ2 : zS) (p dep ne ni nn p2 ni2 nn2 nj nc x : Nat) (so : Int32) : Prop := PS mm s sd σ2 τ2 p2 (dep + 1) (ne + 1) ni2 nn2 nj (nc + 1) ∧ pFr σ σ2 ne ni ∧ qFr sd τ τ2 nn ∧ p + 3 ≤ p2 ∧ ni2 + p + 2 ≤ ni + p2 ∧ nn2 + p + 2 ≤ nn + p2 ∧ nn ≤ nn2 ∧ ni ≤ ni2 ∧ σ2 8 ne = so ∧ σ2 12 ne = nI ni ∧ RX (σ2 13) (σ2 14) (mkT (800 * (1 - sd) + nn) (800 * (1 - sd) + nn2) (τ2 45)) (τ2 46) (τ2 47) x ni ni2
/-- ? X [ or @ X [ -/
theorem t_open (d : Nat) {mm s sd : Nat} {σ τ : zS} {p dep ne ni nn nj nc : Nat} (H : PS mm s sd σ τ p dep ne ni nn nj nc) (hD : 30 * (11 - dep) + 40 ≤ d) (hp : p < mm) (hd : dep < 10) (so : Int32) (kc : zS → Int32 → Option zR) (km : zS → zS → Option zR)
    (HK : ∀ σ2 τ2 τx p2 ni2 nn2 x, τx 38 41 = nI x → OP mm s sd σ τ σ2 τ2 p dep ne ni nn p2 ni2 nn2 nj nc x so → SRes mm s sd σ τ p dep ne ni nn (10 - dep) (kc σ2 (nI ne)) (km τ2 τx)) :
    SRes mm s sd σ τ p dep ne ni nn (10 - dep) (zbI (zM (d + 3) mX1_add [.inr (.inr 7), .inl so, .inl 0] σ) (fun r1 s1 => zbV (zM (d + 3) mX6_skip [.inr (.inr 3)] s1) (fun s2 => zbI (zM (d + 3) mX2_readX [.inr (.inr 23), .inl (nI (dep + 1))] s2) (fun r3 s3 => if r3 = 0 then (some (1, 0, s3)) else (zbI (zM (d + 3) mX6_take [.inr (.inr 3), .inl 91] s3) (fun r4 s4 => if r4 = 0 then (some (1, 0, s4)) else kc s4 r1))))))
      (zbI (zM (d + 3) mX8_deeper [.inr (.inr 38)] (wr τ 38 14 (nI (nc + 1)))) (fun r1 s1 => if r1 = 0 then (some (1, 0, s1)) else (zbI (zM (d + 3) mX8_readX [.inr (.inr 38)] s1) (fun r2 s2 => if r2 = 0 then (some (1, 0, s2)) else (zbI (zM (d + 3) mX8_want [.inr (.inr 38), .inl 91] s2) (fun r3 s3 => if r3 = 0 then (some (1, 0, s3)) else km s3 s2)))))) := by
  obtain ⟨H, hnj, hnc, hjc, h2ne⟩ := H
  have hle := H.le
  have H0 := H
  obtain ⟨a1, a2, a3, a4, a5, a6, a7, a8, a9, a10, a11, a12, a13, a14, a15, a16, a17, a18, a19⟩ := H
  obtain ⟨c1, c2, c3, c4, c5, c6, c7, c8, c9, c10⟩ := cE_fr σ ne ni so 0
  obtain ⟨s', rfl⟩ : ∃ q, s = q + 1 := ⟨s - 1, by omega⟩
  have HT0 : PB mm (s' + 1) sd σ (wr τ 38 14 (nI (nc + 1))) p dep ne ni nn := H0.w42 (by omega) _
  have e91 : (91 : Int32) = nI 91 := rfl
  rw [c_addE (d + 2) a14 a16 (by omega), zbI_some, c_skip2 (d + 2) (p := p) (s := s') (by rw [c5, a9]) (by rw [c5, a6]) (by omega) (by omega), zbV_some, m_deeper (d + 1) HT0, if_neg (by omega), zbI_some, if_neg n10]
  have hx0 : pFr σ (wr (cE σ ne ni so 0) 3 4 (nI (p + 1))) ne ni := c1.tr ((xFr.next (ni := ni) (nI (p + 1))).p (ne + 1)) (by omega) (Nat.le_refl _)
  have hy0 : qFr sd τ (wr (wr (wr τ 38 14 (nI (nc + 1))) 38 9 (nI (dep + 1))) 38 8 (nI (p + 1))) nn := ((qFr.w (by omega) _).tr (qFr.w (by omega) _) (Nat.le_refl _)).tr (qFr.w (by omega) _) (Nat.le_refl _)
  have H1 : PB mm (s' + 1) sd (wr (cE σ ne ni so 0) 3 4 (nI (p + 1))) (wr (wr (wr τ 38 14 (nI (nc + 1))) 38 9 (nI (dep + 1))) 38 8 (nI (p + 1))) (p + 1) (dep + 1) (ne + 1) ni nn := H0.ofP hx0 hy0 (by rw [wr_same]) (by rw [wr_same]) (by omega) (by simp (disch := omega) only [lt_litR, lt_litL, eq_litR, eq_litL, lt_nn, eq_nn, lt_n0, z_cl, add_lit, eq_m1, eq_m1', m1_lt, false_or, or_false, if_pos, if_neg, zbI_some, zbV_some, wr_same, wr_cell, wr_slot, ne_eq, not_true_eq_false, not_false_eq_true, true_and, and_true, false_and, and_false, e10, e01, e00, if_true, if_false, Bool.false_eq_true, lit_ne, lit_lt, eq_self]) (by omega) (by rw [wr_cell _ _ _ (by omega), c2]) (by omega) (by rw [wr_cell _ _ _ (by omega), c3, a16]) (by simp (disch := omega) only [lt_litR, lt_litL, eq_litR, eq_litL, lt_nn, eq_nn, lt_n0, z_cl, add_lit, eq_m1, eq_m1', m1_lt, false_or, or_false, if_pos, if_neg, zbI_some, zbV_some, wr_same, wr_cell, wr_slot, ne_eq, not_true_eq_false, not_false_eq_true, true_and, and_true, false_and, and_false, e10, e01, e00, if_true, if_false, Bool.false_eq_true, lit_ne, lit_lt, eq_self, a17]) (by omega) (by omega)
  have f8 : wr (cE σ ne ni so 0) 3 4 (nI (p + 1)) 8 ne = so ∧ wr (cE σ ne ni so 0) 3 4 (nI (p + 1)) 12 ne = nI ni ∧ wr (cE σ ne ni so 0) 3 4 (nI (p + 1)) 7 9 = nI nj := by
    refine ⟨?_, ?_, ?_⟩
    · rw [wr_cell _ _ _ (by omega), c6]
    · rw [wr_cell _ _ _ (by omega), c10]
    · rw [wr_cell _ _ _ (by omega), c4, hnj]
  have f14 : wr (wr (wr τ 38 14 (nI (nc + 1))) 38 9 (nI (dep + 1))) 38 8 (nI (p + 1)) 38 14 = nI (nc + 1) := by simp (disch := omega) only [lt_litR, lt_litL, eq_litR, eq_litL, lt_nn, eq_nn, lt_n0, z_cl, add_lit, eq_m1, eq_m1', m1_lt, false_or, or_false, if_pos, if_neg, zbI_some, zbV_some, wr_same, wr_cell, wr_slot, ne_eq, not_true_eq_false, not_false_eq_true, true_and, and_true, false_and, and_false, e10, e01, e00, if_true, if_false, Bool.false_eq_true, lit_ne, lit_lt, eq_self]
  generalize wr (cE σ ne ni so 0) 3 4 (nI (p + 1)) = σ1 at *
  generalize wr (wr (wr τ 38 14 (nI (nc + 1))) 38 9 (nI (dep + 1))) 38 8 (nI (p + 1)) = τ1 at *
  obtain ⟨r, σ2, τ2, o1, o2, gx, gy, g⟩ := t_readX mm (s' + 1) sd (ne + 1) (dep + 1) (by omega) (d + 3) (by omega) _ _ _ _ _ H1
  rw [o1, o2, zbI_some, zbI_some]
  have hx2 := hx0.tr (gx.p (ne + 1)) (by omega) (Nat.le_refl _)
  have hy2 := hy0.tr gy.q (Nat.le_refl _)
  rcases g with ⟨rfl, g⟩ | ⟨rfl, p1, ni1, nn1, x, H2, G2⟩
  · rw [if_pos rfl, if_pos rfl]
    exact SRes.no2 hx2 hy2 g
  have hle2 := H2.le
  have gi := G2.ile
  have G20 := G2
  obtain ⟨q1, q2, q3, q4, q5, q6⟩ := G2
  rw [if_neg n10, if_neg n10, e91, (t_take (d + 1) H2 (c := 91) (by omega) (by omega)).1, m_want d H2 (c := 91) (by omega) (by omega)]
  by_cases h : σ2 4 p1 = nI 91
  · have hp1 := H2.ltS (c := 91) (by omega) (by omega) h
    rw [if_pos h, if_pos h, zbI_some, zbI_some, if_neg n10, if_neg n10]
    obtain ⟨H3, gx3, gy3⟩ := H2.skip hp1
    refine HK _ _ _ (p1 + 1) ni1 nn1 x q5 ⟨⟨H3, ?_, ?_, by omega, by omega⟩, hx2.tr (gx3.p (ne + 1)) (by omega) (by omega), hy2.tr gy3.q q4, by omega, by omega, by omega, q4, by omega, ?_, ?_, ?_⟩
    · rw [wr_cell _ _ _ (by omega), gx.2.2.1 9 (by omega), f8.2.2]
    · rw [wr_slot _ _ _ (by omega), gy.2.1 14 (by omega) (by omega) (by omega) (by omega), f14]
    · rw [wr_cell _ _ _ (by omega), gx.1 8 (by omega) (by omega) (by omega) (by omega), f8.1]
    · rw [wr_cell _ _ _ (by omega), gx.1 12 (by omega) (by omega) (by omega) (by omega), f8.2.1]
    · exact (G20.rx (by omega) (by omega)).wide (fun q _ _ => by rw [wr_cell _ _ _ (by omega), wr_cell _ _ _ (by omega)]; exact ⟨rfl, rfl⟩) (fun c n c1 c2 _ _ => by rw [wr_cell _ _ _ (by omega)]) (Nat.le_refl _)
  · rw [if_neg h, if_neg h, zbI_some, zbI_some, if_pos rfl, if_pos rfl]
    exact SRes.no H2 hx2 hy2
/-- @ X [ .. ] -/
theorem t_loop (d : Nat) {mm s sd : Nat} {σ τ : zS} {p dep ne ni nn nj nc : Nat} (H : PS mm s sd σ τ p dep ne ni nn nj nc) (hD : 30 * (11 - dep) + 50 ≤ d) (hp : p < mm) (L : dep < 10 → LOK mm s sd (dep + 1)) :
    SRes mm s sd σ τ p dep ne ni nn (10 - dep) (zM (d + 4) mX2_readLoop [.inr (.inr 23), .inl (nI dep)] σ) (zM (d + 4) mX8_readTurn [.inr (.inr 38), .inl 0] (wr τ 38 14 (nI (nc + 1)))) := by
  have H0 := H
  obtain ⟨H, hnj, hnc, hjc, h2ne⟩ := H
  have hle := H.le
  have e93 : (93 : Int32) = nI 93 := rfl
  rw [qX2_readLoop_23, qX2_readLoop_23_0, qX8_readTurn_38, qX8_readTurn_38_0]
  by_cases hd : dep < 10
  case neg =>
    have HT0 : PB mm s sd σ (wr τ 38 14 (nI (nc + 1))) p dep ne ni nn := H.w42 (by omega) _
    rw [if_neg (show ¬ nI dep < 10 from nI_nlt (b := 10) (by omega) (by omega)), m_deeper (d + 1) HT0, if_pos (by omega), zbI_some, if_pos rfl]
    exact SRes.no HT0 pFr.rf (qFr.w (by omega) _)
  rw [if_pos (show nI dep < 10 from (nI_ltI (b := 10) (by omega) (by omega)).mpr hd), nI_1]
  refine t_open d H0 (by omega) hp hd 11 _ _ ?_
  intro σ2 τ2 τx p2 ni2 nn2 x hxv O
  obtain ⟨P2, hx2, hy2, b4, b5, b6, b7, b8, b9, b10, b11⟩ := O
  have hle2 := P2.1.le
  obtain ⟨r, σ3, τ3, o1, o2, gx, gy, g⟩ := L hd (d + 3) (by omega) _ _ _ _ _ _ _ _ P2
  rw [o1, o2, zbI_some, zbI_some]
  have hx3 := hx2.tr gx (by omega) b8
  have hy3 := hy2.tr gy b7
  rcases g with ⟨rfl, g⟩ | ⟨rfl, p3, ne3, ni3, nn3, nj3, nc3, l, P3, g1, g2, g3, g4, g5, g6, g7, g8⟩
  · rw [if_pos rfl, if_pos rfl]
    exact SRes.no2 hx3 hy3 g
  have P30 := P3
  obtain ⟨P3, u1, u2, u3, u4⟩ := P3
  have hle3 := P3.le
  have gl := g7.le
  have a9 := P3.2.2.2.2.2.2.2.2.2.2.2.1
  rw [if_neg n10, if_neg n10, if_pos rfl, hxv, g6, e93, (t_take (d + 1) P3 (c := 93) (by omega) (by omega)).1, m_want d P3 (c := 93) (by omega) (by omega)]
  by_cases h : σ3 4 p3 = nI 93
  case neg =>
    rw [if_neg h, if_neg h, zbI_some, zbI_some, if_pos rfl, if_pos rfl]
    exact SRes.no P3 hx3 hy3
  have hp3 := P3.ltS (c := 93) (by omega) (by omega) h
  rw [if_pos h, if_pos h, zbI_some, zbI_some, if_neg n10, if_neg n10, if_pos rfl]
  obtain ⟨P4, gx4, gy4⟩ := P3.skip hp3
  have hx4 := hx3.tr (gx4.p ne3) (by omega) (by omega)
  have hy4 := hy3.tr gy4.q (by omega)
  have k9 : wr τ3 38 8 (nI (p3 + 1)) 38 9 - 1 = nI dep := by rw [wr_slot _ _ _ (by omega), a9, nI_pred]
  have k7 : wr σ3 3 4 (nI (p3 + 1)) 7 9 = nI nj3 := by rw [wr_cell _ _ _ (by omega), u1]
  have k14 : wr τ3 38 8 (nI (p3 + 1)) 38 14 = nI nc3 := by rw [wr_slot _ _ _ (by omega), u2]
  have s34 : ∀ c, 8 ≤ c → c ≤ 14 → wr σ3 3 4 (nI (p3 + 1)) c = σ3 c := fun c h1 h2 => wr_cell _ _ _ (by omega)
  have t34 : ∀ c, 45 ≤ c → c ≤ 49 → wr τ3 38 8 (nI (p3 + 1)) c = τ3 c := fun c h1 h2 => wr_cell _ _ _ (by omega)
  rw [k9]
  generalize wr σ3 3 4 (nI (p3 + 1)) = σ4 at *
  generalize wr τ3 38 8 (nI (p3 + 1)) = τ4 at *
  have w7 := P4.2.2.2.2.2.2.2.2.2.2.2.2.2.1
  have w8 := P4.2.2.2.2.2.2.2.2.2.2.2.2.2.2.2.1
  obtain ⟨c1, c2, c3, c4, c5, c6, c7, c8⟩ := cJ_fr σ4 ne3 ni3 nj3 (nI ne)
  rw [c_addJump d w7 w8 k7 (by omega) (by omega), zbI_some, c_psize (d + 2) c2, zbI_some, c_setFirst (d + 1) c2 (by omega) (by omega), zbV_some]
  have hx5 := (hx4.tr c1 (by omega) (by omega)).tr (pFr.set (c := 10) (q := ne) (by omega) (Nat.le_refl _) (nI (ne3 + 1))) (Nat.le_refl _) (Nat.le_refl ni)
  have fE : ∀ c q, 8 ≤ c → c ≤ 12 → q < ne3 → ¬ (c = 10 ∧ q = ne) → wr (cJ σ4 ne3 ni3 nj3 (nI ne)) 10 ne (nI (ne3 + 1)) c q = σ3 c q := fun c q h1 h2 h3 h4 => by
    by_cases hc : c = 10
    · rw [hc, wr_slot _ _ _ (by omega), c1.2.2.1 10 q (by omega) (by omega) h3, s34 10 (by omega) (by omega)]
    · rw [wr_cell _ _ _ (by omega), c1.2.2.1 c q h1 h2 h3, s34 c h1 (by omega)]
  have fI : ∀ q, q < ni3 → wr (cJ σ4 ne3 ni3 nj3 (nI ne)) 10 ne (nI (ne3 + 1)) 13 q = σ3 13 q ∧ wr (cJ σ4 ne3 ni3 nj3 (nI ne)) 10 ne (nI (ne3 + 1)) 14 q = σ3 14 q := fun q hq => by
    rw [wr_cell _ _ _ (by omega), wr_cell _ _ _ (by omega), (c1.2.2.2 q hq).1, (c1.2.2.2 q hq).2, s34 13 (by omega) (by omega), s34 14 (by omega) (by omega)]; exact ⟨rfl, rfl⟩
  have v1 : wr (cJ σ4 ne3 ni3 nj3 (nI ne)) 10 ne (nI (ne3 + 1)) 10 ne = nI (ne3 + 1) := by rw [wr_same]
  have v2 : wr (cJ σ4 ne3 ni3 nj3 (nI ne)) 10 ne (nI (ne3 + 1)) 8 ne3 = 12 := by rw [wr_cell _ _ _ (by omega), c6]
  have v3 : wr (cJ σ4 ne3 ni3 nj3 (nI ne)) 10 ne (nI (ne3 + 1)) 12 ne3 = nI ni3 := by rw [wr_cell _ _ _ (by omega), c8]
  have v4 : wr (cJ σ4 ne3 ni3 nj3 (nI ne)) 10 ne (nI (ne3 + 1)) 10 ne3 = nI ne := by rw [wr_slot _ _ _ (by omega), c7]
  have v5 : wr (cJ σ4 ne3 ni3 nj3 (nI ne)) 10 ne (nI (ne3 + 1)) 7 9 = nI (nj3 + 1) := by rw [wr_cell _ _ _ (by omega), c4]
  have P5 : PB mm s sd (wr (cJ σ4 ne3 ni3 nj3 (nI ne)) 10 ne (nI (ne3 + 1))) (wr τ4 38 9 (nI dep)) (p3 + 1) dep (ne3 + 1) ni3 nn3 := by
    refine ((P4.dp (dep' := dep) (by omega)).ofP c1 qFr.rf (by rw [c5]; exact P4.2.2.2.2.2.2.2.2.1) (P4.dp (dep' := dep) (by omega)).2.2.2.2.2.2.2.2.2.1 (by omega) (by rw [wr_same]) (by omega) c2 (by omega) (by rw [c3, w8]) (P4.dp (dep' := dep) (by omega)).2.2.2.2.2.2.2.2.2.2.2.2.2.2.2.2.1 (by omega) (by omega)).set (by omega) _ _
  have t49 : ∀ c, 45 ≤ c → c ≤ 49 → wr τ4 38 9 (nI dep) c = τ3 c := fun c h1 h2 => by rw [wr_cell _ _ _ (by omega), t34 c h1 h2]
  have k14' : wr τ4 38 9 (nI dep) 38 14 = nI nc3 := by rw [wr_slot _ _ _ (by omega), k14]
  have hy5 : qFr sd τ (wr τ4 38 9 (nI dep)) nn := hy4.tr (qFr.w (by omega) _) (Nat.le_refl _)
  generalize wr (cJ σ4 ne3 ni3 nj3 (nI ne)) 10 ne (nI (ne3 + 1)) = σ5 at *
  generalize wr τ4 38 9 (nI dep) = τ5 at *
  refine t_fin2 (d + 2) 12 (nI x) (hdOf l) (-1) P5 hx5 hy5 (by omega) (by omega) (by omega) (by omega) (by omega) (by omega) h2ne hle.2.2.2.1 v5 k14' (by omega) ?_
  obtain ⟨e0, e1, e2, e3, e4, e5, e6⟩ := mNd_at τ5 sd nn3 12 (nI x) (hdOf l) (-1)
  have hX := (b11.wide (σF := σ5) (τF := τ5) (nnF := nn3) (fun q _ q2 => by rw [(fI q (by omega)).1, (fI q (by omega)).2, (gx.2.2.2 q q2).1, (gx.2.2.2 q q2).2]; exact ⟨rfl, rfl⟩) (fun c n h1 h2 _ h4 => by rw [t49 c h1 h2, gy.2.2.2 c n h1 h2 (Or.inl h4)]) g5).nd 12 (nI x) (hdOf l) (-1)
  have hL := (g7.fr (σ' := σ5) (τ' := τ5) (fun c q h1 h2 h3 h4 => fE c q h1 h2 h4 (by omega)) (fun q _ h2 => fI q h2) (fun c n h1 h2 _ _ => by rw [t49 c h1 h2])).chain (lo2 := 800 * (1 - sd) + nn) (hi2 := 800 * (1 - sd) + nn3) (by omega) (Nat.le_refl _)
  rw [show 10 - (dep + 1) + 1 = 10 - dep by omega] at hL
  refine ⟨by omega, by rw [fE 12 ne (by omega) (by omega) (by omega) (by omega), gx.2.2.1 12 ne (by omega) (by omega) (by omega), b10], by omega, by omega, Or.inr (Or.inr (Or.inr ⟨e1, by rw [fE 8 ne (by omega) (by omega) (by omega) (by omega), gx.2.2.1 8 ne (by omega) (by omega) (by omega), b9], x, ni2, ne3, l, e2, hX, by omega, by rw [e3]; exact hL, v2, v4, v3, rfl, v1⟩))⟩
/-- ? X [ .. | .. ] -/
theorem t_choice (d : Nat) {mm s sd : Nat} {σ τ : zS} {p dep ne ni nn nj nc : Nat} (H : PS mm s sd σ τ p dep ne ni nn nj nc) (hD : 30 * (11 - dep) + 50 ≤ d) (hp : p < mm) (L : dep < 10 → LOK mm s sd (dep + 1)) :
    SRes mm s sd σ τ p dep ne ni nn (10 - dep) (zM (d + 4) mX2_readChoice [.inr (.inr 23), .inl (nI dep)] σ) (zM (d + 4) mX8_readTurn [.inr (.inr 38), .inl 1] (wr τ 38 14 (nI (nc + 1)))) := by
  have H0 := H
  obtain ⟨H, hnj, hnc, hjc, h2ne⟩ := H
  have hle := H.le
  have e93 : (93 : Int32) = nI 93 := rfl
  have e124 : (124 : Int32) = nI 124 := rfl
  rw [qX2_readChoice_23, qX2_readChoice_23_0, qX8_readTurn_38, qX8_readTurn_38_0]
  by_cases hd : dep < 10
  case neg =>
    have HT0 : PB mm s sd σ (wr τ 38 14 (nI (nc + 1))) p dep ne ni nn := H.w42 (by omega) _
    rw [if_neg (show ¬ nI dep < 10 from nI_nlt (b := 10) (by omega) (by omega)), m_deeper (d + 1) HT0, if_pos (by omega), zbI_some, if_pos rfl]
    exact SRes.no HT0 pFr.rf (qFr.w (by omega) _)
  rw [if_pos (show nI dep < 10 from (nI_ltI (b := 10) (by omega) (by omega)).mpr hd), nI_1]
  refine t_open d H0 (by omega) hp hd 10 _ _ ?_
  intro σ2 τ2 τx p2 ni2 nn2 x hxv O
  obtain ⟨P2, hx2, hy2, b4, b5, b6, b7, b8, b9, b10, b11⟩ := O
  have hle2 := P2.1.le
  obtain ⟨r, σ3, τ3, o1, o2, gx, gy, g⟩ := L hd (d + 3) (by omega) _ _ _ _ _ _ _ _ P2
  rw [o1, o2, zbI_some, zbI_some]
  have hx3 := hx2.tr gx (by omega) b8
  have hy3 := hy2.tr gy b7
  rcases g with ⟨rfl, g⟩ | ⟨rfl, p3, ne3, ni3, nn3, nj3, nc3, l, P3, g1, g2, g3, g4, g5, g6, g7, g8⟩
  · rw [if_pos rfl, if_pos rfl]
    exact SRes.no2 hx3 hy3 g
  have P30 := P3
  obtain ⟨P3, u1, u2, u3, u4⟩ := P3
  have hle3 := P3.le
  have gl := g7.le
  rw [if_neg n10, if_neg n10, if_neg n10, hxv, g6, e124, (t_take (d + 1) P3 (c := 124) (by omega) (by omega)).1, m_want d P3 (c := 124) (by omega) (by omega)]
  by_cases h : σ3 4 p3 = nI 124
  case neg =>
    rw [if_neg h, if_neg h, zbI_some, zbI_some, if_pos rfl, if_pos rfl]
    exact SRes.no P3 hx3 hy3
  have hp3 := P3.ltS (c := 124) (by omega) (by omega) h
  rw [if_pos h, if_pos h, zbI_some, zbI_some, if_neg n10, if_neg n10]
  obtain ⟨P4, gx4, gy4⟩ := P3.skip hp3
  have hx4 := hx3.tr (gx4.p ne3) (by omega) (by omega)
  have hy4 := hy3.tr gy4.q (by omega)
  have k7 : wr σ3 3 4 (nI (p3 + 1)) 7 9 = nI nj3 := by rw [wr_cell _ _ _ (by omega), u1]
  have k14 : wr τ3 38 8 (nI (p3 + 1)) 38 14 = nI nc3 := by rw [wr_slot _ _ _ (by omega), u2]
  have s34 : ∀ c, 8 ≤ c → c ≤ 14 → wr σ3 3 4 (nI (p3 + 1)) c = σ3 c := fun c h1 h2 => wr_cell _ _ _ (by omega)
  have t34 : ∀ c, 45 ≤ c → c ≤ 49 → wr τ3 38 8 (nI (p3 + 1)) c = τ3 c := fun c h1 h2 => wr_cell _ _ _ (by omega)
  generalize wr σ3 3 4 (nI (p3 + 1)) = σ4 at *
  generalize wr τ3 38 8 (nI (p3 + 1)) = τ4 at *
  have w7 := P4.2.2.2.2.2.2.2.2.2.2.2.2.2.1
  have w8 := P4.2.2.2.2.2.2.2.2.2.2.2.2.2.2.2.1
  obtain ⟨c1, c2, c3, c4, c5, c6, c7, c8⟩ := cJ_fr σ4 ne3 ni3 nj3 0
  rw [c_addJump d w7 w8 k7 (by omega) (by omega), zbI_some, c_psize (d + 2) c2, zbI_some, c_setFirst (d + 1) c2 (by omega) (by omega), zbV_some]
  have hx5 := (hx4.tr c1 (by omega) (by omega)).tr (pFr.set (c := 10) (q := ne) (by omega) (Nat.le_refl _) (nI (ne3 + 1))) (Nat.le_refl _) (Nat.le_refl ni)
  have fE : ∀ c q, 8 ≤ c → c ≤ 12 → q < ne3 → ¬ (c = 10 ∧ q = ne) → wr (cJ σ4 ne3 ni3 nj3 0) 10 ne (nI (ne3 + 1)) c q = σ3 c q := fun c q h1 h2 h3 h4 => by
    by_cases hc : c = 10
    · rw [hc, wr_slot _ _ _ (by omega), c1.2.2.1 10 q (by omega) (by omega) h3, s34 10 (by omega) (by omega)]
    · rw [wr_cell _ _ _ (by omega), c1.2.2.1 c q h1 h2 h3, s34 c h1 (by omega)]
  have fI : ∀ q, q < ni3 → wr (cJ σ4 ne3 ni3 nj3 0) 10 ne (nI (ne3 + 1)) 13 q = σ3 13 q ∧ wr (cJ σ4 ne3 ni3 nj3 0) 10 ne (nI (ne3 + 1)) 14 q = σ3 14 q := fun q hq => by
    rw [wr_cell _ _ _ (by omega), wr_cell _ _ _ (by omega), (c1.2.2.2 q hq).1, (c1.2.2.2 q hq).2, s34 13 (by omega) (by omega), s34 14 (by omega) (by omega)]; exact ⟨rfl, rfl⟩
  have v1 : wr (cJ σ4 ne3 ni3 nj3 0) 10 ne (nI (ne3 + 1)) 10 ne = nI (ne3 + 1) := by rw [wr_same]
  have v2 : wr (cJ σ4 ne3 ni3 nj3 0) 10 ne (nI (ne3 + 1)) 8 ne3 = 12 := by rw [wr_cell _ _ _ (by omega), c6]
  have v3 : wr (cJ σ4 ne3 ni3 nj3 0) 10 ne (nI (ne3 + 1)) 12 ne3 = nI ni3 := by rw [wr_cell _ _ _ (by omega), c8]
  have v5 : wr (cJ σ4 ne3 ni3 nj3 0) 10 ne (nI (ne3 + 1)) 7 9 = nI (nj3 + 1) := by rw [wr_cell _ _ _ (by omega), c4]
  have P5 : PB mm s sd (wr (cJ σ4 ne3 ni3 nj3 0) 10 ne (nI (ne3 + 1))) τ4 (p3 + 1) (dep + 1) (ne3 + 1) ni3 nn3 := by
    refine (P4.ofP c1 qFr.rf (by rw [c5]; exact P4.2.2.2.2.2.2.2.2.1) P4.2.2.2.2.2.2.2.2.2.1 (by omega) P4.2.2.2.2.2.2.2.2.2.2.2.1 (by omega) c2 (by omega) (by rw [c3, w8]) P4.2.2.2.2.2.2.2.2.2.2.2.2.2.2.2.2.1 (by omega) (by omega)).set (by omega) _ _
  generalize wr (cJ σ4 ne3 ni3 nj3 0) 10 ne (nI (ne3 + 1)) = σ5 at *
  have P50 : PS mm s sd σ5 τ4 (p3 + 1) (dep + 1) (ne3 + 1) ni3 nn3 (nj3 + 1) nc3 := ⟨P5, v5, k14, by omega, by omega⟩
  obtain ⟨r, σ6, τ6, o1, o2, jx, jy, j⟩ := L hd (d + 3) (by omega) _ _ _ _ _ _ _ _ P50
  rw [o1, o2, zbI_some, zbI_some]
  have hx6 := hx5.tr jx (by omega) (by omega)
  have hy6 := hy4.tr jy (by omega)
  rcases j with ⟨rfl, j⟩ | ⟨rfl, p7, ne7, ni7, nn7, nj7, nc7, l2, P7, j1, j2, j3, j4, j5, j6, j7, j8⟩
  · rw [if_pos rfl, if_pos rfl]
    exact SRes.no2 hx6 hy6 j
  obtain ⟨P7, y1, y2, y3, y4⟩ := P7
  have hle7 := P7.le
  have jl := j7.le
  have a9 := P7.2.2.2.2.2.2.2.2.2.2.2.1
  rw [if_neg n10, if_neg n10, j6, e93, (t_take (d + 1) P7 (c := 93) (by omega) (by omega)).1, m_want d P7 (c := 93) (by omega) (by omega)]
  by_cases h9 : σ6 4 p7 = nI 93
  case neg =>
    rw [if_neg h9, if_neg h9, zbI_some, zbI_some, if_pos rfl, if_pos rfl]
    exact SRes.no P7 hx6 hy6
  have hp7 := P7.ltS (c := 93) (by omega) (by omega) h9
  rw [if_pos h9, if_pos h9, zbI_some, zbI_some, if_neg n10, if_neg n10, if_neg n10]
  obtain ⟨P8, gx8, gy8⟩ := P7.skip hp7
  have hx8 := hx6.tr (gx8.p ne7) (by omega) (by omega)
  have hy8 := hy6.tr gy8.q (by omega)
  have k9 : wr τ6 38 8 (nI (p7 + 1)) 38 9 - 1 = nI dep := by rw [wr_slot _ _ _ (by omega), a9, nI_pred]
  have m7 : wr σ6 3 4 (nI (p7 + 1)) 7 9 = nI nj7 := by rw [wr_cell _ _ _ (by omega), y1]
  have m14 : wr τ6 38 8 (nI (p7 + 1)) 38 14 = nI nc7 := by rw [wr_slot _ _ _ (by omega), y2]
  have s68 : ∀ c, 8 ≤ c → c ≤ 14 → wr σ6 3 4 (nI (p7 + 1)) c = σ6 c := fun c h1 h2 => wr_cell _ _ _ (by omega)
  have t68 : ∀ c, 45 ≤ c → c ≤ 49 → wr τ6 38 8 (nI (p7 + 1)) c = τ6 c := fun c h1 h2 => wr_cell _ _ _ (by omega)
  rw [k9]
  generalize wr σ6 3 4 (nI (p7 + 1)) = σ8 at *
  generalize wr τ6 38 8 (nI (p7 + 1)) = τ8 at *
  have z7 := P8.2.2.2.2.2.2.2.2.2.2.2.2.2.1
  rw [c_psize (d + 2) z7, zbI_some, c_setFirst (d + 1) z7 (by omega) (by omega), zbV_some]
  have hx9 := hx8.tr (pFr.set (c := 10) (q := ne3) (ne := ne) (by omega) (by omega) (nI ne7)) (Nat.le_refl _) (Nat.le_refl ni)
  have P9 : PB mm s sd (wr σ8 10 ne3 (nI ne7)) (wr τ8 38 9 (nI dep)) (p7 + 1) dep ne7 ni7 nn7 := (P8.dp (dep' := dep) (by omega)).set (by omega) _ _
  have hy9 : qFr sd τ (wr τ8 38 9 (nI dep)) nn := hy8.tr (qFr.w (by omega) _) (Nat.le_refl _)
  have n7 : wr σ8 10 ne3 (nI ne7) 7 9 = nI nj7 := by rw [wr_cell _ _ _ (by omega), m7]
  have n14 : wr τ8 38 9 (nI dep) 38 14 = nI nc7 := by rw [wr_slot _ _ _ (by omega), m14]
  have hE2 : ∀ c q, 8 ≤ c → c ≤ 12 → q ≠ ne3 ∨ c ≠ 10 → wr σ8 10 ne3 (nI ne7) c q = σ6 c q := fun c q h1 h2 h3 => by
    by_cases hc : c = 10
    · rw [hc, wr_slot _ _ _ (by omega), s68 10 (by omega) (by omega)]
    · rw [wr_cell _ _ _ hc, s68 c h1 (by omega)]
  have hE1 : ∀ c q, 8 ≤ c → c ≤ 12 → q < ne3 → ¬ (c = 10 ∧ q = ne) → wr σ8 10 ne3 (nI ne7) c q = σ3 c q := fun c q h1 h2 h3 h4 => by
    rw [hE2 c q h1 h2 (by omega), jx.2.2.1 c q h1 h2 (by omega), fE c q h1 h2 h3 h4]
  have hI2 : ∀ q, wr σ8 10 ne3 (nI ne7) 13 q = σ6 13 q ∧ wr σ8 10 ne3 (nI ne7) 14 q = σ6 14 q := fun q => by
    rw [wr_cell _ _ _ (by omega), wr_cell _ _ _ (by omega), s68 13 (by omega) (by omega), s68 14 (by omega) (by omega)]; exact ⟨rfl, rfl⟩
  have hI1 : ∀ q, q < ni3 → wr σ8 10 ne3 (nI ne7) 13 q = σ3 13 q ∧ wr σ8 10 ne3 (nI ne7) 14 q = σ3 14 q := fun q hq => by
    rw [(hI2 q).1, (hI2 q).2, (jx.2.2.2 q hq).1, (jx.2.2.2 q hq).2]; exact fI q hq
  have hT2 : ∀ c, 45 ≤ c → c ≤ 49 → wr τ8 38 9 (nI dep) c = τ6 c := fun c h1 h2 => by rw [wr_cell _ _ _ (by omega), t68 c h1 h2]
  have hT1 : ∀ c n, 45 ≤ c → c ≤ 49 → n < 800 * (1 - sd) + nn3 → wr τ8 38 9 (nI dep) c n = τ3 c n := fun c n h1 h2 h3 => by rw [hT2 c h1 h2, jy.2.2.2 c n h1 h2 (Or.inl h3), t34 c h1 h2]
  have x1 : wr σ8 10 ne3 (nI ne7) 10 ne = nI (ne3 + 1) := by rw [hE2 10 ne (by omega) (by omega) (by omega), jx.2.2.1 10 ne (by omega) (by omega) (by omega), v1]
  have x2 : wr σ8 10 ne3 (nI ne7) 10 ne3 = nI ne7 := by rw [wr_same]
  have x3 : wr σ8 10 ne3 (nI ne7) 8 ne3 = 12 := by rw [hE2 8 ne3 (by omega) (by omega) (by omega), jx.2.2.1 8 ne3 (by omega) (by omega) (by omega), v2]
  have x4 : wr σ8 10 ne3 (nI ne7) 12 ne3 = nI ni3 := by rw [hE2 12 ne3 (by omega) (by omega) (by omega), jx.2.2.1 12 ne3 (by omega) (by omega) (by omega), v3]
  generalize wr σ8 10 ne3 (nI ne7) = σ9 at *
  generalize wr τ8 38 9 (nI dep) = τ9 at *
  refine t_fin2 (d + 2) 11 (nI x) (hdOf l) (hdOf l2) P9 hx9 hy9 (by omega) (by omega) (by omega) (by omega) (by omega) (by omega) h2ne hle.2.2.2.1 n7 n14 (by omega) ?_
  obtain ⟨e0, e1, e2, e3, e4, e5, e6⟩ := mNd_at τ9 sd nn7 11 (nI x) (hdOf l) (hdOf l2)
  have hX := (b11.wide (σF := σ9) (τF := τ9) (nnF := nn7) (fun q _ q2 => by rw [(hI1 q (by omega)).1, (hI1 q (by omega)).2, (gx.2.2.2 q q2).1, (gx.2.2.2 q q2).2]; exact ⟨rfl, rfl⟩) (fun c n h1 h2 _ h4 => by rw [hT1 c n h1 h2 (by omega), gy.2.2.2 c n h1 h2 (Or.inl h4)]) (by omega)).nd 11 (nI x) (hdOf l) (hdOf l2)
  have hL1 := (g7.fr (σ' := σ9) (τ' := τ9) (fun c q h1 h2 h3 h4 => hE1 c q h1 h2 h4 (by omega)) (fun q _ h2 => hI1 q h2) (fun c n h1 h2 _ h4 => hT1 c n h1 h2 h4)).chain (lo2 := 800 * (1 - sd) + nn) (hi2 := 800 * (1 - sd) + nn7) (by omega) (by omega)
  have hL2 := (j7.fr (σ' := σ9) (τ' := τ9) (fun c q h1 h2 h3 h4 => hE2 c q h1 h2 (by omega)) (fun q _ h2 => hI2 q) (fun c n h1 h2 _ h4 => by rw [hT2 c h1 h2])).chain (lo2 := 800 * (1 - sd) + nn) (hi2 := 800 * (1 - sd) + nn7) (by omega) (Nat.le_refl _)
  rw [show 10 - (dep + 1) + 1 = 10 - dep by omega] at hL1 hL2
  refine ⟨by omega, by rw [hE1 12 ne (by omega) (by omega) (by omega) (by omega), gx.2.2.1 12 ne (by omega) (by omega) (by omega), b10], by omega, by omega, Or.inr (Or.inr (Or.inl ⟨e1, by rw [hE1 8 ne (by omega) (by omega) (by omega) (by omega), gx.2.2.1 8 ne (by omega) (by omega) (by omega), b9], x, ni2, ne3, ni3, l, l2, e2, hX, by omega, by omega, by rw [e3]; exact hL1, x3, x2, x4, x1, by rw [e4]; exact hL2⟩))⟩
