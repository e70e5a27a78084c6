-- X on both sides
theorem PB.of {mm s sd : Nat} {σ τ σ' τ' : zS} {p dep ne ni nn p' dep' ni' nn' : Nat} (H : PB mm s sd σ τ p dep ne ni nn) (hx : xFr σ σ' ni) (hy : yFr sd τ τ' nn) (h1 : σ' 3 4 = nI p') (h2 : τ' 38 8 = nI p') (h3 : p' ≤ mm) (h4 : τ' 38 9 = nI dep') (h5 : dep' ≤ 10) (h6 : σ' 7 8 = nI ni') (h7 : τ' 44 (1 - sd) = nI nn') (h8 : ni' ≤ p') (h9 : nn' ≤ p') (h10 : τ' 38 3 = τ 38 3 := by first | rfl | (simp (disch := omega) only [lt_litR, lt_litL, eq_litR, eq_litL, lt_nn, eq_nn, lt_n0, z_cl, add_lit, eq_m1, eq_m1', m1_lt, false_or, or_false, if_pos, if_neg, zbI_some, zbV_some, wr_same, wr_cell, wr_slot, ne_eq, not_true_eq_false, not_false_eq_true, true_and, and_true, false_and, and_false, e10, e01, e00, if_true, if_false, Bool.false_eq_true, lit_ne, lit_lt, eq_self]; done) | (rw [mNd]; simp (disch := omega) only [lt_litR, lt_litL, eq_litR, eq_litL, lt_nn, eq_nn, lt_n0, z_cl, add_lit, eq_m1, eq_m1', m1_lt, false_or, or_false, if_pos, if_neg, zbI_some, zbV_some, wr_same, wr_cell, wr_slot, ne_eq, not_true_eq_false, not_false_eq_true, true_and, and_true, false_and, and_false, e10, e01, e00, if_true, if_false, Bool.false_eq_true, lit_ne, lit_lt, eq_self]; done)) : PB mm s sd σ' τ' p' dep' ne ni' nn' := by
  obtain ⟨a1, a2, a3, a4, a5, a6, a7, a8, a9, a10, a11, a12, a13, a14, a15, a16, a17, a18, a19⟩ := H
  have c4 := hx.1 4 (by omega) (by omega) (by omega) (by omega)
  have c5 := hx.1 5 (by omega) (by omega) (by omega) (by omega)
  have c6 := hx.1 6 (by omega) (by omega) (by omega) (by omega)
  have d0 := hy.1 40 (by omega) (by omega) (by omega)
  have d1 := hy.1 41 (by omega) (by omega) (by omega)
  have d2 := hy.1 42 (by omega) (by omega) (by omega)
  exact ⟨fun i hi => by rw [tR, c4, c5, c6, d0, d1, d2]; exact a1 i hi, by rw [c4]; exact a2, fun i hi => by rw [c4]; exact a3 i hi, a4, a5, by rw [hx.2.1 3 (by omega), a6], a7, by rw [hy.2.1 10 (by omega) (by omega) (by omega) (by omega), a8], h1, h2, h3, h4, h5, by rw [hx.2.2.1 7 (by omega), a14], a15, h6, h7, h8, h9, by rw [h10]; exact a19.2⟩
theorem xFr.item {σ : zS} {ni : Nat} (k v : Int32) : xFr σ (wr (wr (wr σ 13 ni k) 14 ni v) 7 8 (nI (ni + 1))) ni :=
  ⟨fun c h1 h2 h3 h4 => by simp (disch := omega) only [lt_litR, lt_litL, eq_litR, eq_litL, lt_nn, eq_nn, lt_n0, z_cl, add_lit, eq_m1, eq_m1', m1_lt, false_or, or_false, if_pos, if_neg, zbI_some, zbV_some, wr_same, wr_cell, wr_slot, ne_eq, not_true_eq_false, not_false_eq_true, true_and, and_true, false_and, and_false, e10, e01, e00, if_true, if_false, Bool.false_eq_true, lit_ne, lit_lt, eq_self], fun j hj => by simp (disch := omega) only [lt_litR, lt_litL, eq_litR, eq_litL, lt_nn, eq_nn, lt_n0, z_cl, add_lit, eq_m1, eq_m1', m1_lt, false_or, or_false, if_pos, if_neg, zbI_some, zbV_some, wr_same, wr_cell, wr_slot, ne_eq, not_true_eq_false, not_false_eq_true, true_and, and_true, false_and, and_false, e10, e01, e00, if_true, if_false, Bool.false_eq_true, lit_ne, lit_lt, eq_self], fun j hj => by simp (disch := omega) only [lt_litR, lt_litL, eq_litR, eq_litL, lt_nn, eq_nn, lt_n0, z_cl, add_lit, eq_m1, eq_m1', m1_lt, false_or, or_false, if_pos, if_neg, zbI_some, zbV_some, wr_same, wr_cell, wr_slot, ne_eq, not_true_eq_false, not_false_eq_true, true_and, and_true, false_and, and_false, e10, e01, e00, if_true, if_false, Bool.false_eq_true, lit_ne, lit_lt, eq_self], fun i hi => by simp (disch := omega) only [lt_litR, lt_litL, eq_litR, eq_litL, lt_nn, eq_nn, lt_n0, z_cl, add_lit, eq_m1, eq_m1', m1_lt, false_or, or_false, if_pos, if_neg, zbI_some, zbV_some, wr_same, wr_cell, wr_slot, ne_eq, not_true_eq_false, not_false_eq_true, true_and, and_true, false_and, and_false, e10, e01, e00, if_true, if_false, Bool.false_eq_true, lit_ne, lit_lt, eq_self, and_self]⟩
theorem xFr.next {σ : zS} {ni : Nat} (v : Int32) : xFr σ (wr σ 3 4 v) ni :=
  ⟨fun c h1 h2 h3 h4 => by simp (disch := omega) only [lt_litR, lt_litL, eq_litR, eq_litL, lt_nn, eq_nn, lt_n0, z_cl, add_lit, eq_m1, eq_m1', m1_lt, false_or, or_false, if_pos, if_neg, zbI_some, zbV_some, wr_same, wr_cell, wr_slot, ne_eq, not_true_eq_false, not_false_eq_true, true_and, and_true, false_and, and_false, e10, e01, e00, if_true, if_false, Bool.false_eq_true, lit_ne, lit_lt, eq_self], fun j hj => by simp (disch := omega) only [lt_litR, lt_litL, eq_litR, eq_litL, lt_nn, eq_nn, lt_n0, z_cl, add_lit, eq_m1, eq_m1', m1_lt, false_or, or_false, if_pos, if_neg, zbI_some, zbV_some, wr_same, wr_cell, wr_slot, ne_eq, not_true_eq_false, not_false_eq_true, true_and, and_true, false_and, and_false, e10, e01, e00, if_true, if_false, Bool.false_eq_true, lit_ne, lit_lt, eq_self], fun j hj => by simp (disch := omega) only [lt_litR, lt_litL, eq_litR, eq_litL, lt_nn, eq_nn, lt_n0, z_cl, add_lit, eq_m1, eq_m1', m1_lt, false_or, or_false, if_pos, if_neg, zbI_some, zbV_some, wr_same, wr_cell, wr_slot, ne_eq, not_true_eq_false, not_false_eq_true, true_and, and_true, false_and, and_false, e10, e01, e00, if_true, if_false, Bool.false_eq_true, lit_ne, lit_lt, eq_self], fun i hi => by simp (disch := omega) only [lt_litR, lt_litL, eq_litR, eq_litL, lt_nn, eq_nn, lt_n0, z_cl, add_lit, eq_m1, eq_m1', m1_lt, false_or, or_false, if_pos, if_neg, zbI_some, zbV_some, wr_same, wr_cell, wr_slot, ne_eq, not_true_eq_false, not_false_eq_true, true_and, and_true, false_and, and_false, e10, e01, e00, if_true, if_false, Bool.false_eq_true, lit_ne, lit_lt, eq_self, and_self]⟩
theorem yFr.w {sd nn : Nat} {τ : zS} {k : Nat} (hk : k = 3 ∨ k = 8 ∨ k = 9 ∨ k = 41) (v : Int32) : yFr sd τ (wr τ 38 k v) nn :=
  ⟨fun c h1 h2 h3 => wr_cell _ _ _ h1, fun j h1 h2 h3 h4 => wr_slot _ _ _ (by omega), by rw [wr_cell _ _ _ (by omega)], fun c n h1 h2 h3 => by rw [wr_cell _ _ _ (by omega)]⟩
theorem mNd_at (τ : zS) (sd nn : Nat) (o x y z : Int32) : mNd τ sd nn o x y z 44 (1 - sd) = nI (nn + 1) ∧ mNd τ sd nn o x y z 45 (800 * (1 - sd) + nn) = o ∧ mNd τ sd nn o x y z 46 (800 * (1 - sd) + nn) = x ∧ mNd τ sd nn o x y z 47 (800 * (1 - sd) + nn) = y ∧ mNd τ sd nn o x y z 48 (800 * (1 - sd) + nn) = z ∧ mNd τ sd nn o x y z 49 (800 * (1 - sd) + nn) = -1 ∧ (∀ k, mNd τ sd nn o x y z 38 k = τ 38 k) := by
  rw [mNd]; refine ⟨?_, ?_, ?_, ?_, ?_, ?_, fun k => ?_⟩ <;> simp (disch := omega) only [lt_litR, lt_litL, eq_litR, eq_litL, lt_nn, eq_nn, lt_n0, z_cl, add_lit, eq_m1, eq_m1', m1_lt, false_or, or_false, if_pos, if_neg, zbI_some, zbV_some, wr_same, wr_cell, wr_slot, ne_eq, not_true_eq_false, not_false_eq_true, true_and, and_true, false_and, and_false, e10, e01, e00, if_true, if_false, Bool.false_eq_true, lit_ne, lit_lt, eq_self]
theorem mNd_ne (τ : zS) (sd nn : Nat) (o x y z : Int32) {c n : Nat} (hc : 45 ≤ c) (hc2 : c ≤ 49) (hn : n ≠ 800 * (1 - sd) + nn) : mNd τ sd nn o x y z c n = τ c n := by
  rw [mNd]
  rcases (show c = 45 ∨ c = 46 ∨ c = 47 ∨ c = 48 ∨ c = 49 by omega) with rfl | rfl | rfl | rfl | rfl <;> simp (disch := omega) only [lt_litR, lt_litL, eq_litR, eq_litL, lt_nn, eq_nn, lt_n0, z_cl, add_lit, eq_m1, eq_m1', m1_lt, false_or, or_false, if_pos, if_neg, zbI_some, zbV_some, wr_same, wr_cell, wr_slot, ne_eq, not_true_eq_false, not_false_eq_true, true_and, and_true, false_and, and_false, e10, e01, e00, if_true, if_false, Bool.false_eq_true, lit_ne, lit_lt, eq_self]
theorem yFr.node {sd nn : Nat} {τ : zS} (hsd : sd < 2) (hn : nn < 800) (o x y z : Int32) : yFr sd τ (mNd τ sd nn o x y z) nn :=
  ⟨fun c h1 h2 h3 => by rw [mNd]; simp (disch := omega) only [lt_litR, lt_litL, eq_litR, eq_litL, lt_nn, eq_nn, lt_n0, z_cl, add_lit, eq_m1, eq_m1', m1_lt, false_or, or_false, if_pos, if_neg, zbI_some, zbV_some, wr_same, wr_cell, wr_slot, ne_eq, not_true_eq_false, not_false_eq_true, true_and, and_true, false_and, and_false, e10, e01, e00, if_true, if_false, Bool.false_eq_true, lit_ne, lit_lt, eq_self], fun j h1 h2 h3 h4 => by rw [mNd]; simp (disch := omega) only [lt_litR, lt_litL, eq_litR, eq_litL, lt_nn, eq_nn, lt_n0, z_cl, add_lit, eq_m1, eq_m1', m1_lt, false_or, or_false, if_pos, if_neg, zbI_some, zbV_some, wr_same, wr_cell, wr_slot, ne_eq, not_true_eq_false, not_false_eq_true, true_and, and_true, false_and, and_false, e10, e01, e00, if_true, if_false, Bool.false_eq_true, lit_ne, lit_lt, eq_self], by rw [mNd]; simp (disch := omega) only [lt_litR, lt_litL, eq_litR, eq_litL, lt_nn, eq_nn, lt_n0, z_cl, add_lit, eq_m1, eq_m1', m1_lt, false_or, or_false, if_pos, if_neg, zbI_some, zbV_some, wr_same, wr_cell, wr_slot, ne_eq, not_true_eq_false, not_false_eq_true, true_and, and_true, false_and, and_false, e10, e01, e00, if_true, if_false, Bool.false_eq_true, lit_ne, lit_lt, eq_self], fun c n h1 h2 h3 => mNd_ne _ _ _ _ _ _ _ h1 h2 (by omega)⟩
/-- an X, or a piece of one, that stands -/
def XG (sd : Nat) (σ τ : zS) (p0 ni0 nn0 h p ni nn x : Nat) : Prop := p0 < p ∧ ni + p0 ≤ ni0 + p ∧ nn + p0 ≤ nn0 + p ∧ nn0 ≤ nn ∧ τ 38 41 = nI x ∧ RepX (σ 13) (σ 14) (mkT (800 * (1 - sd) + nn0) (800 * (1 - sd) + nn) (τ 45)) (τ 46) (τ 47) (nn - nn0) h x ni0 ni
theorem XG.ile {sd : Nat} {σ τ : zS} {p0 ni0 nn0 h p ni nn x : Nat} (H : XG sd σ τ p0 ni0 nn0 h p ni nn x) : ni0 < ni := RepX_lt H.2.2.2.2.2
theorem XG.up {sd : Nat} {σ τ : zS} {p0 ni0 nn0 h h' p ni nn x : Nat} (H : XG sd σ τ p0 ni0 nn0 h p ni nn x) (hh : h ≤ h') : XG sd σ τ p0 ni0 nn0 h' p ni nn x := by
  obtain ⟨a1, a2, a3, a4, a5, a6⟩ := H
  exact ⟨a1, a2, a3, a4, a5, RepX_mono a6 (Nat.le_refl _) hh⟩
/-- it stands when others were written behind it -/
theorem XG.rep {sd : Nat} {σ τ σ' τ' : zS} {p0 ni0 nn0 h p ni nn x nn2 : Nat} (H : XG sd σ τ p0 ni0 nn0 h p ni nn x) (hx : xFr σ σ' ni) (hy : yFr sd τ τ' nn) (hn : nn ≤ nn2) (hn8 : nn ≤ 800) (k : Nat) (hk : nn - nn0 ≤ k) : RepX (σ' 13) (σ' 14) (mkT (800 * (1 - sd) + nn0) (800 * (1 - sd) + nn2) (τ' 45)) (τ' 46) (τ' 47) k h x ni0 ni := by
  obtain ⟨a1, a2, a3, a4, a5, a6⟩ := H
  refine RepX_mono (RepX_tr (fun n hn0 => ?_) a6 (fun q q1 q2 => hx.2.2.2 q q2)) hk (Nat.le_refl _)
  have hr : 800 * (1 - sd) + nn0 ≤ n ∧ n < 800 * (1 - sd) + nn := by
    by_cases hr : 800 * (1 - sd) + nn0 ≤ n ∧ n < 800 * (1 - sd) + nn
    · exact hr
    · exfalso; apply hn0; rw [mkT, if_neg hr]
  rw [mkT, mkT, if_pos (show 800 * (1 - sd) + nn0 ≤ n ∧ n < 800 * (1 - sd) + nn2 by omega), if_pos hr]
  exact ⟨hy.2.2.2 45 n (by omega) (by omega) (by omega), hy.2.2.2 46 n (by omega) (by omega) (by omega), hy.2.2.2 47 n (by omega) (by omega) (by omega)⟩
/-- two pieces and a sign between them -/
theorem XG.bin {sd : Nat} {σ1 τ1 σ2 τ2 : zS} {p0 ni0 nn0 h p1 ni1 nn1 x p2 ni2 nn2 y h' : Nat} (hsd : sd < 2) (H1 : XG sd σ1 τ1 p0 ni0 nn0 h p1 ni1 nn1 x) (H2 : XG sd σ2 τ2 (p1 + 1) ni1 nn1 h' p2 ni2 nn2 y) (hx : xFr σ1 σ2 ni1) (hy : yFr sd τ1 τ2 nn1) (hh : h' + 1 ≤ h) (hn8 : nn2 < 800) (k o : Int32) (hko : (o = 60 ∧ k = 3) ∨ (o = 43 ∧ k = 4) ∨ (o = 45 ∧ k = 5) ∨ (o = 42 ∧ k = 6)) (v : Int32) :
    XG sd (wr (wr (wr σ2 13 ni2 k) 14 ni2 v) 7 8 (nI (ni2 + 1))) (wr (mNd τ2 sd nn2 o (nI x) (nI y) 0) 38 41 (nI (800 * (1 - sd) + nn2))) p0 ni0 nn0 h p2 (ni2 + 1) (nn2 + 1) (800 * (1 - sd) + nn2) := by
  have i1 := H1.ile
  have i2 := H2.ile
  obtain ⟨b1, b2, b3, b4, b5, b6⟩ := H2
  have hb8 : nn1 ≤ 800 := by omega
  obtain ⟨e0, e1, e2, e3, e4, e5, e6⟩ := mNd_at τ2 sd nn2 o (nI x) (nI y) 0
  have yN : yFr sd τ2 (wr (mNd τ2 sd nn2 o (nI x) (nI y) 0) 38 41 (nI (800 * (1 - sd) + nn2))) nn2 := (yFr.node hsd hn8 _ _ _ _).tr (yFr.w (by omega) _) (Nat.le_refl _)
  have L := H1.rep (nn2 := nn2 + 1) (k := nn2 - nn0) (hx.tr (xFr.item (ni := ni2) k v) (by omega)) (hy.tr yN (by omega)) (by omega) hb8 (by have := H1.2.2.2.1; omega)
  have R0 : XG sd σ2 τ2 (p1 + 1) ni1 nn1 h' p2 ni2 nn2 y := ⟨b1, b2, b3, b4, b5, b6⟩
  have hn01 := H1.2.2.2.1
  have R := R0.rep (nn2 := nn2 + 1) (k := nn2 - nn0) (xFr.item k v) yN (by omega) (by omega) (by omega)
  obtain ⟨a1, a2, a3, a4, a5, a6⟩ := H1
  refine ⟨by omega, by omega, by omega, by omega, by rw [wr_same], ?_⟩
  rw [show nn2 + 1 - nn0 = (nn2 - nn0) + 1 by omega]
  have h1 : 1 ≤ h := by
    cases hq : nn1 - nn0 with
    | zero => rw [hq] at a6; exact a6.elim
    | succ q => rw [hq] at a6; exact a6.2.1
  have h1' : 1 ≤ h' := by
    cases hq : nn2 - nn1 with
    | zero => rw [hq] at b6; exact b6.elim
    | succ q => rw [hq] at b6; exact b6.2.1
  refine ⟨by omega, h1, Or.inr (Or.inr (Or.inr ⟨x, y, ni1, ni2, ?_, ?_, L, ?_, by omega, rfl, ?_⟩))⟩
  · rw [wr_cell _ _ _ (by omega), e2]
  · rw [wr_cell _ _ _ (by omega), e3]
  · have : RepX (wr (wr (wr σ2 13 ni2 k) 14 ni2 v) 7 8 (nI (ni2 + 1)) 13) (wr (wr (wr σ2 13 ni2 k) 14 ni2 v) 7 8 (nI (ni2 + 1)) 14) (mkT (800 * (1 - sd) + nn0) (800 * (1 - sd) + (nn2 + 1)) (wr (mNd τ2 sd nn2 o (nI x) (nI y) 0) 38 41 (nI (800 * (1 - sd) + nn2)) 45)) (wr (mNd τ2 sd nn2 o (nI x) (nI y) 0) 38 41 (nI (800 * (1 - sd) + nn2)) 46) (wr (mNd τ2 sd nn2 o (nI x) (nI y) 0) 38 41 (nI (800 * (1 - sd) + nn2)) 47) (nn2 - nn0) (h - 1) y ni1 ni2 := by
      refine RepX_mono (RepX_tr (fun n hn0 => ?_) R (fun q _ _ => ⟨rfl, rfl⟩)) (Nat.le_refl _) (by omega)
      have hr : 800 * (1 - sd) + nn1 ≤ n ∧ n < 800 * (1 - sd) + (nn2 + 1) := by
        by_cases hr : 800 * (1 - sd) + nn1 ≤ n ∧ n < 800 * (1 - sd) + (nn2 + 1)
        · exact hr
        · exfalso; apply hn0; rw [mkT, if_neg hr]
      rw [mkT, mkT, if_pos (show 800 * (1 - sd) + nn0 ≤ n ∧ n < 800 * (1 - sd) + (nn2 + 1) by omega), if_pos hr]
      exact ⟨rfl, rfl, rfl⟩
    exact this
  · rw [mkT, if_pos (by omega), wr_cell _ _ _ (by omega), e1]
    simp (disch := omega) only [lt_litR, lt_litL, eq_litR, eq_litL, lt_nn, eq_nn, lt_n0, z_cl, add_lit, eq_m1, eq_m1', m1_lt, false_or, or_false, if_pos, if_neg, zbI_some, zbV_some, wr_same, wr_cell, wr_slot, ne_eq, not_true_eq_false, not_false_eq_true, true_and, and_true, false_and, and_false, e10, e01, e00, if_true, if_false, Bool.false_eq_true, lit_ne, lit_lt, eq_self]
    exact hko
/-- what both parsers come to at an X -/
def XRes (mm s sd : Nat) (σ τ : zS) (p dep ne ni nn h : Nat) (oc om : Option zR) : Prop := ∃ r σ' τ', oc = some (1, r, σ') ∧ om = some (1, r, τ') ∧ xFr σ σ' ni ∧ yFr sd τ τ' nn ∧
  ((r = 0 ∧ ∃ pf, pf ≤ mm ∧ σ' 3 4 = nI pf ∧ τ' 38 3 = σ' 5 pf) ∨ (r = 1 ∧ ∃ p' ni' nn' x, PB mm s sd σ' τ' p' dep ne ni' nn' ∧ XG sd σ' τ' p ni nn h p' ni' nn' x))
theorem XRes.no {mm s sd : Nat} {σ τ σ' τ' : zS} {p dep ne ni nn h pf dep' ni' nn' : Nat} (hP : PB mm s sd σ' τ' pf dep' ne ni' nn') (hx : xFr σ σ' ni) (hy : yFr sd τ τ' nn) : XRes mm s sd σ τ p dep ne ni nn h (some (1, 0, σ')) (some (1, 0, wr τ' 38 3 (σ' 5 pf))) :=
  ⟨0, σ', _, rfl, rfl, hx, hy.tr (yFr.w (by omega) _) (Nat.le_refl _), Or.inl ⟨rfl, pf, hP.le.1, hP.2.2.2.2.2.2.2.2.1, by rw [wr_same]⟩⟩
def FOK (mm s sd ne dep : Nat) : Prop := ∀ D, 30 * (11 - dep) + 20 ≤ D → ∀ (σ τ : zS) (p ni nn : Nat), PB mm s sd σ τ p dep ne ni nn → XRes mm s sd σ τ p dep ne ni nn (31 - 3 * dep) (zM D mX2_readFactor [.inr (.inr 23), .inl (nI dep)] σ) (zM D mX8_readFactor [.inr (.inr 38)] τ)
def TOK (mm s sd ne dep : Nat) : Prop := ∀ D, 30 * (11 - dep) + 21 ≤ D → ∀ (σ τ : zS) (p ni nn : Nat), PB mm s sd σ τ p dep ne ni nn → XRes mm s sd σ τ p dep ne ni nn (32 - 3 * dep) (zM D mX2_readTerm [.inr (.inr 23), .inl (nI dep)] σ) (zM D mX8_readTerm [.inr (.inr 38)] τ)
def SOK (mm s sd ne dep : Nat) : Prop := ∀ D, 30 * (11 - dep) + 22 ≤ D → ∀ (σ τ : zS) (p ni nn : Nat), PB mm s sd σ τ p dep ne ni nn → XRes mm s sd σ τ p dep ne ni nn (33 - 3 * dep) (zM D mX2_readPart [.inr (.inr 23), .inl (nI dep)] σ) (zM D mX8_readSum [.inr (.inr 38)] τ)
def XOK (mm s sd ne dep : Nat) : Prop := ∀ D, 30 * (11 - dep) + 23 ≤ D → ∀ (σ τ : zS) (p ni nn : Nat), PB mm s sd σ τ p dep ne ni nn → XRes mm s sd σ τ p dep ne ni nn (34 - 3 * dep) (zM D mX2_readX [.inr (.inr 23), .inl (nI dep)] σ) (zM D mX8_readX [.inr (.inr 38)] τ)
theorem XRes.fr {mm s sd : Nat} {σ τ σ1 τ1 : zS} {p dep ne ni nn h p1 dep1 ni1 nn1 h1 : Nat} {r : Int32} {σ' τ' : zS} (hx : xFr σ σ1 ni) (hy : yFr sd τ τ1 nn) (hn : ni ≤ ni1) (hn2 : nn ≤ nn1) (hx2 : xFr σ1 σ' ni1) (hy2 : yFr sd τ1 τ' nn1) (h0 : ∃ pf, pf ≤ mm ∧ σ' 3 4 = nI pf ∧ τ' 38 3 = σ' 5 pf) : XRes mm s sd σ τ p dep ne ni nn h (some (1, 0, σ')) (some (1, 0, τ')) :=
  ⟨0, σ', τ', rfl, rfl, hx.tr hx2 hn, hy.tr hy2 hn2, Or.inl ⟨rfl, h0⟩⟩
theorem t_termLoop {mm s sd ne dep : Nat} (hF : FOK mm s sd ne dep) (hdep : dep ≤ 10) (D : Nat) (hD : 30 * (11 - dep) + 20 ≤ D) {σ0 τ0 : zS} {p0 ni0 nn0 : Nat} : ∀ (f M1 M2 q : Nat) (σ τ : zS) (p ni nn x : Nat), PB mm s sd σ τ p dep ne ni nn → XG sd σ τ p0 ni0 nn0 (32 - 3 * dep) p ni nn x → xFr σ0 σ ni0 → yFr sd τ0 τ nn0 → mm - p ≤ f → q ≤ p → f < M1 → f < M2 →
    XRes mm s sd σ0 τ0 p0 dep ne ni0 nn0 (32 - 3 * dep) (zexec zc_X2_readTerm zu_X2_readTerm (zM D) M1 12 [.inr (.inr 23), .inl (nI dep), .inl (nI q)] σ) (zexec zc_X8_readTerm zu_X8_readTerm (zM D) M2 9 [.inr (.inr 38)] τ) := by
  intro f
  obtain ⟨d, rfl⟩ : ∃ d, D = d + 3 := ⟨D - 3, by omega⟩
  induction f with
  | zero =>
    intro M1 M2 q σ τ p ni nn x H G hx hy hf hq h1 h2
    obtain ⟨M1, rfl⟩ : ∃ k, M1 = k + 1 := ⟨M1 - 1, by omega⟩
    obtain ⟨M2, rfl⟩ : ∃ k, M2 = k + 1 := ⟨M2 - 1, by omega⟩
    have hle := H.le
    have h42 : ¬ σ 4 p = nI 42 := fun h => by have := H.ltS (c := 42) (by omega) (by omega) h; omega
    have e42 : (42 : Int32) = nI 42 := rfl
    rw [qX2_readTerm_23_12, c_kind (d + 2) H, zbI_some, qX8_readTerm_38_9, e42, (t_take (d + 1) H (by omega) (by omega)).2, if_neg h42, if_neg h42, zbI_some, if_pos rfl]
    refine ⟨1, σ, τ, ?_, rfl, hx, hy, Or.inr ⟨rfl, p, ni, nn, x, H, G⟩⟩
    split <;> rfl
  | succ f ih =>
    intro M1 M2 q σ τ p ni nn x H G hx hy hf hq h1 h2
    obtain ⟨M1, rfl⟩ : ∃ k, M1 = k + 1 := ⟨M1 - 1, by omega⟩
    obtain ⟨M2, rfl⟩ : ∃ k, M2 = k + 1 := ⟨M2 - 1, by omega⟩
    have hle := H.le
    have e42 : (42 : Int32) = nI 42 := rfl
    rw [qX2_readTerm_23_12, c_kind (d + 2) H, zbI_some, qX8_readTerm_38_9, e42, (t_take (d + 1) H (by omega) (by omega)).2]
    by_cases h42 : σ 4 p = nI 42
    · have hp := H.ltS (c := 42) (by omega) (by omega) h42
      obtain ⟨H1, fx, fy⟩ := H.skip hp
      rw [if_pos h42, if_pos h42, if_pos (show nI q < 400 from nI_lt (b := 400) (by omega) (by omega)), zbI_some, if_neg (by decide), c_skip (d + 2) H hp, zbV_some]
      obtain ⟨r, σ1, τ1, o1, o2, gx, gy, g⟩ := hF (d + 3) hD _ _ _ _ _ H1
      rw [o1, o2, zbI_some, zbI_some]
      have gi := G.ile
      have gn := G.2.2.2.1
      rcases g with ⟨rfl, g⟩ | ⟨rfl, p1, ni1, nn1, y, H2, G2⟩
      · rw [if_pos rfl, if_pos rfl]
        exact ⟨0, σ1, τ1, rfl, rfl, hx.tr (fx.tr gx (Nat.le_refl _)) (by omega), hy.tr (fy.tr gy (Nat.le_refl _)) (by omega), Or.inl ⟨rfl, g⟩⟩
      · have hle2 := H2.le
        have hi2 := G2.ile
        have gb2 := G2
        obtain ⟨q1, q2, q3, q4, q5, q6⟩ := gb2
        have x41 : wr τ 38 8 (nI (p + 1)) 38 41 = nI x := by rw [wr_slot _ _ _ (by omega), G.2.2.2.2.1]
        rw [if_neg (by decide), if_neg (by decide), c_addItem (d + 2) H2.2.2.2.2.2.2.2.2.2.2.2.2.2.2.2.1 (by omega), zbV_some, x41, q5, m_node (d + 2) H2.2.2.2.2.2.2.1 H2.2.2.2.2.2.2.2.1 H2.2.2.2.2.2.2.2.2.2.2.2.2.2.2.2.2.1 (by omega), zbI_some, nI_1]
        have G3 := XG.bin (h := 32 - 3 * dep) (h' := 31 - 3 * dep) hle.2.2.2.2.1 G G2 (fx.tr gx (Nat.le_refl _)) (fy.tr gy (Nat.le_refl _)) (by omega) (by omega) 6 42 (by decide) 0
        have fx3 := (fx.tr gx (Nat.le_refl _)).tr (xFr.item (σ := σ1) (ni := ni1) 6 0) (by omega)
        have fy3 := (fy.tr gy (Nat.le_refl _)).tr ((yFr.node (τ := τ1) hle.2.2.2.2.1 (show nn1 < 800 by omega) 42 (nI x) (nI y) 0).tr (yFr.w (k := 41) (by omega) (nI (800 * (1 - sd) + nn1))) (Nat.le_refl _)) (by omega)
        obtain ⟨e0, _, _, _, _, _, e6⟩ := mNd_at τ1 sd nn1 42 (nI x) (nI y) 0
        have H3 : PB mm s sd (wr (wr (wr σ1 13 ni1 6) 14 ni1 0) 7 8 (nI (ni1 + 1))) (wr (mNd τ1 sd nn1 42 (nI x) (nI y) 0) 38 41 (nI (800 * (1 - sd) + nn1))) p1 dep ne (ni1 + 1) (nn1 + 1) := by
          refine H2.of (xFr.item _ _) ((yFr.node hle.2.2.2.2.1 (by omega) _ _ _ _).tr (yFr.w (by omega) _) (Nat.le_refl _)) ?_ ?_ hle2.1 ?_ hdep (by rw [wr_same]) ?_ (by omega) (by omega)
          · simp (disch := omega) only [lt_litR, lt_litL, eq_litR, eq_litL, lt_nn, eq_nn, lt_n0, z_cl, add_lit, eq_m1, eq_m1', m1_lt, false_or, or_false, if_pos, if_neg, zbI_some, zbV_some, wr_same, wr_cell, wr_slot, ne_eq, not_true_eq_false, not_false_eq_true, true_and, and_true, false_and, and_false, e10, e01, e00, if_true, if_false, Bool.false_eq_true, lit_ne, lit_lt, eq_self, H2.2.2.2.2.2.2.2.2.1]
          · rw [wr_slot _ _ _ (by omega), e6, H2.2.2.2.2.2.2.2.2.2.1]
          · rw [wr_slot _ _ _ (by omega), e6, H2.2.2.2.2.2.2.2.2.2.2.2.1]
          · rw [wr_cell _ _ _ (by omega), e0]
        exact ih M1 M2 (q + 1) _ _ p1 (ni1 + 1) (nn1 + 1) _ H3 G3 (hx.tr fx3 (by omega)) (hy.tr fy3 (by omega)) (by omega) (by omega) (by omega) (by omega)
    · rw [if_neg h42, if_neg h42, zbI_some, if_pos rfl]
      refine ⟨1, σ, τ, ?_, rfl, hx, hy, Or.inr ⟨rfl, p, ni, nn, x, H, G⟩⟩
      split <;> rfl
