def pFr (σ σ' : zS) (ne ni : Nat) : Prop := (∀ c, c ≠ 3 → c ≠ 7 → ¬ (8 ≤ c ∧ c ≤ 14) → σ' c = σ c) ∧ (∀ k, k ≠ 4 → σ' 3 k = σ 3 k) ∧ (∀ c q, 8 ≤ c → c ≤ 12 → q < ne → σ' c q = σ c q) ∧ (∀ i, i < ni → σ' 13 i = σ 13 i ∧ σ' 14 i = σ 14 i)
def qFr (sd : Nat) (τ τ' : zS) (nn : Nat) : Prop := (∀ c, c ≠ 38 → c ≠ 44 → ¬ (45 ≤ c ∧ c ≤ 49) → τ' c = τ c) ∧ (∀ k, k ≠ 3 → k ≠ 8 → k ≠ 9 → k ≠ 14 → k ≠ 41 → k ≠ 42 → k ≠ 43 → τ' 38 k = τ 38 k) ∧ τ' 44 sd = τ 44 sd ∧ (∀ c n, 45 ≤ c → c ≤ 49 → n < 800 * (1 - sd) + nn ∨ 800 * (1 - sd) + 800 ≤ n → τ' c n = τ c n)
theorem pFr.rf {σ : zS} {ne ni : Nat} : pFr σ σ ne ni := ⟨fun _ _ _ _ => rfl, fun _ _ => rfl, fun _ _ _ _ _ => rfl, fun _ _ => ⟨rfl, rfl⟩⟩
theorem qFr.rf {sd : Nat} {τ : zS} {nn : Nat} : qFr sd τ τ nn := ⟨fun _ _ _ _ => rfl, fun _ _ _ _ _ _ _ _ => rfl, rfl, fun _ _ _ _ _ => rfl⟩
theorem pFr.tr {a b c : zS} {e f i j : Nat} (h : pFr a b e i) (h2 : pFr b c f j) (hef : e ≤ f) (hij : i ≤ j) : pFr a c e i :=
  ⟨fun x x1 x2 x3 => (h2.1 x x1 x2 x3).trans (h.1 x x1 x2 x3), fun k hk => (h2.2.1 k hk).trans (h.2.1 k hk), fun x q x1 x2 hq => (h2.2.2.1 x q x1 x2 (by omega)).trans (h.2.2.1 x q x1 x2 hq), fun k hk => ⟨(h2.2.2.2 k (by omega)).1.trans (h.2.2.2 k hk).1, (h2.2.2.2 k (by omega)).2.trans (h.2.2.2 k hk).2⟩⟩
theorem qFr.tr {sd : Nat} {a b c : zS} {i j : Nat} (h : qFr sd a b i) (h2 : qFr sd b c j) (hij : i ≤ j) : qFr sd a c i :=
  ⟨fun x x1 x2 x3 => (h2.1 x x1 x2 x3).trans (h.1 x x1 x2 x3), fun k k1 k2 k3 k4 k5 k6 k7 => (h2.2.1 k k1 k2 k3 k4 k5 k6 k7).trans (h.2.1 k k1 k2 k3 k4 k5 k6 k7), h2.2.2.1.trans h.2.2.1, fun x n x1 x2 hn => (h2.2.2.2 x n x1 x2 (by omega)).trans (h.2.2.2 x n x1 x2 hn)⟩
theorem xFr.p {σ σ' : zS} {ni : Nat} (h : xFr σ σ' ni) (ne : Nat) : pFr σ σ' ne ni :=
  ⟨fun c h1 h2 h3 => h.1 c h1 h2 (by omega) (by omega), h.2.1, fun c q h1 h2 _ => by rw [h.1 c (by omega) (by omega) (by omega) (by omega)], h.2.2.2⟩
theorem yFr.q {sd : Nat} {τ τ' : zS} {nn : Nat} (h : yFr sd τ τ' nn) : qFr sd τ τ' nn :=
  ⟨h.1, fun k h1 h2 h3 h4 h5 h6 h7 => h.2.1 k h1 h2 h3 h5, h.2.2.1, h.2.2.2⟩
theorem qFr.w {sd nn : Nat} {τ : zS} {k : Nat} (hk : k = 3 ∨ k = 8 ∨ k = 9 ∨ k = 14 ∨ k = 41 ∨ k = 42 ∨ k = 43) (v : Int32) : qFr sd τ (wr τ 38 k v) nn :=
  ⟨fun c h1 h2 h3 => wr_cell _ _ _ h1, fun j h1 h2 h3 h4 h5 h6 h7 => wr_slot _ _ _ (by omega), by rw [wr_cell _ _ _ (by omega)], fun c n h1 h2 h3 => by rw [wr_cell _ _ _ (by omega)]⟩
/-- the parsers' numbers where a statement may begin -/
def PS (mm s sd : Nat) (σ τ : zS) (p dep ne ni nn nj nc : Nat) : Prop := PB mm s sd σ τ p dep ne ni nn ∧ σ 7 9 = nI nj ∧ τ 38 14 = nI nc ∧ nc + nj = ne ∧ 2 * ne ≤ p
theorem PB.ofP {mm s sd : Nat} {σ τ σ' τ' : zS} {p dep ne ni nn p' dep' ne' ni' nn' : Nat} (H : PB mm s sd σ τ p dep ne ni nn) (hx : pFr σ σ' ne ni) (hy : qFr sd τ τ' nn) (h1 : σ' 3 4 = nI p') (h2 : τ' 38 8 = nI p') (h3 : p' ≤ mm) (h4 : τ' 38 9 = nI dep') (h5 : dep' ≤ 10) (he : σ' 7 7 = nI ne') (he2 : ne' ≤ 200) (h6 : σ' 7 8 = nI ni') (h7 : τ' 44 (1 - sd) = nI nn') (h8 : ni' ≤ p') (h9 : nn' ≤ p') (h10 : τ' 38 3 = τ 38 3 := by first | rfl | (simp (disch := omega) only [lt_litR, lt_litL, eq_litR, eq_litL, lt_nn, eq_nn, lt_n0, z_cl, add_lit, eq_m1, eq_m1', m1_lt, false_or, or_false, if_pos, if_neg, zbI_some, zbV_some, wr_same, wr_cell, wr_slot, ne_eq, not_true_eq_false, not_false_eq_true, true_and, and_true, false_and, and_false, e10, e01, e00, if_true, if_false, Bool.false_eq_true, lit_ne, lit_lt, eq_self]; done) | (rw [mNd]; simp (disch := omega) only [lt_litR, lt_litL, eq_litR, eq_litL, lt_nn, eq_nn, lt_n0, z_cl, add_lit, eq_m1, eq_m1', m1_lt, false_or, or_false, if_pos, if_neg, zbI_some, zbV_some, wr_same, wr_cell, wr_slot, ne_eq, not_true_eq_false, not_false_eq_true, true_and, and_true, false_and, and_false, e10, e01, e00, if_true, if_false, Bool.false_eq_true, lit_ne, lit_lt, eq_self]; done)) : PB mm s sd σ' τ' p' dep' ne' ni' nn' := by
  obtain ⟨a1, a2, a3, a4, a5, a6, a7, a8, a9, a10, a11, a12, a13, a14, a15, a16, a17, a18, a19⟩ := H
  have c4 := hx.1 4 (by omega) (by omega) (by omega)
  have c5 := hx.1 5 (by omega) (by omega) (by omega)
  have c6 := hx.1 6 (by omega) (by omega) (by omega)
  have d0 := hy.1 40 (by omega) (by omega) (by omega)
  have d1 := hy.1 41 (by omega) (by omega) (by omega)
  have d2 := hy.1 42 (by omega) (by omega) (by omega)
  exact ⟨fun i hi => by rw [tR, c4, c5, c6, d0, d1, d2]; exact a1 i hi, by rw [c4]; exact a2, fun i hi => by rw [c4]; exact a3 i hi, a4, a5, by rw [hx.2.1 3 (by omega), a6], a7, by rw [hy.2.1 10 (by omega) (by omega) (by omega) (by omega) (by omega) (by omega) (by omega), a8], h1, h2, h3, h4, h5, he, he2, h6, h7, h8, h9, by rw [h10]; exact a19.2⟩
/-- a statement that was read -/
def SG (σ τ : zS) (k lo x e e' i i' : Nat) : Prop := RepS1 (σ 8) (σ 9) (σ 10) (σ 11) (σ 12) (σ 13) (σ 14) (τ 45) (mkT lo x (τ 45)) (τ 46) (τ 47) (τ 48) (τ 49) (RepS (σ 8) (σ 9) (σ 10) (σ 11) (σ 12) (σ 13) (σ 14) (mkT lo x (τ 45)) (τ 46) (τ 47) (τ 48) (τ 49) k) x e e' i i'
theorem mkT_in {lo hi : Nat} {f : Nat → Int32} {n : Nat} (h : ¬ mkT lo hi f n = 0) : lo ≤ n ∧ n < hi := by
  by_cases hr : lo ≤ n ∧ n < hi
  · exact hr
  · exfalso; apply h; rw [mkT, if_neg hr]
theorem SG.lt {σ τ : zS} {k lo x e e' i i' : Nat} (H : SG σ τ k lo x e e' i i') : e < e' ∧ i ≤ i' := by
  obtain ⟨_, _, _, _, h⟩ := H
  rcases h with ⟨h1, _, h⟩ | ⟨h1, _, _, y, _, hX⟩ | ⟨_, _, y, j, e1, i1, l1, l2, h⟩ | ⟨_, _, y, j, e1, l, h⟩
  · refine ⟨by omega, ?_⟩
    rcases h with ⟨_, _, y, _, hX⟩ | ⟨_, _, _, y, _, hX⟩ | ⟨_, _, _, y, _, hX⟩ | h | h | h | h | h | h
    · exact Nat.le_of_lt (RX_lt hX)
    · exact Nat.le_of_lt (RX_lt hX)
    · exact Nat.le_of_lt (RX_lt hX)
    all_goals exact Nat.le_of_eq h.1
  · exact ⟨by omega, Nat.le_of_lt (RX_lt hX)⟩
  · have := RX_lt h.2.1
    have k1 := Chain_le (fun _ _ _ _ _ h => RepS_lt h) h.2.2.2.2.1
    have k2 := Chain_le (fun _ _ _ _ _ h => RepS_lt h) h.2.2.2.2.2.2.2.2.2
    have := Chain_ile (fun _ _ _ _ _ h => RepS_ile h) h.2.2.2.2.1
    have := Chain_ile (fun _ _ _ _ _ h => RepS_ile h) h.2.2.2.2.2.2.2.2.2
    omega
  · have := RX_lt h.2.1
    have k1 := Chain_le (fun _ _ _ _ _ h => RepS_lt h) h.2.2.2.1
    have := Chain_ile (fun _ _ _ _ _ h => RepS_ile h) h.2.2.2.1
    omega
/-- it stands when others are written behind it, and its own next -/
theorem SG.tr {σ τ σ' τ' : zS} {k lo x e e' i i' : Nat} (H : SG σ τ k lo x e e' i i') (hE : ∀ c q, 8 ≤ c → c ≤ 12 → e ≤ q → q < e' → σ' c q = σ c q) (hI : ∀ q, i ≤ q → q < i' → σ' 13 q = σ 13 q ∧ σ' 14 q = σ 14 q) (hN : ∀ c n, 45 ≤ c → c ≤ 49 → lo ≤ n → n < x → τ' c n = τ c n) (hx : ∀ c, 45 ≤ c → c ≤ 48 → τ' c x = τ c x) : SG σ' τ' k lo x e e' i i' := by
  have hm : ∀ m, ¬ mkT lo x (τ 45) m = 0 → mkT lo x (τ' 45) m = mkT lo x (τ 45) m ∧ τ' 46 m = τ 46 m ∧ τ' 47 m = τ 47 m ∧ τ' 48 m = τ 48 m ∧ τ' 49 m = τ 49 m := fun m hm => by
    have hr := mkT_in hm
    rw [mkT, mkT, if_pos hr, if_pos hr]
    exact ⟨hN 45 m (by omega) (by omega) hr.1 hr.2, hN 46 m (by omega) (by omega) hr.1 hr.2, hN 47 m (by omega) (by omega) hr.1 hr.2, hN 48 m (by omega) (by omega) hr.1 hr.2, hN 49 m (by omega) (by omega) hr.1 hr.2⟩
  refine RepS1_tr (fun n e e' i i' h => ⟨RepS_lt h, RepS_ile h⟩) ⟨hx 45 (by omega) (by omega), hx 46 (by omega) (by omega), hx 47 (by omega) (by omega), hx 48 (by omega) (by omega)⟩ (fun m h => ⟨(hm m h).1, (hm m h).2.1, (hm m h).2.2.1⟩) (fun q q1 q2 => ⟨hE 8 q (by omega) (by omega) q1 q2, hE 9 q (by omega) (by omega) q1 q2, hE 10 q (by omega) (by omega) q1 q2, hE 11 q (by omega) (by omega) q1 q2, hE 12 q (by omega) (by omega) q1 q2⟩) hI (fun m f f' j j' g1 g2 g3 g4 g5 => ⟨RepS_tr hm (fun q q1 q2 => ⟨hE 8 q (by omega) (by omega) (by omega) (by omega), hE 9 q (by omega) (by omega) (by omega) (by omega), hE 10 q (by omega) (by omega) (by omega) (by omega), hE 11 q (by omega) (by omega) (by omega) (by omega), hE 12 q (by omega) (by omega) (by omega) (by omega)⟩) (fun q q1 q2 => hI q (by omega) (by omega)) g5, (hm m (RepS_op g5)).2.2.2.2⟩) H
/-- as a statement within wider nodes -/
theorem SG.rep {σ τ : zS} {k lo x e e' i i' lo2 hi2 : Nat} (H : SG σ τ k lo x e e' i i') (h1 : lo2 ≤ lo) (h2 : x < hi2) (h3 : lo ≤ x) : RepS (σ 8) (σ 9) (σ 10) (σ 11) (σ 12) (σ 13) (σ 14) (mkT lo2 hi2 (τ 45)) (τ 46) (τ 47) (τ 48) (τ 49) (k + 1) x e e' i i' := by
  have hm : ∀ m, ¬ mkT lo x (τ 45) m = 0 → mkT lo2 hi2 (τ 45) m = mkT lo x (τ 45) m := fun m hm => by
    have hr := mkT_in hm
    rw [mkT, mkT, if_pos hr, if_pos (by omega)]
  refine RepS_1.mpr (RepS1_tr (fun n e e' i i' h => ⟨RepS_lt h, RepS_ile h⟩) ⟨by rw [mkT, if_pos (by omega)], rfl, rfl, rfl⟩ (fun m h => ⟨hm m h, rfl, rfl⟩) (fun q _ _ => ⟨rfl, rfl, rfl, rfl, rfl⟩) (fun q _ _ => ⟨rfl, rfl⟩) (fun m f f' j j' g1 g2 g3 g4 g5 => ⟨RepS_tr (fun m h => ⟨hm m h, rfl, rfl, rfl, rfl⟩) (fun q _ _ => ⟨rfl, rfl, rfl, rfl, rfl⟩) (fun q _ _ => ⟨rfl, rfl⟩) g5, rfl⟩) H)
/-- what both parsers come to at a statement -/
def SRes (mm s sd : Nat) (σ τ : zS) (p dep ne ni nn k : Nat) (oc om : Option zR) : Prop := ∃ r σ' τ', oc = some (1, r, σ') ∧ om = some (1, r, τ') ∧ pFr σ σ' ne ni ∧ qFr sd τ τ' nn ∧
  ((r = 0 ∧ ∃ pf, pf ≤ mm ∧ σ' 3 4 = nI pf ∧ τ' 38 3 = σ' 5 pf) ∨ (r = 1 ∧ ∃ p' ne' ni' nn' nj' nc', PS mm s sd σ' τ' p' dep ne' ni' nn' nj' nc' ∧ p < p' ∧ 2 * ne' + p ≤ 2 * ne + p' ∧ ni' + p ≤ ni + p' ∧ nn' + p ≤ nn + p' ∧ nn < nn' ∧ τ' 38 41 = nI (800 * (1 - sd) + (nn' - 1)) ∧ SG σ' τ' k (800 * (1 - sd) + nn) (800 * (1 - sd) + (nn' - 1)) ne ne' ni ni' ∧ τ' 49 (800 * (1 - sd) + (nn' - 1)) = -1))
theorem SRes.no {mm s sd : Nat} {σ τ σ' τ' : zS} {p dep ne ni nn k pf dep' ne' ni' nn' : Nat} (hP : PB mm s sd σ' τ' pf dep' ne' ni' nn') (hx : pFr σ σ' ne ni) (hy : qFr sd τ τ' nn) : SRes mm s sd σ τ p dep ne ni nn k (some (1, 0, σ')) (some (1, 0, wr τ' 38 3 (σ' 5 pf))) :=
  ⟨0, σ', _, rfl, rfl, hx, hy.tr (qFr.w (by omega) _) (Nat.le_refl _), Or.inl ⟨rfl, pf, hP.le.1, hP.2.2.2.2.2.2.2.2.1, by rw [wr_same]⟩⟩
theorem SRes.no2 {mm s sd : Nat} {σ τ σ' τ' : zS} {p dep ne ni nn k : Nat} (hx : pFr σ σ' ne ni) (hy : qFr sd τ τ' nn) (g : ∃ pf, pf ≤ mm ∧ σ' 3 4 = nI pf ∧ τ' 38 3 = σ' 5 pf) : SRes mm s sd σ τ p dep ne ni nn k (some (1, 0, σ')) (some (1, 0, τ')) :=
  ⟨0, σ', τ', rfl, rfl, hx, hy, Or.inl ⟨rfl, g⟩⟩
/-- a statement's node, and its ; -/
theorem t_fin (d : Nat) {mm s sd : Nat} {σ τ σ1 τ1 : zS} {p dep ne ni nn p1 ni1 nn1 nj nc k : Nat} (o x y z : Int32) (H1 : PB mm s sd σ1 τ1 p1 dep (ne + 1) ni1 nn1) (hx : pFr σ σ1 ne ni) (hy : qFr sd τ τ1 nn) (hp : p + 2 ≤ p1) (hi : ni1 + p ≤ ni + p1) (hn : nn1 + p + 1 ≤ nn + p1) (hn0 : nn ≤ nn1) (hi0 : ni ≤ ni1) (h2ne : 2 * ne ≤ p) (hnn : nn ≤ p) (hj : σ1 7 9 = nI nj) (hc : τ1 38 14 = nI nc) (hjc : nc + nj = ne + 1)
    (hB : RepS1 (σ1 8) (σ1 9) (σ1 10) (σ1 11) (σ1 12) (σ1 13) (σ1 14) (mNd τ1 sd nn1 o x y z 45) (mkT (800 * (1 - sd) + nn) (800 * (1 - sd) + nn1) (τ1 45)) (mNd τ1 sd nn1 o x y z 46) (mNd τ1 sd nn1 o x y z 47) (mNd τ1 sd nn1 o x y z 48) (mNd τ1 sd nn1 o x y z 49) (RepS (σ1 8) (σ1 9) (σ1 10) (σ1 11) (σ1 12) (σ1 13) (σ1 14) (mkT (800 * (1 - sd) + nn) (800 * (1 - sd) + nn1) (τ1 45)) (τ1 46) (τ1 47) (τ1 48) (τ1 49) k) (800 * (1 - sd) + nn1) ne (ne + 1) ni ni1) :
    SRes mm s sd σ τ p dep ne ni nn k (zbI (zM (d + 3) mX6_take [.inr (.inr 3), .inl 59] σ1) (fun r7 s7 => if r7 = 0 then (some (1, 0, s7)) else (some (1, 1, s7)))) (zbI (zM (d + 3) mX8_node [.inr (.inr 38), .inl o, .inl x, .inl y, .inl z] τ1) (fun r2 s2 => zbI (zM (d + 3) mX8_want [.inr (.inr 38), .inl 59] (wr s2 38 41 r2)) (fun r3 s3 => if r3 = 0 ∨ r3 = 1 then (some (1, r3, s3)) else (none)))) := by
  have hle := H1.le
  have e59 : (59 : Int32) = nI 59 := rfl
  obtain ⟨e0, e1, e2, e3, e4, e5, e6⟩ := mNd_at τ1 sd nn1 o x y z
  have yN : qFr sd τ1 (wr (mNd τ1 sd nn1 o x y z) 38 41 (nI (800 * (1 - sd) + nn1))) nn1 := (yFr.node hle.2.2.2.2.1 (by omega) o x y z).q.tr (qFr.w (by omega) _) (Nat.le_refl _)
  have H2 : PB mm s sd σ1 (wr (mNd τ1 sd nn1 o x y z) 38 41 (nI (800 * (1 - sd) + nn1))) p1 dep (ne + 1) ni1 (nn1 + 1) := by
    refine H1.ofP pFr.rf yN H1.2.2.2.2.2.2.2.2.1 ?_ hle.1 ?_ hle.2.2.2.2.2 H1.2.2.2.2.2.2.2.2.2.2.2.2.2.1 (by omega) H1.2.2.2.2.2.2.2.2.2.2.2.2.2.2.2.1 ?_ hle.2.2.1 (by omega)
    · rw [wr_slot _ _ _ (by omega), e6, H1.2.2.2.2.2.2.2.2.2.1]
    · rw [wr_slot _ _ _ (by omega), e6, H1.2.2.2.2.2.2.2.2.2.2.2.1]
    · rw [wr_cell _ _ _ (by omega), e0]
  rw [m_node (d + 2) H1.2.2.2.2.2.2.1 H1.2.2.2.2.2.2.2.1 H1.2.2.2.2.2.2.2.2.2.2.2.2.2.2.2.2.1 (by omega), zbI_some, e59, m_want d H2 (by omega) (by omega), (t_take (d + 1) H1 (c := 59) (by omega) (by omega)).1]
  by_cases h59 : σ1 4 p1 = nI 59
  · have hp1 := H1.ltS (c := 59) (by omega) (by omega) h59
    rw [if_pos h59, if_pos h59, zbI_some, zbI_some, if_neg n10, if_pos (Or.inr rfl)]
    have xS : pFr σ1 (wr σ1 3 4 (nI (p1 + 1))) (ne + 1) ni1 := (xFr.next (ni := ni1) (nI (p1 + 1))).p _
    have c45 : ∀ c, 45 ≤ c → c ≤ 49 → wr (wr (mNd τ1 sd nn1 o x y z) 38 41 (nI (800 * (1 - sd) + nn1))) 38 8 (nI (p1 + 1)) c = mNd τ1 sd nn1 o x y z c := fun c h1 h2 => by rw [wr_cell _ _ _ (by omega), wr_cell _ _ _ (by omega)]
    have s8 : ∀ c, 8 ≤ c → c ≤ 14 → wr σ1 3 4 (nI (p1 + 1)) c = σ1 c := fun c h1 h2 => wr_cell _ _ _ (by omega)
    refine ⟨1, _, _, rfl, rfl, hx.tr xS (by omega) (by omega), (hy.tr yN hn0).tr (qFr.w (by omega) _) (Nat.le_refl _), Or.inr ⟨rfl, p1 + 1, ne + 1, ni1, nn1 + 1, nj, nc, ⟨H2.ofP xS (qFr.w (by omega) _) (by rw [wr_same]) (by rw [wr_same]) (by omega) ?_ hle.2.2.2.2.2 ?_ (by omega) ?_ ?_ (by omega) (by omega), ?_, ?_, hjc, by omega⟩, by omega, by omega, by omega, by omega, by omega, ?_, ?_, ?_⟩⟩
    · rw [wr_slot _ _ _ (by omega), wr_slot _ _ _ (by omega), e6, H1.2.2.2.2.2.2.2.2.2.2.2.1]
    · rw [wr_cell _ _ _ (by omega)]; exact H1.2.2.2.2.2.2.2.2.2.2.2.2.2.1
    · rw [wr_cell _ _ _ (by omega)]; exact H1.2.2.2.2.2.2.2.2.2.2.2.2.2.2.2.1
    · rw [wr_cell _ _ _ (by omega), wr_cell _ _ _ (by omega), e0]
    · rw [wr_cell _ _ _ (by omega), hj]
    · rw [wr_slot _ _ _ (by omega), wr_slot _ _ _ (by omega), e6, hc]
    · rw [wr_slot _ _ _ (by omega), wr_same, Nat.add_sub_cancel]
    · rw [Nat.add_sub_cancel, SG, c45 45 (by omega) (by omega), c45 46 (by omega) (by omega), c45 47 (by omega) (by omega), c45 48 (by omega) (by omega), c45 49 (by omega) (by omega), s8 8 (by omega) (by omega), s8 9 (by omega) (by omega), s8 10 (by omega) (by omega), s8 11 (by omega) (by omega), s8 12 (by omega) (by omega), s8 13 (by omega) (by omega), s8 14 (by omega) (by omega)]
      have hm : mkT (800 * (1 - sd) + nn) (800 * (1 - sd) + nn1) (mNd τ1 sd nn1 o x y z 45) = mkT (800 * (1 - sd) + nn) (800 * (1 - sd) + nn1) (τ1 45) := by
        funext n
        rw [mkT, mkT]
        by_cases hr : 800 * (1 - sd) + nn ≤ n ∧ n < 800 * (1 - sd) + nn1
        · rw [if_pos hr, if_pos hr, mNd_ne _ _ _ _ _ _ _ (by omega) (by omega) (by omega)]
        · rw [if_neg hr, if_neg hr]
      rw [hm]
      refine RepS1_tr (fun n e e' i i' h => ⟨RepS_lt h, RepS_ile h⟩) ⟨rfl, rfl, rfl, rfl⟩ (fun m _ => ⟨rfl, rfl, rfl⟩) (fun q _ _ => ⟨rfl, rfl, rfl, rfl, rfl⟩) (fun q _ _ => ⟨rfl, rfl⟩) (fun m f f' j j' g1 g2 g3 g4 g5 => ⟨RepS_tr (fun q hq => ?_) (fun q _ _ => ⟨rfl, rfl, rfl, rfl, rfl⟩) (fun q _ _ => ⟨rfl, rfl⟩) g5, rfl⟩) hB
      have hr := mkT_in hq
      exact ⟨rfl, mNd_ne _ _ _ _ _ _ _ (by omega) (by omega) (by omega), mNd_ne _ _ _ _ _ _ _ (by omega) (by omega) (by omega), mNd_ne _ _ _ _ _ _ _ (by omega) (by omega) (by omega), mNd_ne _ _ _ _ _ _ _ (by omega) (by omega) (by omega)⟩
    · rw [c45 49 (by omega) (by omega), Nat.add_sub_cancel, e5]
  · rw [if_neg h59, if_neg h59, zbI_some, zbI_some, if_pos rfl, if_pos (Or.inl rfl)]
    exact SRes.no H2 hx (hy.tr yN hn0)
