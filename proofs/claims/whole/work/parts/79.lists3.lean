-- statements and lists of them
theorem t_notReg (d n : Nat) {mm s sd : Nat} {σ τ : zS} {p dep ne ni nn nc k : Nat} (H : PB mm s sd σ (wr τ 38 14 (nI (nc + 1))) p dep ne ni nn) (h : ¬ σ 4 p = nI 2) : SRes mm s sd σ τ p dep ne ni nn k (some (1, 0, σ)) (zexec zc_X8_readStatement zu_X8_readStatement (zM (d + 2)) (n + 1) 108 [.inr (.inr 38)] (wr τ 38 14 (nI (nc + 1)))) := by
  rw [qX8_readStatement_38_108, m_readRegister d H, if_neg h, zbI_some, if_pos rfl]
  exact SRes.no H pFr.rf (qFr.w (by omega) _)
theorem SRes.wrap {mm s sd : Nat} {σ τ : zS} {p dep ne ni nn k : Nat} {oc om : Option zR} (H : SRes mm s sd σ τ p dep ne ni nn k oc om) : SRes mm s sd σ τ p dep ne ni nn k (zbI oc (fun r s => if r = 0 ∨ r = 1 then (some (1, r, s)) else (none))) (zbI om (fun r s => if r = 0 ∨ r = 1 then (some (1, r, s)) else (none))) := by
  obtain ⟨r, σ', τ', h1, h2, h3, h4, h5⟩ := H
  have hr : r = 0 ∨ r = 1 := by
    rcases h5 with ⟨h, _⟩ | ⟨h, _⟩
    · exact Or.inl h
    · exact Or.inr h
  refine ⟨r, σ', τ', ?_, ?_, h3, h4, h5⟩
  · rw [h1, zbI_some, if_pos hr]
  · rw [h2, zbI_some, if_pos hr]
theorem t_statement (d : Nat) {mm s sd : Nat} {σ τ : zS} {p dep ne ni nn nj nc : Nat} (H : PS mm s sd σ τ p dep ne ni nn nj nc) (hD : 30 * (11 - dep) + 50 ≤ d) (L : dep < 10 → LOK mm s sd (dep + 1)) (hb : ¬ σ 4 p = 0) :
    SRes mm s sd σ τ p dep ne ni nn (10 - dep) (zM (d + 6) mX2_readStatement [.inr (.inr 23), .inl (nI dep)] σ) (zM (d + 6) mX8_readStatement [.inr (.inr 38)] τ) := by
  have H0 := H
  obtain ⟨H, hnj, hnc, hjc, h2ne⟩ := H
  have hle := H.le
  have HT0 : PB mm s sd σ (wr τ 38 14 (nI (nc + 1))) p dep ne ni nn := H.w42 (by omega) _
  have e63 : (63 : Int32) = nI 63 := rfl
  have e64 : (64 : Int32) = nI 64 := rfl
  have a10 := H.2.2.2.2.2.2.2.2.2.1
  rw [qX2_readStatement_23, qX2_readStatement_23_0, c_kind (d + 4) H, zbI_some, qX8_readStatement_38, qX8_readStatement_38_0, hnc, nI_1, e63, e64, m_is (d + 4) HT0 (c := 63) (by omega) (by omega), zbI_some]
  by_cases h63 : σ 4 p = nI 63
  · have hp := H.ltS (c := 63) (by omega) (by omega) h63
    rw [if_pos h63, if_pos h63, if_neg n10, m_is (d + 4) HT0 (c := 63) (by omega) (by omega), if_pos h63, zbI_some]
    exact (t_choice (d + 1) H0 (by omega) hp L).wrap
  rw [if_neg h63, if_neg h63, if_pos rfl, c_kind (d + 4) H, zbI_some, m_is (d + 4) HT0 (c := 64) (by omega) (by omega), zbI_some]
  by_cases h64 : σ 4 p = nI 64
  · have hp := H.ltS (c := 64) (by omega) (by omega) h64
    rw [if_pos h64, if_pos h64, if_neg n10, m_is (d + 4) HT0 (c := 63) (by omega) (by omega), if_neg h63, zbI_some]
    exact (t_loop (d + 1) H0 (by omega) hp L).wrap
  have hin : ¬ (nI p < 0 ∨ 402 ≤ p) := nin (by omega) (by omega)
  have b10 : wr τ 38 14 (nI (nc + 1)) 38 8 = nI p := by rw [wr_slot _ _ _ (by omega), a10]
  have b40 : wr τ 38 14 (nI (nc + 1)) 40 = τ 40 := wr_cell _ _ _ (by omega)
  have b42 : wr τ 38 14 (nI (nc + 1)) 42 = τ 42 := wr_cell _ _ _ (by omega)
  rw [if_neg h64, if_neg h64, if_pos rfl, c_kind (d + 4) H, zbI_some, qX6_isWord_3, qX6_isWord_3_0, c_kind (d + 3) H, zbI_some, c_value (d + 3) H, zbI_some, b10, b40, b42, z_cl (by omega), if_neg hin, if_neg hin]
  obtain ⟨hpl, hk⟩ := H.1 p hle.1
  rcases hk with ⟨h1, h2⟩ | ⟨h1, h2⟩ | ⟨r2, hr2, h1, h2, h3, h4⟩ | ⟨h1, h2, h3⟩ | ⟨h1, h2, h3⟩ | ⟨c, hc, hc2, h1, h2, h3⟩
  · exact absurd h1 hb
  · have hn : ¬ σ 4 p = nI 2 := by rw [h1]; decide
    have hm : (if τ 40 p = 1 then (if τ 42 p = 8 then (zbI (zM (d + 5) mX8_readX [.inr (.inr 38)] (wr (wr τ 38 14 (nI (nc + 1))) 38 8 (nI p + 1))) (fun r3 s3 => if r3 = 0 then (some (1, 0, s3)) else (zbI (zM (d + 5) mX8_node [.inr (.inr 38), .inl 8, .inl (s3 38 41), .inl 0, .inl 0] s3) (fun r4 s4 => zbI (zM (d + 5) mX8_want [.inr (.inr 38), .inl 59] (wr s4 38 41 r4)) (fun r5 s5 => if r5 = 0 ∨ r5 = 1 then (some (1, r5, s5)) else (none)))))) else (zexec zc_X8_readStatement zu_X8_readStatement (zM (d + 5)) 999999 108 [.inr (.inr 38)] (wr τ 38 14 (nI (nc + 1))))) else (zexec zc_X8_readStatement zu_X8_readStatement (zM (d + 5)) 999999 108 [.inr (.inr 38)] (wr τ 38 14 (nI (nc + 1)))) : Option zR) = zexec zc_X8_readStatement zu_X8_readStatement (zM (d + 5)) 999999 108 [.inr (.inr 38)] (wr τ 38 14 (nI (nc + 1))) := by
      rcases h2 with h2 | ⟨h2, h3⟩
      · rw [h2, if_neg (show ¬ (4 : Int32) = 1 by decide)]
      · rw [h2, h3, if_pos rfl, if_neg (show ¬ (0 : Int32) = 8 by decide)]
    rw [hm, h1, if_neg (show ¬ (1 : Int32) = 2 by decide), if_neg (show ¬ (1 : Int32) = 4 by decide), zbI_some, if_pos rfl]
    exact t_notReg (d + 3) 999998 HT0 hn
  · have hv : ¬ nI (20 + r2) = 8 := by simp (disch := omega) only [lt_litR, lt_litL, eq_litR, eq_litL, lt_nn, eq_nn, lt_n0, z_cl, add_lit, eq_m1, eq_m1', m1_lt, false_or, or_false, if_pos, if_neg, zbI_some, zbV_some, wr_same, wr_cell, wr_slot, ne_eq, not_true_eq_false, not_false_eq_true, true_and, and_true, false_and, and_false, e10, e01, e00, if_true, if_false, Bool.false_eq_true, lit_ne, lit_lt, eq_self]; omega
    rw [h1, if_pos rfl, h3, if_pos rfl, h4, if_neg hv]
    exact (t_assign (d + 1) H0 (by omega) h1 999992).mono (Nat.zero_le _)
  · have hn : ¬ σ 4 p = nI 2 := by rw [h1]; decide
    rw [h1, if_neg (show ¬ (3 : Int32) = 2 by decide), if_neg (show ¬ (3 : Int32) = 4 by decide), zbI_some, if_pos rfl, h2, if_neg (show ¬ (2 : Int32) = 1 by decide)]
    exact t_notReg (d + 3) 999998 HT0 hn
  · have hn : ¬ σ 4 p = nI 2 := by rw [h1]; decide
    have hp := H.ltS (c := 4) (by omega) (by omega) h1
    rw [h1, if_neg (show ¬ (4 : Int32) = 2 by decide), if_pos rfl, h2, if_pos rfl]
    by_cases h8 : τ 42 p = 8
    · have h9 : σ 6 p = 9 := by
        rw [h8] at h3
        rcases h3 with ⟨a, h⟩ | ⟨a, h⟩ | ⟨a, h⟩ | ⟨a, h⟩ | ⟨a, h⟩ | ⟨a, h⟩ | ⟨a, h⟩ | ⟨a, h⟩ | ⟨a, h⟩
        all_goals first | exact a | exact absurd h (by decide)
      rw [h8, h9, if_pos rfl, if_pos rfl, zbI_some, if_neg n10]
      exact (t_stop (d + 2) H0 (by omega) hp).mono (Nat.zero_le _)
    · have h9 : ¬ σ 6 p = 9 := by
        rcases h3 with ⟨a, h⟩ | ⟨a, h⟩ | ⟨a, h⟩ | ⟨a, h⟩ | ⟨a, h⟩ | ⟨a, h⟩ | ⟨a, h⟩ | ⟨a, h⟩ | ⟨a, h⟩
        all_goals first | exact absurd h h8 | (rw [a]; decide)
      rw [if_neg h8, if_neg h9, zbI_some, if_pos rfl]
      exact t_notReg (d + 3) 999998 HT0 hn
  · have hn : ¬ σ 4 p = nI 2 := by rw [h1]; simp (disch := omega) only [lt_litR, lt_litL, eq_litR, eq_litL, lt_nn, eq_nn, lt_n0, z_cl, add_lit, eq_m1, eq_m1', m1_lt, false_or, or_false, if_pos, if_neg, zbI_some, zbV_some, wr_same, wr_cell, wr_slot, ne_eq, not_true_eq_false, not_false_eq_true, true_and, and_true, false_and, and_false, e10, e01, e00, if_true, if_false, Bool.false_eq_true, lit_ne, lit_lt, eq_self]; omega
    have hn4 : ¬ nI c = 4 := by simp (disch := omega) only [lt_litR, lt_litL, eq_litR, eq_litL, lt_nn, eq_nn, lt_n0, z_cl, add_lit, eq_m1, eq_m1', m1_lt, false_or, or_false, if_pos, if_neg, zbI_some, zbV_some, wr_same, wr_cell, wr_slot, ne_eq, not_true_eq_false, not_false_eq_true, true_and, and_true, false_and, and_false, e10, e01, e00, if_true, if_false, Bool.false_eq_true, lit_ne, lit_lt, eq_self]; omega
    have hn2 : ¬ nI c = 2 := by simp (disch := omega) only [lt_litR, lt_litL, eq_litR, eq_litL, lt_nn, eq_nn, lt_n0, z_cl, add_lit, eq_m1, eq_m1', m1_lt, false_or, or_false, if_pos, if_neg, zbI_some, zbV_some, wr_same, wr_cell, wr_slot, ne_eq, not_true_eq_false, not_false_eq_true, true_and, and_true, false_and, and_false, e10, e01, e00, if_true, if_false, Bool.false_eq_true, lit_ne, lit_lt, eq_self]; omega
    rw [h1, if_neg hn2, if_neg hn4, zbI_some, if_pos rfl, h2, if_neg (show ¬ (3 : Int32) = 1 by decide)]
    exact t_notReg (d + 3) 999998 HT0 hn
theorem PB.w49 {mm s sd : Nat} {σ τ : zS} {p dep ne ni nn : Nat} (H : PB mm s sd σ τ p dep ne ni nn) (q : Nat) (v : Int32) : PB mm s sd σ (wr τ 49 q v) p dep ne ni nn := by
  obtain ⟨a1, a2, a3, a4, a5, a6, a7, a8, a9, a10, a11, a12, a13, a14, a15, a16, a17, a18, a19⟩ := H
  exact ⟨fun i hi => by rw [tR, wr_cell _ _ _ (by omega), wr_cell _ _ _ (by omega), wr_cell _ _ _ (by omega)]; exact a1 i hi, a2, a3, a4, a5, a6, a7, by rw [wr_cell _ _ _ (by omega), a8], a9, by rw [wr_cell _ _ _ (by omega), a10], a11, by rw [wr_cell _ _ _ (by omega), a12], a13, a14, a15, a16, by rw [wr_cell _ _ _ (by omega), a17], a18, a19.1, by rw [wr_cell _ _ _ (by omega)]; exact a19.2⟩
theorem qFr.w49 {sd nn q : Nat} {τ : zS} (h1 : 800 * (1 - sd) + nn ≤ q) (h2 : q < 800 * (1 - sd) + 800) (v : Int32) : qFr sd τ (wr τ 49 q v) nn :=
  ⟨fun c h1 h2 h3 => wr_cell _ _ _ (by omega), fun j h1 h2 h3 h4 h5 h6 h7 => by rw [wr_cell _ _ _ (by omega)], by rw [wr_cell _ _ _ (by omega)], fun c n c1 c2 h3 => by
    by_cases hc : c = 49
    · subst hc; exact wr_slot _ _ _ (by omega)
    · rw [wr_cell _ _ _ hc]⟩
/-- the kind 0 is the end on both sides -/
theorem kind0 {mm s sd : Nat} {σ τ : zS} {p dep ne ni nn : Nat} (H : PB mm s sd σ τ p dep ne ni nn) : τ 40 p = 0 ↔ σ 4 p = 0 := by
  obtain ⟨hpl, hk⟩ := H.1 p H.le.1
  rcases hk with ⟨h1, h2⟩ | ⟨h1, h2⟩ | ⟨r2, hr2, h1, h2, h3, h4⟩ | ⟨h1, h2, h3⟩ | ⟨h1, h2, h3⟩ | ⟨c, hc, hc2, h1, h2, h3⟩
  · rw [h1, h2]
  · rcases h2 with h2 | ⟨h2, _⟩ <;> rw [h1, h2] <;> decide
  · rw [h1, h3]; decide
  · rw [h1, h2]; decide
  · rw [h1, h2]; decide
  · rw [h1, h2]
    have : ¬ nI c = 0 := by simp (disch := omega) only [lt_litR, lt_litL, eq_litR, eq_litL, lt_nn, eq_nn, lt_n0, z_cl, add_lit, eq_m1, eq_m1', m1_lt, false_or, or_false, if_pos, if_neg, zbI_some, zbV_some, wr_same, wr_cell, wr_slot, ne_eq, not_true_eq_false, not_false_eq_true, true_and, and_true, false_and, and_false, e10, e01, e00, if_true, if_false, Bool.false_eq_true, lit_ne, lit_lt, eq_self]; omega
    exact ⟨fun h => absurd h (by decide), fun h => absurd h this⟩
def laOf (l : List Nat) : Int32 := if l = [] then -1 else nI (lst l)
theorem lst_app (x : Nat) : ∀ l : List Nat, lst (l ++ [x]) = x := by
  intro l
  induction l with
  | nil => rfl
  | cons y l ih =>
    cases l with
    | nil => rfl
    | cons z l => exact ih
theorem t_listLoop (d : Nat) {mm s sd : Nat} {σ τ : zS} {p dep ne ni nn : Nat} (hD : 30 * (11 - dep) + 50 ≤ d) (L : dep < 10 → LOK mm s sd (dep + 1)) : ∀ (m : Nat) (σ1 τ1 : zS) (p1 ne1 ni1 nn1 nj1 nc1 i F G : Nat) (l : List Nat), mm - p1 < m → PS mm s sd σ1 τ1 p1 dep ne1 ni1 nn1 nj1 nc1 → pFr σ σ1 ne ni → qFr sd τ τ1 nn → p ≤ p1 → 2 * ne1 + p ≤ 2 * ne + p1 → ni1 + p ≤ ni + p1 → nn1 + p ≤ nn + p1 → nn ≤ nn1 → 2 * i ≤ p1 → LC σ1 τ1 (10 - dep) l (800 * (1 - sd) + nn) (800 * (1 - sd) + nn1) ne ne1 ni ni1 →
    LRes mm s sd σ τ p dep ne ni nn (10 - dep) (zexec zc_X2_readStatements zu_X2_readStatements (zM (d + 6)) (F + m) 2 [.inr (.inr 23), .inl (nI dep), .inl (nI i)] σ1) (zexec zc_X8_readList zu_X8_readList (zM (d + 6)) (G + m) 4 [.inr (.inr 38), .inl (hdOf l), .inl (laOf l)] τ1) := by
  intro m
  induction m with
  | zero => intro σ1 τ1 p1 ne1 ni1 nn1 nj1 nc1 i F G l hm; omega
  | succ m ih =>
    intro σ1 τ1 p1 ne1 ni1 nn1 nj1 nc1 i F G l hm P1 hx hy i1 i2 i3 i4 i5 i6 hL
    have P10 := P1
    obtain ⟨P1, u1, u2, u3, u4⟩ := P1
    have hle := P1.le
    have hll := hL.le
    have a10 := P1.2.2.2.2.2.2.2.2.2.1
    have e93 : (93 : Int32) = nI 93 := rfl
    have e124 : (124 : Int32) = nI 124 := rfl
    have hin : ¬ (nI p1 < 0 ∨ 402 ≤ p1) := nin (by omega) (by omega)
    rw [show F + (m + 1) = F + m + 1 from rfl, show G + (m + 1) = G + m + 1 from rfl, qX2_readStatements_23_2, if_pos (show nI i < 400 from (nI_ltI (b := 400) (by omega) (by omega)).mpr (by omega)), c_kind (d + 5) P1, zbI_some, qX2_isBlockEnd, qX2_isBlockEnd_0, qX8_readList_38_4, a10, z_cl (by omega), if_neg hin, e93, e124, m_is (d + 5) P1 (c := 93) (by omega) (by omega), zbI_some, m_is (d + 5) P1 (c := 124) (by omega) (by omega), zbI_some]
    have hend : (σ1 4 p1 = 0 ∨ σ1 4 p1 = nI 93 ∨ σ1 4 p1 = nI 124) → LRes mm s sd σ τ p dep ne ni nn (10 - dep) (some (1, 1, σ1)) (some (1, 1, wr τ1 38 41 (hdOf l))) := fun hk => by
      refine ⟨1, _, _, rfl, rfl, hx, hy.tr (qFr.w (by omega) _) (Nat.le_refl _), Or.inr ⟨rfl, p1, ne1, ni1, nn1, nj1, nc1, l, ⟨P1.w42 (by omega) _, u1, by rw [wr_slot _ _ _ (by omega), u2], u3, u4⟩, i1, i2, i3, i4, i5, by rw [wr_same], ?_, hk⟩⟩
      exact hL.fr (fun _ _ _ _ _ _ => rfl) (fun _ _ _ => ⟨rfl, rfl⟩) (fun c n c1 c2 _ _ => by rw [wr_cell _ _ _ (by omega)])
    by_cases h0 : σ1 4 p1 = 0
    · rw [if_pos h0, if_pos ((kind0 P1).mpr h0), zbI_some, if_neg n10]
      exact hend (Or.inl h0)
    rw [if_neg h0, if_neg (fun h => h0 ((kind0 P1).mp h))]
    by_cases h124 : σ1 4 p1 = nI 124
    · have h93 : ¬ σ1 4 p1 = nI 93 := by rw [h124]; decide
      rw [if_pos h124, zbI_some, if_neg n10, if_neg h93, if_pos rfl, if_pos h124, if_neg n10]
      exact hend (Or.inr (Or.inr h124))
    rw [if_neg h124]
    by_cases h93 : σ1 4 p1 = nI 93
    · rw [if_pos h93, zbI_some, if_neg n10, if_pos h93, if_neg n10]
      exact hend (Or.inr (Or.inl h93))
    rw [if_neg h93, zbI_some, if_pos rfl, if_neg h93, if_pos rfl, if_neg h124, if_pos rfl]
    obtain ⟨r, σ2, τ2, o1, o2, gx, gy, g⟩ := t_statement d P10 hD L h0
    rw [o1, o2, zbI_some, zbI_some]
    have hx2 := hx.tr gx (by omega) (by omega)
    have hy2 := hy.tr gy (by omega)
    rcases g with ⟨rfl, g⟩ | ⟨rfl, p2, ne2, ni2, nn2, nj2, nc2, P2, g1, g2, g3, g4, g5, g6, g7, g8⟩
    · rw [if_pos rfl, if_pos rfl]
      exact ⟨0, _, _, rfl, rfl, hx2, hy2, Or.inl ⟨rfl, g⟩⟩
    have P20 := P2
    obtain ⟨P2, y1, y2, y3, y4⟩ := P2
    have hle2 := P2.le
    have gl := g7.lt
    rw [if_neg n10, if_neg n10, nI_1, g6]
    cases l with
    | nil =>
      rw [if_pos (show hdOf [] = -1 from rfl)]
      have hA := LC.app (σ' := σ2) (τ' := τ2) hL (fun c q h1 h2 h3 h4 => gx.2.2.1 c q h1 h2 h4) (fun q h1 h2 => gx.2.2.2 q h2) (fun c n h1 h2 h3 h4 => gy.2.2.2 c n h1 (by omega) (Or.inl h4)) (fun n h1 h2 h3 => gy.2.2.2 49 n (by omega) (by omega) (Or.inl h2)) (fun h => absurd rfl h) (by omega) g7 g8
      rw [show 800 * (1 - sd) + (nn2 - 1) + 1 = 800 * (1 - sd) + nn2 by omega] at hA
      exact ih σ2 τ2 p2 ne2 ni2 nn2 nj2 nc2 (i + 1) F G ([] ++ [800 * (1 - sd) + (nn2 - 1)]) (by omega) P20 hx2 hy2 (by omega) (by omega) (by omega) (by omega) (by omega) (by omega) hA
    | cons y l =>
      have hy0 := hL.lstIn (by intro h; cases h)
      obtain ⟨_, _, hyl, hyh, _⟩ := id hL
      have hla : laOf (y :: l) = nI (lst (y :: l)) := by rw [laOf, if_neg (by intro h; cases h)]
      have hin2 : ¬ (nI (lst (y :: l)) < 0 ∨ 1600 ≤ lst (y :: l)) := nin (by omega) (by omega)
      rw [if_neg (show ¬ hdOf (y :: l) = -1 from of_eq_false (eq_m1 (by omega))), hla, z_cl (by omega), if_neg hin2]
      have hA := LC.app (σ' := σ2) (τ' := wr τ2 49 (lst (y :: l)) (nI (800 * (1 - sd) + (nn2 - 1)))) hL (fun c q h1 h2 h3 h4 => gx.2.2.1 c q h1 h2 h4) (fun q h1 h2 => gx.2.2.2 q h2) (fun c n h1 h2 h3 h4 => by rw [wr_cell _ _ _ (by omega)]; exact gy.2.2.2 c n h1 (by omega) (Or.inl h4)) (fun n h1 h2 h3 => by rw [wr_slot _ _ _ (h3 (by intro h; cases h))]; exact gy.2.2.2 49 n (by omega) (by omega) (Or.inl h2)) (fun h => by rw [wr_same]) (by omega) (g7.tr (fun _ _ _ _ _ _ => rfl) (fun _ _ _ => ⟨rfl, rfl⟩) (fun c n c1 c2 n1 n2 => by
          by_cases hc : c = 49
          · subst hc; rw [wr_slot _ _ _ (by omega)]
          · rw [wr_cell _ _ _ hc]) (fun c c1 c2 => by rw [wr_cell _ _ _ (by omega)])) (by rw [wr_slot _ _ _ (by omega), g8])
      rw [show 800 * (1 - sd) + (nn2 - 1) + 1 = 800 * (1 - sd) + nn2 by omega] at hA
      have hr := ih σ2 (wr τ2 49 (lst (y :: l)) (nI (800 * (1 - sd) + (nn2 - 1)))) p2 ne2 ni2 nn2 nj2 nc2 (i + 1) F G ((y :: l) ++ [800 * (1 - sd) + (nn2 - 1)]) (by omega) ⟨P2.w49 _ _, y1, by rw [wr_cell _ _ _ (by omega), y2], y3, y4⟩ hx2 (hy2.tr (qFr.w49 (by omega) (by omega) _) (Nat.le_refl _)) (by omega) (by omega) (by omega) (by omega) (by omega) (by omega) hA
      rw [show laOf ((y :: l) ++ [800 * (1 - sd) + (nn2 - 1)]) = nI (800 * (1 - sd) + (nn2 - 1)) by rw [laOf, if_neg (by intro h; cases h), lst_app]] at hr
      exact hr
theorem t_lists (mm s sd : Nat) : ∀ (q dep : Nat), 10 - dep = q → dep ≤ 10 → LOK mm s sd dep := by
  intro q
  induction q with
  | zero =>
    intro dep hq hd D hD σ τ p ne ni nn nj nc P
    obtain ⟨d, rfl⟩ : ∃ d, D = d + 7 := ⟨D - 7, by omega⟩
    have hle := P.1.le
    rw [qX2_readStatements_23, qX2_readStatements_23_0, qX8_readList_38, qX8_readList_38_0]
    exact t_listLoop d (by omega) (fun h => absurd h (by omega)) 1000 σ τ p ne ni nn nj nc 0 998999 998999 [] (by omega) P pFr.rf qFr.rf (Nat.le_refl _) (Nat.le_refl _) (Nat.le_refl _) (Nat.le_refl _) (Nat.le_refl _) (by omega) ⟨rfl, rfl, rfl⟩
  | succ q ih =>
    intro dep hq hd D hD σ τ p ne ni nn nj nc P
    obtain ⟨d, rfl⟩ : ∃ d, D = d + 7 := ⟨D - 7, by omega⟩
    have hle := P.1.le
    rw [qX2_readStatements_23, qX2_readStatements_23_0, qX8_readList_38, qX8_readList_38_0]
    exact t_listLoop d (by omega) (fun h => ih (dep + 1) (by omega) (by omega)) 1000 σ τ p ne ni nn nj nc 0 998999 998999 [] (by omega) P pFr.rf qFr.rf (Nat.le_refl _) (Nat.le_refl _) (Nat.le_refl _) (Nat.le_refl _) (Nat.le_refl _) (by omega) ⟨rfl, rfl, rfl⟩
