-- decide
def eFrm (σ σ' : zS) : Prop := (∀ c, c ≠ 0 → c ≠ 24 → c ≠ 25 → c ≠ 26 → c ≠ 27 → c ≠ 28 → c ≠ 30 → c ≠ 31 → c ≠ 32 → c ≠ 33 → c ≠ 34 → c ≠ 35 → c ≠ 36 → c ≠ 37 → σ' c = σ c) ∧ ∀ k, k ≠ 11 → k ≠ 12 → σ' 0 k = σ 0 k
def cT (σ : zS) : zS := wr (wr (wr (wr (wr (wcp σ 31 33 8) 32 1 (σ 30 1)) 32 2 (σ 30 2)) 32 3 (σ 30 3)) 32 4 (σ 30 4)) 32 5 (σ 30 5)
theorem cT_cell (σ : zS) {c : Nat} (h : c ≠ 32) (h2 : c ≠ 33) : cT σ c = σ c := by
  rw [cT]; simp (disch := omega) only [lt_litR, lt_litL, eq_litR, eq_litL, lt_nn, eq_nn, lt_n0, z_cl, add_lit, eq_m1, eq_m1', m1_lt, false_or, or_false, if_pos, if_neg, zbI_some, zbV_some, wr_same, wr_cell, wr_slot, ne_eq, not_true_eq_false, not_false_eq_true, true_and, and_true, false_and, and_false, e10, e01, e00, if_true, if_false, Bool.false_eq_true, lit_ne, lit_lt, eq_self, wcp_cell]
theorem cT_33 (σ : zS) {r : Nat} (h : r < 8) : cT σ 33 r = σ 31 r := by
  rw [cT]; simp (disch := omega) only [lt_litR, lt_litL, eq_litR, eq_litL, lt_nn, eq_nn, lt_n0, z_cl, add_lit, eq_m1, eq_m1', m1_lt, false_or, or_false, if_pos, if_neg, zbI_some, zbV_some, wr_same, wr_cell, wr_slot, ne_eq, not_true_eq_false, not_false_eq_true, true_and, and_true, false_and, and_false, e10, e01, e00, if_true, if_false, Bool.false_eq_true, lit_ne, lit_lt, eq_self, wcp_at]
theorem cT_32 (σ : zS) {k : Nat} (h : 1 ≤ k) (h2 : k ≤ 5) : cT σ 32 k = σ 30 k := by
  rw [cT]
  rcases (show k = 1 ∨ k = 2 ∨ k = 3 ∨ k = 4 ∨ k = 5 by omega) with rfl | rfl | rfl | rfl | rfl <;> simp (disch := omega) only [lt_litR, lt_litL, eq_litR, eq_litL, lt_nn, eq_nn, lt_n0, z_cl, add_lit, eq_m1, eq_m1', m1_lt, false_or, or_false, if_pos, if_neg, zbI_some, zbV_some, wr_same, wr_cell, wr_slot, ne_eq, not_true_eq_false, not_false_eq_true, true_and, and_true, false_and, and_false, e10, e01, e00, if_true, if_false, Bool.false_eq_true, lit_ne, lit_lt, eq_self]
theorem c_copy32 (d : Nat) (σ : zS) (h : σ 30 5 = 0 ∨ σ 30 5 = 1) : zM (d + 1) mX3_copyFrom [.inr (.inr 32), .inr (.inr 30)] σ = some (0, 0, cT σ) := by
  rw [qX3_copyFrom_32_30, qX3_copyFrom_32_30_0, if_pos h]; rfl
theorem SimW.cong {P σ σ' τ : zS} {e w n p b s : Nat} (H : SimW P σ e w τ n p b s) (h1 : ∀ c, 15 ≤ c → c ≤ 22 → σ' c = σ c) (h2 : ∀ c, 24 ≤ c → c ≤ 29 → σ' c = σ c) (h3 : ∀ k, k ≠ 4 → σ' 30 k = σ 30 k) (h4 : σ' 31 = σ 31) (h5 : σ' 34 = σ 34) : SimW P σ' e w τ n p b s := by
  obtain ⟨a1, a2, a3, a4, a5, a6, a7, a8, a9, a10, a11, a12, a13, a14, a15, a16, a17, a18, a19⟩ := H
  exact ⟨⟨fun c c1 c2 => by rw [h1 c c1 c2, a1.1 c c1 c2], a1.2⟩, by rw [h3 1 (by omega), a2], a3, fun r hr => by rw [h4, a4 r hr], by rw [h3 2 (by omega), a5], a6, by rw [h3 3 (by omega), a7], by rw [h3 5 (by omega), a8], by rw [h5, a9], by rw [h5, a10], by rw [h5, a11], a12, by rw [h5, a13], by rw [h5, a14], a15, a16, a17.cong h2 (by rw [h5]) (fun _ _ _ => rfl) rfl rfl, a18, a19⟩
theorem c_decide (d : Nat) {P T σ τ : zS} {n : Nat} (x : Int32) (h9 : σ 0 9 = 1) (hz : pSz P ≤ 200) (hW : ∀ x, x < pSz P → pW P T x) (hJ : ∀ x, x ≤ pSz P → pJ P 11 x) (H : CRs P σ τ n) (h20 : τ 38 20 = nI n) (h39 : τ 38 39 = x) (hP : PRel P σ) (hH0 : HRel σ τ n) :
    ∃ σ' t, kTo P (0, 1, kInit τ) t ∧ ¬ t.2.2 38 31 = 0 ∧ eFrm σ σ' ∧
      ((∃ e' w' τ' p' s', zM (d + 9) mX7_decide [.inr (.inr 0), .inl x] σ = some (1, nI p' - nI n - 1, σ') ∧ t.2.2 = wr τ' 38 31 9 ∧ kTo P (0, 1, kInit τ) (e', w', τ') ∧ SimW P σ' e' w' τ' n p' n s' ∧ ¬ τ' 38 34 = 0 ∧ (w' = 1 ∨ w' = 2) ∧ σ' 30 4 = nI p' ∧ σ' 0 11 = 0 ∧ σ' 0 12 = -1 ∧ (∀ r, r < 8 → σ' 33 r = σ' 31 r) ∧ (∀ k, 1 ≤ k → k ≤ 5 → σ' 32 k = σ' 30 k)) ∨
       (zM (d + 9) mX7_decide [.inr (.inr 0), .inl x] σ = some (2, 0, σ') ∧ (t.2.2 38 31 = 2 ∨ t.2.2 38 31 = 3 ∨ t.2.2 38 31 = 4 ∨ t.2.2 38 31 = 5) ∧ σ' 0 11 = t.2.2 38 31 ∧ σ' 0 12 = (if t.2.2 38 31 = 2 then t.2.2 38 40 else -1) ∧ σ' 32 = σ 32 ∧ σ' 33 = σ 33 ∧ HRel σ' t.2.2 n ∧
          (∀ τs, HRel σ' τs n → τs 38 20 = nI n → (∀ i, i < n → tEq τ τs i) → kC τs 0 = false → CRs P σ' τs n))) := by
  obtain ⟨e, w, τ1, p, i, hto, B, h4⟩ := H
  have hn : n ≤ 200 := B.2.2.2.2.2.2.2.2.1.2.1
  have hHσ : HRel σ τ1 n := B.2.2.2.2.2.2.2.2.1
  have hi : i ≤ n := B.2.2.2.2.2.2.2.2.2.2.2.2.2.2.1
  rw [qX7_decide_0, qX7_decide_0_0, s_size, zbI_some, h9, if_neg (by decide), hHσ.1, qX4_catchUp_34, qX4_catchUp_34_0, h4]
  obtain ⟨σ1, t1, u1, u2⟩ := c_catchLoop d hW hJ n 300 999999 i σ τ1 e w p B (by omega) (by omega)
  rcases u2 with ⟨u2, u3, p2, B2⟩ | ⟨u2, u3, u4, u5, u6, u7, u8⟩
  · rw [u2, zbI_some, if_neg (by decide), if_pos rfl]
    have c1 : ∀ c, c ≠ 0 → wr (wr (wr σ1 30 4 (nI n)) 0 11 0) 0 12 (-1) c = wr σ1 30 4 (nI n) c := fun c hc => by simp (disch := omega) only [lt_litR, lt_litL, eq_litR, eq_litL, lt_nn, eq_nn, lt_n0, z_cl, add_lit, eq_m1, eq_m1', m1_lt, false_or, or_false, if_pos, if_neg, zbI_some, zbV_some, wr_same, wr_cell, wr_slot, ne_eq, not_true_eq_false, not_false_eq_true, true_and, and_true, false_and, and_false, e10, e01, e00, if_true, if_false, Bool.false_eq_true, lit_ne, lit_lt, eq_self]
    have hB3 : Bnd P (wr (wr (wr σ1 30 4 (nI n)) 0 11 0) 0 12 (-1)) t1.1 t1.2.1 t1.2.2 n p2 n := B2.cong (fun c _ _ => by simp (disch := omega) only [lt_litR, lt_litL, eq_litR, eq_litL, lt_nn, eq_nn, lt_n0, z_cl, add_lit, eq_m1, eq_m1', m1_lt, false_or, or_false, if_pos, if_neg, zbI_some, zbV_some, wr_same, wr_cell, wr_slot, ne_eq, not_true_eq_false, not_false_eq_true, true_and, and_true, false_and, and_false, e10, e01, e00, if_true, if_false, Bool.false_eq_true, lit_ne, lit_lt, eq_self]) (fun c _ _ => by simp (disch := omega) only [lt_litR, lt_litL, eq_litR, eq_litL, lt_nn, eq_nn, lt_n0, z_cl, add_lit, eq_m1, eq_m1', m1_lt, false_or, or_false, if_pos, if_neg, zbI_some, zbV_some, wr_same, wr_cell, wr_slot, ne_eq, not_true_eq_false, not_false_eq_true, true_and, and_true, false_and, and_false, e10, e01, e00, if_true, if_false, Bool.false_eq_true, lit_ne, lit_lt, eq_self]) (fun k hk => by simp (disch := omega) only [lt_litR, lt_litL, eq_litR, eq_litL, lt_nn, eq_nn, lt_n0, z_cl, add_lit, eq_m1, eq_m1', m1_lt, false_or, or_false, if_pos, if_neg, zbI_some, zbV_some, wr_same, wr_cell, wr_slot, ne_eq, not_true_eq_false, not_false_eq_true, true_and, and_true, false_and, and_false, e10, e01, e00, if_true, if_false, Bool.false_eq_true, lit_ne, lit_lt, eq_self]) (by simp (disch := omega) only [lt_litR, lt_litL, eq_litR, eq_litL, lt_nn, eq_nn, lt_n0, z_cl, add_lit, eq_m1, eq_m1', m1_lt, false_or, or_false, if_pos, if_neg, zbI_some, zbV_some, wr_same, wr_cell, wr_slot, ne_eq, not_true_eq_false, not_false_eq_true, true_and, and_true, false_and, and_false, e10, e01, e00, if_true, if_false, Bool.false_eq_true, lit_ne, lit_lt, eq_self])
    have h39' : t1.2.2 38 39 = x := by
      rw [(hto.tr u1).same.2 39 (by omega) (by omega)]
      simp only
      rw [kInit_38 τ (by omega), h39]
    generalize hσ2 : wr (wr (wr σ1 30 4 (nI n)) 0 11 0) 0 12 (-1) = σ2 at hB3 c1 ⊢
    have c0 : ∀ k, k ≠ 11 → k ≠ 12 → σ2 0 k = σ1 0 k := fun k k1 k2 => by rw [← hσ2]; simp (disch := omega) only [lt_litR, lt_litL, eq_litR, eq_litL, lt_nn, eq_nn, lt_n0, z_cl, add_lit, eq_m1, eq_m1', m1_lt, false_or, or_false, if_pos, if_neg, zbI_some, zbV_some, wr_same, wr_cell, wr_slot, ne_eq, not_true_eq_false, not_false_eq_true, true_and, and_true, false_and, and_false, e10, e01, e00, if_true, if_false, Bool.false_eq_true, lit_ne, lit_lt, eq_self]
    obtain ⟨σ3, t2, v1, v2, v3⟩ := c_addDec d hW hJ hB3 x h39'
    have hfr : eFrm σ σ3 := by
      refine ⟨fun c x0 x1 x2 x3 x4 x5 x6 x7 x8 x9 x10 x11 x12 x13 => ?_, fun k k1 k2 => ?_⟩
      · rw [v2 c x1 x2 x3 x4 x5 x6 x7 x10 x11 x12 x13, c1 c x0, wr_cell _ _ _ x6, u3.1 c x1 x2 x3 x4 x5 x6 x7 x10 x13]
      · rw [v2 0 (by omega) (by omega) (by omega) (by omega) (by omega) (by omega) (by omega) (by omega) (by omega) (by omega) (by omega), c0 k k1 k2, u3.1 0 (by omega) (by omega) (by omega) (by omega) (by omega) (by omega) (by omega) (by omega) (by omega)]
    have h012 : σ3 0 12 = -1 := by
      rw [v2 0 (by omega) (by omega) (by omega) (by omega) (by omega) (by omega) (by omega) (by omega) (by omega) (by omega) (by omega), ← hσ2]
      simp (disch := omega) only [lt_litR, lt_litL, eq_litR, eq_litL, lt_nn, eq_nn, lt_n0, z_cl, add_lit, eq_m1, eq_m1', m1_lt, false_or, or_false, if_pos, if_neg, zbI_some, zbV_some, wr_same, wr_cell, wr_slot, ne_eq, not_true_eq_false, not_false_eq_true, true_and, and_true, false_and, and_false, e10, e01, e00, if_true, if_false, Bool.false_eq_true, lit_ne, lit_lt, eq_self]
    rcases v3 with ⟨v3, e', w', τ', p', s', σ4, k1, k2, k3, k4, k5, k6⟩ | ⟨v3, v4, v5, v6, v7⟩
    · have h305 : σ3 30 5 = 0 ∨ σ3 30 5 = 1 := by
        have := k3.w2.2.2
        rw [k6, wr_slot _ _ _ (by omega), this]
        split
        · exact Or.inr rfl
        · exact Or.inl rfl
      have hH := (k3.2.2.2.2.2.2.2.2.2.2.2.2.2.2.2.2.1.2 k4).1
      have h245 : σ3 24 5 = nI p' := by rw [k6, wr_cell _ _ _ (by omega), hH.1]
      rw [v3, zbI_some, if_pos rfl, c_copy32 (d + 7) (wr σ3 0 11 0) (by rw [wr_cell _ _ _ (by omega)]; exact h305), zbV_some, s_size, zbI_some, cT_cell _ (by omega) (by omega), wr_cell _ _ _ (by omega), h245]
      have hto2 : kTo P (0, 1, kInit τ) t2 := (hto.tr u1).tr v1
      refine ⟨cT (wr σ3 0 11 0), t2, hto2, by rw [k1]; simp only [wr_same]; decide, ?_, Or.inl ⟨e', w', τ', p', s', rfl, by rw [k1], (hto.tr u1).tr k2, ?_, k4, k5, ?_, ?_, ?_, fun r hr => ?_, fun k q1 q2 => ?_⟩⟩
      · refine ⟨fun c x0 x1 x2 x3 x4 x5 x6 x7 x8 x9 x10 x11 x12 x13 => ?_, fun k q1 q2 => ?_⟩
        · rw [cT_cell _ x8 x9, wr_cell _ _ _ x0, hfr.1 c x0 x1 x2 x3 x4 x5 x6 x7 x8 x9 x10 x11 x12 x13]
        · rw [cT_cell _ (by omega) (by omega), wr_slot _ _ _ q1, hfr.2 k q1 q2]
      · refine k3.cong (fun c _ _ => ?_) (fun c _ _ => ?_) (fun k hk => ?_) ?_ ?_
        · rw [cT_cell _ (by omega) (by omega), wr_cell _ _ _ (by omega), k6, wr_cell _ _ _ (by omega)]
        · rw [cT_cell _ (by omega) (by omega), wr_cell _ _ _ (by omega), k6, wr_cell _ _ _ (by omega)]
        · rw [cT_cell _ (by omega) (by omega), wr_cell _ _ _ (by omega), k6, wr_slot _ _ _ hk]
        · rw [cT_cell _ (by omega) (by omega), wr_cell _ _ _ (by omega), k6, wr_cell _ _ _ (by omega)]
        · rw [cT_cell _ (by omega) (by omega), wr_cell _ _ _ (by omega), k6, wr_cell _ _ _ (by omega)]
      · rw [cT_cell _ (by omega) (by omega), wr_cell _ _ _ (by omega), k6, wr_same]
      · rw [cT_cell _ (by omega) (by omega), wr_same]
      · rw [cT_cell _ (by omega) (by omega), wr_slot _ _ _ (by omega), h012]
      · rw [cT_33 _ hr, cT_cell _ (by omega) (by omega)]
      · rw [cT_32 _ q1 q2, cT_cell _ (by omega) (by omega)]
    · have hne : ¬ t2.2.2 38 31 = 0 ∧ ¬ t2.2.2 38 31 = 2 := by
        rcases v4 with h | h | h <;> rw [h] <;> decide
      rw [v3, zbI_some, if_neg hne.1]
      have hto2 : kTo P (0, 1, kInit τ) t2 := (hto.tr u1).tr v1
      have c30 : ∀ k, (k = 1 ∨ k = 2 ∨ k = 4 ∨ k = 5) → σ3 30 k = wr σ1 30 4 (nI n) 30 k := fun k hk => by
        rw [v6 k (by omega) (by omega) (by omega), c1 30 (by omega)]
      have c31 : ∀ r, r < 8 → σ3 31 r = wr σ1 30 4 (nI n) 31 r := fun r hr => by
        rw [v7 r hr, c1 31 (by omega)]
      refine ⟨wr σ3 0 11 (t2.2.2 38 31), t2, hto2, hne.1, ?_, Or.inr ⟨rfl, Or.inr v4, by simp (disch := omega) only [lt_litR, lt_litL, eq_litR, eq_litL, lt_nn, eq_nn, lt_n0, z_cl, add_lit, eq_m1, eq_m1', m1_lt, false_or, or_false, if_pos, if_neg, zbI_some, zbV_some, wr_same, wr_cell, wr_slot, ne_eq, not_true_eq_false, not_false_eq_true, true_and, and_true, false_and, and_false, e10, e01, e00, if_true, if_false, Bool.false_eq_true, lit_ne, lit_lt, eq_self], by rw [if_neg hne.2]; simp (disch := omega) only [lt_litR, lt_litL, eq_litR, eq_litL, lt_nn, eq_nn, lt_n0, z_cl, add_lit, eq_m1, eq_m1', m1_lt, false_or, or_false, if_pos, if_neg, zbI_some, zbV_some, wr_same, wr_cell, wr_slot, ne_eq, not_true_eq_false, not_false_eq_true, true_and, and_true, false_and, and_false, e10, e01, e00, if_true, if_false, Bool.false_eq_true, lit_ne, lit_lt, eq_self, h012], ?_, ?_, v5.cong (by simp (disch := omega) only [lt_litR, lt_litL, eq_litR, eq_litL, lt_nn, eq_nn, lt_n0, z_cl, add_lit, eq_m1, eq_m1', m1_lt, false_or, or_false, if_pos, if_neg, zbI_some, zbV_some, wr_same, wr_cell, wr_slot, ne_eq, not_true_eq_false, not_false_eq_true, true_and, and_true, false_and, and_false, e10, e01, e00, if_true, if_false, Bool.false_eq_true, lit_ne, lit_lt, eq_self]) (by simp (disch := omega) only [lt_litR, lt_litL, eq_litR, eq_litL, lt_nn, eq_nn, lt_n0, z_cl, add_lit, eq_m1, eq_m1', m1_lt, false_or, or_false, if_pos, if_neg, zbI_some, zbV_some, wr_same, wr_cell, wr_slot, ne_eq, not_true_eq_false, not_false_eq_true, true_and, and_true, false_and, and_false, e10, e01, e00, if_true, if_false, Bool.false_eq_true, lit_ne, lit_lt, eq_self]) (fun i _ => by simp (disch := omega) only [lt_litR, lt_litL, eq_litR, eq_litL, lt_nn, eq_nn, lt_n0, z_cl, add_lit, eq_m1, eq_m1', m1_lt, false_or, or_false, if_pos, if_neg, zbI_some, zbV_some, wr_same, wr_cell, wr_slot, ne_eq, not_true_eq_false, not_false_eq_true, true_and, and_true, false_and, and_false, e10, e01, e00, if_true, if_false, Bool.false_eq_true, lit_ne, lit_lt, eq_self, and_self]) (fun i => by simp (disch := omega) only [lt_litR, lt_litL, eq_litR, eq_litL, lt_nn, eq_nn, lt_n0, z_cl, add_lit, eq_m1, eq_m1', m1_lt, false_or, or_false, if_pos, if_neg, zbI_some, zbV_some, wr_same, wr_cell, wr_slot, ne_eq, not_true_eq_false, not_false_eq_true, true_and, and_true, false_and, and_false, e10, e01, e00, if_true, if_false, Bool.false_eq_true, lit_ne, lit_lt, eq_self]) (fun _ _ => ⟨rfl, rfl, rfl⟩), fun τs s1 s2 s3 s4 => ?_⟩⟩
      · refine ⟨fun c x0 x1 x2 x3 x4 x5 x6 x7 x8 x9 x10 x11 x12 x13 => ?_, fun k q1 q2 => ?_⟩
        · rw [wr_cell _ _ _ x0, hfr.1 c x0 x1 x2 x3 x4 x5 x6 x7 x8 x9 x10 x11 x12 x13]
        · rw [wr_slot _ _ _ q1, hfr.2 k q1 q2]
      · rw [wr_cell _ _ _ (by omega), v2 32 (by omega) (by omega) (by omega) (by omega) (by omega) (by omega) (by omega) (by omega) (by omega) (by omega) (by omega), c1 32 (by omega), wr_cell _ _ _ (by omega), u3.1 32 (by omega) (by omega) (by omega) (by omega) (by omega) (by omega) (by omega) (by omega) (by omega)]
      · rw [wr_cell _ _ _ (by omega), v2 33 (by omega) (by omega) (by omega) (by omega) (by omega) (by omega) (by omega) (by omega) (by omega) (by omega) (by omega), c1 33 (by omega), wr_cell _ _ _ (by omega), u3.1 33 (by omega) (by omega) (by omega) (by omega) (by omega) (by omega) (by omega) (by omega) (by omega)]
      · have hCR : CRs P (wr σ1 30 4 (nI n)) τ n := ⟨t1.1, t1.2.1, t1.2.2, p2, n, hto.tr u1, B2.cong (fun c _ _ => by simp (disch := omega) only [lt_litR, lt_litL, eq_litR, eq_litL, lt_nn, eq_nn, lt_n0, z_cl, add_lit, eq_m1, eq_m1', m1_lt, false_or, or_false, if_pos, if_neg, zbI_some, zbV_some, wr_same, wr_cell, wr_slot, ne_eq, not_true_eq_false, not_false_eq_true, true_and, and_true, false_and, and_false, e10, e01, e00, if_true, if_false, Bool.false_eq_true, lit_ne, lit_lt, eq_self]) (fun c _ _ => by simp (disch := omega) only [lt_litR, lt_litL, eq_litR, eq_litL, lt_nn, eq_nn, lt_n0, z_cl, add_lit, eq_m1, eq_m1', m1_lt, false_or, or_false, if_pos, if_neg, zbI_some, zbV_some, wr_same, wr_cell, wr_slot, ne_eq, not_true_eq_false, not_false_eq_true, true_and, and_true, false_and, and_false, e10, e01, e00, if_true, if_false, Bool.false_eq_true, lit_ne, lit_lt, eq_self]) (fun k hk => by simp (disch := omega) only [lt_litR, lt_litL, eq_litR, eq_litL, lt_nn, eq_nn, lt_n0, z_cl, add_lit, eq_m1, eq_m1', m1_lt, false_or, or_false, if_pos, if_neg, zbI_some, zbV_some, wr_same, wr_cell, wr_slot, ne_eq, not_true_eq_false, not_false_eq_true, true_and, and_true, false_and, and_false, e10, e01, e00, if_true, if_false, Bool.false_eq_true, lit_ne, lit_lt, eq_self]) (by simp (disch := omega) only [lt_litR, lt_litL, eq_litR, eq_litL, lt_nn, eq_nn, lt_n0, z_cl, add_lit, eq_m1, eq_m1', m1_lt, false_or, or_false, if_pos, if_neg, zbI_some, zbV_some, wr_same, wr_cell, wr_slot, ne_eq, not_true_eq_false, not_false_eq_true, true_and, and_true, false_and, and_false, e10, e01, e00, if_true, if_false, Bool.false_eq_true, lit_ne, lit_lt, eq_self]), by simp (disch := omega) only [lt_litR, lt_litL, eq_litR, eq_litL, lt_nn, eq_nn, lt_n0, z_cl, add_lit, eq_m1, eq_m1', m1_lt, false_or, or_false, if_pos, if_neg, zbI_some, zbV_some, wr_same, wr_cell, wr_slot, ne_eq, not_true_eq_false, not_false_eq_true, true_and, and_true, false_and, and_false, e10, e01, e00, if_true, if_false, Bool.false_eq_true, lit_ne, lit_lt, eq_self]⟩
        refine hCR.keep hz hW ⟨fun c y1 y2 => ?_, hP.2⟩ (fun k hk => ?_) (fun r hr => ?_) s1 (Nat.le_refl _) h20 s2 s3 (kC_false s2 hn (Nat.le_refl _) (by omega))
        · rw [wr_cell _ _ _ (by omega), hfr.1 c (by omega) (by omega) (by omega) (by omega) (by omega) (by omega) (by omega) (by omega) (by omega) (by omega) (by omega) (by omega) (by omega) (by omega), hP.1 c y1 y2]
        · rw [wr_cell _ _ _ (by omega), c30 k hk]
        · rw [wr_cell _ _ _ (by omega), c31 r hr]
  · have hto2 : kTo P (0, 1, kInit τ) t1 := hto.tr u1
    rw [u2, zbI_some, u5]
    have hne : ¬ t1.2.2 38 31 = 0 := u4
    have hst : t1.2.2 38 31 = 2 ∨ t1.2.2 38 31 = 3 ∨ t1.2.2 38 31 = 4 ∨ t1.2.2 38 31 = 5 := by
      rcases u8 with h | h | h
      · exact Or.inl h
      · exact Or.inr (Or.inl h)
      · exact Or.inr (Or.inr (Or.inr h))
    have key : ∀ v : Int32, (v = if t1.2.2 38 31 = 2 then t1.2.2 38 40 else -1) → ∃ σ' t, kTo P (0, 1, kInit τ) t ∧ ¬ t.2.2 38 31 = 0 ∧ eFrm σ σ' ∧
      ((∃ e' w' τ' p' s', (some (2, 0, wr (wr (cRst σ1) 0 11 (t1.2.2 38 31)) 0 12 v) : Option zR) = some (1, nI p' - nI n - 1, σ') ∧ t.2.2 = wr τ' 38 31 9 ∧ kTo P (0, 1, kInit τ) (e', w', τ') ∧ SimW P σ' e' w' τ' n p' n s' ∧ ¬ τ' 38 34 = 0 ∧ (w' = 1 ∨ w' = 2) ∧ σ' 30 4 = nI p' ∧ σ' 0 11 = 0 ∧ σ' 0 12 = -1 ∧ (∀ r, r < 8 → σ' 33 r = σ' 31 r) ∧ (∀ k, 1 ≤ k → k ≤ 5 → σ' 32 k = σ' 30 k)) ∨
       ((some (2, 0, wr (wr (cRst σ1) 0 11 (t1.2.2 38 31)) 0 12 v) : Option zR) = some (2, 0, σ') ∧ (t.2.2 38 31 = 2 ∨ t.2.2 38 31 = 3 ∨ t.2.2 38 31 = 4 ∨ t.2.2 38 31 = 5) ∧ σ' 0 11 = t.2.2 38 31 ∧ σ' 0 12 = (if t.2.2 38 31 = 2 then t.2.2 38 40 else -1) ∧ σ' 32 = σ 32 ∧ σ' 33 = σ 33 ∧ HRel σ' t.2.2 n ∧
          (∀ τs, HRel σ' τs n → τs 38 20 = nI n → (∀ i, i < n → tEq τ τs i) → kC τs 0 = false → CRs P σ' τs n))) := by
      intro v hv
      have cc : ∀ c, c ≠ 0 → c ≠ 30 → c ≠ 31 → wr (wr (cRst σ1) 0 11 (t1.2.2 38 31)) 0 12 v c = σ1 c := fun c c1 c2 c3 => by
        rw [wr_cell _ _ _ c1, wr_cell _ _ _ c1, cRst_cell σ1 c2 c3]
      refine ⟨wr (wr (cRst σ1) 0 11 (t1.2.2 38 31)) 0 12 v, t1, hto2, hne, ⟨fun c x0 x1 x2 x3 x4 x5 x6 x7 x8 x9 x10 x11 x12 x13 => ?_, fun k q1 q2 => ?_⟩, Or.inr ⟨rfl, hst, by simp (disch := omega) only [lt_litR, lt_litL, eq_litR, eq_litL, lt_nn, eq_nn, lt_n0, z_cl, add_lit, eq_m1, eq_m1', m1_lt, false_or, or_false, if_pos, if_neg, zbI_some, zbV_some, wr_same, wr_cell, wr_slot, ne_eq, not_true_eq_false, not_false_eq_true, true_and, and_true, false_and, and_false, e10, e01, e00, if_true, if_false, Bool.false_eq_true, lit_ne, lit_lt, eq_self], by rw [← hv]; simp (disch := omega) only [lt_litR, lt_litL, eq_litR, eq_litL, lt_nn, eq_nn, lt_n0, z_cl, add_lit, eq_m1, eq_m1', m1_lt, false_or, or_false, if_pos, if_neg, zbI_some, zbV_some, wr_same, wr_cell, wr_slot, ne_eq, not_true_eq_false, not_false_eq_true, true_and, and_true, false_and, and_false, e10, e01, e00, if_true, if_false, Bool.false_eq_true, lit_ne, lit_lt, eq_self], ?_, ?_, u7.cong (by rw [cc 24 (by omega) (by omega) (by omega)]) (by rw [cc 24 (by omega) (by omega) (by omega)]) (fun i _ => by rw [cc 25 (by omega) (by omega) (by omega), cc 26 (by omega) (by omega) (by omega), cc 27 (by omega) (by omega) (by omega), cc 28 (by omega) (by omega) (by omega)]; exact ⟨rfl, rfl, rfl, rfl⟩) (fun i => by rw [cc 29 (by omega) (by omega) (by omega)]) (fun _ _ => ⟨rfl, rfl, rfl⟩), fun τs s1 s2 s3 s4 => ?_⟩⟩
      · rw [cc c x0 x6 x7, u3.1 c x1 x2 x3 x4 x5 x6 x7 x10 x13]
      · rw [wr_slot _ _ _ q2, wr_slot _ _ _ q1, cRst_cell σ1 (by omega) (by omega), u3.1 0 (by omega) (by omega) (by omega) (by omega) (by omega) (by omega) (by omega) (by omega) (by omega)]
      · rw [cc 32 (by omega) (by omega) (by omega), u3.1 32 (by omega) (by omega) (by omega) (by omega) (by omega) (by omega) (by omega) (by omega) (by omega)]
      · rw [cc 33 (by omega) (by omega) (by omega), u3.1 33 (by omega) (by omega) (by omega) (by omega) (by omega) (by omega) (by omega) (by omega) (by omega)]
      · refine CRs.fresh ⟨fun c y1 y2 => ?_, hP.2⟩ (fun k k1 k2 => ?_) (fun r hr => ?_) s1 s2 s4
        · rw [cc c (by omega) (by omega) (by omega), u3.1 c (by omega) (by omega) (by omega) (by omega) (by omega) (by omega) (by omega) (by omega) (by omega), hP.1 c y1 y2]
        · rw [wr_cell _ _ _ (by omega), wr_cell _ _ _ (by omega), cRst_30 σ1 k1 k2]
        · rw [wr_cell _ _ _ (by omega), wr_cell _ _ _ (by omega), cRst_reg σ1 hr]
    by_cases h2 : t1.2.2 38 31 = 2
    · rw [if_pos h2, if_neg hne, if_neg hne, cRst_cell σ1 (by omega) (by omega)]
      exact key (σ1 34 12) (by rw [if_pos h2, u6 h2])
    · rw [if_neg h2, if_neg hne, if_neg hne]
      exact key _ (by rw [if_neg h2])
