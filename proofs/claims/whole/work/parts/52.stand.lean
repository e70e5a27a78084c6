-- events that stand are not changed
def Tb (τ τ' : zS) (n p : Nat) : Prop := ∀ i, i < kCt τ n p → tEq τ τ' i
theorem Tb.rf {τ : zS} {n p : Nat} : Tb τ τ n p := fun _ _ => ⟨rfl, rfl, rfl⟩
theorem Tb.w {τ τ1 τ2 : zS} {n p : Nat} (h : Tb τ τ1 n p) (h3 : ∀ c, 50 ≤ c → c ≤ 52 → τ2 c = τ1 c) : Tb τ τ2 n p := by
  intro i hi
  obtain ⟨c1, c2, c3⟩ := h i hi
  exact ⟨by rw [h3 50 (by omega) (by omega), c1], by rw [h3 51 (by omega) (by omega), c2], by rw [h3 52 (by omega) (by omega), c3]⟩
theorem Tb.w1 {τ τ1 : zS} {n p : Nat} (h : Tb τ τ1 n p) {c : Nat} (hc : c = 38 ∨ c = 54) (k : Nat) (v : Int32) : Tb τ (wr τ1 c k v) n p :=
  h.w (fun d d1 d2 => wr_cell _ _ _ (by omega))
theorem Tb.cmd {τ : zS} {n p b s : Nat} (h : kInv τ n p b s) (k r v : Int32) : Tb τ (kCmd τ k r v).2 n p := by
  intro i hi
  rcases kCmd_cases h k r v with ⟨_, _, _, _, _, _, g3⟩ | ⟨_, _, g3⟩ | ⟨_, _, g3⟩ | ⟨g1, _, g3⟩
  · rw [g3]; refine ⟨?_, ?_, ?_⟩ <;> simp (disch := omega) only [lt_litR, lt_litL, eq_litR, eq_litL, lt_nn, eq_nn, lt_n0, z_cl, add_lit, eq_m1, eq_m1', m1_lt, false_or, or_false, if_pos, if_neg, zbI_some, zbV_some, wr_same, wr_cell, wr_slot, ne_eq, not_true_eq_false, not_false_eq_true, true_and, and_true, false_and, and_false, e10, e01, e00, if_true, if_false, Bool.false_eq_true, lit_ne, lit_lt, eq_self]
  · rw [g3]; refine ⟨?_, ?_, ?_⟩ <;> simp (disch := omega) only [lt_litR, lt_litL, eq_litR, eq_litL, lt_nn, eq_nn, lt_n0, z_cl, add_lit, eq_m1, eq_m1', m1_lt, false_or, or_false, if_pos, if_neg, zbI_some, zbV_some, wr_same, wr_cell, wr_slot, ne_eq, not_true_eq_false, not_false_eq_true, true_and, and_true, false_and, and_false, e10, e01, e00, if_true, if_false, Bool.false_eq_true, lit_ne, lit_lt, eq_self]
  · rw [g3]; refine ⟨?_, ?_, ?_⟩ <;> simp (disch := omega) only [lt_litR, lt_litL, eq_litR, eq_litL, lt_nn, eq_nn, lt_n0, z_cl, add_lit, eq_m1, eq_m1', m1_lt, false_or, or_false, if_pos, if_neg, zbI_some, zbV_some, wr_same, wr_cell, wr_slot, ne_eq, not_true_eq_false, not_false_eq_true, true_and, and_true, false_and, and_false, e10, e01, e00, if_true, if_false, Bool.false_eq_true, lit_ne, lit_lt, eq_self]
  · rw [g3]
    rw [kCt, if_neg g1] at hi
    refine ⟨?_, ?_, ?_⟩ <;> simp (disch := omega) only [lt_litR, lt_litL, eq_litR, eq_litL, lt_nn, eq_nn, lt_n0, z_cl, add_lit, eq_m1, eq_m1', m1_lt, false_or, or_false, if_pos, if_neg, zbI_some, zbV_some, wr_same, wr_cell, wr_slot, ne_eq, not_true_eq_false, not_false_eq_true, true_and, and_true, false_and, and_false, e10, e01, e00, if_true, if_false, Bool.false_eq_true, lit_ne, lit_lt, eq_self]
theorem Tb.do {P τ : zS} {n p b s : Nat} (h : kInv τ n p b s) (e : Nat) : Tb τ (kDo P e τ).2.2 n p := by
  have hO : ∀ k r v, Tb τ (kOrd P e τ k r v).2.2 n p := fun k r v => by
    rw [kOrd]; split
    · exact Tb.cmd h _ _ _
    · exact (Tb.cmd h _ _ _).w1 (by omega) _ _
  have hWt : ∀ o x y, Tb τ (kWai P e τ o x y).2.2 n p := fun o x y => by
    obtain ⟨g, hg⟩ := kRdy_gave τ o x y
    rw [kWai, hg]; split
    · exact ((Tb.rf.w1 (by omega) _ _).w1 (by omega) _ _).w1 (by omega) _ _
    · exact Tb.rf.w1 (by omega) _ _
  unfold kDo
  split
  · exact Tb.rf.w1 (by omega) _ _
  split
  · exact hO _ _ _
  split
  · exact hO _ _ _
  split
  · exact hWt _ _ _
  split
  · exact hWt _ _ _
  split
  · exact (Tb.rf.w1 (by omega) _ _).w1 (by omega) _ _
  split
  · exact hWt _ _ _
  split
  · exact Tb.rf.w1 (by omega) _ _
  split
  · rw [kPat]; split
    · split
      · exact Tb.cmd h _ _ _
      · exact (Tb.cmd h _ _ _).w1 (by omega) _ _
    · exact Tb.rf.w1 (by omega) _ _
  split
  · rw [kStp]; split
    · exact Tb.cmd h _ _ _
    · exact (Tb.cmd h _ _ _).w1 (by omega) _ _
  split
  · exact Tb.rf
  · exact Tb.rf
theorem Tb.F {P : zS} {s : kSt} {n p b st : Nat} (h : kInv s.2.2 n p b st) : Tb s.2.2 (kF P s).2.2 n p := by
  obtain ⟨e, w, τ⟩ := s
  simp only at h
  by_cases h0 : τ 38 31 = 0
  · rw [kF, if_neg (fun h => h h0)]
    split
    · show Tb τ (kTurn P e τ).2.2 n p
      unfold kTurn
      split
      · exact Tb.rf
      split
      · rw [kStp]; split
        · exact Tb.cmd h _ _ _
        · exact (Tb.cmd h _ _ _).w1 (by omega) _ _
      split
      · exact (Tb.rf.w1 (by omega) _ _).w1 (by omega) _ _
      · next hs =>
        intro i hi
        rw [kCt] at hi
        obtain ⟨c1, c2, c3⟩ := Tb.do (P := P) (h.step hs).1 e i (by rw [kCt, wr_slot _ _ _ (by omega)]; exact hi)
        rw [wr_cell _ _ _ (by omega)] at c1 c2 c3
        exact ⟨c1, c2, c3⟩
    · show Tb τ (kGo τ) n p
      intro i hi
      rcases kGo_cases h with ⟨_, g⟩ | ⟨_, _, g⟩ | ⟨hl, _, q, q1, q2, q3, g⟩
      · rw [g]; refine ⟨?_, ?_, ?_⟩ <;> simp (disch := omega) only [lt_litR, lt_litL, eq_litR, eq_litL, lt_nn, eq_nn, lt_n0, z_cl, add_lit, eq_m1, eq_m1', m1_lt, false_or, or_false, if_pos, if_neg, zbI_some, zbV_some, wr_same, wr_cell, wr_slot, ne_eq, not_true_eq_false, not_false_eq_true, true_and, and_true, false_and, and_false, e10, e01, e00, if_true, if_false, Bool.false_eq_true, lit_ne, lit_lt, eq_self]
      · rw [g]; refine ⟨?_, ?_, ?_⟩ <;> simp (disch := omega) only [lt_litR, lt_litL, eq_litR, eq_litL, lt_nn, eq_nn, lt_n0, z_cl, add_lit, eq_m1, eq_m1', m1_lt, false_or, or_false, if_pos, if_neg, zbI_some, zbV_some, wr_same, wr_cell, wr_slot, ne_eq, not_true_eq_false, not_false_eq_true, true_and, and_true, false_and, and_false, e10, e01, e00, if_true, if_false, Bool.false_eq_true, lit_ne, lit_lt, eq_self]
      · rw [kCt, if_pos hl] at hi
        rcases g with ⟨_, _, g⟩ | ⟨_, _, g⟩ | ⟨_, _, _, g⟩ | ⟨_, _, _, g⟩
        · rw [g]; refine ⟨?_, ?_, ?_⟩ <;> simp (disch := omega) only [lt_litR, lt_litL, eq_litR, eq_litL, lt_nn, eq_nn, lt_n0, z_cl, add_lit, eq_m1, eq_m1', m1_lt, false_or, or_false, if_pos, if_neg, zbI_some, zbV_some, wr_same, wr_cell, wr_slot, ne_eq, not_true_eq_false, not_false_eq_true, true_and, and_true, false_and, and_false, e10, e01, e00, if_true, if_false, Bool.false_eq_true, lit_ne, lit_lt, eq_self]
        · rw [g]; refine ⟨?_, ?_, ?_⟩ <;> simp (disch := omega) only [lt_litR, lt_litL, eq_litR, eq_litL, lt_nn, eq_nn, lt_n0, z_cl, add_lit, eq_m1, eq_m1', m1_lt, false_or, or_false, if_pos, if_neg, zbI_some, zbV_some, wr_same, wr_cell, wr_slot, ne_eq, not_true_eq_false, not_false_eq_true, true_and, and_true, false_and, and_false, e10, e01, e00, if_true, if_false, Bool.false_eq_true, lit_ne, lit_lt, eq_self]
        · rw [g]; refine ⟨?_, ?_, ?_⟩ <;> simp (disch := omega) only [lt_litR, lt_litL, eq_litR, eq_litL, lt_nn, eq_nn, lt_n0, z_cl, add_lit, eq_m1, eq_m1', m1_lt, false_or, or_false, if_pos, if_neg, zbI_some, zbV_some, wr_same, wr_cell, wr_slot, ne_eq, not_true_eq_false, not_false_eq_true, true_and, and_true, false_and, and_false, e10, e01, e00, if_true, if_false, Bool.false_eq_true, lit_ne, lit_lt, eq_self]
        · rw [g]; refine ⟨?_, ?_, ?_⟩ <;> simp (disch := omega) only [lt_litR, lt_litL, eq_litR, eq_litL, lt_nn, eq_nn, lt_n0, z_cl, add_lit, eq_m1, eq_m1', m1_lt, false_or, or_false, if_pos, if_neg, zbI_some, zbV_some, wr_same, wr_cell, wr_slot, ne_eq, not_true_eq_false, not_false_eq_true, true_and, and_true, false_and, and_false, e10, e01, e00, if_true, if_false, Bool.false_eq_true, lit_ne, lit_lt, eq_self]
  · have : kF P (e, w, τ) = (e, w, τ) := by rw [kF, if_pos h0]
    rw [this]
    exact Tb.rf
theorem Tb.It {P : zS} : ∀ (m : Nat) {s : kSt} {n p b st : Nat}, kInv s.2.2 n p b st → Tb s.2.2 (kIt P m s).2.2 n p := by
  intro m
  induction m with
  | zero => intro s n p b st h; exact Tb.rf
  | succ m ih =>
    intro s n p b st h
    rw [kIt]
    have h1 := Tb.F (P := P) h
    by_cases hg : (kF P s).2.2 38 31 = 0
    · obtain ⟨p', b', s', a1, a2, a3, a5, a4⟩ := Mn.F (P := P) h (kF_goes hg) hg
      intro i hi
      obtain ⟨d1, d2, d3⟩ := h1 i hi
      obtain ⟨f1, f2, f3⟩ := ih a1 i (Nat.lt_of_lt_of_le hi a5)
      exact ⟨f1.trans d1, f2.trans d2, f3.trans d3⟩
    · rw [kIt_halt P hg]
      exact h1
theorem kTo_tab2 {P τ : zS} {t : kSt} {n : Nat} (h : τ 38 20 = nI n) (hn : n ≤ 200) (hto : kTo P (0, 1, kInit τ) t) : ∀ i, i < n → tEq τ t.2.2 i := by
  obtain ⟨m, hm⟩ := hto
  have f4 := Tb.It (P := P) m (s := (0, 1, kInit τ)) (kInit_inv τ h hn)
  rw [hm] at f4
  intro i hi
  have h34 : kInit τ 38 34 = 0 := kInit_0 τ (by omega)
  obtain ⟨g1, g2, g3⟩ := f4 i (by simp only [kCt]; rw [if_pos h34]; exact hi)
  simp only at g1 g2 g3
  rw [kInit_cell τ (by omega) (by omega)] at g1 g2 g3
  exact ⟨g1, g2, g3⟩
/-- behind a decision that was added -/
theorem CRs.live {P T σ τ τ' τs : zS} {e w n p s : Nat} (hz : pSz P ≤ 200) (hW : ∀ x, x < pSz P → pW P T x) (h20 : τ 38 20 = nI n) (hto : kTo P (0, 1, kInit τ) (e, w, τ')) (S : SimW P σ e w τ' n p n s) (hl : ¬ τ' 38 34 = 0) (hw : w = 1 ∨ w = 2) (h4 : σ 30 4 = nI p) (hs20 : τs 38 20 = nI p) (ht : ∀ i, i < p → tEq τ' τs i) (hH : HRel σ τs p) : CRs P σ τs p := by
  obtain ⟨a1, a2, a3, a4, a5, a6, a7, a8, a9, a10, a11, a12, a13, a14, a15, a16, a17, a18, a19⟩ := S
  have hp := hH.2.1
  obtain ⟨b1, b2, b3, b4, b5⟩ := a17.2 hl
  obtain ⟨τ2, b', s', r1, r2, r3⟩ := replay (L := p) hz hW h20 a15.2.1 hs20 hp hto a19 a15 (Nat.le_refl _) (Nat.le_refl _) (kC_false hs20 hp (Nat.le_refl _) (by omega)) (fun h => absurd h hl) (fun _ => ⟨rfl, a16, b5⟩) ht
  obtain ⟨c1, c2, c3, c4, c5, c6, c7, c8, c9, c10, c11, c12, c13, c14, c15, c16, c17⟩ := r2
  exact ⟨e, w, τ2, p, p, r1, ⟨a1, a2, a3, fun r hr => by rw [a4 r hr, c2 r hr], by rw [a5, c3], by rw [c3]; exact a6, a8, hw, hH.cong rfl rfl (fun _ _ => ⟨rfl, rfl, rfl, rfl⟩) (fun _ => rfl) (fun i hi => r3 i hi), ⟨b', s', c9⟩, c7, c12, by rw [c4, a18], c6, Nat.le_refl _, fun k k1 k2 => by omega, fun k k1 k2 => by omega⟩, h4⟩
