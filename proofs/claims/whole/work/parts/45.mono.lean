-- runs over a history that has grown
def kCt (τ : zS) (n p : Nat) : Nat := if τ 38 34 = 0 then n else p
def tEq (τ τ' : zS) (i : Nat) : Prop := τ' 50 i = τ 50 i ∧ τ' 51 i = τ 51 i ∧ τ' 52 i = τ 52 i
def Mn (τ τ' : zS) (n p : Nat) : Prop := τ' 38 31 = 0 → ∃ p' b' s', kInv τ' n p' b' s' ∧ p ≤ p' ∧ (¬ τ 38 34 = 0 → ¬ τ' 38 34 = 0) ∧ kCt τ n p ≤ kCt τ' n p' ∧ ∀ i, i < kCt τ n p → tEq τ τ' i
theorem Mn.rf {τ : zS} {n p b s : Nat} (h : kInv τ n p b s) : Mn τ τ n p := fun _ => ⟨p, b, s, h, Nat.le_refl _, fun h => h, Nat.le_refl _, fun _ _ => ⟨rfl, rfl, rfl⟩⟩
theorem Mn.no {τ τ' : zS} {n p : Nat} (h : ¬ τ' 38 31 = 0) : Mn τ τ' n p := fun h2 => absurd h2 h
theorem Mn.w {τ τ1 τ2 : zS} {n p : Nat} (h : Mn τ τ1 n p) (h1 : ∀ k, (k = 20 ∨ k = 32 ∨ k = 33 ∨ k = 34 ∨ k = 35 ∨ k = 36) → τ2 38 k = τ1 38 k) (h2 : τ2 38 31 = τ1 38 31) (h3 : ∀ c, 50 ≤ c → c ≤ 52 → τ2 c = τ1 c) : Mn τ τ2 n p := by
  intro h0
  rw [h2] at h0
  obtain ⟨p', b', s', a1, a2, a3, a5, a4⟩ := h h0
  refine ⟨p', b', s', (a1.cong h1).1, a2, fun h => by rw [h1 34 (by omega)]; exact a3 h, by rw [kCt, kCt, h1 34 (by omega)]; exact a5, fun i hi => ?_⟩
  obtain ⟨c1, c2, c3⟩ := a4 i hi
  exact ⟨by rw [h3 50 (by omega) (by omega), c1], by rw [h3 51 (by omega) (by omega), c2], by rw [h3 52 (by omega) (by omega), c3]⟩
theorem Mn.w54 {τ τ1 : zS} {n p : Nat} (h : Mn τ τ1 n p) (r : Nat) (v : Int32) : Mn τ (wr τ1 54 r v) n p :=
  h.w (fun k _ => by rw [wr_cell _ _ _ (by omega)]) (by rw [wr_cell _ _ _ (by omega)]) (fun c _ _ => wr_cell _ _ _ (by omega))
theorem Mn.w38 {τ τ1 : zS} {n p : Nat} (h : Mn τ τ1 n p) {k : Nat} (hk : k = 37 ∨ k = 38 ∨ k = 44) (v : Int32) : Mn τ (wr τ1 38 k v) n p :=
  h.w (fun j _ => wr_slot _ _ _ (by omega)) (wr_slot _ _ _ (by omega)) (fun c _ _ => wr_cell _ _ _ (by omega))
theorem Mn.cmd {τ : zS} {n p b s : Nat} (h : kInv τ n p b s) (h0 : τ 38 31 = 0) (k r v : Int32) : Mn τ (kCmd τ k r v).2 n p := by
  intro hg
  rcases h.cmd h0 k r v with ⟨_, h2⟩ | ⟨h1, h2, h3, h4⟩
  · exact absurd hg h2
  · refine ⟨p + 1, b, s, h3, by omega, fun hl => ?_, ?_, fun i hi => ?_⟩
    · rcases kCmd_cases h k r v with ⟨g1, _⟩ | ⟨g1, _⟩ | ⟨_, _, g3⟩ | ⟨_, _, g3⟩
      · exact absurd g1 hl
      · exact absurd g1 hl
      · rw [g3]; simp (disch := omega) only [lt_litR, lt_litL, eq_litR, eq_litL, lt_nn, eq_nn, lt_n0, z_cl, add_lit, eq_m1, eq_m1', m1_lt, false_or, or_false, if_pos, if_neg, zbI_some, zbV_some, wr_same, wr_cell, wr_slot, ne_eq, not_true_eq_false, not_false_eq_true, true_and, and_true, false_and, and_false, e10, e01, e00, if_true, if_false, Bool.false_eq_true, lit_ne, lit_lt, eq_self, hl]
      · rw [g3]; simp (disch := omega) only [lt_litR, lt_litL, eq_litR, eq_litL, lt_nn, eq_nn, lt_n0, z_cl, add_lit, eq_m1, eq_m1', m1_lt, false_or, or_false, if_pos, if_neg, zbI_some, zbV_some, wr_same, wr_cell, wr_slot, ne_eq, not_true_eq_false, not_false_eq_true, true_and, and_true, false_and, and_false, e10, e01, e00, if_true, if_false, Bool.false_eq_true, lit_ne, lit_lt, eq_self, hl]
    · have h34 : (kCmd τ k r v).2 38 34 = τ 38 34 := by
        rcases kCmd_cases h k r v with ⟨_, _, _, _, _, _, g3⟩ | ⟨_, _, g3⟩ | ⟨_, _, g3⟩ | ⟨g1, _, g3⟩ <;> rw [g3] <;> simp (disch := omega) only [lt_litR, lt_litL, eq_litR, eq_litL, lt_nn, eq_nn, lt_n0, z_cl, add_lit, eq_m1, eq_m1', m1_lt, false_or, or_false, if_pos, if_neg, zbI_some, zbV_some, wr_same, wr_cell, wr_slot, ne_eq, not_true_eq_false, not_false_eq_true, true_and, and_true, false_and, and_false, e10, e01, e00, if_true, if_false, Bool.false_eq_true, lit_ne, lit_lt, eq_self]
      rw [kCt, kCt, h34]
      split <;> omega
    · rcases kCmd_cases h k r v with ⟨_, _, _, _, _, _, g3⟩ | ⟨_, _, g3⟩ | ⟨_, _, g3⟩ | ⟨g1, _, g3⟩
      · rw [g3]; refine ⟨?_, ?_, ?_⟩ <;> simp (disch := omega) only [lt_litR, lt_litL, eq_litR, eq_litL, lt_nn, eq_nn, lt_n0, z_cl, add_lit, eq_m1, eq_m1', m1_lt, false_or, or_false, if_pos, if_neg, zbI_some, zbV_some, wr_same, wr_cell, wr_slot, ne_eq, not_true_eq_false, not_false_eq_true, true_and, and_true, false_and, and_false, e10, e01, e00, if_true, if_false, Bool.false_eq_true, lit_ne, lit_lt, eq_self]
      · rw [g3]; refine ⟨?_, ?_, ?_⟩ <;> simp (disch := omega) only [lt_litR, lt_litL, eq_litR, eq_litL, lt_nn, eq_nn, lt_n0, z_cl, add_lit, eq_m1, eq_m1', m1_lt, false_or, or_false, if_pos, if_neg, zbI_some, zbV_some, wr_same, wr_cell, wr_slot, ne_eq, not_true_eq_false, not_false_eq_true, true_and, and_true, false_and, and_false, e10, e01, e00, if_true, if_false, Bool.false_eq_true, lit_ne, lit_lt, eq_self]
      · rw [g3]; refine ⟨?_, ?_, ?_⟩ <;> simp (disch := omega) only [lt_litR, lt_litL, eq_litR, eq_litL, lt_nn, eq_nn, lt_n0, z_cl, add_lit, eq_m1, eq_m1', m1_lt, false_or, or_false, if_pos, if_neg, zbI_some, zbV_some, wr_same, wr_cell, wr_slot, ne_eq, not_true_eq_false, not_false_eq_true, true_and, and_true, false_and, and_false, e10, e01, e00, if_true, if_false, Bool.false_eq_true, lit_ne, lit_lt, eq_self]
      · rw [g3]
        rw [kCt, if_neg g1] at hi
        refine ⟨?_, ?_, ?_⟩ <;> simp (disch := omega) only [lt_litR, lt_litL, eq_litR, eq_litL, lt_nn, eq_nn, lt_n0, z_cl, add_lit, eq_m1, eq_m1', m1_lt, false_or, or_false, if_pos, if_neg, zbI_some, zbV_some, wr_same, wr_cell, wr_slot, ne_eq, not_true_eq_false, not_false_eq_true, true_and, and_true, false_and, and_false, e10, e01, e00, if_true, if_false, Bool.false_eq_true, lit_ne, lit_lt, eq_self]
theorem Mn.do {P τ : zS} {n p b s : Nat} (h : kInv τ n p b s) (h0 : τ 38 31 = 0) (e : Nat) : Mn τ (kDo P e τ).2.2 n p := by
  have hO : ∀ k r v, Mn τ (kOrd P e τ k r v).2.2 n p := fun k r v => by
    rw [kOrd]; split
    · exact Mn.cmd h h0 _ _ _
    · exact (Mn.cmd h h0 _ _ _).w54 _ _
  have hWt : ∀ o x y, Mn τ (kWai P e τ o x y).2.2 n p := fun o x y => by
    obtain ⟨g, hg⟩ := kRdy_gave τ o x y
    rw [kWai, hg]; split
    · exact (((Mn.rf h).w38 (by omega) _).w54 _ _).w38 (by omega) _
    · exact (Mn.rf h).w38 (by omega) _
  unfold kDo
  split
  · exact (Mn.rf h).w54 _ _
  split
  · exact hO _ _ _
  split
  · exact hO _ _ _
  split
  · exact hWt _ _ _
  split
  · exact hWt _ _ _
  split
  · exact ((Mn.rf h).w38 (by omega) _).w54 _ _
  split
  · exact hWt _ _ _
  split
  · exact (Mn.rf h).w54 _ _
  split
  · rw [kPat]; split
    · split
      · exact Mn.cmd h h0 _ _ _
      · exact (Mn.cmd h h0 _ _ _).w54 _ _
    · exact (Mn.rf h).w54 _ _
  split
  · rw [kStp]; split
    · exact Mn.cmd h h0 _ _ _
    · exact (Mn.cmd h h0 _ _ _).w38 (by omega) _
  split
  · exact Mn.rf h
  · exact Mn.rf h
theorem kInv.live {τ : zS} {n p b s : Nat} (h : kInv τ n p b s) : kCt τ n p = if τ 38 34 = 0 then n else p := rfl
theorem Mn.F {P : zS} {s : kSt} {n p b st : Nat} (h : kInv s.2.2 n p b st) (h0 : s.2.2 38 31 = 0) : Mn s.2.2 (kF P s).2.2 n p := by
  obtain ⟨e, w, τ⟩ := s
  simp only at h h0
  rw [kF, if_neg (fun h => h h0)]
  split
  · show Mn τ (kTurn P e τ).2.2 n p
    unfold kTurn
    split
    · exact Mn.rf h
    split
    · rw [kStp]; split
      · exact Mn.cmd h h0 _ _ _
      · exact (Mn.cmd h h0 _ _ _).w38 (by omega) _
    split
    · exact Mn.no (by simp only [wr_same]; exact i30)
    · next hs =>
      have h1 := (h.step hs).1
      intro hg
      obtain ⟨p', b', s', a1, a2, a3, a5, a4⟩ := Mn.do (P := P) h1 (by rw [wr_slot _ _ _ (by omega), h0]) e hg
      refine ⟨p', b', s', a1, a2, fun hl => a3 (by rw [wr_slot _ _ _ (by omega)]; exact hl), by rw [kCt, wr_slot _ _ _ (by omega)] at a5; exact a5, fun i hi => ?_⟩
      rw [kCt] at hi
      obtain ⟨c1, c2, c3⟩ := a4 i (by rw [kCt, wr_slot _ _ _ (by omega)]; exact hi)
      rw [wr_cell _ _ _ (by omega)] at c1 c2 c3
      exact ⟨c1, c2, c3⟩
  · show Mn τ (kGo τ) n p
    intro hg
    obtain ⟨p', b', a1, a2, a3⟩ := h.go hg h0
    refine ⟨p', b', 0, a1, a3, fun hl => ?_, ?_, fun i hi => ?_⟩
    · rcases kGo_cases h with ⟨_, g⟩ | ⟨g1, _⟩ | ⟨g1, _⟩
      · rw [g, wr_same] at hg; exact absurd hg (by decide)
      · exact absurd g1 hl
      · exact absurd g1 hl
    · have hp' := a1.2.2.1
      have hp2 := a1.2.2.2.1
      have hn := h.2.1
      rw [kCt, kCt]
      rcases kGo_cases h with ⟨hl, g⟩ | ⟨hl, _, g⟩ | ⟨hl, _, q, q1, q2, q3, g⟩
      · rw [g, wr_same] at hg; exact absurd hg (by decide)
      · rw [g] at hg; simp (disch := omega) only [lt_litR, lt_litL, eq_litR, eq_litL, lt_nn, eq_nn, lt_n0, z_cl, add_lit, eq_m1, eq_m1', m1_lt, false_or, or_false, if_pos, if_neg, zbI_some, zbV_some, wr_same, wr_cell, wr_slot, ne_eq, not_true_eq_false, not_false_eq_true, true_and, and_true, false_and, and_false, e10, e01, e00, if_true, if_false, Bool.false_eq_true, lit_ne, lit_lt, eq_self] at hg
      · rw [if_pos hl]
        rcases g with ⟨_, _, g⟩ | ⟨_, _, g⟩ | ⟨_, _, _, g⟩ | ⟨_, _, _, g⟩
        · rw [g]; simp (disch := omega) only [lt_litR, lt_litL, eq_litR, eq_litL, lt_nn, eq_nn, lt_n0, z_cl, add_lit, eq_m1, eq_m1', m1_lt, false_or, or_false, if_pos, if_neg, zbI_some, zbV_some, wr_same, wr_cell, wr_slot, ne_eq, not_true_eq_false, not_false_eq_true, true_and, and_true, false_and, and_false, e10, e01, e00, if_true, if_false, Bool.false_eq_true, lit_ne, lit_lt, eq_self, hl, Nat.le_refl]
        · rw [g] at hg; simp (disch := omega) only [lt_litR, lt_litL, eq_litR, eq_litL, lt_nn, eq_nn, lt_n0, z_cl, add_lit, eq_m1, eq_m1', m1_lt, false_or, or_false, if_pos, if_neg, zbI_some, zbV_some, wr_same, wr_cell, wr_slot, ne_eq, not_true_eq_false, not_false_eq_true, true_and, and_true, false_and, and_false, e10, e01, e00, if_true, if_false, Bool.false_eq_true, lit_ne, lit_lt, eq_self] at hg
        · rw [g] at hg; simp (disch := omega) only [lt_litR, lt_litL, eq_litR, eq_litL, lt_nn, eq_nn, lt_n0, z_cl, add_lit, eq_m1, eq_m1', m1_lt, false_or, or_false, if_pos, if_neg, zbI_some, zbV_some, wr_same, wr_cell, wr_slot, ne_eq, not_true_eq_false, not_false_eq_true, true_and, and_true, false_and, and_false, e10, e01, e00, if_true, if_false, Bool.false_eq_true, lit_ne, lit_lt, eq_self] at hg
        · rw [g] at hp'
          simp (disch := omega) only [wr_same] at hp'
          have := (nI_eq (by omega) (by omega)).mp hp'
          split <;> omega
    · rcases kGo_cases h with ⟨_, g⟩ | ⟨_, _, g⟩ | ⟨hl, _, q, q1, q2, q3, g⟩
      · rw [g]; refine ⟨?_, ?_, ?_⟩ <;> simp (disch := omega) only [lt_litR, lt_litL, eq_litR, eq_litL, lt_nn, eq_nn, lt_n0, z_cl, add_lit, eq_m1, eq_m1', m1_lt, false_or, or_false, if_pos, if_neg, zbI_some, zbV_some, wr_same, wr_cell, wr_slot, ne_eq, not_true_eq_false, not_false_eq_true, true_and, and_true, false_and, and_false, e10, e01, e00, if_true, if_false, Bool.false_eq_true, lit_ne, lit_lt, eq_self]
      · rw [g]; refine ⟨?_, ?_, ?_⟩ <;> simp (disch := omega) only [lt_litR, lt_litL, eq_litR, eq_litL, lt_nn, eq_nn, lt_n0, z_cl, add_lit, eq_m1, eq_m1', m1_lt, false_or, or_false, if_pos, if_neg, zbI_some, zbV_some, wr_same, wr_cell, wr_slot, ne_eq, not_true_eq_false, not_false_eq_true, true_and, and_true, false_and, and_false, e10, e01, e00, if_true, if_false, Bool.false_eq_true, lit_ne, lit_lt, eq_self]
      · rw [kCt, if_pos hl] at hi
        rcases g with ⟨_, _, g⟩ | ⟨_, _, g⟩ | ⟨_, _, _, g⟩ | ⟨_, _, _, g⟩
        · rw [g]; refine ⟨?_, ?_, ?_⟩ <;> simp (disch := omega) only [lt_litR, lt_litL, eq_litR, eq_litL, lt_nn, eq_nn, lt_n0, z_cl, add_lit, eq_m1, eq_m1', m1_lt, false_or, or_false, if_pos, if_neg, zbI_some, zbV_some, wr_same, wr_cell, wr_slot, ne_eq, not_true_eq_false, not_false_eq_true, true_and, and_true, false_and, and_false, e10, e01, e00, if_true, if_false, Bool.false_eq_true, lit_ne, lit_lt, eq_self]
        · rw [g]; refine ⟨?_, ?_, ?_⟩ <;> simp (disch := omega) only [lt_litR, lt_litL, eq_litR, eq_litL, lt_nn, eq_nn, lt_n0, z_cl, add_lit, eq_m1, eq_m1', m1_lt, false_or, or_false, if_pos, if_neg, zbI_some, zbV_some, wr_same, wr_cell, wr_slot, ne_eq, not_true_eq_false, not_false_eq_true, true_and, and_true, false_and, and_false, e10, e01, e00, if_true, if_false, Bool.false_eq_true, lit_ne, lit_lt, eq_self]
        · rw [g]; refine ⟨?_, ?_, ?_⟩ <;> simp (disch := omega) only [lt_litR, lt_litL, eq_litR, eq_litL, lt_nn, eq_nn, lt_n0, z_cl, add_lit, eq_m1, eq_m1', m1_lt, false_or, or_false, if_pos, if_neg, zbI_some, zbV_some, wr_same, wr_cell, wr_slot, ne_eq, not_true_eq_false, not_false_eq_true, true_and, and_true, false_and, and_false, e10, e01, e00, if_true, if_false, Bool.false_eq_true, lit_ne, lit_lt, eq_self]
        · rw [g]; refine ⟨?_, ?_, ?_⟩ <;> simp (disch := omega) only [lt_litR, lt_litL, eq_litR, eq_litL, lt_nn, eq_nn, lt_n0, z_cl, add_lit, eq_m1, eq_m1', m1_lt, false_or, or_false, if_pos, if_neg, zbI_some, zbV_some, wr_same, wr_cell, wr_slot, ne_eq, not_true_eq_false, not_false_eq_true, true_and, and_true, false_and, and_false, e10, e01, e00, if_true, if_false, Bool.false_eq_true, lit_ne, lit_lt, eq_self]
theorem kF_goes {P : zS} {s : kSt} (h : (kF P s).2.2 38 31 = 0) : s.2.2 38 31 = 0 := by
  by_cases h0 : s.2.2 38 31 = 0
  · exact h0
  · rw [kF, if_pos h0] at h; exact h
theorem kIt_goes {P : zS} : ∀ (m : Nat) {s : kSt}, (kIt P m s).2.2 38 31 = 0 → s.2.2 38 31 = 0 := by
  intro m
  induction m with
  | zero => intro s h; exact h
  | succ m ih => intro s h; exact kF_goes (ih h)
theorem Mn.It {P : zS} : ∀ (m : Nat) {s : kSt} {n p b st : Nat}, kInv s.2.2 n p b st → Mn s.2.2 (kIt P m s).2.2 n p := by
  intro m
  induction m with
  | zero => intro s n p b st h; exact Mn.rf h
  | succ m ih =>
    intro s n p b st h hg
    have h1 := kIt_goes m (s := kF P s) hg
    have h0 := kF_goes h1
    obtain ⟨p', b', s', a1, a2, a3, a5, a4⟩ := Mn.F (P := P) h h0 h1
    obtain ⟨p2, b2, s2, c1, c2, c3, c5, c4⟩ := ih a1 hg
    refine ⟨p2, b2, s2, c1, by omega, fun h => c3 (a3 h), Nat.le_trans a5 c5, fun i hi => ?_⟩
    obtain ⟨d1, d2, d3⟩ := a4 i hi
    obtain ⟨f1, f2, f3⟩ := c4 i (Nat.lt_of_lt_of_le hi a5)
    exact ⟨f1.trans d1, f2.trans d2, f3.trans d3⟩
