theorem m_waitsFin (d m : Nat) (τ : zS) {n r : Nat} (hn : n < 1600) (h : τ 46 n = nI r) (hr : r < 8) : zexec zc_X8_waits zu_X8_waits (zM d) (m + 2) 52 [.inr (.inr 38), .inl (nI n), .inl 1] τ = some (0, 0, wr (wr τ 54 r (τ 38 44)) 38 37 (τ 38 37 + if τ 45 n = 5 then 1 else 0)) := by
  rw [qX8_waits_38_52, qX8_waits_38_72]
  by_cases h5 : τ 45 n = 5
  · simp (disch := omega) only [lt_litR, lt_litL, eq_litR, eq_litL, lt_nn, eq_nn, lt_n0, z_cl, add_lit, eq_m1, eq_m1', m1_lt, false_or, or_false, if_pos, if_neg, zbI_some, zbV_some, wr_same, wr_cell, wr_slot, ne_eq, not_true_eq_false, not_false_eq_true, true_and, and_true, false_and, and_false, e10, e01, e00, if_true, if_false, Bool.false_eq_true, lit_ne, lit_lt, eq_self, h, eq_true h5]
  · simp (disch := omega) only [lt_litR, lt_litL, eq_litR, eq_litL, lt_nn, eq_nn, lt_n0, z_cl, add_lit, eq_m1, eq_m1', m1_lt, false_or, or_false, if_pos, if_neg, zbI_some, zbV_some, wr_same, wr_cell, wr_slot, ne_eq, not_true_eq_false, not_false_eq_true, true_and, and_true, false_and, and_false, e10, e01, e00, if_true, if_false, Bool.false_eq_true, lit_ne, lit_lt, eq_self, h, h5]
theorem kTurn_do {P : zS} {e : Nat} {τ : zS} (h1 : ¬ pSo P e = 12) (h2 : ¬ pSo P e = 13) (h3 : ¬ 1000 < τ 38 36 + 1) : kTurn P e τ = kDo P e (wr τ 38 36 (τ 38 36 + 1)) := by
  rw [kTurn, if_neg h1, if_neg h2, if_neg h3]
theorem kTurn_stuck {P : zS} {e : Nat} {τ : zS} (h1 : ¬ pSo P e = 12) (h2 : ¬ pSo P e = 13) (h3 : 1000 < τ 38 36 + 1) : kTurn P e τ = (e, 0, wr (wr τ 38 36 (τ 38 36 + 1)) 38 31 3) := by
  rw [kTurn, if_neg h1, if_neg h2, if_pos h3]
theorem kF_turn {P τ : zS} {e : Nat} (h0 : τ 38 31 = 0) : kF P (e, 0, τ) = kTurn P e τ := by
  rw [kF]
  simp only [h0, not_true_eq_false, if_false, if_true]
theorem kTo.turn {P τ : zS} {e : Nat} {t : kSt} (h0 : τ 38 31 = 0) (h : kTo P (kTurn P e τ) t) : kTo P (e, 0, τ) t := by
  have h1 := kTo.one (P := P) (s := (e, 0, τ))
  rw [kF_turn h0] at h1
  exact h1.tr h
theorem i30 : ¬ (3 : Int32) = 0 := by decide
/-- where a list of statements stands when it is through -/
def kGood (P : zS) (e' n : Nat) (M : Nat) (t : kSt) : Prop := t.2.2 38 31 = 0 → t.1 = e' ∧ t.2.1 = 0 ∧ (∃ p b s, kInv t.2.2 n p b s) ∧ kMu t.2.2 ≤ M
theorem kGood.halt {P : zS} {e' n M : Nat} {t : kSt} (h : ¬ t.2.2 38 31 = 0) : kGood P e' n M t := fun h0 => absurd h0 h
theorem kGood.up {P : zS} {e' n M M2 : Nat} {t : kSt} (h : kGood P e' n M t) (hM : M ≤ M2) : kGood P e' n M2 t := fun h0 => by
  obtain ⟨h1, h2, h3, h4⟩ := h h0
  exact ⟨h1, h2, h3, Nat.le_trans h4 hM⟩
theorem m_waitsRest (P : zS) (d e n r : Nat) {x y : Nat} (T : zS) (hn : n < 1600) (hr : r < 8) (hP : P 17 e = nI r) (h46 : T 46 n = nI r)
    (ho : (T 45 n = 9 ∧ T 47 n = nI x ∧ x < 8) ∨ T 45 n = 5 ∨ (T 45 n = 3 ∧ T 47 n = nI x ∧ x < 8 ∧ T 48 n = nI y ∧ y < 8))
    (hD : ∀ τ, kDo P e τ = kWai P e τ (T 45 n) (T 47 n) (T 48 n)) (h12 : ¬ pSo P e = 12) (h13 : ¬ pSo P e = 13) :
    ∀ (N m : Nat) (τ : zS) (nn p b s : Nat), kInv τ nn p b s → τ 38 31 = 0 → kSame T τ → kMu τ ≤ N → N + 6 < m →
      ∃ t : kSt, zexec zc_X8_waits zu_X8_waits (zM (d + 3)) m 6 [.inr (.inr 38), .inl (nI n), .inl (if (kRdy τ (T 45 n) (T 47 n) (T 48 n)).1 then 1 else 0)] (kRdy τ (T 45 n) (T 47 n) (T 48 n)).2 = some (0, 0, t.2.2) ∧ kTo P (kWai P e τ (T 45 n) (T 47 n) (T 48 n)) t ∧ kGood P (e + 1) nn (kMu τ) t := by
  intro N
  induction N with
  | zero =>
    intro m τ nn p b s hI h0 hT hN hm
    exfalso
    have := hI.2.2.2.2.2.2.2.2
    rw [kMu, this.1, z_cl (by omega)] at hN
    omega
  | succ N ih =>
    intro m τ nn p b s hI h0 hT hN hm
    obtain ⟨m, rfl⟩ : ∃ k, m = k + 5 := ⟨m - 5, by omega⟩
    rw [qX8_waits_38_6, kWai]
    obtain ⟨g, hg⟩ := kRdy_gave τ (T 45 n) (T 47 n) (T 48 n)
    rw [hg]
    have hT1 : kSame T (wr τ 38 44 g) := kSame.w38 _ (by omega) hT
    obtain ⟨hI1, hM1⟩ := hI.cong (τ' := wr τ 38 44 g) (fun k hk => wr_slot _ _ _ (by omega))
    have g0 : wr τ 38 44 g 38 31 = 0 := by rw [wr_slot _ _ _ (by omega), h0]
    by_cases hr1 : (kRdy τ (T 45 n) (T 47 n) (T 48 n)).1
    · rw [if_pos hr1, if_pos hr1, if_neg (by decide), m_waitsFin _ _ _ hn (by rw [hT1.1 46 (by omega) (by omega) (by omega) (by omega) (by omega), h46]) hr]
      rw [hT1.1 45 (by omega) (by omega) (by omega) (by omega) (by omega), hP, z_cl (by omega)]
      refine ⟨_, rfl, kTo.rf, fun _ => ⟨rfl, rfl, ?_, ?_⟩⟩
      · have := (hI1.cong (τ' := wr (wr (wr τ 38 44 g) 54 r (wr τ 38 44 g 38 44)) 38 37 (wr τ 38 44 g 38 37 + if T 45 n = 5 then 1 else 0)) (fun k hk => by rw [wr_slot _ _ _ (by omega), wr_cell _ _ _ (by omega)])).1
        exact ⟨_, _, _, this⟩
      · have := (hI1.cong (τ' := wr (wr (wr τ 38 44 g) 54 r (wr τ 38 44 g 38 44)) 38 37 (wr τ 38 44 g 38 37 + if T 45 n = 5 then 1 else 0)) (fun k hk => by rw [wr_slot _ _ _ (by omega), wr_cell _ _ _ (by omega)])).2
        exact Nat.le_of_eq (this.trans hM1)
    · rw [if_neg hr1, if_neg hr1, if_pos rfl, if_pos g0, m_goOn (n := nn) (p := p) d _ hI1.1 hI1.2.1 hI1.2.2.1 hI1.2.2.2.2.2.2.1, zbV_some]
      have hF : kTo P (e, 1, wr τ 38 44 g) (e, 0, kGo (wr τ 38 44 g)) := by
        have := kTo.one (P := P) (s := (e, 1, wr τ 38 44 g))
        rw [kF_go g0 (Or.inl rfl)] at this
        exact this
      have hT2 : kSame T (kGo (wr τ 38 44 g)) := kGo_same hT1
      by_cases hg2 : kGo (wr τ 38 44 g) 38 31 = 0
      · obtain ⟨p', b', hI', hM, _⟩ := hI1.go hg2 g0
        rw [if_pos hg2, m_step]
        by_cases hs : 1000 < kGo (wr τ 38 44 g) 38 36 + 1
        · rw [if_pos hs, zbI_some, if_pos rfl, qX8_waits_38_6, if_pos rfl, if_neg (by rw [wr_same]; exact i30), qX8_waits_38_52, if_pos rfl]
          refine ⟨(e, 0, wr (wr (kGo (wr τ 38 44 g)) 38 36 (kGo (wr τ 38 44 g) 38 36 + 1)) 38 31 3), rfl, hF.tr (kTo.turn hg2 ?_), kGood.halt (by simp only [wr_same]; exact i30)⟩
          rw [kTurn_stuck h12 h13 hs]
          exact kTo.rf
        · obtain ⟨hI2, hM2⟩ := hI'.step hs
          have hT3 : kSame T (wr (kGo (wr τ 38 44 g)) 38 36 (kGo (wr τ 38 44 g) 38 36 + 1)) := kSame.w38 _ (by omega) hT2
          have g3 : wr (kGo (wr τ 38 44 g)) 38 36 (kGo (wr τ 38 44 g) 38 36 + 1) 38 31 = 0 := by rw [wr_slot _ _ _ (by omega), hg2]
          rw [if_neg hs, if_pos hg2, zbI_some, if_neg (by decide)]
          have e45 := hT3.1 45 (by omega) (by omega) (by omega) (by omega) (by omega)
          have e47 := hT3.1 47 (by omega) (by omega) (by omega) (by omega) (by omega)
          have e48 := hT3.1 48 (by omega) (by omega) (by omega) (by omega) (by omega)
          have hrd := m_isReady (d + 1) (wr (kGo (wr τ 38 44 g)) 38 36 (kGo (wr τ 38 44 g) 38 36 + 1)) (n := n) (x := x) (y := y) hI2.2.2.1 hI2.2.2.2.1 hI2.2.2.2.2.1 (by have := hI2.2.2.2.2.2.1; omega) hn (by rw [e45, e47, e48]; exact ho)
          rw [hrd, zbI_some, e45, e47, e48]
          obtain ⟨t, t1, t2, t3⟩ := ih (m + 4) _ nn p' b' _ hI2 g3 hT3 (by omega) (by omega)
          refine ⟨t, ?_, hF.tr (kTo.turn hg2 ?_), t3.up (by omega)⟩
          · rw [← t1]
            by_cases hr2 : (kRdy (wr (kGo (wr τ 38 44 g)) 38 36 (kGo (wr τ 38 44 g) 38 36 + 1)) (T 45 n) (T 47 n) (T 48 n)).1
            · simp only [hr2, if_true, e10, if_false]
            · simp only [hr2, if_false, if_true, Bool.false_eq_true]
          · rw [kTurn_do h12 h13 hs, hD]
            exact t2
      · rw [if_neg hg2, qX8_waits_38_6, if_pos rfl, if_neg hg2, qX8_waits_38_52, if_pos rfl]
        exact ⟨_, rfl, hF, kGood.halt (t := (e, 0, _)) hg2⟩

theorem m_waits (P : zS) (d e n r : Nat) {x y : Nat} (T : zS) (hn : n < 1600) (hr : r < 8) (hP : P 17 e = nI r) (h46 : T 46 n = nI r)
    (ho : (T 45 n = 9 ∧ T 47 n = nI x ∧ x < 8) ∨ T 45 n = 5 ∨ (T 45 n = 3 ∧ T 47 n = nI x ∧ x < 8 ∧ T 48 n = nI y ∧ y < 8))
    (hD : ∀ τ, kDo P e τ = kWai P e τ (T 45 n) (T 47 n) (T 48 n)) (h12 : ¬ pSo P e = 12) (h13 : ¬ pSo P e = 13)
    {τ : zS} {nn p b s : Nat} (hI : kInv τ nn p b s) (h0 : τ 38 31 = 0) (hT : kSame T τ) (hM : kMu τ ≤ 300000) :
      ∃ t : kSt, zM (d + 4) mX8_waits [.inr (.inr 38), .inl (nI n)] τ = some (0, 0, t.2.2) ∧ kTo P (kDo P e τ) t ∧ kGood P (e + 1) nn (kMu τ) t := by
  have e45 := hT.1 45 (by omega) (by omega) (by omega) (by omega) (by omega)
  have e47 := hT.1 47 (by omega) (by omega) (by omega) (by omega) (by omega)
  have e48 := hT.1 48 (by omega) (by omega) (by omega) (by omega) (by omega)
  have hrd := m_isReady (d + 1) τ (n := n) (x := x) (y := y) hI.2.2.1 hI.2.2.2.1 hI.2.2.2.2.1 (by have := hI.2.2.2.2.2.1; omega) hn (by rw [e45, e47, e48]; exact ho)
  rw [qX8_waits_38, qX8_waits_38_0, hrd, zbI_some, e45, e47, e48, hD]
  exact m_waitsRest P d e n r T hn hr hP h46 ho hD h12 h13 300000 999999 τ nn p b s hI h0 hT hM (by omega)
