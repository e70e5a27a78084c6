theorem nin {x N : Nat} (h : x < N) (hN : N < 2 ^ 31) : ¬ (nI x < 0 ∨ N ≤ x) := fun h2 => h2.elim (nI_pos (by omega)) (by omega)
theorem m_turnLoop (P T : zS) (k : Nat) (hz : pSz P ≤ 200) (hk : gList P T k) (D : Nat) (hD : 3 * k + 521 ≤ D) {n e e' i i' : Nat} (hR : RpS P T (k + 1) n e e' i i') (hL : T 45 n = 12) (hE : pEnd P e' i') :
    ∀ (N m : Nat) (τ : zS) (nn p b s : Nat), kInv τ nn p b s → kSame T τ → kMu τ ≤ 300000 → τ 38 31 = 0 → kMu τ ≤ N → N + 2 < m →
      ∃ t : kSt, zexec zc_X8_turn zu_X8_turn (zM D) m 0 [.inr (.inr 38), .inl (nI n)] τ = some (0, 0, t.2.2) ∧ kTo P (e, 0, τ) t ∧ kGood P e' nn (kMu τ) t := by
  have hle := pEnd_le hE
  have hlt := RepS_lt hR
  have hso := pSo_in (P := P) (e := e) (by omega)
  obtain ⟨hn, hfr, hi, hi', hR⟩ := hR
  rcases hR with ⟨_, _, hR⟩ | ⟨_, ho, _⟩ | ⟨ho, _⟩ | ⟨ho, hs, x, j, e1, l, hx, hX, hj, hc, hs1, hf1, hfr1, rfl, hfe⟩
  · exfalso
    rcases hR with ⟨ho, _⟩ | ⟨ho, _⟩ | ⟨ho, _⟩ | ⟨_, ho, _⟩ | ⟨_, ho, _⟩ | ⟨_, ho, _⟩ | ⟨_, ho, _⟩ | ⟨_, ho, _⟩ | ⟨_, ho, _⟩ <;> rw [hL] at ho <;> exact absurd ho (by decide)
  · rw [hL] at ho; exact absurd ho (by decide)
  · rw [hL] at ho; exact absurd ho (by decide)
  have hE0 : pEnd P e1 i' := ⟨hi', Or.inl ⟨by omega, hfr1⟩⟩
  have hE1 : pEnd P (e + 1) j := Chain_end hc hE0
  have h12 : ¬ pSo P e = 12 := by rw [hso, hs]; decide
  have h13 : ¬ pSo P e = 13 := by rw [hso, hs]; decide
  intro N
  induction N with
  | zero =>
    intro m τ nn p b s hI hT hM h0 hN hm
    exfalso
    have := hI.2.2.2.2.2.2.2.2
    rw [kMu, this.1, z_cl (by omega)] at hN
    omega
  | succ N ih =>
    intro m τ nn p b s hI hT hM h0 hN hm
    obtain ⟨m, rfl⟩ : ∃ k, m = k + 2 := ⟨m - 2, by omega⟩
    obtain ⟨D, rfl⟩ : ∃ k, D = k + 1 := ⟨D - 1, by omega⟩
    rw [qX8_turn_38_0, if_pos h0, m_step]
    by_cases hs2 : 1000 < τ 38 36 + 1
    · rw [if_pos hs2, zbI_some, if_pos rfl]
      refine ⟨(e, 0, wr (wr τ 38 36 (τ 38 36 + 1)) 38 31 3), rfl, kTo.turn h0 ?_, kGood.halt (by simp only [wr_same]; exact i30)⟩
      rw [kTurn_stuck h12 h13 hs2]
      exact kTo.rf
    · obtain ⟨hI1, hM1⟩ := hI.step hs2
      have hT1 : kSame T (wr τ 38 36 (τ 38 36 + 1)) := kSame.w38 _ (by omega) hT
      have g0 : wr τ 38 36 (τ 38 36 + 1) 38 31 = 0 := by rw [wr_slot _ _ _ (by omega), h0]
      have hw := ev_val hX hfr hi (pIe_end hE1) hT1 (D + 1) (by omega)
      have hdo : kTo P (e, 0, τ) (kDo P e (wr τ 38 36 (τ 38 36 + 1))) := kTo.turn h0 (by rw [kTurn_do h12 h13 hs2]; exact kTo.rf)
      rw [if_neg hs2, if_pos h0, zbI_some, if_neg (by decide), if_neg (nI_in hn (by omega)), z_cl (by omega), kT hT1 (c := 46) (by omega), hx, hw, zbI_some, if_neg (nin hn (by omega)), kT hT1 (c := 47) (by omega)]
      generalize hτ1 : wr τ 38 36 (τ 38 36 + 1) = τ1 at *
      by_cases hv : pEv P e (τ1 54) = 0
      · rw [if_pos hv]
        have hd2 : kDo P e τ1 = (e1 + 1, 0, τ1) := by
          rw [kDo]
          simp (disch := omega) only [lt_litR, lt_litL, eq_litR, eq_litL, lt_nn, eq_nn, lt_n0, z_cl, add_lit, eq_m1, eq_m1', m1_lt, false_or, or_false, if_pos, if_neg, zbI_some, zbV_some, wr_same, wr_cell, wr_slot, ne_eq, not_true_eq_false, not_false_eq_true, true_and, and_true, false_and, and_false, e10, e01, e00, if_true, if_false, Bool.false_eq_true, lit_ne, lit_lt, eq_self, hs, eq_true hv, hfe]
        rw [hd2] at hdo
        exact ⟨(e1 + 1, 0, τ1), rfl, hdo, fun _ => ⟨rfl, rfl, ⟨_, _, _, hI1⟩, by simp only; omega⟩⟩
      · rw [if_neg hv]
        have hd2 : kDo P e τ1 = (e + 1, 0, τ1) := by
          rw [kDo]
          simp (disch := omega) only [lt_litR, lt_litL, eq_litR, eq_litL, lt_nn, eq_nn, lt_n0, z_cl, add_lit, eq_m1, eq_m1', m1_lt, false_or, or_false, if_pos, if_neg, zbI_some, zbV_some, wr_same, wr_cell, wr_slot, ne_eq, not_true_eq_false, not_false_eq_true, true_and, and_true, false_and, and_false, e10, e01, e00, if_true, if_false, Bool.false_eq_true, lit_ne, lit_lt, eq_self, hs, hv]
        rw [hd2] at hdo
        obtain ⟨t, t1, t2, t3⟩ := hk (D + 1) (by omega) l _ _ _ _ _ τ1 nn p b _ hc hE0 hI1 g0 hT1 (by omega)
        rw [t1, zbV_some]
        by_cases hh : t.2.2 38 31 = 0
        · obtain ⟨g1, g2, ⟨p', b', s', g3⟩, g4⟩ := t3 hh
          have hT2 := hT1.tr t2.same
          obtain ⟨te, tw, tt⟩ := t
          simp only at g1 g2 g3 g4 hh hT2
          subst g1 g2
          obtain ⟨u, u1, u2, u3⟩ := ih (m + 1) tt nn p' b' s' g3 hT2 (by omega) hh (by omega) (by omega)
          refine ⟨u, u1, hdo.tr (t2.tr (kTo.turn hh ?_)), u3.up (by omega)⟩
          rw [kTurn, if_pos (by rw [pSo_in (by omega), hs1]), hf1, z_cl (by omega)]
          exact u2
        · rw [qX8_turn_38_0, if_neg hh]
          exact ⟨t, rfl, hdo.tr t2, kGood.halt hh⟩
theorem m_listLoop (P T : zS) (k : Nat) (hz : pSz P ≤ 200) (hk : gList P T k) (D : Nat) (hD : 3 * k + 522 ≤ D) : ∀ (l : List Nat) (m : Nat) (hd : Int32) (e e' i i' : Nat) (τ : zS) (n p b s : Nat), Chain (RpS P T (k + 1)) (T 49) l hd e e' i i' → pEnd P e' i' → kInv τ n p b s → τ 38 31 = 0 → kSame T τ → kMu τ ≤ 300000 → l.length + 2 < m →
    ∃ t : kSt, zexec zc_X8_list zu_X8_list (zM D) m 2 [.inr (.inr 38), .inl hd] τ = some (0, 0, t.2.2) ∧ kTo P (e, 0, τ) t ∧ kGood P e' n (kMu τ) t := by
  intro l
  induction l with
  | nil =>
    intro m hd e e' i i' τ n p b s hc hE hI h0 hT hM hm
    obtain ⟨rfl, rfl, rfl⟩ := hc
    obtain ⟨m, rfl⟩ : ∃ k, m = k + 1 := ⟨m - 1, by omega⟩
    rw [qX8_list_38_2, if_pos rfl]
    exact ⟨(e, 0, τ), rfl, kTo.rf, fun _ => ⟨rfl, rfl, ⟨_, _, _, hI⟩, Nat.le_refl _⟩⟩
  | cons x l ih =>
    intro m hd e e' i i' τ n p b s hc hE hI h0 hT hM hm
    obtain ⟨rfl, e1, i1, hS, hc⟩ := hc
    simp only [List.length_cons] at hm
    obtain ⟨m, rfl⟩ : ∃ k, m = k + 2 := ⟨m - 2, by omega⟩
    obtain ⟨D, rfl⟩ : ∃ k, D = k + 1 := ⟨D - 1, by omega⟩
    have hE1 : pEnd P e1 i1 := Chain_end hc hE
    have hx : x < 1600 := hS.1
    have hx1 : ¬ nI x = -1 := by rw [eq_m1 (by omega)]; exact fun h => h
    rw [qX8_list_38_2, if_neg hx1, if_pos h0, if_neg (nI_in hx (by omega)), z_cl (by omega), kT hT (c := 45) (by omega)]
    -- what follows a statement that is through
    have key : ∀ t : kSt, kTo P (e, 0, τ) t → kGood P e1 n (kMu τ) t → ∃ u : kSt, zexec zc_X8_list zu_X8_list (zM (D + 1)) (m + 1) 2 [.inr (.inr 38), .inl (t.2.2 49 x)] t.2.2 = some (0, 0, u.2.2) ∧ kTo P (e, 0, τ) u ∧ kGood P e' n (kMu τ) u := by
      intro t t2 t3
      by_cases hh : t.2.2 38 31 = 0
      · obtain ⟨g1, g2, ⟨p', b', s', g3⟩, g4⟩ := t3 hh
        have hT2 := hT.tr t2.same
        obtain ⟨te, tw, tt⟩ := t
        simp only at g1 g2 g3 g4 hh hT2
        subst g1 g2
        obtain ⟨u, u1, u2, u3⟩ := ih (m + 1) (T 49 x) te e' i1 i' tt n p' b' s' hc hE g3 hh hT2 (by omega) (by omega)
        refine ⟨u, ?_, t2.tr u2, u3.up g4⟩
        simp only [← u1, kT hT2 (c := 49) (by omega)]
      · exact ⟨t, m_listStop _ _ _ _ hh, t2, kGood.halt hh⟩
    by_cases hL : T 45 x = 12
    · rw [if_pos hL, qX8_turn_38]
      obtain ⟨t, t1, t2, t3⟩ := m_turnLoop P T k hz hk D (by omega) hS hL hE1 300000 1000000 τ n p b s hI hT hM h0 hM (by omega)
      rw [t1, zbV_some, if_neg (nin hx (by omega))]
      exact key t t2 t3
    · rw [if_neg hL, m_step]
      by_cases hs2 : 1000 < τ 38 36 + 1
      · rw [if_pos hs2, zbI_some, if_pos rfl, if_neg (nin hx (by omega))]
        have hh : ¬ (wr (wr τ 38 36 (τ 38 36 + 1)) 38 31 3) 38 31 = 0 := by simp only [wr_same]; exact i30
        rw [m_listStop _ _ _ _ hh]
        have h5 := pEnd_le hE1
        have h6 := RepS_lt hS
        have : ¬ pSo P e = 12 ∧ ¬ pSo P e = 13 := by
          rw [pSo_in (by omega)]
          obtain ⟨_, _, _, _, hR⟩ := hS
          rcases hR with ⟨_, _, hR⟩ | ⟨_, _, ho, _⟩ | ⟨_, ho, _⟩ | ⟨_, ho, _⟩
          · rcases hR with ⟨_, ho, _⟩ | ⟨_, ho, _⟩ | ⟨_, ho, _⟩ | ⟨_, _, ho, _⟩ | ⟨_, _, ho, _⟩ | ⟨_, _, ho, _⟩ | ⟨_, _, ho⟩ | ⟨_, _, ho⟩ | ⟨_, _, ho, _⟩ <;> rw [ho] <;> decide
          · rw [ho]; decide
          · rw [ho]; decide
          · rw [ho]; decide
        refine ⟨(e, 0, wr (wr τ 38 36 (τ 38 36 + 1)) 38 31 3), rfl, kTo.turn h0 ?_, kGood.halt hh⟩
        rw [kTurn_stuck this.1 this.2 hs2]
        exact kTo.rf
      · obtain ⟨hI1, hM1⟩ := hI.step hs2
        have hT1 : kSame T (wr τ 38 36 (τ 38 36 + 1)) := kSame.w38 _ (by omega) hT
        have g0 : wr τ 38 36 (τ 38 36 + 1) 38 31 = 0 := by rw [wr_slot _ _ _ (by omega), h0]
        obtain ⟨h12, h13, t, t1, t2, t3⟩ := m_statement P T k hz hk (D + 1) (by omega) hS hL hE1 hI1 g0 hT1 (by omega)
        rw [if_neg hs2, if_pos h0, zbI_some, if_neg (by decide), t1, zbV_some, if_neg (nin hx (by omega))]
        refine key t (kTo.turn h0 ?_) (t3.up (by omega))
        rw [kTurn_do h12 h13 hs2]
        exact t2
theorem g_list (P T : zS) (hz : pSz P ≤ 200) : ∀ k, gList P T k := by
  intro k
  induction k with
  | zero =>
    intro D hD l hd e e' i i' τ n p b s hc hE hI h0 hT hM
    obtain ⟨D, rfl⟩ : ∃ k, D = k + 1 := ⟨D - 1, by omega⟩
    cases l with
    | cons x l => obtain ⟨_, _, _, h, _⟩ := hc; exact h.elim
    | nil =>
      obtain ⟨rfl, rfl, rfl⟩ := hc
      rw [qX8_list_38, qX8_list_38_0, qX8_list_38_2, if_pos rfl]
      exact ⟨(e, 0, τ), rfl, kTo.rf, fun _ => ⟨rfl, rfl, ⟨_, _, _, hI⟩, Nat.le_refl _⟩⟩
  | succ k ih =>
    intro D hD l hd e e' i i' τ n p b s hc hE hI h0 hT hM
    obtain ⟨D, rfl⟩ : ∃ k, D = k + 1 := ⟨D - 1, by omega⟩
    rw [qX8_list_38, qX8_list_38_0]
    have h1 := Chain_len (fun _ _ _ _ _ h => RepS_lt h) hc
    have h2 := pEnd_le hE
    exact m_listLoop P T k hz ih D (by omega) l 999999 hd e e' i i' τ n p b s hc hE hI h0 hT hM (by omega)
