theorem kGave_val {σ τ : zS} {N k i : Nat} (H : HRel σ τ N) (hk : k < N) (he : kEnds τ k i) : kGave τ k = if τ 50 k = 6 then -1 else τ 52 k := by
  obtain ⟨⟨m, hm, h1⟩, h2, _⟩ := H.2.2.2.1 k hk
  obtain ⟨e1, e2, _⟩ := he
  rw [kGave]
  rw [h1] at e1 e2 h2 ⊢
  simp (disch := omega) only [lt_litR, lt_litL, eq_litR, eq_litL, lt_nn, eq_nn, lt_n0, z_cl, add_lit, eq_m1, eq_m1', m1_lt, false_or, or_false, if_pos, if_neg, zbI_some, zbV_some, wr_same, wr_cell, wr_slot, ne_eq, not_true_eq_false, not_false_eq_true, true_and, and_true, false_and, and_false, e10, e01, e00, if_true, if_false, Bool.false_eq_true, lit_ne, lit_lt, eq_self] at e1 e2
  by_cases h5 : m = 5
  · subst h5; simp (disch := omega) only [lt_litR, lt_litL, eq_litR, eq_litL, lt_nn, eq_nn, lt_n0, z_cl, add_lit, eq_m1, eq_m1', m1_lt, false_or, or_false, if_pos, if_neg, zbI_some, zbV_some, wr_same, wr_cell, wr_slot, ne_eq, not_true_eq_false, not_false_eq_true, true_and, and_true, false_and, and_false, e10, e01, e00, if_true, if_false, Bool.false_eq_true, lit_ne, lit_lt, eq_self]
  · by_cases h6 : m = 6
    · subst h6; simp (disch := omega) only [lt_litR, lt_litL, eq_litR, eq_litL, lt_nn, eq_nn, lt_n0, z_cl, add_lit, eq_m1, eq_m1', m1_lt, false_or, or_false, if_pos, if_neg, zbI_some, zbV_some, wr_same, wr_cell, wr_slot, ne_eq, not_true_eq_false, not_false_eq_true, true_and, and_true, false_and, and_false, e10, e01, e00, if_true, if_false, Bool.false_eq_true, lit_ne, lit_lt, eq_self]
    · obtain rfl : m = 7 := by omega
      rw [h2 (Or.inl rfl)]
      simp (disch := omega) only [lt_litR, lt_litL, eq_litR, eq_litL, lt_nn, eq_nn, lt_n0, z_cl, add_lit, eq_m1, eq_m1', m1_lt, false_or, or_false, if_pos, if_neg, zbI_some, zbV_some, wr_same, wr_cell, wr_slot, ne_eq, not_true_eq_false, not_false_eq_true, true_and, and_true, false_and, and_false, e10, e01, e00, if_true, if_false, Bool.false_eq_true, lit_ne, lit_lt, eq_self]
/-- the class asks what an act or a timer is over by -/
theorem c_over (d : Nat) {P σ τ : zS} {e w n p b s : Nat} (H : SimW P σ e w τ n p b s) (x : Int32) : ∃ N, N ≤ 200 ∧ HRel σ τ N ∧
    ((zM (d + 3) mX4_endOf [.inr (.inr 34), .inl x] σ = some (1, -1, σ) ∧ kDone τ x = none) ∨
     (zM (d + 3) mX4_endOf [.inr (.inr 34), .inl x] σ = some (1, -2, σ) ∧ kDone τ x = some (-2)) ∨
     (∃ k i, k < N ∧ kEnds τ k i ∧ zM (d + 3) mX4_endOf [.inr (.inr 34), .inl x] σ = some (1, nI k, σ) ∧ kDone τ x = some (kGave τ k))) := by
  obtain ⟨a1, a2, a3, a4, a5, a6, a7, a8, a9, a10, a11, a12, a13, a14, a15, a16, a17, a18, a19⟩ := H
  have hi33 := a15.2.2.1
  have hi32 := a15.2.2.2.2.1
  have hp2 := a15.2.2.2.1
  obtain ⟨N, hN, hpN⟩ : ∃ N, HRel σ τ N ∧ p ≤ N := by
    rcases a12 with h | h
    · obtain ⟨b1, b2, E, b3, b4, b5, b6⟩ := a17.1 h
      exact ⟨n, b2, by omega⟩
    · exact ⟨p, (a17.2 (by rw [h]; decide)).1, Nat.le_refl _⟩
  have hN2 := hN.2.1
  refine ⟨N, hN2, hN, ?_⟩
  rw [qX4_endOf_34, qX4_endOf_34_0, kDone, hi33, hi32]
  by_cases h1 : x < 0
  · refine Or.inr (Or.inl ⟨?_, by rw [if_neg (fun h => h.1 h1)]⟩)
    rw [c_kindAt_neg d hN h1, zbI_some, a10]
    by_cases h2 : x < nI p
    · rw [if_pos h2, if_neg (by decide), if_neg (by decide)]
    · rw [if_neg h2]
  · obtain ⟨j, hj, rfl⟩ := nI_of h1
    rw [c_kindAt d hN j hj, zbI_some, a10, a9, z_cl (by omega), z_cl (by omega)]
    by_cases h2 : j < p
    · rw [if_pos (nI_lt h2 (by omega)), if_pos (show j < N by omega)]
      by_cases h3 : τ 50 j = 1 ∨ τ 50 j = 2
      · rw [if_pos (show ¬ nI j < 0 ∧ nI j < nI p ∧ (τ 50 j = 1 ∨ τ 50 j = 2) from ⟨h1, nI_lt h2 (by omega), h3⟩)]
        have he := c_endOf d hN (i := j) (b := b) (by omega) (by omega)
        have hz : ∀ r, zM (d + 2) mX0_endOf [.inr (.inr 24), .inl (nI j), .inl (nI b)] σ = some (1, r, σ) → (if τ 50 j = 1 then zbI (zM (d + 2) mX0_endOf [.inr (.inr 24), .inl (nI j), .inl (nI b)] σ) (fun r2 s2 => some (1, r2, s2)) else if τ 50 j = 2 then zbI (zM (d + 2) mX0_endOf [.inr (.inr 24), .inl (nI j), .inl (nI b)] σ) (fun r3 s3 => some (1, r3, s3)) else some (1, -2, σ)) = some (1, r, σ) := by
          intro r hr
          rw [hr, zbI_some]
          rcases h3 with h3 | h3
          · rw [if_pos h3]
          · rw [if_pos h3]
            split <;> rfl
        rcases he with ⟨e1, e2⟩ | ⟨k, k1, k2, k3, e1, e2⟩
        · exact Or.inl ⟨hz _ e1, e2⟩
        · exact Or.inr (Or.inr ⟨k, j, by omega, k3, hz _ e1, e2⟩)
      · rw [if_neg (show ¬ (¬ nI j < 0 ∧ nI j < nI p ∧ (τ 50 j = 1 ∨ τ 50 j = 2)) from fun h => h3 h.2.2), if_neg (fun h => h3 (Or.inl h)), if_neg (fun h => h3 (Or.inr h))]
        exact Or.inr (Or.inl ⟨rfl, rfl⟩)
    · rw [if_neg (nI_nlt (by omega) (by omega)), if_neg (show ¬ (¬ nI j < 0 ∧ nI j < nI p ∧ (τ 50 j = 1 ∨ τ 50 j = 2)) from fun h => h2 ((nI_ltI (by omega) (by omega)).mp h.2.1))]
      exact Or.inr (Or.inl ⟨rfl, rfl⟩)
/-- a turn of the class and a move of the flat machine -/
def RelT (P σ : zS) (t : kSt) (n b s : Nat) (σ' : zS) : Prop := cFrm σ σ' ∧ (t.2.2 38 31 = 0 → ∃ p, SimW P σ' t.1 t.2.1 t.2.2 n p b s) ∧ (¬ t.2.2 38 31 = 0 → SimH σ' t.2.2 n)
theorem RelT.fr {P σ0 σ σ' : zS} {t : kSt} {n b s : Nat} (h : RelT P σ t n b s σ') (h2 : cFrm σ0 σ) : RelT P σ0 t n b s σ' := ⟨h2.tr h.1, h.2⟩
theorem RelT.go {P σ σ' τ : zS} {e w n p b s : Nat} (H : SimW P σ' e w τ n p b s) (h : cFrm σ σ') : RelT P σ (e, w, τ) n b s σ' :=
  ⟨h, fun _ => ⟨p, H⟩, fun h => absurd H.2.2.2.2.2.2.2.2.2.2.2.2.2.2.2.2.2.2 h⟩
theorem RelT.no {P σ σ' : zS} {t : kSt} {n b s : Nat} (h : cFrm σ σ') (h2 : ¬ t.2.2 38 31 = 0) (h3 : SimH σ' t.2.2 n) : RelT P σ t n b s σ' := ⟨h, fun h => absurd h h2, fun _ => h3⟩
theorem SimW.stop {P σ τ : zS} {e n p b s : Nat} (H : SimW P σ e 0 τ n p b s) : SimW P (wr σ 30 5 1) e 2 (wr τ 38 38 1) n p b s ∧ cFrm σ (wr σ 30 5 1) := by
  obtain ⟨a1, a2, a3, a4, a5, a6, a7, a8, a9, a10, a11, a12, a13, a14, a15, a16, a17, a18, a19⟩ := H
  exact ⟨⟨⟨fun c c1 c2 => by rw [wr_cell _ _ _ (by omega), a1.1 c c1 c2], a1.2⟩, by simp (disch := omega) only [lt_litR, lt_litL, eq_litR, eq_litL, lt_nn, eq_nn, lt_n0, z_cl, add_lit, eq_m1, eq_m1', m1_lt, false_or, or_false, if_pos, if_neg, zbI_some, zbV_some, wr_same, wr_cell, wr_slot, ne_eq, not_true_eq_false, not_false_eq_true, true_and, and_true, false_and, and_false, e10, e01, e00, if_true, if_false, Bool.false_eq_true, lit_ne, lit_lt, eq_self, a2], a3, fun r hr => by simp (disch := omega) only [lt_litR, lt_litL, eq_litR, eq_litL, lt_nn, eq_nn, lt_n0, z_cl, add_lit, eq_m1, eq_m1', m1_lt, false_or, or_false, if_pos, if_neg, zbI_some, zbV_some, wr_same, wr_cell, wr_slot, ne_eq, not_true_eq_false, not_false_eq_true, true_and, and_true, false_and, and_false, e10, e01, e00, if_true, if_false, Bool.false_eq_true, lit_ne, lit_lt, eq_self, a4 r hr], by simp (disch := omega) only [lt_litR, lt_litL, eq_litR, eq_litL, lt_nn, eq_nn, lt_n0, z_cl, add_lit, eq_m1, eq_m1', m1_lt, false_or, or_false, if_pos, if_neg, zbI_some, zbV_some, wr_same, wr_cell, wr_slot, ne_eq, not_true_eq_false, not_false_eq_true, true_and, and_true, false_and, and_false, e10, e01, e00, if_true, if_false, Bool.false_eq_true, lit_ne, lit_lt, eq_self, a5], by simp (disch := omega) only [lt_litR, lt_litL, eq_litR, eq_litL, lt_nn, eq_nn, lt_n0, z_cl, add_lit, eq_m1, eq_m1', m1_lt, false_or, or_false, if_pos, if_neg, zbI_some, zbV_some, wr_same, wr_cell, wr_slot, ne_eq, not_true_eq_false, not_false_eq_true, true_and, and_true, false_and, and_false, e10, e01, e00, if_true, if_false, Bool.false_eq_true, lit_ne, lit_lt, eq_self]; exact a6, by simp (disch := omega) only [lt_litR, lt_litL, eq_litR, eq_litL, lt_nn, eq_nn, lt_n0, z_cl, add_lit, eq_m1, eq_m1', m1_lt, false_or, or_false, if_pos, if_neg, zbI_some, zbV_some, wr_same, wr_cell, wr_slot, ne_eq, not_true_eq_false, not_false_eq_true, true_and, and_true, false_and, and_false, e10, e01, e00, if_true, if_false, Bool.false_eq_true, lit_ne, lit_lt, eq_self, a7], by simp (disch := omega) only [lt_litR, lt_litL, eq_litR, eq_litL, lt_nn, eq_nn, lt_n0, z_cl, add_lit, eq_m1, eq_m1', m1_lt, false_or, or_false, if_pos, if_neg, zbI_some, zbV_some, wr_same, wr_cell, wr_slot, ne_eq, not_true_eq_false, not_false_eq_true, true_and, and_true, false_and, and_false, e10, e01, e00, if_true, if_false, Bool.false_eq_true, lit_ne, lit_lt, eq_self], by simp (disch := omega) only [lt_litR, lt_litL, eq_litR, eq_litL, lt_nn, eq_nn, lt_n0, z_cl, add_lit, eq_m1, eq_m1', m1_lt, false_or, or_false, if_pos, if_neg, zbI_some, zbV_some, wr_same, wr_cell, wr_slot, ne_eq, not_true_eq_false, not_false_eq_true, true_and, and_true, false_and, and_false, e10, e01, e00, if_true, if_false, Bool.false_eq_true, lit_ne, lit_lt, eq_self, a9], by simp (disch := omega) only [lt_litR, lt_litL, eq_litR, eq_litL, lt_nn, eq_nn, lt_n0, z_cl, add_lit, eq_m1, eq_m1', m1_lt, false_or, or_false, if_pos, if_neg, zbI_some, zbV_some, wr_same, wr_cell, wr_slot, ne_eq, not_true_eq_false, not_false_eq_true, true_and, and_true, false_and, and_false, e10, e01, e00, if_true, if_false, Bool.false_eq_true, lit_ne, lit_lt, eq_self, a10], by simp (disch := omega) only [lt_litR, lt_litL, eq_litR, eq_litL, lt_nn, eq_nn, lt_n0, z_cl, add_lit, eq_m1, eq_m1', m1_lt, false_or, or_false, if_pos, if_neg, zbI_some, zbV_some, wr_same, wr_cell, wr_slot, ne_eq, not_true_eq_false, not_false_eq_true, true_and, and_true, false_and, and_false, e10, e01, e00, if_true, if_false, Bool.false_eq_true, lit_ne, lit_lt, eq_self, a11], by simp (disch := omega) only [lt_litR, lt_litL, eq_litR, eq_litL, lt_nn, eq_nn, lt_n0, z_cl, add_lit, eq_m1, eq_m1', m1_lt, false_or, or_false, if_pos, if_neg, zbI_some, zbV_some, wr_same, wr_cell, wr_slot, ne_eq, not_true_eq_false, not_false_eq_true, true_and, and_true, false_and, and_false, e10, e01, e00, if_true, if_false, Bool.false_eq_true, lit_ne, lit_lt, eq_self]; exact a12, by simp (disch := omega) only [lt_litR, lt_litL, eq_litR, eq_litL, lt_nn, eq_nn, lt_n0, z_cl, add_lit, eq_m1, eq_m1', m1_lt, false_or, or_false, if_pos, if_neg, zbI_some, zbV_some, wr_same, wr_cell, wr_slot, ne_eq, not_true_eq_false, not_false_eq_true, true_and, and_true, false_and, and_false, e10, e01, e00, if_true, if_false, Bool.false_eq_true, lit_ne, lit_lt, eq_self, a13], by simp (disch := omega) only [lt_litR, lt_litL, eq_litR, eq_litL, lt_nn, eq_nn, lt_n0, z_cl, add_lit, eq_m1, eq_m1', m1_lt, false_or, or_false, if_pos, if_neg, zbI_some, zbV_some, wr_same, wr_cell, wr_slot, ne_eq, not_true_eq_false, not_false_eq_true, true_and, and_true, false_and, and_false, e10, e01, e00, if_true, if_false, Bool.false_eq_true, lit_ne, lit_lt, eq_self, a14], (a15.cong (fun k _ => by rw [wr_slot _ _ _ (by omega)])).1, a16, a17.cong (fun c c1 c2 => wr_cell _ _ _ (by omega)) (by simp (disch := omega) only [lt_litR, lt_litL, eq_litR, eq_litL, lt_nn, eq_nn, lt_n0, z_cl, add_lit, eq_m1, eq_m1', m1_lt, false_or, or_false, if_pos, if_neg, zbI_some, zbV_some, wr_same, wr_cell, wr_slot, ne_eq, not_true_eq_false, not_false_eq_true, true_and, and_true, false_and, and_false, e10, e01, e00, if_true, if_false, Bool.false_eq_true, lit_ne, lit_lt, eq_self]) (fun c c1 c2 => wr_cell _ _ _ (by omega)) (by simp (disch := omega) only [lt_litR, lt_litL, eq_litR, eq_litL, lt_nn, eq_nn, lt_n0, z_cl, add_lit, eq_m1, eq_m1', m1_lt, false_or, or_false, if_pos, if_neg, zbI_some, zbV_some, wr_same, wr_cell, wr_slot, ne_eq, not_true_eq_false, not_false_eq_true, true_and, and_true, false_and, and_false, e10, e01, e00, if_true, if_false, Bool.false_eq_true, lit_ne, lit_lt, eq_self]) (by simp (disch := omega) only [lt_litR, lt_litL, eq_litR, eq_litL, lt_nn, eq_nn, lt_n0, z_cl, add_lit, eq_m1, eq_m1', m1_lt, false_or, or_false, if_pos, if_neg, zbI_some, zbV_some, wr_same, wr_cell, wr_slot, ne_eq, not_true_eq_false, not_false_eq_true, true_and, and_true, false_and, and_false, e10, e01, e00, if_true, if_false, Bool.false_eq_true, lit_ne, lit_lt, eq_self]), by simp (disch := omega) only [lt_litR, lt_litL, eq_litR, eq_litL, lt_nn, eq_nn, lt_n0, z_cl, add_lit, eq_m1, eq_m1', m1_lt, false_or, or_false, if_pos, if_neg, zbI_some, zbV_some, wr_same, wr_cell, wr_slot, ne_eq, not_true_eq_false, not_false_eq_true, true_and, and_true, false_and, and_false, e10, e01, e00, if_true, if_false, Bool.false_eq_true, lit_ne, lit_lt, eq_self], by simp (disch := omega) only [lt_litR, lt_litL, eq_litR, eq_litL, lt_nn, eq_nn, lt_n0, z_cl, add_lit, eq_m1, eq_m1', m1_lt, false_or, or_false, if_pos, if_neg, zbI_some, zbV_some, wr_same, wr_cell, wr_slot, ne_eq, not_true_eq_false, not_false_eq_true, true_and, and_true, false_and, and_false, e10, e01, e00, if_true, if_false, Bool.false_eq_true, lit_ne, lit_lt, eq_self, a19]⟩, cFrm.w _ (by omega) cFrm.rf⟩
theorem c_stop (d : Nat) {P σ τ : zS} {e n p b s : Nat} (H : SimW P σ e 0 τ n p b s) (v : Int32) : ∃ σ', zM (d + 4) mX4_stop [.inr (.inr 34), .inl v] σ = some (0, 0, σ') ∧ RelT P σ (kStp e τ v) n b s σ' := by
  rw [qX4_stop_34, qX4_stop_34_0, kStp]
  rcases c_want d H (k := 4) (by omega) 0 v (by omega) with ⟨σ', h1, h2, h3, h4, h5⟩ | ⟨σ', h1, h2, h3, h4, h5⟩
  · have e4 : (nI 4) = (4 : Int32) := rfl
    rw [e4] at h1 h2 h3 h4
    rw [h1, zbI_some, if_pos rfl, if_pos h2]
    exact ⟨σ', rfl, RelT.no h5 h3 h4⟩
  · have e4 : (nI 4) = (4 : Int32) := rfl
    rw [e4] at h1 h2 h4
    rw [h1, zbI_some, if_neg (by decide), if_neg (by rw [h2, eq_m1 (by omega)]; exact fun h => h)]
    obtain ⟨g1, g2⟩ := h4.stop
    exact ⟨_, rfl, RelT.go g1 (h5.tr g2)⟩
theorem c_order (d : Nat) {P σ τ : zS} {e n p b s k r : Nat} (H : SimW P σ e 0 τ n p b s) (he : e < pSz P) (hr : r < 8) (hP : P 17 e = nI r) (hk : k ≤ 2) (x v : Int32) : ∃ σ', zM (d + 4) mX4_order [.inr (.inr 34), .inl (nI k), .inl x, .inl v] σ = some (0, 0, σ') ∧ RelT P σ (kOrd P e τ (nI k) x v) n b s σ' := by
  rw [qX4_order_34, qX4_order_34_0, kOrd]
  rcases c_want d H (show k ≤ 4 by omega) x v (by omega) with ⟨σ', h1, h2, h3, h4, h5⟩ | ⟨σ', h1, h2, h3, h4, h5⟩
  · rw [h1, zbI_some, if_pos rfl, if_pos h2]
    exact ⟨σ', rfl, RelT.no h5 h3 h4⟩
  · rw [h1, zbI_some, if_neg (by decide), if_neg (by rw [h2, eq_m1 (by omega)]; exact fun h => h), H.2.2.2.2.2.2.2.2.2.1, c_finish (d + 0) h4.1 he h4.2.1 hr hP, zbV_some, h2, hP, z_cl (by omega)]
    obtain ⟨g1, g2⟩ := h4.fin he hr (nI p)
    exact ⟨_, rfl, RelT.go g1 (h5.tr g2)⟩
theorem wr37 (t : zS) (r : Nat) (g : Int32) : wr (wr t 54 r g) 38 37 (t 38 37 + 0) = wr t 54 r g := by
  have := wr_id (wr t 54 r g) 38 37
  rw [wr_cell _ _ _ (by omega)] at this
  rw [add0]
  exact this
theorem kWai_9 (P τ : zS) (e : Nat) (x : Int32) : kWai P e τ 9 x 0 = match kDone τ (τ 54 x.toNatClampNeg) with
    | some g => (e + 1, 0, wr (wr τ 38 44 g) 54 (P 17 e).toNatClampNeg g)
    | none => (e, 1, wr τ 38 44 (-2)) := by
  rw [kWai, kRdy, if_pos rfl]
  cases kDone τ (τ 54 x.toNatClampNeg) with
  | none => rfl
  | some g =>
    have e1 : (if (9 : Int32) = 5 then (1 : Int32) else 0) = 0 := by decide
    simp only [Option.isSome_some, Option.getD_some, if_true, e1, wr37, wr_same]
theorem kWai_3 (P τ : zS) (e : Nat) (x y : Int32) : kWai P e τ 3 x y = if (kDone τ (τ 54 x.toNatClampNeg)).isSome then (e + 1, 0, wr (wr τ 38 44 1) 54 (P 17 e).toNatClampNeg 1) else if (kDone τ (τ 54 y.toNatClampNeg)).isSome then (e + 1, 0, wr (wr τ 38 44 2) 54 (P 17 e).toNatClampNeg 2) else (e, 1, wr τ 38 44 2) := by
  have e1 : (if (3 : Int32) = 5 then (1 : Int32) else 0) = 0 := by decide
  rw [kWai, kRdy, if_neg (show ¬ (3 : Int32) = 9 by decide), if_neg (show ¬ (3 : Int32) = 5 by decide)]
  by_cases h1 : (kDone τ (τ 54 x.toNatClampNeg)).isSome
  · simp only [h1, if_true, e1, wr37, wr_same]
  · by_cases h2 : (kDone τ (τ 54 y.toNatClampNeg)).isSome
    · simp only [h1, h2, if_true, if_false, e1, wr37, wr_same, Bool.false_eq_true]
    · simp only [h1, h2, if_false, Bool.false_eq_true]
theorem kWai_5 (P τ : zS) (e : Nat) : kWai P e τ 5 0 0 = match kSig τ (τ 38 32).toNatClampNeg 0 0 with
    | some g => (e + 1, 0, wr (wr (wr τ 38 44 g) 54 (P 17 e).toNatClampNeg g) 38 37 (τ 38 37 + 1))
    | none => (e, 1, τ) := by
  rw [kWai, kRdy, if_neg (show ¬ (5 : Int32) = 9 by decide), if_pos rfl]
  cases kSig τ (τ 38 32).toNatClampNeg 0 0 with
  | none => rfl
  | some g => simp (disch := omega) only [if_true, wr_same, wr_slot]
theorem SimW.took {P σ τ : zS} {e n p b s t : Nat} (H : SimW P σ e 0 τ n p b s) (ht : τ 38 37 = nI t) (ht2 : t < 200) : SimW P (wr σ 30 2 (nI (t + 1))) e 0 (wr τ 38 37 (nI (t + 1))) n p b s ∧ cFrm σ (wr σ 30 2 (nI (t + 1))) := by
  obtain ⟨a1, a2, a3, a4, a5, a6, a7, a8, a9, a10, a11, a12, a13, a14, a15, a16, a17, a18, a19⟩ := H
  exact ⟨⟨⟨fun c c1 c2 => by rw [wr_cell _ _ _ (by omega), a1.1 c c1 c2], a1.2⟩, by simp (disch := omega) only [lt_litR, lt_litL, eq_litR, eq_litL, lt_nn, eq_nn, lt_n0, z_cl, add_lit, eq_m1, eq_m1', m1_lt, false_or, or_false, if_pos, if_neg, zbI_some, zbV_some, wr_same, wr_cell, wr_slot, ne_eq, not_true_eq_false, not_false_eq_true, true_and, and_true, false_and, and_false, e10, e01, e00, if_true, if_false, Bool.false_eq_true, lit_ne, lit_lt, eq_self, a2], a3, fun r hr => by simp (disch := omega) only [lt_litR, lt_litL, eq_litR, eq_litL, lt_nn, eq_nn, lt_n0, z_cl, add_lit, eq_m1, eq_m1', m1_lt, false_or, or_false, if_pos, if_neg, zbI_some, zbV_some, wr_same, wr_cell, wr_slot, ne_eq, not_true_eq_false, not_false_eq_true, true_and, and_true, false_and, and_false, e10, e01, e00, if_true, if_false, Bool.false_eq_true, lit_ne, lit_lt, eq_self, a4 r hr], by simp (disch := omega) only [lt_litR, lt_litL, eq_litR, eq_litL, lt_nn, eq_nn, lt_n0, z_cl, add_lit, eq_m1, eq_m1', m1_lt, false_or, or_false, if_pos, if_neg, zbI_some, zbV_some, wr_same, wr_cell, wr_slot, ne_eq, not_true_eq_false, not_false_eq_true, true_and, and_true, false_and, and_false, e10, e01, e00, if_true, if_false, Bool.false_eq_true, lit_ne, lit_lt, eq_self], ⟨t + 1, by omega, by simp (disch := omega) only [lt_litR, lt_litL, eq_litR, eq_litL, lt_nn, eq_nn, lt_n0, z_cl, add_lit, eq_m1, eq_m1', m1_lt, false_or, or_false, if_pos, if_neg, zbI_some, zbV_some, wr_same, wr_cell, wr_slot, ne_eq, not_true_eq_false, not_false_eq_true, true_and, and_true, false_and, and_false, e10, e01, e00, if_true, if_false, Bool.false_eq_true, lit_ne, lit_lt, eq_self]⟩, by simp (disch := omega) only [lt_litR, lt_litL, eq_litR, eq_litL, lt_nn, eq_nn, lt_n0, z_cl, add_lit, eq_m1, eq_m1', m1_lt, false_or, or_false, if_pos, if_neg, zbI_some, zbV_some, wr_same, wr_cell, wr_slot, ne_eq, not_true_eq_false, not_false_eq_true, true_and, and_true, false_and, and_false, e10, e01, e00, if_true, if_false, Bool.false_eq_true, lit_ne, lit_lt, eq_self, a7], by simp (disch := omega) only [lt_litR, lt_litL, eq_litR, eq_litL, lt_nn, eq_nn, lt_n0, z_cl, add_lit, eq_m1, eq_m1', m1_lt, false_or, or_false, if_pos, if_neg, zbI_some, zbV_some, wr_same, wr_cell, wr_slot, ne_eq, not_true_eq_false, not_false_eq_true, true_and, and_true, false_and, and_false, e10, e01, e00, if_true, if_false, Bool.false_eq_true, lit_ne, lit_lt, eq_self, a8], by simp (disch := omega) only [lt_litR, lt_litL, eq_litR, eq_litL, lt_nn, eq_nn, lt_n0, z_cl, add_lit, eq_m1, eq_m1', m1_lt, false_or, or_false, if_pos, if_neg, zbI_some, zbV_some, wr_same, wr_cell, wr_slot, ne_eq, not_true_eq_false, not_false_eq_true, true_and, and_true, false_and, and_false, e10, e01, e00, if_true, if_false, Bool.false_eq_true, lit_ne, lit_lt, eq_self, a9], by simp (disch := omega) only [lt_litR, lt_litL, eq_litR, eq_litL, lt_nn, eq_nn, lt_n0, z_cl, add_lit, eq_m1, eq_m1', m1_lt, false_or, or_false, if_pos, if_neg, zbI_some, zbV_some, wr_same, wr_cell, wr_slot, ne_eq, not_true_eq_false, not_false_eq_true, true_and, and_true, false_and, and_false, e10, e01, e00, if_true, if_false, Bool.false_eq_true, lit_ne, lit_lt, eq_self, a10], by simp (disch := omega) only [lt_litR, lt_litL, eq_litR, eq_litL, lt_nn, eq_nn, lt_n0, z_cl, add_lit, eq_m1, eq_m1', m1_lt, false_or, or_false, if_pos, if_neg, zbI_some, zbV_some, wr_same, wr_cell, wr_slot, ne_eq, not_true_eq_false, not_false_eq_true, true_and, and_true, false_and, and_false, e10, e01, e00, if_true, if_false, Bool.false_eq_true, lit_ne, lit_lt, eq_self, a11], by simp (disch := omega) only [lt_litR, lt_litL, eq_litR, eq_litL, lt_nn, eq_nn, lt_n0, z_cl, add_lit, eq_m1, eq_m1', m1_lt, false_or, or_false, if_pos, if_neg, zbI_some, zbV_some, wr_same, wr_cell, wr_slot, ne_eq, not_true_eq_false, not_false_eq_true, true_and, and_true, false_and, and_false, e10, e01, e00, if_true, if_false, Bool.false_eq_true, lit_ne, lit_lt, eq_self]; exact a12, by simp (disch := omega) only [lt_litR, lt_litL, eq_litR, eq_litL, lt_nn, eq_nn, lt_n0, z_cl, add_lit, eq_m1, eq_m1', m1_lt, false_or, or_false, if_pos, if_neg, zbI_some, zbV_some, wr_same, wr_cell, wr_slot, ne_eq, not_true_eq_false, not_false_eq_true, true_and, and_true, false_and, and_false, e10, e01, e00, if_true, if_false, Bool.false_eq_true, lit_ne, lit_lt, eq_self, a13], by simp (disch := omega) only [lt_litR, lt_litL, eq_litR, eq_litL, lt_nn, eq_nn, lt_n0, z_cl, add_lit, eq_m1, eq_m1', m1_lt, false_or, or_false, if_pos, if_neg, zbI_some, zbV_some, wr_same, wr_cell, wr_slot, ne_eq, not_true_eq_false, not_false_eq_true, true_and, and_true, false_and, and_false, e10, e01, e00, if_true, if_false, Bool.false_eq_true, lit_ne, lit_lt, eq_self, a14], (a15.cong (fun k _ => by rw [wr_slot _ _ _ (by omega)])).1, a16, a17.cong (fun c c1 c2 => wr_cell _ _ _ (by omega)) (by simp (disch := omega) only [lt_litR, lt_litL, eq_litR, eq_litL, lt_nn, eq_nn, lt_n0, z_cl, add_lit, eq_m1, eq_m1', m1_lt, false_or, or_false, if_pos, if_neg, zbI_some, zbV_some, wr_same, wr_cell, wr_slot, ne_eq, not_true_eq_false, not_false_eq_true, true_and, and_true, false_and, and_false, e10, e01, e00, if_true, if_false, Bool.false_eq_true, lit_ne, lit_lt, eq_self]) (fun c c1 c2 => wr_cell _ _ _ (by omega)) (by simp (disch := omega) only [lt_litR, lt_litL, eq_litR, eq_litL, lt_nn, eq_nn, lt_n0, z_cl, add_lit, eq_m1, eq_m1', m1_lt, false_or, or_false, if_pos, if_neg, zbI_some, zbV_some, wr_same, wr_cell, wr_slot, ne_eq, not_true_eq_false, not_false_eq_true, true_and, and_true, false_and, and_false, e10, e01, e00, if_true, if_false, Bool.false_eq_true, lit_ne, lit_lt, eq_self]) (by simp (disch := omega) only [lt_litR, lt_litL, eq_litR, eq_litL, lt_nn, eq_nn, lt_n0, z_cl, add_lit, eq_m1, eq_m1', m1_lt, false_or, or_false, if_pos, if_neg, zbI_some, zbV_some, wr_same, wr_cell, wr_slot, ne_eq, not_true_eq_false, not_false_eq_true, true_and, and_true, false_and, and_false, e10, e01, e00, if_true, if_false, Bool.false_eq_true, lit_ne, lit_lt, eq_self]), by simp (disch := omega) only [lt_litR, lt_litL, eq_litR, eq_litL, lt_nn, eq_nn, lt_n0, z_cl, add_lit, eq_m1, eq_m1', m1_lt, false_or, or_false, if_pos, if_neg, zbI_some, zbV_some, wr_same, wr_cell, wr_slot, ne_eq, not_true_eq_false, not_false_eq_true, true_and, and_true, false_and, and_false, e10, e01, e00, if_true, if_false, Bool.false_eq_true, lit_ne, lit_lt, eq_self, a18], by simp (disch := omega) only [lt_litR, lt_litL, eq_litR, eq_litL, lt_nn, eq_nn, lt_n0, z_cl, add_lit, eq_m1, eq_m1', m1_lt, false_or, or_false, if_pos, if_neg, zbI_some, zbV_some, wr_same, wr_cell, wr_slot, ne_eq, not_true_eq_false, not_false_eq_true, true_and, and_true, false_and, and_false, e10, e01, e00, if_true, if_false, Bool.false_eq_true, lit_ne, lit_lt, eq_self, a19]⟩, cFrm.w _ (by omega) cFrm.rf⟩
theorem c_waitFor (d : Nat) {P σ τ : zS} {e n p b s r x : Nat} (H : SimW P σ e 0 τ n p b s) (he : e < pSz P) (hr : r < 8) (hP : P 17 e = nI r) (hx : x < 8) (hP2 : P 18 e = nI x) : ∃ σ', zM (d + 4) mX4_waitFor [.inr (.inr 34), .inl (σ 31 x)] σ = some (0, 0, σ') ∧ RelT P σ (kWai P e τ 9 (P 18 e) 0) n b s σ' := by
  rw [qX4_waitFor_34, qX4_waitFor_34_0, kWai_9, hP2, z_cl (by omega), H.2.2.2.1 x hx, hP, z_cl (by omega)]
  obtain ⟨N, hN, hR, hc⟩ := c_over d H (τ 54 x)
  rcases hc with ⟨h1, h2⟩ | ⟨h1, h2⟩ | ⟨k, i, h0, h3, h1, h2⟩
  · rw [h1, h2, zbI_some, if_pos rfl]
    obtain ⟨g1, g2⟩ := H.wait
    exact ⟨_, rfl, RelT.go (g1.gave _) g2⟩
  · rw [h1, h2, zbI_some, if_neg (by decide), if_pos rfl, c_finish d H.1 he H.2.1 hr hP, zbV_some]
    obtain ⟨g1, g2⟩ := (H.gave (-2)).fin he hr (-2)
    exact ⟨_, rfl, RelT.go g1 g2⟩
  · have hne2 : ¬ nI k = -2 := fun h => nI_pos (n := k) (by omega) (by rw [h]; decide)
    rw [h1, h2, zbI_some, if_neg (by rw [eq_m1 (by omega)]; exact fun h => h), if_neg hne2, c_kindAt (d + 1) hR k (by omega), zbI_some, if_pos h0, kGave_val hR h0 h3]
    by_cases h6 : τ 50 k = 6
    · rw [if_pos h6, c_finish d H.1 he H.2.1 hr hP, zbV_some]
      simp only [if_pos h6]
      obtain ⟨g1, g2⟩ := (H.gave (-1)).fin he hr (-1)
      exact ⟨_, rfl, RelT.go g1 g2⟩
    · rw [if_neg h6, c_valueAt (d + 1) hR k (by omega), zbI_some, if_pos h0, c_finish d H.1 he H.2.1 hr hP, zbV_some]
      simp only [if_neg h6]
      obtain ⟨g1, g2⟩ := (H.gave (τ 52 k)).fin he hr (τ 52 k)
      exact ⟨_, rfl, RelT.go g1 g2⟩
theorem c_waitForAny (d : Nat) {P σ τ : zS} {e n p b s r x y : Nat} (H : SimW P σ e 0 τ n p b s) (he : e < pSz P) (hr : r < 8) (hP : P 17 e = nI r) (hx : x < 8) (hP2 : P 18 e = nI x) (hy : y < 8) (hP3 : P 19 e = nI y) : ∃ σ', zM (d + 4) mX4_waitForAny [.inr (.inr 34), .inl (σ 31 x), .inl (σ 31 y)] σ = some (0, 0, σ') ∧ RelT P σ (kWai P e τ 3 (P 18 e) (P 19 e)) n b s σ' := by
  rw [qX4_waitForAny_34, qX4_waitForAny_34_0, kWai_3, hP2, hP3, z_cl (by omega), z_cl (by omega), H.2.2.2.1 x hx, H.2.2.2.1 y hy, hP, z_cl (by omega)]
  obtain ⟨N, hN, hR, hc⟩ := c_over d H (τ 54 x)
  have yes : ∀ g : Int32, ∃ σ', zbV (zM (d + 3) mX4_finish [.inr (.inr 34), .inl g] σ) (fun s4 => some (0, 0, s4)) = some (0, 0, σ') ∧ RelT P σ (e + 1, 0, wr (wr τ 38 44 g) 54 r g) n b s σ' := by
    intro g
    rw [c_finish d H.1 he H.2.1 hr hP, zbV_some]
    obtain ⟨g1, g2⟩ := (H.gave g).fin he hr g
    exact ⟨_, rfl, RelT.go g1 g2⟩
  rcases hc with ⟨h1, h2⟩ | ⟨h1, h2⟩ | ⟨k, i, h0, h3, h1, h2⟩
  · rw [h1, h2, zbI_some, if_pos rfl, if_neg (by decide)]
    obtain ⟨N', hN', hR', hc'⟩ := c_over d H (τ 54 y)
    rcases hc' with ⟨h1, h2⟩ | ⟨h1, h2⟩ | ⟨k, i, h0, h3, h1, h2⟩
    · rw [h1, h2, zbI_some, if_pos rfl, if_neg (by decide)]
      obtain ⟨g1, g2⟩ := H.wait
      exact ⟨_, rfl, RelT.go (g1.gave _) g2⟩
    · rw [h1, h2, zbI_some, if_neg (by decide), Option.isSome_some, if_pos rfl]
      exact yes 2
    · rw [h1, h2, zbI_some, if_neg (by rw [eq_m1 (by omega)]; exact fun h => h), Option.isSome_some, if_pos rfl]
      exact yes 2
  · rw [h1, h2, zbI_some, if_neg (by decide), Option.isSome_some, if_pos rfl]
    exact yes 1
  · rw [h1, h2, zbI_some, if_neg (by rw [eq_m1 (by omega)]; exact fun h => h), Option.isSome_some, if_pos rfl]
    exact yes 1
theorem SimW.hist {P σ τ : zS} {e w n p b s : Nat} (H : SimW P σ e w τ n p b s) : ∃ N, HRel σ τ N ∧ p ≤ N ∧ b < N ∧ N ≤ 200 := by
  obtain ⟨a1, a2, a3, a4, a5, a6, a7, a8, a9, a10, a11, a12, a13, a14, a15, a16, a17, a18, a19⟩ := H
  rcases a12 with h | h
  · obtain ⟨b1, b2, E, b3, b4, b5, b6⟩ := a17.1 h
    exact ⟨n, b2, by omega, b1, b2.2.1⟩
  · have := (a17.2 (by rw [h]; decide)).1
    exact ⟨p, this, Nat.le_refl _, a16, this.2.1⟩
theorem c_takeSignal (d : Nat) {P σ τ : zS} {e n p b s r : Nat} (H : SimW P σ e 0 τ n p b s) (he : e < pSz P) (hr : r < 8) (hP : P 17 e = nI r) : ∃ σ', zM (d + 4) mX4_takeSignal [.inr (.inr 34)] σ = some (0, 0, σ') ∧ RelT P σ (kWai P e τ 5 0 0) n b s σ' := by
  obtain ⟨N, hN, h1, h2, h3⟩ := H.hist
  have H0 := H
  obtain ⟨a1, a2, a3, a4, a5, a6, a7, a8, a9, a10, a11, a12, a13, a14, a15, a16, a17, a18, a19⟩ := H
  obtain ⟨t, t1, t2⟩ := a6
  rw [qX4_takeSignal_34, qX4_takeSignal_34_0, kWai_5, a5, a9, t2, a15.2.2.2.2.1, z_cl (by omega), hP, z_cl (by omega)]
  rcases c_signal (d + 2) hN (t := t) (b := b) (by omega) t2 (by omega) with ⟨g1, g2⟩ | ⟨k, k1, k2, k3, g1, g2⟩
  · rw [g1, g2, zbI_some, if_pos rfl]
    obtain ⟨g1, g2⟩ := H0.wait
    exact ⟨_, rfl, RelT.go g1 g2⟩
  · obtain ⟨s1, s2⟩ := H0.took t2 (by omega)
    have hN1 : HRel (wr σ 30 2 (nI (t + 1))) τ N := hN.cong (by simp (disch := omega) only [lt_litR, lt_litL, eq_litR, eq_litL, lt_nn, eq_nn, lt_n0, z_cl, add_lit, eq_m1, eq_m1', m1_lt, false_or, or_false, if_pos, if_neg, zbI_some, zbV_some, wr_same, wr_cell, wr_slot, ne_eq, not_true_eq_false, not_false_eq_true, true_and, and_true, false_and, and_false, e10, e01, e00, if_true, if_false, Bool.false_eq_true, lit_ne, lit_lt, eq_self]) (by simp (disch := omega) only [lt_litR, lt_litL, eq_litR, eq_litL, lt_nn, eq_nn, lt_n0, z_cl, add_lit, eq_m1, eq_m1', m1_lt, false_or, or_false, if_pos, if_neg, zbI_some, zbV_some, wr_same, wr_cell, wr_slot, ne_eq, not_true_eq_false, not_false_eq_true, true_and, and_true, false_and, and_false, e10, e01, e00, if_true, if_false, Bool.false_eq_true, lit_ne, lit_lt, eq_self]) (fun i _ => by simp (disch := omega) only [lt_litR, lt_litL, eq_litR, eq_litL, lt_nn, eq_nn, lt_n0, z_cl, add_lit, eq_m1, eq_m1', m1_lt, false_or, or_false, if_pos, if_neg, zbI_some, zbV_some, wr_same, wr_cell, wr_slot, ne_eq, not_true_eq_false, not_false_eq_true, true_and, and_true, false_and, and_false, e10, e01, e00, if_true, if_false, Bool.false_eq_true, lit_ne, lit_lt, eq_self, and_self]) (fun i => by simp (disch := omega) only [lt_litR, lt_litL, eq_litR, eq_litL, lt_nn, eq_nn, lt_n0, z_cl, add_lit, eq_m1, eq_m1', m1_lt, false_or, or_false, if_pos, if_neg, zbI_some, zbV_some, wr_same, wr_cell, wr_slot, ne_eq, not_true_eq_false, not_false_eq_true, true_and, and_true, false_and, and_false, e10, e01, e00, if_true, if_false, Bool.false_eq_true, lit_ne, lit_lt, eq_self]) (fun i _ => ⟨rfl, rfl, rfl⟩)
    rw [g1, g2, zbI_some, if_neg (by rw [eq_m1 (by omega)]; exact fun h => h), a5, t2, nI_1, c_valueAt (d + 1) hN1 k (by omega), zbI_some, if_pos (show k < N by omega), c_finish d s1.1 he s1.2.1 hr hP, zbV_some]
    obtain ⟨u1, u2⟩ := (s1.gave (τ 52 k)).fin he hr (τ 52 k)
    refine ⟨_, rfl, ?_⟩
    have hst : wr (wr (wr τ 38 44 (τ 52 k)) 54 r (τ 52 k)) 38 37 (nI (t + 1)) = wr (wr (wr τ 38 37 (nI (t + 1))) 38 44 (τ 52 k)) 54 r (τ 52 k) := by
      funext c j
      by_cases hc : c = 38
      · subst hc
        by_cases hj : j = 37
        · subst hj; simp (disch := omega) only [lt_litR, lt_litL, eq_litR, eq_litL, lt_nn, eq_nn, lt_n0, z_cl, add_lit, eq_m1, eq_m1', m1_lt, false_or, or_false, if_pos, if_neg, zbI_some, zbV_some, wr_same, wr_cell, wr_slot, ne_eq, not_true_eq_false, not_false_eq_true, true_and, and_true, false_and, and_false, e10, e01, e00, if_true, if_false, Bool.false_eq_true, lit_ne, lit_lt, eq_self]
        · by_cases hj2 : j = 44
          · subst hj2; simp (disch := omega) only [lt_litR, lt_litL, eq_litR, eq_litL, lt_nn, eq_nn, lt_n0, z_cl, add_lit, eq_m1, eq_m1', m1_lt, false_or, or_false, if_pos, if_neg, zbI_some, zbV_some, wr_same, wr_cell, wr_slot, ne_eq, not_true_eq_false, not_false_eq_true, true_and, and_true, false_and, and_false, e10, e01, e00, if_true, if_false, Bool.false_eq_true, lit_ne, lit_lt, eq_self]
          · simp (disch := omega) only [lt_litR, lt_litL, eq_litR, eq_litL, lt_nn, eq_nn, lt_n0, z_cl, add_lit, eq_m1, eq_m1', m1_lt, false_or, or_false, if_pos, if_neg, zbI_some, zbV_some, wr_same, wr_cell, wr_slot, ne_eq, not_true_eq_false, not_false_eq_true, true_and, and_true, false_and, and_false, e10, e01, e00, if_true, if_false, Bool.false_eq_true, lit_ne, lit_lt, eq_self]
      · by_cases hc2 : c = 54
        · subst hc2
          by_cases hj : j = r
          · subst hj; simp (disch := omega) only [lt_litR, lt_litL, eq_litR, eq_litL, lt_nn, eq_nn, lt_n0, z_cl, add_lit, eq_m1, eq_m1', m1_lt, false_or, or_false, if_pos, if_neg, zbI_some, zbV_some, wr_same, wr_cell, wr_slot, ne_eq, not_true_eq_false, not_false_eq_true, true_and, and_true, false_and, and_false, e10, e01, e00, if_true, if_false, Bool.false_eq_true, lit_ne, lit_lt, eq_self]
          · simp (disch := omega) only [lt_litR, lt_litL, eq_litR, eq_litL, lt_nn, eq_nn, lt_n0, z_cl, add_lit, eq_m1, eq_m1', m1_lt, false_or, or_false, if_pos, if_neg, zbI_some, zbV_some, wr_same, wr_cell, wr_slot, ne_eq, not_true_eq_false, not_false_eq_true, true_and, and_true, false_and, and_false, e10, e01, e00, if_true, if_false, Bool.false_eq_true, lit_ne, lit_lt, eq_self]
        · simp (disch := omega) only [lt_litR, lt_litL, eq_litR, eq_litL, lt_nn, eq_nn, lt_n0, z_cl, add_lit, eq_m1, eq_m1', m1_lt, false_or, or_false, if_pos, if_neg, zbI_some, zbV_some, wr_same, wr_cell, wr_slot, ne_eq, not_true_eq_false, not_false_eq_true, true_and, and_true, false_and, and_false, e10, e01, e00, if_true, if_false, Bool.false_eq_true, lit_ne, lit_lt, eq_self]
    simp only [hst]
    exact RelT.go u1 (s2.tr u2)

theorem c_patch (d : Nat) {P σ τ : zS} {e n p b s r : Nat} (H : SimW P σ e 0 τ n p b s) (he : e < pSz P) (hr : r < 8) (hP : P 17 e = nI r) (x : Int32) : ∃ σ', zM (d + 4) mX4_patch [.inr (.inr 34), .inl x] σ = some (0, 0, σ') ∧ RelT P σ (kPat P e τ x) n b s σ' := by
  have H0 := H
  obtain ⟨N, hN, hp1, hp2, hp3⟩ := H.hist
  obtain ⟨a1, a2, a3, a4, a5, a6, a7, a8, a9, a10, a11, a12, a13, a14, a15, a16, a17, a18, a19⟩ := H
  have e3 : (nI 3) = (3 : Int32) := rfl
  have hno : ∃ σ', zbV (zM (d + 3) mX4_finish [.inr (.inr 34), .inl 0] σ) (fun s2 => some (0, 0, s2)) = some (0, 0, σ') ∧ RelT P σ (e + 1, 0, wr τ 54 r 0) n b s σ' := by
    rw [c_finish d a1 he a2 hr hP, zbV_some]
    obtain ⟨g1, g2⟩ := H0.fin he hr 0
    exact ⟨_, rfl, RelT.go g1 g2⟩
  have hyes : ∃ σ', zbI (zM (d + 3) mX4_want [.inr (.inr 34), .inl 3, .inl x, .inl 0] σ) (fun r3 s3 => if r3 = 0 then some (0, 0, s3) else zbV (zM (d + 3) mX4_finish [.inr (.inr 34), .inl 1] s3) (fun s4 => some (0, 0, s4))) = some (0, 0, σ') ∧ RelT P σ (if (kCmd τ 3 x 0).1 = -1 then (e, 0, (kCmd τ 3 x 0).2) else (e + 1, 0, wr (kCmd τ 3 x 0).2 54 r 1)) n b s σ' := by
    rcases c_want d H0 (k := 3) (by omega) x 0 (fun _ => rfl) with ⟨σ', h1, h2, h3, h4, h5⟩ | ⟨σ', h1, h2, h3, h4, h5⟩
    · rw [e3] at h1 h2 h3 h4
      rw [h1, zbI_some, if_pos rfl, if_pos h2]
      exact ⟨σ', rfl, RelT.no h5 h3 h4⟩
    · rw [e3] at h1 h2 h4
      rw [h1, zbI_some, if_neg (by decide), if_neg (by rw [h2, eq_m1 (by omega)]; exact fun h => h), c_finish d h4.1 he h4.2.1 hr hP, zbV_some]
      obtain ⟨g1, g2⟩ := h4.fin he hr 1
      exact ⟨_, rfl, RelT.go g1 (h5.tr g2)⟩
  rw [qX4_patch_34, qX4_patch_34_0, a10, c_isAt (d + 1) hN p (by omega), a11, kPat, a15.2.2.1, z_cl (by omega), hP, z_cl (by omega)]
  by_cases hl : τ 38 34 = 0
  · obtain ⟨b1, b2, E, b3, b4, b5, b6, b7⟩ := a17.1 hl
    have hNn : N = n := by
      have := hN.1
      rw [b2.1] at this
      have h9 := b2.2.1
      exact ((nI_eq (by omega) (by omega)).mp this).symm
    subst hNn
    by_cases hc : kC τ p = true ∧ τ 50 p = 3 ∧ τ 51 p = x
    · have hpn : p < N := kC_lt a15.1 a15.2.1 (by omega) hc.1
      have hpE : p < E := by
        by_cases hpe : p = E
        · have := hc.1; rw [hpe, b7] at this; exact absurd this (by decide)
        · omega
      have hv := (hN.2.2.2.1 p hpn).2.1 (Or.inr hc.2.1)
      rw [if_pos (show ¬ τ 38 34 = 0 ∨ (kC τ p = true ∧ τ 50 p = 3 ∧ τ 51 p = x) from Or.inr hc), b3, if_pos (nI_lt hpE (by omega)), zbI_some, if_pos (show p < N ∧ τ 50 p = 3 ∧ τ 51 p = x ∧ τ 52 p = 0 from ⟨hpn, hc.2.1, hc.2.2, hv⟩), if_neg (by decide), a11, if_pos hl]
      exact hyes
    · rw [if_neg (show ¬ (¬ τ 38 34 = 0 ∨ (kC τ p = true ∧ τ 50 p = 3 ∧ τ 51 p = x)) from fun h => h.elim (fun h => h hl) hc), b3]
      by_cases hpE : p < E
      · rw [if_pos (nI_lt hpE (by omega)), zbI_some, if_neg (show ¬ (p < N ∧ τ 50 p = 3 ∧ τ 51 p = x ∧ τ 52 p = 0) from fun h => hc ⟨b6 p a16 hpE, h.2.1, h.2.2.1⟩), if_pos rfl, a11, if_pos hl]
        exact hno
      · rw [if_neg (nI_nlt (by omega) (by omega)), if_pos hl]
        exact hno
  · obtain ⟨b1, b2, b3, b4, b5⟩ := a17.2 hl
    rw [if_pos (show ¬ τ 38 34 = 0 ∨ (kC τ p = true ∧ τ 50 p = 3 ∧ τ 51 p = x) from Or.inl hl), b3]
    by_cases hpE : p < 200
    · rw [if_pos (nI_lt hpE (by omega)), zbI_some, a11, if_neg hl, if_neg hl]
      split
      · exact hyes
      · exact hyes
    · rw [if_neg (nI_nlt (by omega) (by omega)), if_neg hl]
      exact hyes
