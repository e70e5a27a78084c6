-- a decision of the class
theorem SimW.w2 {P σ τ : zS} {e w n p b s : Nat} (H : SimW P σ e w τ n p b s) : σ 34 11 = 0 ∧ σ 34 10 = (if w = 1 then 1 else 0) ∧ σ 30 5 = (if w = 2 then 1 else 0) := by
  obtain ⟨a1, a2, a3, a4, a5, a6, a7, a8, a9, a10, a11, a12, a13, a14, a15, a16, a17, a18, a19⟩ := H
  exact ⟨a14, a13, a8⟩
theorem kWai_w (P : zS) (e : Nat) (τ : zS) (o x y : Int32) : (kWai P e τ o x y).2.1 ≤ 2 := by
  rw [kWai]; split
  · exact Nat.zero_le _
  · show 1 ≤ 2; omega
theorem kStp_w (e : Nat) (τ : zS) (v : Int32) : (kStp e τ v).2.1 ≤ 2 := by
  rw [kStp]; split
  · exact Nat.zero_le _
  · exact Nat.le_refl _
theorem kOrd_w (P : zS) (e : Nat) (τ : zS) (k r v : Int32) : (kOrd P e τ k r v).2.1 ≤ 2 := by
  rw [kOrd]; split <;> exact Nat.zero_le _
theorem kPat_w (P : zS) (e : Nat) (τ : zS) (r : Int32) : (kPat P e τ r).2.1 ≤ 2 := by
  rw [kPat]; split
  · split <;> exact Nat.zero_le _
  · exact Nat.zero_le _
theorem kDo_w {P : zS} {e : Nat} {τ : zS} : (kDo P e τ).2.1 ≤ 2 := by
  unfold kDo
  split
  · exact Nat.zero_le _
  split
  · exact kOrd_w _ _ _ _ _ _
  split
  · exact kOrd_w _ _ _ _ _ _
  split
  · exact kWai_w _ _ _ _ _ _
  split
  · exact kWai_w _ _ _ _ _ _
  split
  · exact Nat.zero_le _
  split
  · exact kWai_w _ _ _ _ _ _
  split
  · exact Nat.zero_le _
  split
  · exact kPat_w _ _ _ _
  split
  · exact kStp_w _ _ _
  split
  · exact Nat.zero_le _
  · exact Nat.zero_le _
theorem kTurn_w {P : zS} {e : Nat} {τ : zS} : (kTurn P e τ).2.1 ≤ 2 := by
  unfold kTurn
  split
  · exact Nat.zero_le _
  split
  · exact kStp_w _ _ _
  split
  · exact Nat.zero_le _
  · exact kDo_w
/-- where the loop of turns ends -/
def RelD (P σ : zS) (t : kSt) (n b : Nat) (σ' : zS) : Prop := cFrm σ σ' ∧ ((¬ t.2.2 38 31 = 0 ∧ SimH σ' t.2.2 n ∧ ¬ σ' 34 11 = 0) ∨ (t.2.2 38 31 = 0 ∧ (t.2.1 = 1 ∨ t.2.1 = 2) ∧ ∃ p s, SimW P σ' t.1 t.2.1 t.2.2 n p b s))
theorem c_runLoop (d : Nat) {P T : zS} (hW : ∀ x, x < pSz P → pW P T x) (hJ : ∀ x, x ≤ pSz P → pJ P 11 x) (n b : Nat) (x2 x3 : Int32) : ∀ (N m x4 j : Nat) (σ τ : zS) (e w p s : Nat), SimW P σ e w τ n p b s → (w = 0 ∨ w = 1 ∨ w = 2) → pJ P j e → j ≤ 11 → (1000 - s) * 12 + j + 1 = N → x4 + N ≤ 12012 → N < m →
    ∃ (σ' : zS) (t : kSt) (m' y4 : Nat), zexec zc_X4_runDecision zu_X4_runDecision (zM (d + 6)) m 43 [.inr (.inr 34), .inl x2, .inl x3, .inl (nI x4)] σ = zexec zc_X4_runDecision zu_X4_runDecision (zM (d + 6)) (m' + 1) 43 [.inr (.inr 34), .inl x2, .inl x3, .inl (nI y4)] σ' ∧ y4 ≤ 12012 ∧ kTo P (e, w, τ) t ∧ RelD P σ t n b σ' := by
  intro N
  induction N using Nat.strongRecOn with
  | ind N ih =>
    intro m x4 j σ τ e w p s H hw hj hj2 hN hx hm
    obtain ⟨m, rfl⟩ : ∃ k, m = k + 1 := ⟨m - 1, by omega⟩
    by_cases hw0 : w = 0
    · subst hw0
      obtain ⟨w1, w2, w3⟩ := H.w2
      have h0 : τ 38 31 = 0 := H.2.2.2.2.2.2.2.2.2.2.2.2.2.2.2.2.2.2
      have hz := H.1.2.1
      have he := H.2.2.1
      have hs1000 : s ≤ 1000 := H.2.2.2.2.2.2.2.2.2.2.2.2.2.2.1.2.2.2.2.2.2.2.2.2
      obtain ⟨σ1, c1, c2, c3, c4⟩ := c_turn d H hW
      have hstep : zexec zc_X4_runDecision zu_X4_runDecision (zM (d + 6)) (m + 1) 43 [.inr (.inr 34), .inl x2, .inl x3, .inl (nI x4)] σ = zexec zc_X4_runDecision zu_X4_runDecision (zM (d + 6)) m 43 [.inr (.inr 34), .inl x2, .inl x3, .inl (nI (x4 + 1))] σ1 := by
        rw [qX4_runDecision_34_43, if_pos (show nI x4 < 12012 from nI_lt (b := 12012) (by omega) (by omega)), w1, if_pos rfl, w2, if_neg (show ¬ (0 : Nat) = 1 by decide), if_pos rfl, w3, if_neg (show ¬ (0 : Nat) = 2 by decide), if_pos rfl, H.2.1, c_sortAt (d + 4) H.1 (by omega), zbI_some, H.2.1, c_firstAt (d + 4) H.1 (by omega), zbI_some, c1, zbV_some, nI_1]
      rw [hstep]
      have hto : kTo P (e, 0, τ) (kTurn P e τ) := kTo.turn h0 kTo.rf
      obtain ⟨m, rfl⟩ : ∃ k, m = k + 1 := ⟨m - 1, by omega⟩
      by_cases hh : (kTurn P e τ).2.2 38 31 = 0
      · obtain ⟨p', H1⟩ := c3 hh
        generalize hts : kTurn P e τ = t at *
        obtain ⟨te, tw, tt⟩ := t
        simp only at H1 hh
        have hE1 := H1.2.2.1
        by_cases htw : tw = 0
        · -- a jump or a step
          have hcase : (pSo P e = 12 ∧ j ≠ 0 ∧ pJ P (j - 1) te) ∨ (¬ (pSo P e = 12 ∨ pSo P e = 13)) := by
            by_cases h12 : pSo P e = 12
            · left
              have hte : te = (P 18 e).toNatClampNeg := by
                rw [kTurn, if_pos h12] at hts
                exact (congrArg Prod.fst hts).symm
              refine ⟨h12, fun h => ?_, ?_⟩
              · subst h; exact hj h12
              · cases j with
                | zero => exact absurd h12 hj
                | succ j => rw [hte]; exact hj h12
            · right
              intro h
              rcases h with h | h
              · exact h12 h
              · rw [kTurn, if_neg h12, if_pos h, kStp] at hts
                split at hts
                · have h5 := congrArg (fun q : kSt => q.2.2) hts
                  simp only at h5
                  rcases H.2.2.2.2.2.2.2.2.2.2.2.2.2.2.1.cmd h0 4 0 0 with ⟨_, k2⟩ | ⟨k1, _⟩
                  · rw [h5] at k2; exact k2 hh
                  · exact k1 (by assumption)
                · have h5 := congrArg (fun q : kSt => q.2.1) hts
                  simp only at h5
                  omega
          rcases hcase with ⟨h12, hj0, hj1⟩ | hns
          · rw [if_pos (Or.inl h12)] at H1
            obtain ⟨σ', t, m', y4, r1, r2, r3, r4⟩ := ih (N - 1) (by omega) (m + 1) (x4 + 1) (j - 1) σ1 tt te tw p' s H1 (by omega) hj1 (by omega) (by omega) (by omega) (by omega)
            exact ⟨σ', t, m', y4, r1, r2, hto.tr r3, c2.tr r4.1, r4.2⟩
          · rw [if_neg hns] at H1
            have hs2 : s + 1 ≤ 1000 := H1.2.2.2.2.2.2.2.2.2.2.2.2.2.2.1.2.2.2.2.2.2.2.2.2
            obtain ⟨σ', t, m', y4, r1, r2, r3, r4⟩ := ih ((1000 - (s + 1)) * 12 + 11 + 1) (by omega) (m + 1) (x4 + 1) 11 σ1 tt te tw p' (s + 1) H1 (by omega) (hJ te hE1) (by omega) rfl (by omega) (by omega)
            exact ⟨σ', t, m', y4, r1, r2, hto.tr r3, c2.tr r4.1, r4.2⟩
        · have htw2 : tw = 1 ∨ tw = 2 := by
            have h13 := H1.2.2.2.2.2.2.2.2.2.2.2.2.1
            have := kTurn_w (P := P) (e := e) (τ := τ)
            rw [hts] at this
            simp only at this
            omega
          exact ⟨σ1, (te, tw, tt), m, x4 + 1, rfl, by omega, hto, c2, Or.inr ⟨hh, htw2, p', _, H1⟩⟩
      · refine ⟨σ1, kTurn P e τ, m, x4 + 1, rfl, by omega, hto, c2, Or.inl ⟨hh, c4 hh, ?_⟩⟩
        rw [(c4 hh).1]
        exact hh
    · have hw1 : w = 1 ∨ w = 2 := by omega
      have h0 : τ 38 31 = 0 := H.2.2.2.2.2.2.2.2.2.2.2.2.2.2.2.2.2.2
      exact ⟨σ, (e, w, τ), m, x4, rfl, by omega, kTo.rf, cFrm.rf, Or.inr ⟨h0, hw1, p, s, H⟩⟩
theorem c_runEnd (d m y : Nat) (σ : zS) (x2 x3 : Int32) (h : ¬ σ 34 11 = 0 ∨ ¬ σ 34 10 = 0 ∨ ¬ σ 30 5 = 0) : zexec zc_X4_runDecision zu_X4_runDecision (zM (d + 6)) (m + 1) 43 [.inr (.inr 34), .inl x2, .inl x3, .inl (nI y)] σ = if σ 34 11 = 0 then (if x3 = 0 then (if σ 34 7 < x2 then some (0, 0, wr (wr σ 34 11 2) 34 12 (σ 34 7)) else some (0, 0, σ)) else some (0, 0, σ)) else some (0, 0, σ) := by
  rw [qX4_runDecision_34_43, c_differ, zbV_some]
  by_cases h1 : nI y < 12012
  · rw [if_pos h1]
    by_cases h2 : σ 34 11 = 0
    · rw [if_pos h2]
      by_cases h3 : σ 34 10 = 0
      · rw [if_pos h3]
        by_cases h4 : σ 30 5 = 0
        · exact absurd h (fun h => h.elim (fun h => h h2) (fun h => h.elim (fun h => h h3) (fun h => h h4)))
        · rw [if_neg h4]
      · rw [if_neg h3]
    · rw [if_neg h2]
  · rw [if_neg h1]
/-- what decisions leave as it is -/
def dFrm (σ σ' : zS) : Prop := (∀ c, c ≠ 24 → c ≠ 25 → c ≠ 26 → c ≠ 27 → c ≠ 28 → c ≠ 30 → c ≠ 31 → c ≠ 34 → c ≠ 37 → σ' c = σ c) ∧ σ' 24 6 = σ 24 6 ∧ σ' 30 4 = σ 30 4
theorem cFrm.d {σ σ' : zS} (h : cFrm σ σ') : dFrm σ σ' := ⟨h.1, h.2.1, h.2.2.1⟩
theorem dFrm.tr {a b c : zS} (h : dFrm a b) (h2 : dFrm b c) : dFrm a c :=
  ⟨fun x a1 a2 a3 a4 a5 a6 a7 a8 a9 => (h2.1 x a1 a2 a3 a4 a5 a6 a7 a8 a9).trans (h.1 x a1 a2 a3 a4 a5 a6 a7 a8 a9), h2.2.1.trans h.2.1, h2.2.2.trans h.2.2⟩
/-- what a decision comes to -/
def RelE (P σ : zS) (s : kSt) (n b : Nat) (x3 : Int32) (σ' : zS) : Prop := dFrm σ σ' ∧ σ' 34 9 = x3 ∧ ∃ t : kSt, kTo P s t ∧ ((¬ t.2.2 38 31 = 0 ∧ SimH σ' t.2.2 n ∧ ¬ σ' 34 11 = 0) ∨ (t.2.2 38 31 = 0 ∧ (t.2.1 = 1 ∨ t.2.1 = 2) ∧ ∃ p s, SimW P σ' t.1 t.2.1 t.2.2 n p b s ∧ (t.2.2 38 34 = 0 → kC t.2.2 p = false)))
theorem c_runDec (d : Nat) {P T σ τ : zS} (hW : ∀ x, x < pSz P → pW P T x) (hJ : ∀ x, x ≤ pSz P → pJ P 11 x) {n b e w : Nat} {x2 x3 : Int32} (hx3 : x3 = 0 ∨ x3 = 1) (hw : w = 0 ∨ w = 2)
    (H : SimW P (wr (wr (wr (wr (wr (wr (wr σ 34 6 (nI b)) 34 7 (nI b + 1)) 34 8 x2) 34 9 x3) 34 10 0) 34 11 0) 30 3 0) e w τ n (b + 1) b 0) :
    ∃ σ', zM (d + 7) mX4_runDecision [.inr (.inr 34), .inl (nI b), .inl x2, .inl x3] σ = some (0, 0, σ') ∧ RelE P σ (e, w, τ) n b x3 σ' := by
  rw [qX4_runDecision_34, qX4_runDecision_34_0, if_pos hx3]
  have hfr : dFrm σ (wr (wr (wr (wr (wr (wr (wr σ 34 6 (nI b)) 34 7 (nI b + 1)) 34 8 x2) 34 9 x3) 34 10 0) 34 11 0) 30 3 0) := ⟨fun c c1 c2 c3 c4 c5 c6 c7 c8 c9 => by simp (disch := omega) only [lt_litR, lt_litL, eq_litR, eq_litL, lt_nn, eq_nn, lt_n0, z_cl, add_lit, eq_m1, eq_m1', m1_lt, false_or, or_false, if_pos, if_neg, zbI_some, zbV_some, wr_same, wr_cell, wr_slot, ne_eq, not_true_eq_false, not_false_eq_true, true_and, and_true, false_and, and_false, e10, e01, e00, if_true, if_false, Bool.false_eq_true, lit_ne, lit_lt, eq_self], by simp (disch := omega) only [lt_litR, lt_litL, eq_litR, eq_litL, lt_nn, eq_nn, lt_n0, z_cl, add_lit, eq_m1, eq_m1', m1_lt, false_or, or_false, if_pos, if_neg, zbI_some, zbV_some, wr_same, wr_cell, wr_slot, ne_eq, not_true_eq_false, not_false_eq_true, true_and, and_true, false_and, and_false, e10, e01, e00, if_true, if_false, Bool.false_eq_true, lit_ne, lit_lt, eq_self], by simp (disch := omega) only [lt_litR, lt_litL, eq_litR, eq_litL, lt_nn, eq_nn, lt_n0, z_cl, add_lit, eq_m1, eq_m1', m1_lt, false_or, or_false, if_pos, if_neg, zbI_some, zbV_some, wr_same, wr_cell, wr_slot, ne_eq, not_true_eq_false, not_false_eq_true, true_and, and_true, false_and, and_false, e10, e01, e00, if_true, if_false, Bool.false_eq_true, lit_ne, lit_lt, eq_self]⟩
  have hx3' : wr (wr (wr (wr (wr (wr (wr σ 34 6 (nI b)) 34 7 (nI b + 1)) 34 8 x2) 34 9 x3) 34 10 0) 34 11 0) 30 3 0 34 9 = x3 := by simp (disch := omega) only [lt_litR, lt_litL, eq_litR, eq_litL, lt_nn, eq_nn, lt_n0, z_cl, add_lit, eq_m1, eq_m1', m1_lt, false_or, or_false, if_pos, if_neg, zbI_some, zbV_some, wr_same, wr_cell, wr_slot, ne_eq, not_true_eq_false, not_false_eq_true, true_and, and_true, false_and, and_false, e10, e01, e00, if_true, if_false, Bool.false_eq_true, lit_ne, lit_lt, eq_self]
  have hx2' : wr (wr (wr (wr (wr (wr (wr σ 34 6 (nI b)) 34 7 (nI b + 1)) 34 8 x2) 34 9 x3) 34 10 0) 34 11 0) 30 3 0 34 8 = x2 := by simp (disch := omega) only [lt_litR, lt_litL, eq_litR, eq_litL, lt_nn, eq_nn, lt_n0, z_cl, add_lit, eq_m1, eq_m1', m1_lt, false_or, or_false, if_pos, if_neg, zbI_some, zbV_some, wr_same, wr_cell, wr_slot, ne_eq, not_true_eq_false, not_false_eq_true, true_and, and_true, false_and, and_false, e10, e01, e00, if_true, if_false, Bool.false_eq_true, lit_ne, lit_lt, eq_self]
  generalize wr (wr (wr (wr (wr (wr (wr σ 34 6 (nI b)) 34 7 (nI b + 1)) 34 8 x2) 34 9 x3) 34 10 0) 34 11 0) 30 3 0 = σ1 at *
  obtain ⟨σ', t, m', y4, r1, r2, r3, r4, r5⟩ := c_runLoop d hW hJ n b x2 x3 12012 999999 0 11 σ1 τ e w (b + 1) 0 H (by omega) (hJ e H.2.2.1) (by omega) (by omega) (by omega) (by omega)
  have e0 : nI 0 = (0 : Int32) := rfl
  rw [e0] at r1
  rw [r1]
  rcases r5 with ⟨k1, k2, k3⟩ | ⟨k1, k2, p, s, k3⟩
  · rw [c_runEnd d m' y4 σ' x2 x3 (Or.inl k3), if_neg k3]
    exact ⟨σ', rfl, hfr.tr r4.d, by rw [r4.2.2.2.2, hx3'], t, r3, Or.inl ⟨k1, k2, k3⟩⟩
  · obtain ⟨w1, w2, w3⟩ := k3.w2
    have hend : ¬ σ' 34 10 = 0 ∨ ¬ σ' 30 5 = 0 := by
      rcases k2 with k2 | k2
      · rw [k2] at w2; left; rw [w2]; decide
      · rw [k2] at w3; right; rw [w3]; decide
    rw [c_runEnd d m' y4 σ' x2 x3 (Or.inr hend), if_pos w1]
    have f8 : σ' 34 8 = x2 := by rw [r4.2.2.2.1, hx2']
    have f9 : σ' 34 9 = x3 := by rw [r4.2.2.2.2, hx3']
    have K := k3
    obtain ⟨a1, a2, a3, a4, a5, a6, a7, a8, a9, a10, a11, a12, a13, a14, a15, a16, a17, a18, a19⟩ := k3
    rw [f9] at a11
    have hn := a15.2.1
    by_cases hl : x3 = 0
    · rw [if_pos hl]
      have hl2 : t.2.2 38 34 = 0 := by rw [← a11, hl]
      obtain ⟨b1, b2, E, b3, b4, b5, b6, b7⟩ := a17.1 hl2
      rw [f8] at b3
      rw [a10, b3]
      by_cases hpE : p < E
      · rw [if_pos (nI_lt hpE (by omega))]
        have hkc := b6 p a16 hpE
        have hgo : kGo t.2.2 = wr (wr t.2.2 38 31 2) 38 40 (nI p) := by
          rcases kGo_cases a15 with ⟨h1, _⟩ | ⟨_, _, h3⟩ | ⟨_, h2, _⟩
          · exact absurd hl2 h1
          · exact h3
          · rw [hkc] at h2; exact absurd h2 (by decide)
        obtain ⟨te, tw, tt⟩ := t
        simp only at *
        have h5 := kTo.one (P := P) (s := (te, tw, tt))
        rw [kF_go k1 k2, hgo] at h5
        refine ⟨_, rfl, ?_, by simp (disch := omega) only [lt_litR, lt_litL, eq_litR, eq_litL, lt_nn, eq_nn, lt_n0, z_cl, add_lit, eq_m1, eq_m1', m1_lt, false_or, or_false, if_pos, if_neg, zbI_some, zbV_some, wr_same, wr_cell, wr_slot, ne_eq, not_true_eq_false, not_false_eq_true, true_and, and_true, false_and, and_false, e10, e01, e00, if_true, if_false, Bool.false_eq_true, lit_ne, lit_lt, eq_self, f9], _, r3.tr h5, Or.inl ⟨by simp (disch := omega) only [lt_litR, lt_litL, eq_litR, eq_litL, lt_nn, eq_nn, lt_n0, z_cl, add_lit, eq_m1, eq_m1', m1_lt, false_or, or_false, if_pos, if_neg, zbI_some, zbV_some, wr_same, wr_cell, wr_slot, ne_eq, not_true_eq_false, not_false_eq_true, true_and, and_true, false_and, and_false, e10, e01, e00, if_true, if_false, Bool.false_eq_true, lit_ne, lit_lt, eq_self], ⟨by simp (disch := omega) only [lt_litR, lt_litL, eq_litR, eq_litL, lt_nn, eq_nn, lt_n0, z_cl, add_lit, eq_m1, eq_m1', m1_lt, false_or, or_false, if_pos, if_neg, zbI_some, zbV_some, wr_same, wr_cell, wr_slot, ne_eq, not_true_eq_false, not_false_eq_true, true_and, and_true, false_and, and_false, e10, e01, e00, if_true, if_false, Bool.false_eq_true, lit_ne, lit_lt, eq_self], by simp (disch := omega) only [lt_litR, lt_litL, eq_litR, eq_litL, lt_nn, eq_nn, lt_n0, z_cl, add_lit, eq_m1, eq_m1', m1_lt, false_or, or_false, if_pos, if_neg, zbI_some, zbV_some, wr_same, wr_cell, wr_slot, ne_eq, not_true_eq_false, not_false_eq_true, true_and, and_true, false_and, and_false, e10, e01, e00, if_true, if_false, Bool.false_eq_true, lit_ne, lit_lt, eq_self, f9, a11], fun _ => by simp (disch := omega) only [lt_litR, lt_litL, eq_litR, eq_litL, lt_nn, eq_nn, lt_n0, z_cl, add_lit, eq_m1, eq_m1', m1_lt, false_or, or_false, if_pos, if_neg, zbI_some, zbV_some, wr_same, wr_cell, wr_slot, ne_eq, not_true_eq_false, not_false_eq_true, true_and, and_true, false_and, and_false, e10, e01, e00, if_true, if_false, Bool.false_eq_true, lit_ne, lit_lt, eq_self], fun _ => ?_, fun h => ?_, Or.inl (by simp (disch := omega) only [lt_litR, lt_litL, eq_litR, eq_litL, lt_nn, eq_nn, lt_n0, z_cl, add_lit, eq_m1, eq_m1', m1_lt, false_or, or_false, if_pos, if_neg, zbI_some, zbV_some, wr_same, wr_cell, wr_slot, ne_eq, not_true_eq_false, not_false_eq_true, true_and, and_true, false_and, and_false, e10, e01, e00, if_true, if_false, Bool.false_eq_true, lit_ne, lit_lt, eq_self]), fun h => ?_⟩, by simp (disch := omega) only [lt_litR, lt_litL, eq_litR, eq_litL, lt_nn, eq_nn, lt_n0, z_cl, add_lit, eq_m1, eq_m1', m1_lt, false_or, or_false, if_pos, if_neg, zbI_some, zbV_some, wr_same, wr_cell, wr_slot, ne_eq, not_true_eq_false, not_false_eq_true, true_and, and_true, false_and, and_false, e10, e01, e00, if_true, if_false, Bool.false_eq_true, lit_ne, lit_lt, eq_self]⟩⟩
        · refine (hfr.tr r4.d).tr ⟨fun c c1 c2 c3 c4 c5 c6 c7 c8 c9 => by simp (disch := omega) only [lt_litR, lt_litL, eq_litR, eq_litL, lt_nn, eq_nn, lt_n0, z_cl, add_lit, eq_m1, eq_m1', m1_lt, false_or, or_false, if_pos, if_neg, zbI_some, zbV_some, wr_same, wr_cell, wr_slot, ne_eq, not_true_eq_false, not_false_eq_true, true_and, and_true, false_and, and_false, e10, e01, e00, if_true, if_false, Bool.false_eq_true, lit_ne, lit_lt, eq_self], by simp (disch := omega) only [lt_litR, lt_litL, eq_litR, eq_litL, lt_nn, eq_nn, lt_n0, z_cl, add_lit, eq_m1, eq_m1', m1_lt, false_or, or_false, if_pos, if_neg, zbI_some, zbV_some, wr_same, wr_cell, wr_slot, ne_eq, not_true_eq_false, not_false_eq_true, true_and, and_true, false_and, and_false, e10, e01, e00, if_true, if_false, Bool.false_eq_true, lit_ne, lit_lt, eq_self], by simp (disch := omega) only [lt_litR, lt_litL, eq_litR, eq_litL, lt_nn, eq_nn, lt_n0, z_cl, add_lit, eq_m1, eq_m1', m1_lt, false_or, or_false, if_pos, if_neg, zbI_some, zbV_some, wr_same, wr_cell, wr_slot, ne_eq, not_true_eq_false, not_false_eq_true, true_and, and_true, false_and, and_false, e10, e01, e00, if_true, if_false, Bool.false_eq_true, lit_ne, lit_lt, eq_self]⟩
        · exact b2.cong (by simp (disch := omega) only [lt_litR, lt_litL, eq_litR, eq_litL, lt_nn, eq_nn, lt_n0, z_cl, add_lit, eq_m1, eq_m1', m1_lt, false_or, or_false, if_pos, if_neg, zbI_some, zbV_some, wr_same, wr_cell, wr_slot, ne_eq, not_true_eq_false, not_false_eq_true, true_and, and_true, false_and, and_false, e10, e01, e00, if_true, if_false, Bool.false_eq_true, lit_ne, lit_lt, eq_self]) (by simp (disch := omega) only [lt_litR, lt_litL, eq_litR, eq_litL, lt_nn, eq_nn, lt_n0, z_cl, add_lit, eq_m1, eq_m1', m1_lt, false_or, or_false, if_pos, if_neg, zbI_some, zbV_some, wr_same, wr_cell, wr_slot, ne_eq, not_true_eq_false, not_false_eq_true, true_and, and_true, false_and, and_false, e10, e01, e00, if_true, if_false, Bool.false_eq_true, lit_ne, lit_lt, eq_self]) (fun i _ => by simp (disch := omega) only [lt_litR, lt_litL, eq_litR, eq_litL, lt_nn, eq_nn, lt_n0, z_cl, add_lit, eq_m1, eq_m1', m1_lt, false_or, or_false, if_pos, if_neg, zbI_some, zbV_some, wr_same, wr_cell, wr_slot, ne_eq, not_true_eq_false, not_false_eq_true, true_and, and_true, false_and, and_false, e10, e01, e00, if_true, if_false, Bool.false_eq_true, lit_ne, lit_lt, eq_self, and_self]) (fun i => by simp (disch := omega) only [lt_litR, lt_litL, eq_litR, eq_litL, lt_nn, eq_nn, lt_n0, z_cl, add_lit, eq_m1, eq_m1', m1_lt, false_or, or_false, if_pos, if_neg, zbI_some, zbV_some, wr_same, wr_cell, wr_slot, ne_eq, not_true_eq_false, not_false_eq_true, true_and, and_true, false_and, and_false, e10, e01, e00, if_true, if_false, Bool.false_eq_true, lit_ne, lit_lt, eq_self]) (fun i _ => by simp (disch := omega) only [lt_litR, lt_litL, eq_litR, eq_litL, lt_nn, eq_nn, lt_n0, z_cl, add_lit, eq_m1, eq_m1', m1_lt, false_or, or_false, if_pos, if_neg, zbI_some, zbV_some, wr_same, wr_cell, wr_slot, ne_eq, not_true_eq_false, not_false_eq_true, true_and, and_true, false_and, and_false, e10, e01, e00, if_true, if_false, Bool.false_eq_true, lit_ne, lit_lt, eq_self, and_self])
        · simp (disch := omega) only [wr_slot] at h; exact absurd hl2 h
        · simp (disch := omega) only [wr_slot] at h; exact absurd hl2 h
      · rw [if_neg (nI_nlt (by omega) (by omega))]
        obtain rfl : p = E := by omega
        exact ⟨σ', rfl, hfr.tr r4.d, f9, t, r3, Or.inr ⟨k1, k2, p, s, K, fun _ => b7⟩⟩
    · rw [if_neg hl]
      exact ⟨σ', rfl, hfr.tr r4.d, f9, t, r3, Or.inr ⟨k1, k2, p, s, K, fun h => absurd (by rw [a11, h]) hl⟩⟩
