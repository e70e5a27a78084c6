theorem Agr.ov {P : zS} {L : Nat} {K R V : Nat → Int32} {e : Nat} {τ1 τ2 : zS} {n1 n2 p b s : Nat} (H : Agr P L K R V e 0 τ1 τ2 n1 n2 p b s) : τ1 38 38 = 0 ∧ b < p ∧ kInv τ1 n1 p b s := by
  obtain ⟨a1, a2, a3, a4, a5, a6, a7, a8, a9, a10, a11, a12, a13, a14, a15, a16, a17⟩ := H
  exact ⟨a17.elim (fun h => h) (fun h => absurd h (by decide)), a15 rfl, a8⟩
theorem Agr.pev {P T : zS} {L : Nat} {K R V : Nat → Int32} {e w : Nat} {τ1 τ2 : zS} {n1 n2 p b s : Nat} (H : Agr P L K R V e w τ1 τ2 n1 n2 p b s) (he : e < pSz P) (hX : pX P T e) : pEv P e (τ2 54) = pEv P e (τ1 54) := pEv_cong he hX (fun r hr => H.2.1 r hr)
theorem Agr.to {P : zS} {L : Nat} {K R V : Nat → Int32} {e : Nat} {τ1 τ2 : zS} {n1 n2 p b s : Nat} (H : Agr P L K R V e 0 τ1 τ2 n1 n2 p b s) {p' b' s' : Nat} (h : kInv τ1 n1 p' b' s') : Agr P L K R V e 0 τ1 τ2 n1 n2 p' b' s' := by
  obtain ⟨rfl, rfl, rfl⟩ := H.ov.2.2.un h
  exact H
theorem Agr.do {P T : zS} {L : Nat} {K R V : Nat → Int32} {e : Nat} {τ1 τ2 : zS} {n1 n2 p b s p' b' s' : Nat} (H : Agr P L K R V e 0 τ1 τ2 n1 n2 p b s) (he : e < pSz P) (hz : pSz P ≤ 200) (hK0 : n1 < L → K n1 = 0) (hW : pW P T e) (h12 : ¬ P 16 e = 12) (hg : (kDo P e τ1).2.2 38 31 = 0) (hI' : kInv (kDo P e τ1).2.2 n1 p' b' s') (hp' : p' ≤ L) (hS : ∀ i, i < L → i < kCt (kDo P e τ1).2.2 n1 p' → tK K R V (kDo P e τ1).2.2 i) :
    ∃ τ2' b s, kDo P e τ2 = ((kDo P e τ1).1, (kDo P e τ1).2.1, τ2') ∧ Agr P L K R V (kDo P e τ1).1 (kDo P e τ1).2.1 (kDo P e τ1).2.2 τ2' n1 n2 p' b s := by
  obtain ⟨hov, hb, hI⟩ := H.ov
  have h0 := H.2.2.2.2.1
  -- a result that leaves the numbers
  have fin : ∀ (e' w' : Nat) (τ1' τ2' : zS), kDo P e τ1 = (e', w', τ1') → kDo P e τ2 = (e', w', τ2') → Agr P L K R V e' w' τ1' τ2' n1 n2 p b s → ∃ τ2' b s, kDo P e τ2 = ((kDo P e τ1).1, (kDo P e τ1).2.1, τ2') ∧ Agr P L K R V (kDo P e τ1).1 (kDo P e τ1).2.1 (kDo P e τ1).2.2 τ2' n1 n2 p' b s := by
    intro e' w' τ1' τ2' h1 h2 h3
    rw [h1] at hI' ⊢
    obtain ⟨rfl, rfl, rfl⟩ := h3.2.2.2.2.2.2.2.1.un hI'
    exact ⟨τ2', _, _, h2, h3⟩
  rcases hW with ⟨hs, _⟩ | ⟨⟨r, hr, hP⟩, hs⟩ | ⟨hs, hX⟩ | ⟨hs, hX, t, ht, hf⟩
  · exact absurd hs h12
  · rcases hs with ⟨hs, hX⟩ | ⟨hs, x, hx, hf⟩ | ⟨hs, x, y, hx, hf, hy, hf2⟩ | hs | hs | hs
    · have hev := H.pev he hX
      rcases hs with hs | hs | hs
      · have hd : ∀ τ, kDo P e τ = (e + 1, 0, wr τ 54 (P 17 e).toNatClampNeg (pEv P e (τ 54))) := fun τ => by rw [kDo, if_pos hs]
        refine fin _ _ _ _ (hd τ1) (hd τ2) ?_
        rw [hev]
        exact H.fin (by omega) hb hov _ _
      · have hd : ∀ τ, kDo P e τ = kOrd P e τ 1 (P 18 e) (pEv P e (τ 54)) := fun τ => by
          rw [kDo]; simp (disch := omega) only [lt_litR, lt_litL, eq_litR, eq_litL, lt_nn, eq_nn, lt_n0, z_cl, add_lit, eq_m1, eq_m1', m1_lt, false_or, or_false, if_pos, if_neg, zbI_some, zbV_some, wr_same, wr_cell, wr_slot, ne_eq, not_true_eq_false, not_false_eq_true, true_and, and_true, false_and, and_false, e10, e01, e00, if_true, if_false, Bool.false_eq_true, lit_ne, lit_lt, eq_self, hs]
        rw [hd] at hg hI' hS ⊢
        rw [hd, hev]
        exact H.ord he (by decide) _ _ hg hI' hp' hS
      · have hd : ∀ τ, kDo P e τ = kOrd P e τ 2 0 (pEv P e (τ 54)) := fun τ => by
          rw [kDo]; simp (disch := omega) only [lt_litR, lt_litL, eq_litR, eq_litL, lt_nn, eq_nn, lt_n0, z_cl, add_lit, eq_m1, eq_m1', m1_lt, false_or, or_false, if_pos, if_neg, zbI_some, zbV_some, wr_same, wr_cell, wr_slot, ne_eq, not_true_eq_false, not_false_eq_true, true_and, and_true, false_and, and_false, e10, e01, e00, if_true, if_false, Bool.false_eq_true, lit_ne, lit_lt, eq_self, hs]
        rw [hd] at hg hI' hS ⊢
        rw [hd, hev]
        exact H.ord he (by decide) _ _ hg hI' hp' hS
    · rcases hs with hs | hs
      · have hd : ∀ τ, kDo P e τ = match kDone τ (τ 54 x) with
            | some g => (e + 1, 0, wr (wr τ 38 44 g) 54 r g)
            | none => (e, 1, wr τ 38 44 (-2)) := fun τ => by
          have : kDo P e τ = kWai P e τ 9 (P 18 e) 0 := by rw [kDo]; simp (disch := omega) only [lt_litR, lt_litL, eq_litR, eq_litL, lt_nn, eq_nn, lt_n0, z_cl, add_lit, eq_m1, eq_m1', m1_lt, false_or, or_false, if_pos, if_neg, zbI_some, zbV_some, wr_same, wr_cell, wr_slot, ne_eq, not_true_eq_false, not_false_eq_true, true_and, and_true, false_and, and_false, e10, e01, e00, if_true, if_false, Bool.false_eq_true, lit_ne, lit_lt, eq_self, hs]
          rw [this, kWai_9, hf, z_cl (by omega), hP, z_cl (by omega)]
          cases kDone τ (τ 54 x) <;> rfl
        have hdn : kDone τ2 (τ2 54 x) = kDone τ1 (τ1 54 x) := by rw [H.2.1 x hx, H.done]
        have h1 := hd τ1
        have h2 := hd τ2
        rw [hdn] at h2
        cases hk : kDone τ1 (τ1 54 x) with
        | none =>
          rw [hk] at h1 h2
          exact fin _ _ _ _ h1 h2 (H.gav hb hov _)
        | some g =>
          rw [hk] at h1 h2
          exact fin _ _ _ _ h1 h2 ((H.gav (w' := 0) hb hov g).fin (by omega) hb (by rw [wr_slot _ _ _ (by omega), hov]) _ _)
      · have hd : ∀ τ, kDo P e τ = (e + 1, 0, wr (wr τ 38 44 ((kDone τ (τ 54 x)).getD (-2))) 54 r (if (kDone τ (τ 54 x)).isSome then 1 else 0)) := fun τ => by
          rw [kDo]
          simp (disch := omega) only [lt_litR, lt_litL, eq_litR, eq_litL, lt_nn, eq_nn, lt_n0, z_cl, add_lit, eq_m1, eq_m1', m1_lt, false_or, or_false, if_pos, if_neg, zbI_some, zbV_some, wr_same, wr_cell, wr_slot, ne_eq, not_true_eq_false, not_false_eq_true, true_and, and_true, false_and, and_false, e10, e01, e00, if_true, if_false, Bool.false_eq_true, lit_ne, lit_lt, eq_self, hs, hf, hP]
        have hdn : kDone τ2 (τ2 54 x) = kDone τ1 (τ1 54 x) := by rw [H.2.1 x hx, H.done]
        have h1 := hd τ1
        have h2 := hd τ2
        rw [hdn] at h2
        exact fin _ _ _ _ h1 h2 ((H.gav (w' := 0) hb hov _).fin (by omega) hb (by rw [wr_slot _ _ _ (by omega), hov]) _ _)
    · have hd : ∀ τ, kDo P e τ = if (kDone τ (τ 54 x)).isSome then (e + 1, 0, wr (wr τ 38 44 1) 54 r 1) else if (kDone τ (τ 54 y)).isSome then (e + 1, 0, wr (wr τ 38 44 2) 54 r 2) else (e, 1, wr τ 38 44 2) := fun τ => by
        have : kDo P e τ = kWai P e τ 3 (P 18 e) (P 19 e) := by rw [kDo]; simp (disch := omega) only [lt_litR, lt_litL, eq_litR, eq_litL, lt_nn, eq_nn, lt_n0, z_cl, add_lit, eq_m1, eq_m1', m1_lt, false_or, or_false, if_pos, if_neg, zbI_some, zbV_some, wr_same, wr_cell, wr_slot, ne_eq, not_true_eq_false, not_false_eq_true, true_and, and_true, false_and, and_false, e10, e01, e00, if_true, if_false, Bool.false_eq_true, lit_ne, lit_lt, eq_self, hs]
        rw [this, kWai_3, hf, hf2, z_cl (by omega), z_cl (by omega), hP, z_cl (by omega)]
      have hdn : kDone τ2 (τ2 54 x) = kDone τ1 (τ1 54 x) := by rw [H.2.1 x hx, H.done]
      have hdn2 : kDone τ2 (τ2 54 y) = kDone τ1 (τ1 54 y) := by rw [H.2.1 y hy, H.done]
      have h1 := hd τ1
      have h2 := hd τ2
      rw [hdn, hdn2] at h2
      by_cases k1 : (kDone τ1 (τ1 54 x)).isSome
      · rw [if_pos k1] at h1 h2
        exact fin _ _ _ _ h1 h2 ((H.gav (w' := 0) hb hov _).fin (by omega) hb (by rw [wr_slot _ _ _ (by omega), hov]) _ _)
      · rw [if_neg k1] at h1 h2
        by_cases k2 : (kDone τ1 (τ1 54 y)).isSome
        · rw [if_pos k2] at h1 h2
          exact fin _ _ _ _ h1 h2 ((H.gav (w' := 0) hb hov _).fin (by omega) hb (by rw [wr_slot _ _ _ (by omega), hov]) _ _)
        · rw [if_neg k2] at h1 h2
          exact fin _ _ _ _ h1 h2 (H.gav hb hov _)
    · have hd : ∀ τ, kDo P e τ = match kSig τ (τ 38 32).toNatClampNeg 0 0 with
          | some g => (e + 1, 0, wr (wr (wr τ 38 44 g) 54 r g) 38 37 (τ 38 37 + 1))
          | none => (e, 1, τ) := fun τ => by
        have : kDo P e τ = kWai P e τ 5 0 0 := by rw [kDo]; simp (disch := omega) only [lt_litR, lt_litL, eq_litR, eq_litL, lt_nn, eq_nn, lt_n0, z_cl, add_lit, eq_m1, eq_m1', m1_lt, false_or, or_false, if_pos, if_neg, zbI_some, zbV_some, wr_same, wr_cell, wr_slot, ne_eq, not_true_eq_false, not_false_eq_true, true_and, and_true, false_and, and_false, e10, e01, e00, if_true, if_false, Bool.false_eq_true, lit_ne, lit_lt, eq_self, hs]
        rw [this, kWai_5, hP, z_cl (by omega)]
        cases kSig τ (τ 38 32).toNatClampNeg 0 0 <;> rfl
      have h1 := hd τ1
      have h2 := hd τ2
      rw [H.sig, H.2.2.1] at h2
      cases hk : kSig τ1 (τ1 38 32).toNatClampNeg 0 0 with
      | none =>
        rw [hk] at h1 h2
        refine fin _ _ _ _ h1 h2 (H.w H.1 (fun _ => hb) H.2.1 H.2.2.1 H.2.2.2.1 (Or.inl hov) (fun _ _ => rfl) (fun _ _ => rfl) (fun _ _ _ => rfl) (fun _ _ _ => rfl))
      | some g =>
        rw [hk] at h1 h2
        have h3 := ((H.gav (w' := 0) hb hov g).fin (e' := e + 1) (by omega) hb (by rw [wr_slot _ _ _ (by omega), hov]) r g)
        refine fin _ _ _ _ h1 h2 (h3.w h3.1 (fun _ => hb) (fun k hk => by rw [wr_cell _ _ _ (by omega), wr_cell (c := 38) (d := 54) (wr (wr τ1 38 44 g) 54 r g) _ _ (by omega)]; exact h3.2.1 k hk) (by rw [wr_same, wr_same]) (by rw [wr_slot _ _ _ (by omega), wr_slot (wr (wr τ1 38 44 g) 54 r g) _ _ (by omega)]; exact h3.2.2.2.1) (Or.inl (by simp (disch := omega) only [lt_litR, lt_litL, eq_litR, eq_litL, lt_nn, eq_nn, lt_n0, z_cl, add_lit, eq_m1, eq_m1', m1_lt, false_or, or_false, if_pos, if_neg, zbI_some, zbV_some, wr_same, wr_cell, wr_slot, ne_eq, not_true_eq_false, not_false_eq_true, true_and, and_true, false_and, and_false, e10, e01, e00, if_true, if_false, Bool.false_eq_true, lit_ne, lit_lt, eq_self, hov])) (fun k hk => wr_slot _ _ _ (by omega)) (fun k hk => wr_slot _ _ _ (by omega)) (fun c _ _ => wr_cell _ _ _ (by omega)) (fun c _ _ => wr_cell _ _ _ (by omega)))
    · have hd : ∀ τ, kDo P e τ = (e + 1, 0, wr τ 54 r (τ 52 (τ 38 32).toNatClampNeg)) := fun τ => by
        rw [kDo]
        simp (disch := omega) only [lt_litR, lt_litL, eq_litR, eq_litL, lt_nn, eq_nn, lt_n0, z_cl, add_lit, eq_m1, eq_m1', m1_lt, false_or, or_false, if_pos, if_neg, zbI_some, zbV_some, wr_same, wr_cell, wr_slot, ne_eq, not_true_eq_false, not_false_eq_true, true_and, and_true, false_and, and_false, e10, e01, e00, if_true, if_false, Bool.false_eq_true, lit_ne, lit_lt, eq_self, hs, hP]
      have h1 := hd τ1
      have h2 := hd τ2
      have h9 := H.2.2.2.2.2.2.2.2.1
      rw [h9.2.2.2.2.1, z_cl (by have := h9.2.2.2.2.2.1; omega), (H.teq b hb).2.2] at h2
      rw [hI.2.2.2.2.1, z_cl (by have := h9.2.2.2.2.2.1; omega)] at h1
      exact fin _ _ _ _ h1 h2 (H.fin (by omega) hb hov _ _)
    · have hd : ∀ τ, kDo P e τ = kPat P e τ (P 18 e) := fun τ => by
        rw [kDo]; simp (disch := omega) only [lt_litR, lt_litL, eq_litR, eq_litL, lt_nn, eq_nn, lt_n0, z_cl, add_lit, eq_m1, eq_m1', m1_lt, false_or, or_false, if_pos, if_neg, zbI_some, zbV_some, wr_same, wr_cell, wr_slot, ne_eq, not_true_eq_false, not_false_eq_true, true_and, and_true, false_and, and_false, e10, e01, e00, if_true, if_false, Bool.false_eq_true, lit_ne, lit_lt, eq_self, hs]
      have h9 := H.2.2.2.2.2.2.2.2.1
      have h34 := H.2.2.2.2.2.2.1
      have hp2 := hI.2.2.2.1
      have hn1 := hI.2.1
      have hn2 := h9.2.1
      -- the mark is taken
      have yes : (¬ τ1 38 34 = 0 ∨ (kC τ1 p = true ∧ τ1 50 p = 3 ∧ τ1 51 p = P 18 e)) → ∃ τ2' b s, kDo P e τ2 = ((kDo P e τ1).1, (kDo P e τ1).2.1, τ2') ∧ Agr P L K R V (kDo P e τ1).1 (kDo P e τ1).2.1 (kDo P e τ1).2.2 τ2' n1 n2 p' b s := by
        intro hc
        have h1 := hd τ1
        rw [kPat, hI.2.2.1, z_cl (by omega), if_pos hc] at h1
        by_cases hk : (kCmd τ1 3 (P 18 e) 0).1 = -1
        · exfalso
          rw [if_pos hk] at h1
          rw [h1] at hg
          rcases hI.cmd h0 3 (P 18 e) 0 with ⟨_, c2⟩ | ⟨c1, _⟩
          · exact c2 hg
          · exact c1 hk
        · rw [if_neg hk] at h1
          obtain ⟨c1, c2⟩ | ⟨c1, c2, c3, c4⟩ := hI.cmd h0 3 (P 18 e) 0
          · exact absurd c1 hk
          rw [h1] at hI' hS ⊢
          simp only at hI' hS
          obtain ⟨rfl, hS2⟩ := cmdHyp c3 hI' hS (fun k hk => by rw [wr_cell _ _ _ (by omega)]) (fun c _ _ => wr_cell _ _ _ (by omega))
          obtain ⟨d1, d2, d3, d4⟩ := H.cmd (k := 3) (by decide) c2 hp' hS2
          have hc2 : kC τ2 p = true ∧ τ2 50 p = 3 ∧ τ2 51 p = P 18 e := by
            rcases kCmd_cases h9 3 (P 18 e) 0 with ⟨_, _, g1, g2, g3, _, _⟩ | ⟨_, _, g⟩ | ⟨g, _⟩ | ⟨g, _⟩
            · exact ⟨g1, g2, g3⟩
            · rw [d1] at g
              have := congrArg Prod.fst g
              simp only [eq_m1 (show p < 2 ^ 31 by omega)] at this
            · exact absurd h34 g
            · exact absurd h34 g
          refine ⟨wr (wr τ2 38 33 (nI (p + 1))) 54 (P 17 e).toNatClampNeg 1, b, s, ?_, ?_⟩
          · rw [hd, kPat, h9.2.2.1, z_cl (by omega), if_pos (Or.inr hc2), d1, if_neg (by rw [eq_m1 (by omega)]; exact fun h => h)]
          · have hov2 : (kCmd τ1 3 (P 18 e) 0).2 38 38 = 0 := d4.ov.1
            exact d4.fin (by omega) (by omega) hov2 _ _
      by_cases hl : τ1 38 34 = 0
      · by_cases hc : kC τ1 p = true ∧ τ1 50 p = 3 ∧ τ1 51 p = P 18 e
        · exact yes (Or.inr hc)
        · have h1 := hd τ1
          have h2 := hd τ2
          have hpn := hI.2.2.2.2.2.2.1 hl
          have hc2 : ¬ (kC τ2 p = true ∧ τ2 50 p = 3 ∧ τ2 51 p = P 18 e) := by
            intro hc2
            by_cases hpL : p = L
            · rw [hpL, H.2.2.2.2.2.2.2.2.2.2.2.1] at hc2
              exact absurd hc2.1 (by decide)
            · have hpL2 : p < L := by have := H.2.2.2.2.2.2.2.2.2.2.2.2.2.2.2.1; omega
              have t2 := H.2.2.2.2.2.2.2.2.2.1 p hpL2
              by_cases hpn2 : p = n1
              · subst hpn2
                have := hK0 hpL2
                rw [t2.1, this] at hc2
                exact absurd hc2.2.1 (by decide)
              · have t1 := H.2.2.2.2.2.2.2.2.2.2.2.2.1 p hpL2 (by rw [kCt, if_pos hl]; omega)
                have hL2 := H.2.2.2.2.2.2.2.2.2.2.1
                refine hc ⟨?_, by rw [t1.1, ← t2.1]; exact hc2.2.1, by rw [t1.2.1, ← t2.2.1]; exact hc2.2.2⟩
                rw [kC_at hI.1 hn1 (by omega), t1.1, ← t2.1, ← kC_at h9.1 hn2 (by omega)]
                exact hc2.1
          rw [kPat, hI.2.2.1, z_cl (by omega), if_neg (fun h => h.elim (fun h => h hl) hc)] at h1
          rw [kPat, h9.2.2.1, z_cl (by omega), if_neg (fun h => h.elim (fun h => h h34) hc2)] at h2
          exact fin _ _ _ _ h1 h2 (H.fin (by omega) hb hov _ _)
      · exact yes (Or.inl hl)
  · have hev := H.pev he hX
    have hd : ∀ τ, kDo P e τ = kStp e τ (pEv P e (τ 54)) := fun τ => by
      rw [kDo]; simp (disch := omega) only [lt_litR, lt_litL, eq_litR, eq_litL, lt_nn, eq_nn, lt_n0, z_cl, add_lit, eq_m1, eq_m1', m1_lt, false_or, or_false, if_pos, if_neg, zbI_some, zbV_some, wr_same, wr_cell, wr_slot, ne_eq, not_true_eq_false, not_false_eq_true, true_and, and_true, false_and, and_false, e10, e01, e00, if_true, if_false, Bool.false_eq_true, lit_ne, lit_lt, eq_self, hs]
    rw [hd] at hg hI' hS ⊢
    rw [hd, hev]
    exact H.stp _ hg hI' hp' hS
  · have hev := H.pev he hX
    have hd : ∀ τ, kDo P e τ = if pEv P e (τ 54) = 0 then (t, 0, τ) else (e + 1, 0, τ) := fun τ => by
      rw [kDo]
      rcases hs with hs | hs <;> simp (disch := omega) only [lt_litR, lt_litL, eq_litR, eq_litL, lt_nn, eq_nn, lt_n0, z_cl, add_lit, eq_m1, eq_m1', m1_lt, false_or, or_false, if_pos, if_neg, zbI_some, zbV_some, wr_same, wr_cell, wr_slot, ne_eq, not_true_eq_false, not_false_eq_true, true_and, and_true, false_and, and_false, e10, e01, e00, if_true, if_false, Bool.false_eq_true, lit_ne, lit_lt, eq_self, hs, hf]
    have h1 := hd τ1
    have h2 := hd τ2
    rw [hev] at h2
    have h5 : ∀ e', e' ≤ pSz P → Agr P L K R V e' 0 τ1 τ2 n1 n2 p b s := fun e' he' => H.w he' (fun _ => hb) H.2.1 H.2.2.1 H.2.2.2.1 (Or.inl hov) (fun _ _ => rfl) (fun _ _ => rfl) (fun _ _ _ => rfl) (fun _ _ _ => rfl)
    by_cases hv : pEv P e (τ1 54) = 0
    · rw [if_pos hv] at h1 h2
      exact fin _ _ _ _ h1 h2 (h5 t ht)
    · rw [if_neg hv] at h1 h2
      exact fin _ _ _ _ h1 h2 (h5 (e + 1) (by omega))

theorem Agr.F {P T : zS} {L : Nat} {K R V : Nat → Int32} {e w : Nat} {τ1 τ2 : zS} {n1 n2 p b s p' b' s' : Nat} (H : Agr P L K R V e w τ1 τ2 n1 n2 p b s) (hw : w ≤ 2) (hz : pSz P ≤ 200) (hK0 : n1 < L → K n1 = 0) (hW : ∀ x, x < pSz P → pW P T x) (hg : (kF P (e, w, τ1)).2.2 38 31 = 0) (hI' : kInv (kF P (e, w, τ1)).2.2 n1 p' b' s') (hp' : p' ≤ L) (hS : ∀ i, i < L → i < kCt (kF P (e, w, τ1)).2.2 n1 p' → tK K R V (kF P (e, w, τ1)).2.2 i) :
    ∃ τ2' b s, kF P (e, w, τ2) = ((kF P (e, w, τ1)).1, (kF P (e, w, τ1)).2.1, τ2') ∧ Agr P L K R V (kF P (e, w, τ1)).1 (kF P (e, w, τ1)).2.1 (kF P (e, w, τ1)).2.2 τ2' n1 n2 p' b s := by
  have h0 := H.2.2.2.2.1
  have h02 := H.2.2.2.2.2.1
  by_cases hw0 : w = 0
  · subst hw0
    obtain ⟨hov, hb, hI⟩ := H.ov
    rw [kF_turn h0] at hg hI' hS ⊢
    rw [kF_turn h02]
    have h9 := H.2.2.2.2.2.2.2.2.1
    have h36 : τ2 38 36 = τ1 38 36 := by rw [hI.2.2.2.2.2.2.2.2.1, h9.2.2.2.2.2.2.2.2.1]
    by_cases h12 : pSo P e = 12
    · have he : e < pSz P := by
        by_cases h : e < pSz P
        · exact h
        · rw [pSo, if_neg h] at h12; exact absurd h12 (by decide)
      have hW0 := hW e he
      rw [pSo_in he] at h12
      have ht : ∃ t, t ≤ pSz P ∧ P 18 e = nI t := by
        rcases hW0 with ⟨_, h⟩ | ⟨_, hs⟩ | ⟨hs, _⟩ | ⟨hs, _⟩
        · exact h
        · exfalso
          rcases hs with ⟨hs, _⟩ | ⟨hs, _⟩ | ⟨hs, _⟩ | hs | hs | hs
          · rcases hs with hs | hs | hs <;> rw [h12] at hs <;> exact absurd hs (by decide)
          · rcases hs with hs | hs <;> rw [h12] at hs <;> exact absurd hs (by decide)
          all_goals rw [h12] at hs; exact absurd hs (by decide)
        · rw [h12] at hs; exact absurd hs (by decide)
        · rcases hs with hs | hs <;> rw [h12] at hs <;> exact absurd hs (by decide)
      obtain ⟨t, ht, hf⟩ := ht
      have hd : ∀ τ, kTurn P e τ = (t, 0, τ) := fun τ => by rw [kTurn, pSo_in he, if_pos h12, hf, z_cl (by omega)]
      rw [hd] at hI' ⊢
      rw [hd]
      obtain ⟨rfl, rfl, rfl⟩ := hI.un hI'
      exact ⟨τ2, _, _, rfl, H.w ht (fun _ => hb) H.2.1 H.2.2.1 H.2.2.2.1 (Or.inl hov) (fun _ _ => rfl) (fun _ _ => rfl) (fun _ _ _ => rfl) (fun _ _ _ => rfl)⟩
    · by_cases h13 : pSo P e = 13
      · have hd : ∀ τ, kTurn P e τ = kStp e τ 0 := fun τ => by rw [kTurn, if_neg h12, if_pos h13]
        rw [hd] at hg hI' hS ⊢
        rw [hd]
        exact H.stp _ hg hI' hp' hS
      · have he : e < pSz P := by
          by_cases h : e < pSz P
          · exact h
          · rw [pSo, if_neg h] at h13; exact absurd rfl h13
        by_cases hs : 1000 < τ1 38 36 + 1
        · rw [kTurn_stuck h12 h13 hs] at hg
          simp only [wr_same] at hg
          exact absurd hg i30
        · have H1 := H.step hs
          rw [kTurn_do h12 h13 hs] at hg hI' hS ⊢
          rw [kTurn_do h12 h13 (by rw [h36]; exact hs)]
          exact H1.do he hz hK0 (hW e he) (by rw [← pSo_in he]; exact h12) hg hI' hp' hS
  · have hw12 : w = 1 ∨ w = 2 := by omega
    rw [kF_go h0 hw12] at hg hI' hS ⊢
    rw [kF_go h02 hw12]
    simp only at hg hI' hS ⊢
    obtain ⟨a1, a2, a3, a4, a5, a6, a7, a8, a9, a10, a11, a12, a13, a14, a15, a16, a17⟩ := H
    have hn1 := a8.2.1
    have hn2 := a9.2.1
    have hp := a8.2.2.2.1
    have hwo : ∀ x : Int32, (x = 0 ∨ w = 2) → (x = 0 ∨ (if w = 1 then 0 else 2) = 2) := fun x h => by
      rcases h with h | h
      · exact Or.inl h
      · right; subst h; rfl
    rcases kGo_cases a8 with ⟨_, g⟩ | ⟨_, _, g⟩ | ⟨hl, hkc, q, q1, q2, q3, g⟩
    · rw [g, wr_same] at hg; exact absurd hg (by decide)
    · rw [g] at hg; simp (disch := omega) only [lt_litR, lt_litL, eq_litR, eq_litL, lt_nn, eq_nn, lt_n0, z_cl, add_lit, eq_m1, eq_m1', m1_lt, false_or, or_false, if_pos, if_neg, zbI_some, zbV_some, wr_same, wr_cell, wr_slot, ne_eq, not_true_eq_false, not_false_eq_true, true_and, and_true, false_and, and_false, e10, e01, e00, if_true, if_false, Bool.false_eq_true, lit_ne, lit_lt, eq_self] at hg
    · have hpn := a8.2.2.2.2.2.2.1 hl
      -- no command at p in the second, and the next BEGIN is at q
      have core : q < L → τ2 50 q = 0 → kGo τ2 = wr (wr (wr τ2 38 33 (nI (q + 1))) 38 36 0) 38 32 (nI q) := by
        intro hqL hq0
        have hkc2 : kC τ2 p = false := by
          by_cases hpq : p = q
          · subst hpq
            rw [kC_at a9.1 hn2 (by omega), hq0]
            decide
          · have t1 := a13 p (by omega) (by rw [kCt, if_pos hl]; omega)
            have t2 := a10 p (by omega)
            rw [kC_at a9.1 hn2 (by omega), t2.1, ← t1.1, ← kC_at a8.1 hn1 (by omega)]
            exact hkc
        rcases kGo_cases a9 with ⟨h, _⟩ | ⟨_, h, _⟩ | ⟨_, _, q', r1, r2, r3, g'⟩
        · exact absurd a7 h
        · rw [hkc2] at h; exact absurd h (by decide)
        · have hq' : q' = q := by
            by_cases h : q' < q
            · exfalso
              have t1 := a13 q' (by omega) (by rw [kCt, if_pos hl]; omega)
              have t2 := a10 q' (by omega)
              have : ¬ τ2 50 q' = 0 := by rw [t2.1, ← t1.1]; exact q3 q' r1 h
              rcases g' with ⟨_, h9, _⟩ | ⟨h9, _⟩ | ⟨h9, _⟩ | ⟨h9, _⟩
              · exact this h9
              · omega
              · omega
              · omega
            · by_cases h2 : q < q'
              · exact absurd hq0 (r3 q q1 h2)
              · omega
          subst hq'
          rcases g' with ⟨_, _, g'⟩ | ⟨h9, _⟩ | ⟨h9, _⟩ | ⟨h9, _⟩
          · exact g'
          · omega
          · omega
          · omega
      have hk2 : kC (wr (wr (wr τ2 38 33 (nI (q + 1))) 38 36 0) 38 32 (nI q)) L = kC τ2 L := kC_cong (by simp (disch := omega) only [lt_litR, lt_litL, eq_litR, eq_litL, lt_nn, eq_nn, lt_n0, z_cl, add_lit, eq_m1, eq_m1', m1_lt, false_or, or_false, if_pos, if_neg, zbI_some, zbV_some, wr_same, wr_cell, wr_slot, ne_eq, not_true_eq_false, not_false_eq_true, true_and, and_true, false_and, and_false, e10, e01, e00, if_true, if_false, Bool.false_eq_true, lit_ne, lit_lt, eq_self]) (by simp (disch := omega) only [lt_litR, lt_litL, eq_litR, eq_litL, lt_nn, eq_nn, lt_n0, z_cl, add_lit, eq_m1, eq_m1', m1_lt, false_or, or_false, if_pos, if_neg, zbI_some, zbV_some, wr_same, wr_cell, wr_slot, ne_eq, not_true_eq_false, not_false_eq_true, true_and, and_true, false_and, and_false, e10, e01, e00, if_true, if_false, Bool.false_eq_true, lit_ne, lit_lt, eq_self])
      have hI2 : q < L → kInv (wr (wr (wr τ2 38 33 (nI (q + 1))) 38 36 0) 38 32 (nI q)) n2 (q + 1) q 0 := fun hqL => ⟨by simp (disch := omega) only [lt_litR, lt_litL, eq_litR, eq_litL, lt_nn, eq_nn, lt_n0, z_cl, add_lit, eq_m1, eq_m1', m1_lt, false_or, or_false, if_pos, if_neg, zbI_some, zbV_some, wr_same, wr_cell, wr_slot, ne_eq, not_true_eq_false, not_false_eq_true, true_and, and_true, false_and, and_false, e10, e01, e00, if_true, if_false, Bool.false_eq_true, lit_ne, lit_lt, eq_self, a9.1], hn2, by simp (disch := omega) only [lt_litR, lt_litL, eq_litR, eq_litL, lt_nn, eq_nn, lt_n0, z_cl, add_lit, eq_m1, eq_m1', m1_lt, false_or, or_false, if_pos, if_neg, zbI_some, zbV_some, wr_same, wr_cell, wr_slot, ne_eq, not_true_eq_false, not_false_eq_true, true_and, and_true, false_and, and_false, e10, e01, e00, if_true, if_false, Bool.false_eq_true, lit_ne, lit_lt, eq_self], by omega, by simp (disch := omega) only [lt_litR, lt_litL, eq_litR, eq_litL, lt_nn, eq_nn, lt_n0, z_cl, add_lit, eq_m1, eq_m1', m1_lt, false_or, or_false, if_pos, if_neg, zbI_some, zbV_some, wr_same, wr_cell, wr_slot, ne_eq, not_true_eq_false, not_false_eq_true, true_and, and_true, false_and, and_false, e10, e01, e00, if_true, if_false, Bool.false_eq_true, lit_ne, lit_lt, eq_self], by omega, fun _ => by omega, fun h => absurd (by simp (disch := omega) only [lt_litR, lt_litL, eq_litR, eq_litL, lt_nn, eq_nn, lt_n0, z_cl, add_lit, eq_m1, eq_m1', m1_lt, false_or, or_false, if_pos, if_neg, zbI_some, zbV_some, wr_same, wr_cell, wr_slot, ne_eq, not_true_eq_false, not_false_eq_true, true_and, and_true, false_and, and_false, e10, e01, e00, if_true, if_false, Bool.false_eq_true, lit_ne, lit_lt, eq_self, a7]) h, by simp (disch := omega) only [lt_litR, lt_litL, eq_litR, eq_litL, lt_nn, eq_nn, lt_n0, z_cl, add_lit, eq_m1, eq_m1', m1_lt, false_or, or_false, if_pos, if_neg, zbI_some, zbV_some, wr_same, wr_cell, wr_slot, ne_eq, not_true_eq_false, not_false_eq_true, true_and, and_true, false_and, and_false, e10, e01, e00, if_true, if_false, Bool.false_eq_true, lit_ne, lit_lt, eq_self], by omega⟩
      rcases g with ⟨g1, g2, g⟩ | ⟨_, _, g⟩ | ⟨_, _, _, g⟩ | ⟨g1, g2, g3, g⟩
      · rw [g] at hI' hS ⊢
        have hIn : kInv (wr (wr (wr τ1 38 33 (nI (q + 1))) 38 36 0) 38 32 (nI q)) n1 (q + 1) q 0 := ⟨by simp (disch := omega) only [lt_litR, lt_litL, eq_litR, eq_litL, lt_nn, eq_nn, lt_n0, z_cl, add_lit, eq_m1, eq_m1', m1_lt, false_or, or_false, if_pos, if_neg, zbI_some, zbV_some, wr_same, wr_cell, wr_slot, ne_eq, not_true_eq_false, not_false_eq_true, true_and, and_true, false_and, and_false, e10, e01, e00, if_true, if_false, Bool.false_eq_true, lit_ne, lit_lt, eq_self, a8.1], hn1, by simp (disch := omega) only [lt_litR, lt_litL, eq_litR, eq_litL, lt_nn, eq_nn, lt_n0, z_cl, add_lit, eq_m1, eq_m1', m1_lt, false_or, or_false, if_pos, if_neg, zbI_some, zbV_some, wr_same, wr_cell, wr_slot, ne_eq, not_true_eq_false, not_false_eq_true, true_and, and_true, false_and, and_false, e10, e01, e00, if_true, if_false, Bool.false_eq_true, lit_ne, lit_lt, eq_self], by omega, by simp (disch := omega) only [lt_litR, lt_litL, eq_litR, eq_litL, lt_nn, eq_nn, lt_n0, z_cl, add_lit, eq_m1, eq_m1', m1_lt, false_or, or_false, if_pos, if_neg, zbI_some, zbV_some, wr_same, wr_cell, wr_slot, ne_eq, not_true_eq_false, not_false_eq_true, true_and, and_true, false_and, and_false, e10, e01, e00, if_true, if_false, Bool.false_eq_true, lit_ne, lit_lt, eq_self], by omega, fun _ => by omega, fun h => absurd (by simp (disch := omega) only [lt_litR, lt_litL, eq_litR, eq_litL, lt_nn, eq_nn, lt_n0, z_cl, add_lit, eq_m1, eq_m1', m1_lt, false_or, or_false, if_pos, if_neg, zbI_some, zbV_some, wr_same, wr_cell, wr_slot, ne_eq, not_true_eq_false, not_false_eq_true, true_and, and_true, false_and, and_false, e10, e01, e00, if_true, if_false, Bool.false_eq_true, lit_ne, lit_lt, eq_self, hl]) h, by simp (disch := omega) only [lt_litR, lt_litL, eq_litR, eq_litL, lt_nn, eq_nn, lt_n0, z_cl, add_lit, eq_m1, eq_m1', m1_lt, false_or, or_false, if_pos, if_neg, zbI_some, zbV_some, wr_same, wr_cell, wr_slot, ne_eq, not_true_eq_false, not_false_eq_true, true_and, and_true, false_and, and_false, e10, e01, e00, if_true, if_false, Bool.false_eq_true, lit_ne, lit_lt, eq_self], by omega⟩
        obtain ⟨hpp, _, _⟩ := hIn.un hI'
        subst hpp
        have hqL : q < L := by omega
        have t1 := a13 q hqL (by rw [kCt, if_pos hl]; exact g1)
        have t2 := a10 q hqL
        have hq0 : τ2 50 q = 0 := by rw [t2.1, ← t1.1, g2]
        have hk1 : kC (wr (wr (wr τ1 38 33 (nI (q + 1))) 38 36 0) 38 32 (nI q)) L = kC τ1 L := kC_cong (by simp (disch := omega) only [lt_litR, lt_litL, eq_litR, eq_litL, lt_nn, eq_nn, lt_n0, z_cl, add_lit, eq_m1, eq_m1', m1_lt, false_or, or_false, if_pos, if_neg, zbI_some, zbV_some, wr_same, wr_cell, wr_slot, ne_eq, not_true_eq_false, not_false_eq_true, true_and, and_true, false_and, and_false, e10, e01, e00, if_true, if_false, Bool.false_eq_true, lit_ne, lit_lt, eq_self]) (by simp (disch := omega) only [lt_litR, lt_litL, eq_litR, eq_litL, lt_nn, eq_nn, lt_n0, z_cl, add_lit, eq_m1, eq_m1', m1_lt, false_or, or_false, if_pos, if_neg, zbI_some, zbV_some, wr_same, wr_cell, wr_slot, ne_eq, not_true_eq_false, not_false_eq_true, true_and, and_true, false_and, and_false, e10, e01, e00, if_true, if_false, Bool.false_eq_true, lit_ne, lit_lt, eq_self])
        refine ⟨_, q, 0, by rw [core hqL hq0], a1, fun r hr => by simp (disch := omega) only [lt_litR, lt_litL, eq_litR, eq_litL, lt_nn, eq_nn, lt_n0, z_cl, add_lit, eq_m1, eq_m1', m1_lt, false_or, or_false, if_pos, if_neg, zbI_some, zbV_some, wr_same, wr_cell, wr_slot, ne_eq, not_true_eq_false, not_false_eq_true, true_and, and_true, false_and, and_false, e10, e01, e00, if_true, if_false, Bool.false_eq_true, lit_ne, lit_lt, eq_self, a2 r hr], by simp (disch := omega) only [lt_litR, lt_litL, eq_litR, eq_litL, lt_nn, eq_nn, lt_n0, z_cl, add_lit, eq_m1, eq_m1', m1_lt, false_or, or_false, if_pos, if_neg, zbI_some, zbV_some, wr_same, wr_cell, wr_slot, ne_eq, not_true_eq_false, not_false_eq_true, true_and, and_true, false_and, and_false, e10, e01, e00, if_true, if_false, Bool.false_eq_true, lit_ne, lit_lt, eq_self, a3], by simp (disch := omega) only [lt_litR, lt_litL, eq_litR, eq_litL, lt_nn, eq_nn, lt_n0, z_cl, add_lit, eq_m1, eq_m1', m1_lt, false_or, or_false, if_pos, if_neg, zbI_some, zbV_some, wr_same, wr_cell, wr_slot, ne_eq, not_true_eq_false, not_false_eq_true, true_and, and_true, false_and, and_false, e10, e01, e00, if_true, if_false, Bool.false_eq_true, lit_ne, lit_lt, eq_self, a4], by simp (disch := omega) only [lt_litR, lt_litL, eq_litR, eq_litL, lt_nn, eq_nn, lt_n0, z_cl, add_lit, eq_m1, eq_m1', m1_lt, false_or, or_false, if_pos, if_neg, zbI_some, zbV_some, wr_same, wr_cell, wr_slot, ne_eq, not_true_eq_false, not_false_eq_true, true_and, and_true, false_and, and_false, e10, e01, e00, if_true, if_false, Bool.false_eq_true, lit_ne, lit_lt, eq_self, a5], by simp (disch := omega) only [lt_litR, lt_litL, eq_litR, eq_litL, lt_nn, eq_nn, lt_n0, z_cl, add_lit, eq_m1, eq_m1', m1_lt, false_or, or_false, if_pos, if_neg, zbI_some, zbV_some, wr_same, wr_cell, wr_slot, ne_eq, not_true_eq_false, not_false_eq_true, true_and, and_true, false_and, and_false, e10, e01, e00, if_true, if_false, Bool.false_eq_true, lit_ne, lit_lt, eq_self, a6], by simp (disch := omega) only [lt_litR, lt_litL, eq_litR, eq_litL, lt_nn, eq_nn, lt_n0, z_cl, add_lit, eq_m1, eq_m1', m1_lt, false_or, or_false, if_pos, if_neg, zbI_some, zbV_some, wr_same, wr_cell, wr_slot, ne_eq, not_true_eq_false, not_false_eq_true, true_and, and_true, false_and, and_false, e10, e01, e00, if_true, if_false, Bool.false_eq_true, lit_ne, lit_lt, eq_self, a7], hIn, hI2 hqL, fun i hi => by rw [tK]; simp (disch := omega) only [lt_litR, lt_litL, eq_litR, eq_litL, lt_nn, eq_nn, lt_n0, z_cl, add_lit, eq_m1, eq_m1', m1_lt, false_or, or_false, if_pos, if_neg, zbI_some, zbV_some, wr_same, wr_cell, wr_slot, ne_eq, not_true_eq_false, not_false_eq_true, true_and, and_true, false_and, and_false, e10, e01, e00, if_true, if_false, Bool.false_eq_true, lit_ne, lit_lt, eq_self]; exact a10 i hi, a11, by rw [hk2, a12], hS, fun _ h => by rw [hk1]; exact a14 hl h, fun _ => by omega, by omega, ?_⟩
        apply hwo
        simp (disch := omega) only [lt_litR, lt_litL, eq_litR, eq_litL, lt_nn, eq_nn, lt_n0, z_cl, add_lit, eq_m1, eq_m1', m1_lt, false_or, or_false, if_pos, if_neg, zbI_some, zbV_some, wr_same, wr_cell, wr_slot, ne_eq, not_true_eq_false, not_false_eq_true, true_and, and_true, false_and, and_false, e10, e01, e00, if_true, if_false, Bool.false_eq_true, lit_ne, lit_lt, eq_self]
        exact a17
      · rw [g] at hg; simp (disch := omega) only [lt_litR, lt_litL, eq_litR, eq_litL, lt_nn, eq_nn, lt_n0, z_cl, add_lit, eq_m1, eq_m1', m1_lt, false_or, or_false, if_pos, if_neg, zbI_some, zbV_some, wr_same, wr_cell, wr_slot, ne_eq, not_true_eq_false, not_false_eq_true, true_and, and_true, false_and, and_false, e10, e01, e00, if_true, if_false, Bool.false_eq_true, lit_ne, lit_lt, eq_self] at hg
      · rw [g] at hg; simp (disch := omega) only [lt_litR, lt_litL, eq_litR, eq_litL, lt_nn, eq_nn, lt_n0, z_cl, add_lit, eq_m1, eq_m1', m1_lt, false_or, or_false, if_pos, if_neg, zbI_some, zbV_some, wr_same, wr_cell, wr_slot, ne_eq, not_true_eq_false, not_false_eq_true, true_and, and_true, false_and, and_false, e10, e01, e00, if_true, if_false, Bool.false_eq_true, lit_ne, lit_lt, eq_self] at hg
      · subst g1
        rw [g] at hI' hS ⊢
        have hIn : kInv (wr (wr (wr (wr (wr (wr (wr (wr τ1 38 36 0) 38 34 1) 38 32 (nI q)) 50 q 0) 51 q 0) 52 q (τ1 38 39)) 38 35 (nI (q + 1))) 38 33 (nI (q + 1))) q (q + 1) q 0 := ⟨by simp (disch := omega) only [lt_litR, lt_litL, eq_litR, eq_litL, lt_nn, eq_nn, lt_n0, z_cl, add_lit, eq_m1, eq_m1', m1_lt, false_or, or_false, if_pos, if_neg, zbI_some, zbV_some, wr_same, wr_cell, wr_slot, ne_eq, not_true_eq_false, not_false_eq_true, true_and, and_true, false_and, and_false, e10, e01, e00, if_true, if_false, Bool.false_eq_true, lit_ne, lit_lt, eq_self, a8.1], hn1, by simp (disch := omega) only [lt_litR, lt_litL, eq_litR, eq_litL, lt_nn, eq_nn, lt_n0, z_cl, add_lit, eq_m1, eq_m1', m1_lt, false_or, or_false, if_pos, if_neg, zbI_some, zbV_some, wr_same, wr_cell, wr_slot, ne_eq, not_true_eq_false, not_false_eq_true, true_and, and_true, false_and, and_false, e10, e01, e00, if_true, if_false, Bool.false_eq_true, lit_ne, lit_lt, eq_self], by omega, by simp (disch := omega) only [lt_litR, lt_litL, eq_litR, eq_litL, lt_nn, eq_nn, lt_n0, z_cl, add_lit, eq_m1, eq_m1', m1_lt, false_or, or_false, if_pos, if_neg, zbI_some, zbV_some, wr_same, wr_cell, wr_slot, ne_eq, not_true_eq_false, not_false_eq_true, true_and, and_true, false_and, and_false, e10, e01, e00, if_true, if_false, Bool.false_eq_true, lit_ne, lit_lt, eq_self], by omega, fun h => absurd h (by simp (disch := omega) only [lt_litR, lt_litL, eq_litR, eq_litL, lt_nn, eq_nn, lt_n0, z_cl, add_lit, eq_m1, eq_m1', m1_lt, false_or, or_false, if_pos, if_neg, zbI_some, zbV_some, wr_same, wr_cell, wr_slot, ne_eq, not_true_eq_false, not_false_eq_true, true_and, and_true, false_and, and_false, e10, e01, e00, if_true, if_false, Bool.false_eq_true, lit_ne, lit_lt, eq_self]), fun _ => by simp (disch := omega) only [lt_litR, lt_litL, eq_litR, eq_litL, lt_nn, eq_nn, lt_n0, z_cl, add_lit, eq_m1, eq_m1', m1_lt, false_or, or_false, if_pos, if_neg, zbI_some, zbV_some, wr_same, wr_cell, wr_slot, ne_eq, not_true_eq_false, not_false_eq_true, true_and, and_true, false_and, and_false, e10, e01, e00, if_true, if_false, Bool.false_eq_true, lit_ne, lit_lt, eq_self], by simp (disch := omega) only [lt_litR, lt_litL, eq_litR, eq_litL, lt_nn, eq_nn, lt_n0, z_cl, add_lit, eq_m1, eq_m1', m1_lt, false_or, or_false, if_pos, if_neg, zbI_some, zbV_some, wr_same, wr_cell, wr_slot, ne_eq, not_true_eq_false, not_false_eq_true, true_and, and_true, false_and, and_false, e10, e01, e00, if_true, if_false, Bool.false_eq_true, lit_ne, lit_lt, eq_self], by omega⟩
        obtain ⟨hpp, _, _⟩ := hIn.un hI'
        subst hpp
        have hqL : q < L := by omega
        have t2 := a10 q hqL
        have hq0 : τ2 50 q = 0 := by rw [t2.1, hK0 hqL]
        refine ⟨_, q, 0, by rw [core hqL hq0], a1, fun r hr => by simp (disch := omega) only [lt_litR, lt_litL, eq_litR, eq_litL, lt_nn, eq_nn, lt_n0, z_cl, add_lit, eq_m1, eq_m1', m1_lt, false_or, or_false, if_pos, if_neg, zbI_some, zbV_some, wr_same, wr_cell, wr_slot, ne_eq, not_true_eq_false, not_false_eq_true, true_and, and_true, false_and, and_false, e10, e01, e00, if_true, if_false, Bool.false_eq_true, lit_ne, lit_lt, eq_self, a2 r hr], by simp (disch := omega) only [lt_litR, lt_litL, eq_litR, eq_litL, lt_nn, eq_nn, lt_n0, z_cl, add_lit, eq_m1, eq_m1', m1_lt, false_or, or_false, if_pos, if_neg, zbI_some, zbV_some, wr_same, wr_cell, wr_slot, ne_eq, not_true_eq_false, not_false_eq_true, true_and, and_true, false_and, and_false, e10, e01, e00, if_true, if_false, Bool.false_eq_true, lit_ne, lit_lt, eq_self, a3], by simp (disch := omega) only [lt_litR, lt_litL, eq_litR, eq_litL, lt_nn, eq_nn, lt_n0, z_cl, add_lit, eq_m1, eq_m1', m1_lt, false_or, or_false, if_pos, if_neg, zbI_some, zbV_some, wr_same, wr_cell, wr_slot, ne_eq, not_true_eq_false, not_false_eq_true, true_and, and_true, false_and, and_false, e10, e01, e00, if_true, if_false, Bool.false_eq_true, lit_ne, lit_lt, eq_self, a4], by simp (disch := omega) only [lt_litR, lt_litL, eq_litR, eq_litL, lt_nn, eq_nn, lt_n0, z_cl, add_lit, eq_m1, eq_m1', m1_lt, false_or, or_false, if_pos, if_neg, zbI_some, zbV_some, wr_same, wr_cell, wr_slot, ne_eq, not_true_eq_false, not_false_eq_true, true_and, and_true, false_and, and_false, e10, e01, e00, if_true, if_false, Bool.false_eq_true, lit_ne, lit_lt, eq_self, a5], by simp (disch := omega) only [lt_litR, lt_litL, eq_litR, eq_litL, lt_nn, eq_nn, lt_n0, z_cl, add_lit, eq_m1, eq_m1', m1_lt, false_or, or_false, if_pos, if_neg, zbI_some, zbV_some, wr_same, wr_cell, wr_slot, ne_eq, not_true_eq_false, not_false_eq_true, true_and, and_true, false_and, and_false, e10, e01, e00, if_true, if_false, Bool.false_eq_true, lit_ne, lit_lt, eq_self, a6], by simp (disch := omega) only [lt_litR, lt_litL, eq_litR, eq_litL, lt_nn, eq_nn, lt_n0, z_cl, add_lit, eq_m1, eq_m1', m1_lt, false_or, or_false, if_pos, if_neg, zbI_some, zbV_some, wr_same, wr_cell, wr_slot, ne_eq, not_true_eq_false, not_false_eq_true, true_and, and_true, false_and, and_false, e10, e01, e00, if_true, if_false, Bool.false_eq_true, lit_ne, lit_lt, eq_self, a7], hIn, hI2 hqL, fun i hi => by rw [tK]; simp (disch := omega) only [lt_litR, lt_litL, eq_litR, eq_litL, lt_nn, eq_nn, lt_n0, z_cl, add_lit, eq_m1, eq_m1', m1_lt, false_or, or_false, if_pos, if_neg, zbI_some, zbV_some, wr_same, wr_cell, wr_slot, ne_eq, not_true_eq_false, not_false_eq_true, true_and, and_true, false_and, and_false, e10, e01, e00, if_true, if_false, Bool.false_eq_true, lit_ne, lit_lt, eq_self]; exact a10 i hi, a11, by rw [hk2, a12], hS, fun h => absurd h (by simp (disch := omega) only [lt_litR, lt_litL, eq_litR, eq_litL, lt_nn, eq_nn, lt_n0, z_cl, add_lit, eq_m1, eq_m1', m1_lt, false_or, or_false, if_pos, if_neg, zbI_some, zbV_some, wr_same, wr_cell, wr_slot, ne_eq, not_true_eq_false, not_false_eq_true, true_and, and_true, false_and, and_false, e10, e01, e00, if_true, if_false, Bool.false_eq_true, lit_ne, lit_lt, eq_self]), fun _ => by omega, by omega, ?_⟩
        apply hwo
        simp (disch := omega) only [lt_litR, lt_litL, eq_litR, eq_litL, lt_nn, eq_nn, lt_n0, z_cl, add_lit, eq_m1, eq_m1', m1_lt, false_or, or_false, if_pos, if_neg, zbI_some, zbV_some, wr_same, wr_cell, wr_slot, ne_eq, not_true_eq_false, not_false_eq_true, true_and, and_true, false_and, and_false, e10, e01, e00, if_true, if_false, Bool.false_eq_true, lit_ne, lit_lt, eq_self]
        exact a17
