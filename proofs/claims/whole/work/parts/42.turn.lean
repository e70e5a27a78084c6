theorem SimW.jump {P σ τ : zS} {e n p b s t : Nat} (H : SimW P σ e 0 τ n p b s) (ht : t ≤ pSz P) : SimW P (wr σ 30 1 (nI t)) t 0 τ n p b s ∧ cFrm σ (wr σ 30 1 (nI t)) := by
  obtain ⟨a1, a2, a3, a4, a5, a6, a7, a8, a9, a10, a11, a12, a13, a14, a15, a16, a17, a18, a19⟩ := H
  exact ⟨⟨⟨fun c c1 c2 => by rw [wr_cell _ _ _ (by omega), a1.1 c c1 c2], a1.2⟩, by simp (disch := omega) only [lt_litR, lt_litL, eq_litR, eq_litL, lt_nn, eq_nn, lt_n0, z_cl, add_lit, eq_m1, eq_m1', m1_lt, false_or, or_false, if_pos, if_neg, zbI_some, zbV_some, wr_same, wr_cell, wr_slot, ne_eq, not_true_eq_false, not_false_eq_true, true_and, and_true, false_and, and_false, e10, e01, e00, if_true, if_false, Bool.false_eq_true, lit_ne, lit_lt, eq_self], ht, fun r hr => by simp (disch := omega) only [lt_litR, lt_litL, eq_litR, eq_litL, lt_nn, eq_nn, lt_n0, z_cl, add_lit, eq_m1, eq_m1', m1_lt, false_or, or_false, if_pos, if_neg, zbI_some, zbV_some, wr_same, wr_cell, wr_slot, ne_eq, not_true_eq_false, not_false_eq_true, true_and, and_true, false_and, and_false, e10, e01, e00, if_true, if_false, Bool.false_eq_true, lit_ne, lit_lt, eq_self, a4 r hr], by simp (disch := omega) only [lt_litR, lt_litL, eq_litR, eq_litL, lt_nn, eq_nn, lt_n0, z_cl, add_lit, eq_m1, eq_m1', m1_lt, false_or, or_false, if_pos, if_neg, zbI_some, zbV_some, wr_same, wr_cell, wr_slot, ne_eq, not_true_eq_false, not_false_eq_true, true_and, and_true, false_and, and_false, e10, e01, e00, if_true, if_false, Bool.false_eq_true, lit_ne, lit_lt, eq_self, a5], a6, by simp (disch := omega) only [lt_litR, lt_litL, eq_litR, eq_litL, lt_nn, eq_nn, lt_n0, z_cl, add_lit, eq_m1, eq_m1', m1_lt, false_or, or_false, if_pos, if_neg, zbI_some, zbV_some, wr_same, wr_cell, wr_slot, ne_eq, not_true_eq_false, not_false_eq_true, true_and, and_true, false_and, and_false, e10, e01, e00, if_true, if_false, Bool.false_eq_true, lit_ne, lit_lt, eq_self, a7], by simp (disch := omega) only [lt_litR, lt_litL, eq_litR, eq_litL, lt_nn, eq_nn, lt_n0, z_cl, add_lit, eq_m1, eq_m1', m1_lt, false_or, or_false, if_pos, if_neg, zbI_some, zbV_some, wr_same, wr_cell, wr_slot, ne_eq, not_true_eq_false, not_false_eq_true, true_and, and_true, false_and, and_false, e10, e01, e00, if_true, if_false, Bool.false_eq_true, lit_ne, lit_lt, eq_self, a8], by simp (disch := omega) only [lt_litR, lt_litL, eq_litR, eq_litL, lt_nn, eq_nn, lt_n0, z_cl, add_lit, eq_m1, eq_m1', m1_lt, false_or, or_false, if_pos, if_neg, zbI_some, zbV_some, wr_same, wr_cell, wr_slot, ne_eq, not_true_eq_false, not_false_eq_true, true_and, and_true, false_and, and_false, e10, e01, e00, if_true, if_false, Bool.false_eq_true, lit_ne, lit_lt, eq_self, a9], by simp (disch := omega) only [lt_litR, lt_litL, eq_litR, eq_litL, lt_nn, eq_nn, lt_n0, z_cl, add_lit, eq_m1, eq_m1', m1_lt, false_or, or_false, if_pos, if_neg, zbI_some, zbV_some, wr_same, wr_cell, wr_slot, ne_eq, not_true_eq_false, not_false_eq_true, true_and, and_true, false_and, and_false, e10, e01, e00, if_true, if_false, Bool.false_eq_true, lit_ne, lit_lt, eq_self, a10], by simp (disch := omega) only [lt_litR, lt_litL, eq_litR, eq_litL, lt_nn, eq_nn, lt_n0, z_cl, add_lit, eq_m1, eq_m1', m1_lt, false_or, or_false, if_pos, if_neg, zbI_some, zbV_some, wr_same, wr_cell, wr_slot, ne_eq, not_true_eq_false, not_false_eq_true, true_and, and_true, false_and, and_false, e10, e01, e00, if_true, if_false, Bool.false_eq_true, lit_ne, lit_lt, eq_self, a11], a12, by simp (disch := omega) only [lt_litR, lt_litL, eq_litR, eq_litL, lt_nn, eq_nn, lt_n0, z_cl, add_lit, eq_m1, eq_m1', m1_lt, false_or, or_false, if_pos, if_neg, zbI_some, zbV_some, wr_same, wr_cell, wr_slot, ne_eq, not_true_eq_false, not_false_eq_true, true_and, and_true, false_and, and_false, e10, e01, e00, if_true, if_false, Bool.false_eq_true, lit_ne, lit_lt, eq_self, a13], by simp (disch := omega) only [lt_litR, lt_litL, eq_litR, eq_litL, lt_nn, eq_nn, lt_n0, z_cl, add_lit, eq_m1, eq_m1', m1_lt, false_or, or_false, if_pos, if_neg, zbI_some, zbV_some, wr_same, wr_cell, wr_slot, ne_eq, not_true_eq_false, not_false_eq_true, true_and, and_true, false_and, and_false, e10, e01, e00, if_true, if_false, Bool.false_eq_true, lit_ne, lit_lt, eq_self, a14], a15, a16, a17.cong (fun c c1 c2 => wr_cell _ _ _ (by omega)) (by simp (disch := omega) only [lt_litR, lt_litL, eq_litR, eq_litL, lt_nn, eq_nn, lt_n0, z_cl, add_lit, eq_m1, eq_m1', m1_lt, false_or, or_false, if_pos, if_neg, zbI_some, zbV_some, wr_same, wr_cell, wr_slot, ne_eq, not_true_eq_false, not_false_eq_true, true_and, and_true, false_and, and_false, e10, e01, e00, if_true, if_false, Bool.false_eq_true, lit_ne, lit_lt, eq_self]) (fun _ _ _ => rfl) rfl rfl, a18, a19⟩, cFrm.w _ (by omega) cFrm.rf⟩
theorem SimW.stuck {P σ τ : zS} {e n p b s : Nat} (H : SimW P σ e 0 τ n p b s) : RelT P σ (e, 0, wr (wr τ 38 36 (τ 38 36 + 1)) 38 31 3) n b (s + 1) (wr σ 34 11 3) := by
  obtain ⟨a1, a2, a3, a4, a5, a6, a7, a8, a9, a10, a11, a12, a13, a14, a15, a16, a17, a18, a19⟩ := H
  refine RelT.no (cFrm.w _ (by omega) cFrm.rf) (by simp only [wr_same]; exact i30) ⟨by simp only [wr_same], by simp (disch := omega) only [lt_litR, lt_litL, eq_litR, eq_litL, lt_nn, eq_nn, lt_n0, z_cl, add_lit, eq_m1, eq_m1', m1_lt, false_or, or_false, if_pos, if_neg, zbI_some, zbV_some, wr_same, wr_cell, wr_slot, ne_eq, not_true_eq_false, not_false_eq_true, true_and, and_true, false_and, and_false, e10, e01, e00, if_true, if_false, Bool.false_eq_true, lit_ne, lit_lt, eq_self, a11], fun h => ?_, fun h => ?_, fun h => ?_, Or.inr (Or.inl (by simp (disch := omega) only [lt_litR, lt_litL, eq_litR, eq_litL, lt_nn, eq_nn, lt_n0, z_cl, add_lit, eq_m1, eq_m1', m1_lt, false_or, or_false, if_pos, if_neg, zbI_some, zbV_some, wr_same, wr_cell, wr_slot, ne_eq, not_true_eq_false, not_false_eq_true, true_and, and_true, false_and, and_false, e10, e01, e00, if_true, if_false, Bool.false_eq_true, lit_ne, lit_lt, eq_self])), fun _ => by simp (disch := omega) only [lt_litR, lt_litL, eq_litR, eq_litL, lt_nn, eq_nn, lt_n0, z_cl, add_lit, eq_m1, eq_m1', m1_lt, false_or, or_false, if_pos, if_neg, zbI_some, zbV_some, wr_same, wr_cell, wr_slot, ne_eq, not_true_eq_false, not_false_eq_true, true_and, and_true, false_and, and_false, e10, e01, e00, if_true, if_false, Bool.false_eq_true, lit_ne, lit_lt, eq_self]⟩
  · simp only [wr_same] at h; exact absurd h (by decide)
  · simp (disch := omega) only [wr_slot] at h
    exact (a17.1 h).2.1.cong (by simp (disch := omega) only [lt_litR, lt_litL, eq_litR, eq_litL, lt_nn, eq_nn, lt_n0, z_cl, add_lit, eq_m1, eq_m1', m1_lt, false_or, or_false, if_pos, if_neg, zbI_some, zbV_some, wr_same, wr_cell, wr_slot, ne_eq, not_true_eq_false, not_false_eq_true, true_and, and_true, false_and, and_false, e10, e01, e00, if_true, if_false, Bool.false_eq_true, lit_ne, lit_lt, eq_self]) (by simp (disch := omega) only [lt_litR, lt_litL, eq_litR, eq_litL, lt_nn, eq_nn, lt_n0, z_cl, add_lit, eq_m1, eq_m1', m1_lt, false_or, or_false, if_pos, if_neg, zbI_some, zbV_some, wr_same, wr_cell, wr_slot, ne_eq, not_true_eq_false, not_false_eq_true, true_and, and_true, false_and, and_false, e10, e01, e00, if_true, if_false, Bool.false_eq_true, lit_ne, lit_lt, eq_self]) (fun i _ => by simp (disch := omega) only [lt_litR, lt_litL, eq_litR, eq_litL, lt_nn, eq_nn, lt_n0, z_cl, add_lit, eq_m1, eq_m1', m1_lt, false_or, or_false, if_pos, if_neg, zbI_some, zbV_some, wr_same, wr_cell, wr_slot, ne_eq, not_true_eq_false, not_false_eq_true, true_and, and_true, false_and, and_false, e10, e01, e00, if_true, if_false, Bool.false_eq_true, lit_ne, lit_lt, eq_self, and_self]) (fun i => by simp (disch := omega) only [lt_litR, lt_litL, eq_litR, eq_litL, lt_nn, eq_nn, lt_n0, z_cl, add_lit, eq_m1, eq_m1', m1_lt, false_or, or_false, if_pos, if_neg, zbI_some, zbV_some, wr_same, wr_cell, wr_slot, ne_eq, not_true_eq_false, not_false_eq_true, true_and, and_true, false_and, and_false, e10, e01, e00, if_true, if_false, Bool.false_eq_true, lit_ne, lit_lt, eq_self]) (fun i _ => by simp (disch := omega) only [lt_litR, lt_litL, eq_litR, eq_litL, lt_nn, eq_nn, lt_n0, z_cl, add_lit, eq_m1, eq_m1', m1_lt, false_or, or_false, if_pos, if_neg, zbI_some, zbV_some, wr_same, wr_cell, wr_slot, ne_eq, not_true_eq_false, not_false_eq_true, true_and, and_true, false_and, and_false, e10, e01, e00, if_true, if_false, Bool.false_eq_true, lit_ne, lit_lt, eq_self, and_self])
  · simp (disch := omega) only [wr_slot] at h
    obtain ⟨b1, b2, b3, b4, b5⟩ := a17.2 h
    refine ⟨p, by omega, b1.cong (by simp (disch := omega) only [lt_litR, lt_litL, eq_litR, eq_litL, lt_nn, eq_nn, lt_n0, z_cl, add_lit, eq_m1, eq_m1', m1_lt, false_or, or_false, if_pos, if_neg, zbI_some, zbV_some, wr_same, wr_cell, wr_slot, ne_eq, not_true_eq_false, not_false_eq_true, true_and, and_true, false_and, and_false, e10, e01, e00, if_true, if_false, Bool.false_eq_true, lit_ne, lit_lt, eq_self]) (by simp (disch := omega) only [lt_litR, lt_litL, eq_litR, eq_litL, lt_nn, eq_nn, lt_n0, z_cl, add_lit, eq_m1, eq_m1', m1_lt, false_or, or_false, if_pos, if_neg, zbI_some, zbV_some, wr_same, wr_cell, wr_slot, ne_eq, not_true_eq_false, not_false_eq_true, true_and, and_true, false_and, and_false, e10, e01, e00, if_true, if_false, Bool.false_eq_true, lit_ne, lit_lt, eq_self]) (fun i _ => by simp (disch := omega) only [lt_litR, lt_litL, eq_litR, eq_litL, lt_nn, eq_nn, lt_n0, z_cl, add_lit, eq_m1, eq_m1', m1_lt, false_or, or_false, if_pos, if_neg, zbI_some, zbV_some, wr_same, wr_cell, wr_slot, ne_eq, not_true_eq_false, not_false_eq_true, true_and, and_true, false_and, and_false, e10, e01, e00, if_true, if_false, Bool.false_eq_true, lit_ne, lit_lt, eq_self, and_self]) (fun i => by simp (disch := omega) only [lt_litR, lt_litL, eq_litR, eq_litL, lt_nn, eq_nn, lt_n0, z_cl, add_lit, eq_m1, eq_m1', m1_lt, false_or, or_false, if_pos, if_neg, zbI_some, zbV_some, wr_same, wr_cell, wr_slot, ne_eq, not_true_eq_false, not_false_eq_true, true_and, and_true, false_and, and_false, e10, e01, e00, if_true, if_false, Bool.false_eq_true, lit_ne, lit_lt, eq_self]) (fun i _ => by simp (disch := omega) only [lt_litR, lt_litL, eq_litR, eq_litL, lt_nn, eq_nn, lt_n0, z_cl, add_lit, eq_m1, eq_m1', m1_lt, false_or, or_false, if_pos, if_neg, zbI_some, zbV_some, wr_same, wr_cell, wr_slot, ne_eq, not_true_eq_false, not_false_eq_true, true_and, and_true, false_and, and_false, e10, e01, e00, if_true, if_false, Bool.false_eq_true, lit_ne, lit_lt, eq_self, and_self]), fun i i1 i2 => ?_⟩
    have := b4 i i1 i2
    simp (disch := omega) only [lt_litR, lt_litL, eq_litR, eq_litL, lt_nn, eq_nn, lt_n0, z_cl, add_lit, eq_m1, eq_m1', m1_lt, false_or, or_false, if_pos, if_neg, zbI_some, zbV_some, wr_same, wr_cell, wr_slot, ne_eq, not_true_eq_false, not_false_eq_true, true_and, and_true, false_and, and_false, e10, e01, e00, if_true, if_false, Bool.false_eq_true, lit_ne, lit_lt, eq_self]
    exact this
theorem RepX_reg {S V op a b : Nat → Int32} {R R' : Nat → Int32} (hR : ∀ r, r < 8 → R r = R' r) : ∀ {k h n i j : Nat}, RepX S V op a b k h n i j → ∀ st, kRunX S V R (j - i) i st = kRunX S V R' (j - i) i st := by
  intro k
  induction k with
  | zero => intro h n i j hr; exact hr.elim
  | succ k ih =>
    intro h n i j hr st
    obtain ⟨hn, hh, hr⟩ := hr
    rcases hr with ⟨h1, h2, h3, h4⟩ | ⟨h1, h2, h3, h4, r, h5, h6⟩ | ⟨x, q, h1, h2, h3, h4, h5⟩ | ⟨x, y, q, r, h1, h2, h3, h4, h5, h6, h7⟩
    · subst h1
      rw [show i + 1 - i = 0 + 1 by omega, kRunX, kRunX, kRunX, kRunX, h3]
      simp [kPut]
    · subst h1
      rw [show i + 1 - i = 0 + 1 by omega, kRunX, kRunX, kRunX, kRunX, h3, h4, h6]
      simp [kPut, z_cl (show r < 2 ^ 31 by omega), hR r h5]
    · have hlt := RepX_lt h3
      subst h4
      rw [show q + 1 - i = (q - i) + (0 + 1) by omega, kRunX_add S V R (q - i) (0 + 1), kRunX_add S V R' (q - i) (0 + 1), ih h3, kRunX, kRunX, kRunX, kRunX, show i + (q - i) = q by omega, h5]
      simp [kPut]
    · have hlt := RepX_lt h3
      have hlt2 := RepX_lt h4
      subst h6
      have hS : ¬ S r = 0 ∧ ¬ S r = 1 ∧ ¬ S r = 2 := by
        rcases h7 with ⟨_, h7⟩ | ⟨_, h7⟩ | ⟨_, h7⟩ | ⟨_, h7⟩ <;> rw [h7] <;> decide
      rw [show r + 1 - i = (q - i) + ((r - q) + (0 + 1)) by omega, kRunX_add S V R (q - i), kRunX_add S V R' (q - i), ih h3, kRunX_add S V R (r - q), kRunX_add S V R' (r - q), show i + (q - i) = q by omega, ih h4, kRunX, kRunX, kRunX, kRunX, show q + (r - q) = r by omega]
      simp only [kPut, hS.1, hS.2.1, hS.2.2, if_false]
theorem pEv_cong {P T : zS} {e : Nat} {R R' : Nat → Int32} (he : e < pSz P) (hX : pX P T e) (hR : ∀ r, r < 8 → R r = R' r) : pEv P e R = pEv P e R' := by
  obtain ⟨x, i, j, ⟨k, hk, hX⟩, hfr, hi, hE, _, hj⟩ := hX
  rw [pEv, pEv, hfr, z_cl (by omega), pIe_end hE, RepX_reg hR hX]
theorem c_turn (d : Nat) {P T σ τ : zS} {e n p b s : Nat} (H : SimW P σ e 0 τ n p b s) (hW : ∀ x, x < pSz P → pW P T x) : ∃ σ', zM (d + 6) mX4_turn [.inr (.inr 34), .inl (pSo P e), .inl (if e < pSz P then P 18 e else 0)] σ = some (0, 0, σ') ∧ RelT P σ (kTurn P e τ) n b (if pSo P e = 12 ∨ pSo P e = 13 then s else s + 1) σ' := by
  have H0 := H
  obtain ⟨a1, a2, a3, a4, a5, a6, a7, a8, a9, a10, a11, a12, a13, a14, a15, a16, a17, a18, a19⟩ := H
  have hz := a1.2.1
  have h30 : wr σ 30 3 (σ 30 3 + 0) = σ := by rw [add0, wr_id]
  by_cases he : e < pSz P
  · rw [if_pos he]
    have hso := pSo_in he
    -- an entry that is a step
    have key : ¬ pSo P e = 12 → ¬ pSo P e = 13 → (∀ (m : Nat) (τ1 : zS), SimW P (wr σ 30 3 (σ 30 3 + 1)) e 0 τ1 n p b (s + 1) → ∃ σ', zexec zc_X4_turn zu_X4_turn (zM (d + 5)) (m + 2) 41 [.inr (.inr 34), .inl (pSo P e), .inl (P 18 e), .inl 1] σ = some (0, 0, σ') ∧ RelT P (wr σ 30 3 (σ 30 3 + 1)) (kDo P e τ1) n b (s + 1) σ') → ∃ σ', zM (d + 6) mX4_turn [.inr (.inr 34), .inl (pSo P e), .inl (P 18 e)] σ = some (0, 0, σ') ∧ RelT P σ (kTurn P e τ) n b (if pSo P e = 12 ∨ pSo P e = 13 then s else s + 1) σ' := by
      intro h12 h13 hk
      rw [qX4_turn_34, qX4_turn_34_0, if_neg h12, if_neg h13, if_neg (show ¬ (pSo P e = 12 ∨ pSo P e = 13) from fun h => h.elim h12 h13), a7]
      by_cases hs : 1000 < τ 38 36 + 1
      · have : 1000 ≤ s := by
          rw [a15.2.2.2.2.2.2.2.2.1, nI_1] at hs
          have := a15.2.2.2.2.2.2.2.2.2
          have h9 : nI 1000 < nI (s + 1) := hs
          have := (nI_ltI (by omega) (by omega)).mp h9
          omega
        rw [if_neg (show ¬ nI s < 1000 from nI_nlt this (by have := a15.2.2.2.2.2.2.2.2.2; omega)), kTurn_stuck h12 h13 hs]
        exact ⟨_, rfl, H0.stuck⟩
      · obtain ⟨g1, g2⟩ := H0.step hs
        rw [if_pos (show nI s < 1000 from nI_lt (b := 1000) g2 (by omega)), kTurn_do h12 h13 hs]
        obtain ⟨σ', u1, u2⟩ := hk 999997 _ g1
        exact ⟨σ', u1, u2.fr (cFrm.w _ (by omega) cFrm.rf)⟩
    have hreg : ∀ (σ1 : zS) (k : Nat), k < 8 → zM (d + 5) mX3_get [.inr (.inr 30), .inl (nI k)] σ1 = some (1, σ1 31 k, σ1) := fun σ1 k hk => c_get (d + 4) σ1 hk
    rcases hW e he with ⟨hs, t, ht, hf⟩ | ⟨⟨r, hr, hP⟩, hs⟩ | ⟨hs, hX⟩ | ⟨hs, hX, t, ht, hf⟩
    · rw [qX4_turn_34, qX4_turn_34_0, hso, hs, kTurn, hso, hs, if_pos rfl, if_pos rfl, if_pos (Or.inl rfl), qX4_turn_34_16, qX4_turn_34_41, h30]
      simp (disch := omega) only [lit_ne, eq_self, if_true, if_false]
      rw [qX4_turn_34_300, hf, z_cl (by omega)]
      obtain ⟨g1, g2⟩ := H0.jump ht
      exact ⟨_, rfl, RelT.go g1 g2⟩
    · rcases hs with ⟨hs, hX⟩ | ⟨hs, x, hx, hf⟩ | ⟨hs, x, y, hx, hf, hy, hf2⟩ | hs | hs | hs
      · have hne : ¬ pSo P e = 12 ∧ ¬ pSo P e = 13 := by
          rw [hso]
          rcases hs with hs | hs | hs <;> rw [hs] <;> decide
        refine key hne.1 hne.2 (fun m τ1 g1 => ?_)
        obtain ⟨σ2, u1, u2, u3⟩ := c_workOut (d + 1) g1.1 he g1.2.1 hX
        obtain ⟨G, G2⟩ := g1.stack u2 u3
        have hreg2 : pEv P e (wr σ 30 3 (σ 30 3 + 1) 31) = pEv P e (τ1 54) := pEv_cong he hX (fun r hr => g1.2.2.2.1 r hr)
        rw [hreg2] at u1
        rcases hs with hs | hs | hs
        · have hd : kDo P e τ1 = (e + 1, 0, wr τ1 54 r (pEv P e (τ1 54))) := by
            rw [kDo]
            simp (disch := omega) only [lt_litR, lt_litL, eq_litR, eq_litL, lt_nn, eq_nn, lt_n0, z_cl, add_lit, eq_m1, eq_m1', m1_lt, false_or, or_false, if_pos, if_neg, zbI_some, zbV_some, wr_same, wr_cell, wr_slot, ne_eq, not_true_eq_false, not_false_eq_true, true_and, and_true, false_and, and_false, e10, e01, e00, if_true, if_false, Bool.false_eq_true, lit_ne, lit_lt, eq_self, hs, hP]
          rw [hd, hso, hs, qX4_turn_34_41]
          simp (disch := omega) only [lit_ne, eq_self, if_true, if_false, e10]
          rw [qX4_turn_34_132, u1, zbI_some, c_finish (d + 2) G.1 he G.2.1 hr hP, zbV_some]
          obtain ⟨f1, f2⟩ := G.fin he hr (pEv P e (τ1 54))
          exact ⟨_, rfl, RelT.go f1 (G2.tr f2)⟩
        · have hd : kDo P e τ1 = kOrd P e τ1 (nI 1) (P 18 e) (pEv P e (τ1 54)) := by
            rw [kDo]
            simp (disch := omega) only [lt_litR, lt_litL, eq_litR, eq_litL, lt_nn, eq_nn, lt_n0, z_cl, add_lit, eq_m1, eq_m1', m1_lt, false_or, or_false, if_pos, if_neg, zbI_some, zbV_some, wr_same, wr_cell, wr_slot, ne_eq, not_true_eq_false, not_false_eq_true, true_and, and_true, false_and, and_false, e10, e01, e00, if_true, if_false, Bool.false_eq_true, lit_ne, lit_lt, eq_self, hs]
            rfl
          obtain ⟨σ3, f1, f2⟩ := c_order (d + 1) G he hr hP (k := 1) (by omega) (P 18 e) (pEv P e (τ1 54))
          have e1 : nI 1 = (1 : Int32) := rfl
          rw [hd, hso, hs, qX4_turn_34_41]
          simp (disch := omega) only [lit_ne, eq_self, if_true, if_false, e10]
          rw [qX4_turn_34_143, u1, zbI_some, ← e1, f1, zbV_some]
          exact ⟨_, rfl, f2.fr G2⟩
        · have hd : kDo P e τ1 = kOrd P e τ1 (nI 2) 0 (pEv P e (τ1 54)) := by
            rw [kDo]
            simp (disch := omega) only [lt_litR, lt_litL, eq_litR, eq_litL, lt_nn, eq_nn, lt_n0, z_cl, add_lit, eq_m1, eq_m1', m1_lt, false_or, or_false, if_pos, if_neg, zbI_some, zbV_some, wr_same, wr_cell, wr_slot, ne_eq, not_true_eq_false, not_false_eq_true, true_and, and_true, false_and, and_false, e10, e01, e00, if_true, if_false, Bool.false_eq_true, lit_ne, lit_lt, eq_self, hs]
            rfl
          obtain ⟨σ3, f1, f2⟩ := c_order (d + 1) G he hr hP (k := 2) (by omega) 0 (pEv P e (τ1 54))
          have e1 : nI 2 = (2 : Int32) := rfl
          rw [hd, hso, hs, qX4_turn_34_41]
          simp (disch := omega) only [lit_ne, eq_self, if_true, if_false, e10]
          rw [qX4_turn_34_156, u1, zbI_some, ← e1, f1, zbV_some]
          exact ⟨_, rfl, f2.fr G2⟩
      · have hne : ¬ pSo P e = 12 ∧ ¬ pSo P e = 13 := by
          rw [hso]
          rcases hs with hs | hs <;> rw [hs] <;> decide
        refine key hne.1 hne.2 (fun m τ1 g1 => ?_)
        rcases hs with hs | hs
        · have hd : kDo P e τ1 = kWai P e τ1 9 (P 18 e) 0 := by
            rw [kDo]
            simp (disch := omega) only [lt_litR, lt_litL, eq_litR, eq_litL, lt_nn, eq_nn, lt_n0, z_cl, add_lit, eq_m1, eq_m1', m1_lt, false_or, or_false, if_pos, if_neg, zbI_some, zbV_some, wr_same, wr_cell, wr_slot, ne_eq, not_true_eq_false, not_false_eq_true, true_and, and_true, false_and, and_false, e10, e01, e00, if_true, if_false, Bool.false_eq_true, lit_ne, lit_lt, eq_self, hs]
          obtain ⟨σ3, f1, f2⟩ := c_waitFor (d + 1) g1 he hr hP hx hf
          rw [hd, hso, hs, qX4_turn_34_41]
          simp (disch := omega) only [lit_ne, eq_self, if_true, if_false, e10]
          rw [qX4_turn_34_169, hf, hreg _ x hx, zbI_some, f1, zbV_some, ← hf]
          exact ⟨_, rfl, f2⟩
        · have hd : kDo P e τ1 = (e + 1, 0, wr (wr τ1 38 44 ((kDone τ1 (τ1 54 x)).getD (-2))) 54 r (if (kDone τ1 (τ1 54 x)).isSome then 1 else 0)) := by
            rw [kDo]
            simp (disch := omega) only [lt_litR, lt_litL, eq_litR, eq_litL, lt_nn, eq_nn, lt_n0, z_cl, add_lit, eq_m1, eq_m1', m1_lt, false_or, or_false, if_pos, if_neg, zbI_some, zbV_some, wr_same, wr_cell, wr_slot, ne_eq, not_true_eq_false, not_false_eq_true, true_and, and_true, false_and, and_false, e10, e01, e00, if_true, if_false, Bool.false_eq_true, lit_ne, lit_lt, eq_self, hs, hf, hP]
          rw [hd, hso, hs, qX4_turn_34_41]
          simp (disch := omega) only [lit_ne, eq_self, if_true, if_false, e10]
          rw [qX4_turn_34_220, hf, hreg _ x hx, zbI_some, g1.2.2.2.1 x hx]
          obtain ⟨N, hN, hR, hc⟩ := c_over (d + 2) g1 (τ1 54 x)
          rcases hc with ⟨h1, h2⟩ | ⟨h1, h2⟩ | ⟨k, i, h0, h3, h1, h2⟩
          · rw [h1, h2, zbI_some, if_pos rfl, c_finish (d + 2) g1.1 he g1.2.1 hr hP, zbV_some]
            obtain ⟨f1, f2⟩ := (g1.gave (-2)).fin he hr 0
            exact ⟨_, rfl, RelT.go f1 f2⟩
          · rw [h1, h2, zbI_some, if_neg (by decide), c_finish (d + 2) g1.1 he g1.2.1 hr hP, zbV_some]
            obtain ⟨f1, f2⟩ := (g1.gave (-2)).fin he hr 1
            exact ⟨_, rfl, RelT.go f1 f2⟩
          · rw [h1, h2, zbI_some, if_neg (by rw [eq_m1 (by omega)]; exact fun h => h), c_finish (d + 2) g1.1 he g1.2.1 hr hP, zbV_some]
            obtain ⟨f1, f2⟩ := (g1.gave (kGave τ1 k)).fin he hr 1
            exact ⟨_, rfl, RelT.go f1 f2⟩
      · refine key (by rw [hso, hs]; decide) (by rw [hso, hs]; decide) (fun m τ1 g1 => ?_)
        have hd : kDo P e τ1 = kWai P e τ1 3 (P 18 e) (P 19 e) := by
          rw [kDo]
          simp (disch := omega) only [lt_litR, lt_litL, eq_litR, eq_litL, lt_nn, eq_nn, lt_n0, z_cl, add_lit, eq_m1, eq_m1', m1_lt, false_or, or_false, if_pos, if_neg, zbI_some, zbV_some, wr_same, wr_cell, wr_slot, ne_eq, not_true_eq_false, not_false_eq_true, true_and, and_true, false_and, and_false, e10, e01, e00, if_true, if_false, Bool.false_eq_true, lit_ne, lit_lt, eq_self, hs]
        obtain ⟨σ3, f1, f2⟩ := c_waitForAny (d + 1) g1 he hr hP hx hf hy hf2
        rw [hd, hso, hs, qX4_turn_34_41]
        simp (disch := omega) only [lit_ne, eq_self, if_true, if_false, e10]
        rw [qX4_turn_34_184, hf, hreg _ x hx, zbI_some, g1.2.1, c_secondAt (d + 3) g1.1 (by omega), zbI_some, if_pos he, hf2, hreg _ y hy, zbI_some, f1, zbV_some, ← hf, ← hf2]
        exact ⟨_, rfl, f2⟩
      · refine key (by rw [hso, hs]; decide) (by rw [hso, hs]; decide) (fun m τ1 g1 => ?_)
        have hd : kDo P e τ1 = kWai P e τ1 5 0 0 := by
          rw [kDo]
          simp (disch := omega) only [lt_litR, lt_litL, eq_litR, eq_litL, lt_nn, eq_nn, lt_n0, z_cl, add_lit, eq_m1, eq_m1', m1_lt, false_or, or_false, if_pos, if_neg, zbI_some, zbV_some, wr_same, wr_cell, wr_slot, ne_eq, not_true_eq_false, not_false_eq_true, true_and, and_true, false_and, and_false, e10, e01, e00, if_true, if_false, Bool.false_eq_true, lit_ne, lit_lt, eq_self, hs]
        obtain ⟨σ3, f1, f2⟩ := c_takeSignal (d + 1) g1 he hr hP
        rw [hd, hso, hs, qX4_turn_34_41]
        simp (disch := omega) only [lit_ne, eq_self, if_true, if_false, e10]
        rw [qX4_turn_34_248, f1, zbV_some]
        exact ⟨_, rfl, f2⟩
      · refine key (by rw [hso, hs]; decide) (by rw [hso, hs]; decide) (fun m τ1 g1 => ?_)
        obtain ⟨N, hN, hp1, hp2, hp3⟩ := g1.hist
        have hd : kDo P e τ1 = (e + 1, 0, wr τ1 54 r (τ1 52 b)) := by
          rw [kDo]
          simp (disch := omega) only [lt_litR, lt_litL, eq_litR, eq_litL, lt_nn, eq_nn, lt_n0, z_cl, add_lit, eq_m1, eq_m1', m1_lt, false_or, or_false, if_pos, if_neg, zbI_some, zbV_some, wr_same, wr_cell, wr_slot, ne_eq, not_true_eq_false, not_false_eq_true, true_and, and_true, false_and, and_false, e10, e01, e00, if_true, if_false, Bool.false_eq_true, lit_ne, lit_lt, eq_self, hs, hP, g1.2.2.2.2.2.2.2.2.2.2.2.2.2.2.1.2.2.2.2.1]
        rw [hd, hso, hs, qX4_turn_34_41]
        simp (disch := omega) only [lit_ne, eq_self, if_true, if_false, e10]
        rw [qX4_turn_34_255, g1.2.2.2.2.2.2.2.2.1, c_valueAt (d + 3) hN b (by omega), zbI_some, if_pos (show b < N by omega), c_finish (d + 2) g1.1 he g1.2.1 hr hP, zbV_some]
        obtain ⟨f1, f2⟩ := g1.fin he hr (τ1 52 b)
        exact ⟨_, rfl, RelT.go f1 f2⟩
      · refine key (by rw [hso, hs]; decide) (by rw [hso, hs]; decide) (fun m τ1 g1 => ?_)
        have hd : kDo P e τ1 = kPat P e τ1 (P 18 e) := by
          rw [kDo]
          simp (disch := omega) only [lt_litR, lt_litL, eq_litR, eq_litL, lt_nn, eq_nn, lt_n0, z_cl, add_lit, eq_m1, eq_m1', m1_lt, false_or, or_false, if_pos, if_neg, zbI_some, zbV_some, wr_same, wr_cell, wr_slot, ne_eq, not_true_eq_false, not_false_eq_true, true_and, and_true, false_and, and_false, e10, e01, e00, if_true, if_false, Bool.false_eq_true, lit_ne, lit_lt, eq_self, hs]
        obtain ⟨σ3, f1, f2⟩ := c_patch (d + 1) g1 he hr hP (P 18 e)
        rw [hd, hso, hs, qX4_turn_34_41]
        simp (disch := omega) only [lit_ne, eq_self, if_true, if_false, e10]
        rw [qX4_turn_34_273, f1, zbV_some]
        exact ⟨_, rfl, f2⟩
    · refine key (by rw [hso, hs]; decide) (by rw [hso, hs]; decide) (fun m τ1 g1 => ?_)
      obtain ⟨σ2, u1, u2, u3⟩ := c_workOut (d + 1) g1.1 he g1.2.1 hX
      obtain ⟨G, G2⟩ := g1.stack u2 u3
      have hreg2 : pEv P e (wr σ 30 3 (σ 30 3 + 1) 31) = pEv P e (τ1 54) := pEv_cong he hX (fun r hr => g1.2.2.2.1 r hr)
      rw [hreg2] at u1
      have hd : kDo P e τ1 = kStp e τ1 (pEv P e (τ1 54)) := by
        rw [kDo]
        simp (disch := omega) only [lt_litR, lt_litL, eq_litR, eq_litL, lt_nn, eq_nn, lt_n0, z_cl, add_lit, eq_m1, eq_m1', m1_lt, false_or, or_false, if_pos, if_neg, zbI_some, zbV_some, wr_same, wr_cell, wr_slot, ne_eq, not_true_eq_false, not_false_eq_true, true_and, and_true, false_and, and_false, e10, e01, e00, if_true, if_false, Bool.false_eq_true, lit_ne, lit_lt, eq_self, hs]
      obtain ⟨σ3, f1, f2⟩ := c_stop (d + 1) G (pEv P e (τ1 54))
      rw [hd, hso, hs, qX4_turn_34_41]
      simp (disch := omega) only [lit_ne, eq_self, if_true, if_false, e10]
      rw [qX4_turn_34_281, u1, zbI_some, f1, zbV_some]
      exact ⟨_, rfl, f2.fr G2⟩
    · have hne : ¬ pSo P e = 12 ∧ ¬ pSo P e = 13 := by
        rw [hso]
        rcases hs with hs | hs <;> rw [hs] <;> decide
      refine key hne.1 hne.2 (fun m τ1 g1 => ?_)
      obtain ⟨σ2, u1, u2, u3⟩ := c_workOut (d + 1) g1.1 he g1.2.1 hX
      obtain ⟨G, G2⟩ := g1.stack u2 u3
      have hreg2 : pEv P e (wr σ 30 3 (σ 30 3 + 1) 31) = pEv P e (τ1 54) := pEv_cong he hX (fun r hr => g1.2.2.2.1 r hr)
      rw [hreg2] at u1
      have hd : kDo P e τ1 = if pEv P e (τ1 54) = 0 then (t, 0, τ1) else (e + 1, 0, τ1) := by
        rw [kDo]
        rcases hs with hs | hs <;> simp (disch := omega) only [lt_litR, lt_litL, eq_litR, eq_litL, lt_nn, eq_nn, lt_n0, z_cl, add_lit, eq_m1, eq_m1', m1_lt, false_or, or_false, if_pos, if_neg, zbI_some, zbV_some, wr_same, wr_cell, wr_slot, ne_eq, not_true_eq_false, not_false_eq_true, true_and, and_true, false_and, and_false, e10, e01, e00, if_true, if_false, Bool.false_eq_true, lit_ne, lit_lt, eq_self, hs, hf]
      have hend : zexec zc_X4_turn zu_X4_turn (zM (d + 5)) (m + 1) 311 [.inr (.inr 34), .inl (P 18 e)] (wr σ 30 3 (σ 30 3 + 1)) = if pEv P e (τ1 54) = 0 then some (0, 0, wr σ2 30 1 (nI t)) else some (0, 0, wr σ2 30 1 (nI (e + 1))) := by
        rw [qX4_turn_34_311, u1, zbI_some, hf, G.2.1, nI_1]
      have h41 : zexec zc_X4_turn zu_X4_turn (zM (d + 5)) (m + 2) 41 [.inr (.inr 34), .inl (pSo P e), .inl (P 18 e), .inl 1] σ = zexec zc_X4_turn zu_X4_turn (zM (d + 5)) (m + 1) 311 [.inr (.inr 34), .inl (P 18 e)] (wr σ 30 3 (σ 30 3 + 1)) := by
        rw [hso, qX4_turn_34_41]
        rcases hs with hs | hs
        · rw [hs]
          simp (disch := omega) only [lit_ne, eq_self, if_true, if_false, e10]
        · rw [hs]
          simp (disch := omega) only [lit_ne, eq_self, if_true, if_false, e10]
      rw [hd, h41, hend]
      by_cases hv : pEv P e (τ1 54) = 0
      · rw [if_pos hv, if_pos hv]
        obtain ⟨f1, f2⟩ := G.jump ht
        exact ⟨_, rfl, RelT.go f1 (G2.tr f2)⟩
      · rw [if_neg hv, if_neg hv]
        obtain ⟨f1, f2⟩ := G.jump (t := e + 1) (by omega)
        exact ⟨_, rfl, RelT.go f1 (G2.tr f2)⟩
  · obtain rfl : e = pSz P := by omega
    rw [if_neg he, pSo_end, qX4_turn_34, qX4_turn_34_0, kTurn, pSo_end, if_neg (show ¬ (13 : Int32) = 12 by decide), if_pos rfl, if_neg (show ¬ (13 : Int32) = 12 by decide), if_pos rfl, if_pos (Or.inr rfl), qX4_turn_34_16, qX4_turn_34_41, h30]
    simp (disch := omega) only [lit_ne, eq_self, if_true, if_false]
    rw [qX4_turn_34_292]
    obtain ⟨σ', u1, u2⟩ := c_stop (d + 1) H0 0
    rw [u1, zbV_some]
    exact ⟨σ', rfl, u2⟩
