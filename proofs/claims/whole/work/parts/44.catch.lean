-- the class catches up
def cZ (c : Nat) : Nat → Nat → zS → zS
  | 0, _, σ => σ
  | m + 1, k, σ => cZ c m (k + 1) (wr σ c k 0)
theorem cZ_cell {c : Nat} : ∀ (m k : Nat) (σ : zS) (d : Nat), d ≠ c → cZ c m k σ d = σ d := by
  intro m
  induction m with
  | zero => intro k σ d h; rfl
  | succ m ih => intro k σ d h; rw [cZ, ih _ _ _ h, wr_cell _ _ _ h]
theorem cZ_at {c : Nat} : ∀ (m k : Nat) (σ : zS) (j : Nat), cZ c m k σ c j = if k ≤ j ∧ j < k + m then 0 else σ c j := by
  intro m
  induction m with
  | zero => intro k σ j; rw [cZ, if_neg (by omega)]
  | succ m ih =>
    intro k σ j
    rw [cZ, ih]
    by_cases h : j = k
    · subst h; rw [if_neg (by omega), if_pos (by omega), wr_same]
    · rw [wr_slot _ _ _ h]
      by_cases h2 : k ≤ j ∧ j < k + (m + 1)
      · rw [if_pos (by omega), if_pos h2]
      · rw [if_neg (by omega), if_neg h2]
def cRst (σ : zS) : zS := wr (wr (wr (wr (wr (cZ 31 8 0 σ) 30 1 0) 30 2 0) 30 3 0) 30 4 0) 30 5 0
theorem c_rstLoop (d m : Nat) : ∀ (c k : Nat) (σ : zS), k + c = 8 → zexec zc_X3_restart zu_X3_restart (zM d) (m + 1 + c) 2 [.inr (.inr 30), .inl (nI k)] σ = some (0, 0, wr (wr (wr (wr (wr (cZ 31 c k σ) 30 1 0) 30 2 0) 30 3 0) 30 4 0) 30 5 0) := by
  intro c
  induction c with
  | zero => intro k σ h; obtain rfl : k = 8 := by omega
            rw [Nat.add_zero, qX3_restart_30_2, if_neg (by decide)]; rfl
  | succ c ih =>
    intro k σ h
    rw [← Nat.add_assoc, qX3_restart_30_2, cZ, ← ih (k + 1) _ (by omega)]
    simp (disch := omega) only [lt_litR, lt_litL, eq_litR, eq_litL, lt_nn, eq_nn, lt_n0, z_cl, add_lit, eq_m1, eq_m1', m1_lt, false_or, or_false, if_pos, if_neg, zbI_some, zbV_some, wr_same, wr_cell, wr_slot, ne_eq, not_true_eq_false, not_false_eq_true, true_and, and_true, false_and, and_false, e10, e01, e00, if_true, if_false, Bool.false_eq_true, lit_ne, lit_lt, eq_self]
theorem c_restart (d : Nat) (σ : zS) : zM (d + 1) mX3_restart [.inr (.inr 30)] σ = some (0, 0, cRst σ) := by
  rw [qX3_restart_30, qX3_restart_30_0]
  exact c_rstLoop d 999990 8 0 σ rfl
theorem cRst_cell (σ : zS) {c : Nat} (h : c ≠ 30) (h2 : c ≠ 31) : cRst σ c = σ c := by
  rw [cRst]
  simp (disch := omega) only [lt_litR, lt_litL, eq_litR, eq_litL, lt_nn, eq_nn, lt_n0, z_cl, add_lit, eq_m1, eq_m1', m1_lt, false_or, or_false, if_pos, if_neg, zbI_some, zbV_some, wr_same, wr_cell, wr_slot, ne_eq, not_true_eq_false, not_false_eq_true, true_and, and_true, false_and, and_false, e10, e01, e00, if_true, if_false, Bool.false_eq_true, lit_ne, lit_lt, eq_self, cZ_cell]
theorem cRst_reg (σ : zS) {r : Nat} (h : r < 8) : cRst σ 31 r = 0 := by
  rw [cRst]
  simp (disch := omega) only [lt_litR, lt_litL, eq_litR, eq_litL, lt_nn, eq_nn, lt_n0, z_cl, add_lit, eq_m1, eq_m1', m1_lt, false_or, or_false, if_pos, if_neg, zbI_some, zbV_some, wr_same, wr_cell, wr_slot, ne_eq, not_true_eq_false, not_false_eq_true, true_and, and_true, false_and, and_false, e10, e01, e00, if_true, if_false, Bool.false_eq_true, lit_ne, lit_lt, eq_self, cZ_at]
theorem cRst_30 (σ : zS) {k : Nat} (h : 1 ≤ k) (h2 : k ≤ 5) : cRst σ 30 k = 0 := by
  rw [cRst]
  rcases (show k = 1 ∨ k = 2 ∨ k = 3 ∨ k = 4 ∨ k = 5 by omega) with rfl | rfl | rfl | rfl | rfl <;> simp (disch := omega) only [lt_litR, lt_litL, eq_litR, eq_litL, lt_nn, eq_nn, lt_n0, z_cl, add_lit, eq_m1, eq_m1', m1_lt, false_or, or_false, if_pos, if_neg, zbI_some, zbV_some, wr_same, wr_cell, wr_slot, ne_eq, not_true_eq_false, not_false_eq_true, true_and, and_true, false_and, and_false, e10, e01, e00, if_true, if_false, Bool.false_eq_true, lit_ne, lit_lt, eq_self]
theorem kC_false {τ : zS} {n k : Nat} (h : τ 38 20 = nI n) (hn : n ≤ 200) (hk : n ≤ k) (hk2 : k ≤ 300) : kC τ k = false := by
  rw [kC, h]
  simp only [decide_eq_false_iff_not]
  exact fun h2 => nI_nlt hk (by omega) h2.1
theorem c_decEndLoop (d : Nat) {σ τ : zS} {n : Nat} (H : HRel σ τ n) (h20 : τ 38 20 = nI n) : ∀ (f m x : Nat), n - x ≤ f → f + 1 < m → x ≤ n → ∃ E, zexec zc_X0_decisionEnd zu_X0_decisionEnd (zM (d + 2)) m 4 [.inr (.inr 24), .inl (nI x)] σ = some (1, nI E, σ) ∧ x ≤ E ∧ E ≤ n ∧ (∀ k, x ≤ k → k < E → kC τ k = true) ∧ kC τ E = false := by
  intro f
  have hn := H.2.1
  induction f with
  | zero =>
    intro m x hf hm hx
    obtain ⟨m, rfl⟩ : ∃ k, m = k + 1 := ⟨m - 1, by omega⟩
    obtain rfl : x = n := by omega
    refine ⟨x, ?_, Nat.le_refl _, Nat.le_refl _, fun k k1 k2 => by omega, kC_false h20 hn (Nat.le_refl _) (by omega)⟩
    rw [qX0_decisionEnd_24_4, H.1]
    simp (disch := omega) only [lt_litR, lt_litL, eq_litR, eq_litL, lt_nn, eq_nn, lt_n0, z_cl, add_lit, eq_m1, eq_m1', m1_lt, false_or, or_false, if_pos, if_neg, zbI_some, zbV_some, wr_same, wr_cell, wr_slot, ne_eq, not_true_eq_false, not_false_eq_true, true_and, and_true, false_and, and_false, e10, e01, e00, if_true, if_false, Bool.false_eq_true, lit_ne, lit_lt, eq_self, Nat.lt_irrefl]
  | succ f ih =>
    intro m x hf hm hx
    obtain ⟨m, rfl⟩ : ∃ k, m = k + 1 := ⟨m - 1, by omega⟩
    by_cases hx2 : x = n
    · subst hx2
      refine ⟨x, ?_, Nat.le_refl _, Nat.le_refl _, fun k k1 k2 => by omega, kC_false h20 hn (Nat.le_refl _) (by omega)⟩
      rw [qX0_decisionEnd_24_4, H.1]
      simp (disch := omega) only [lt_litR, lt_litL, eq_litR, eq_litL, lt_nn, eq_nn, lt_n0, z_cl, add_lit, eq_m1, eq_m1', m1_lt, false_or, or_false, if_pos, if_neg, zbI_some, zbV_some, wr_same, wr_cell, wr_slot, ne_eq, not_true_eq_false, not_false_eq_true, true_and, and_true, false_and, and_false, e10, e01, e00, if_true, if_false, Bool.false_eq_true, lit_ne, lit_lt, eq_self, Nat.lt_irrefl]
    · rw [qX0_decisionEnd_24_4, H.1, if_pos (nI_lt (show x < n by omega) (by omega)), c_kindAt d H x (by omega), zbI_some, if_pos (show x < n by omega)]
      have hkc : kC τ x = decide (¬ τ 50 x < 1 ∧ ¬ 4 < τ 50 x) := by
        rw [kC, h20]
        have : nI x < nI n := nI_lt (by omega) (by omega)
        simp only [this, true_and]
      by_cases h1 : τ 50 x < 1
      · rw [if_pos h1]
        exact ⟨x, rfl, Nat.le_refl _, hx, fun k k1 k2 => by omega, by rw [hkc]; simp [h1]⟩
      · rw [if_neg h1, c_kindAt d H x (by omega), zbI_some, if_pos (show x < n by omega)]
        by_cases h2 : 4 < τ 50 x
        · rw [if_pos h2]
          exact ⟨x, rfl, Nat.le_refl _, hx, fun k k1 k2 => by omega, by rw [hkc]; simp [h2]⟩
        · rw [if_neg h2, nI_1]
          obtain ⟨E, e1, e2, e3, e4, e5⟩ := ih m (x + 1) (by omega) (by omega) (by omega)
          refine ⟨E, e1, by omega, e3, fun k k1 k2 => ?_, e5⟩
          by_cases hk : k = x
          · subst hk; rw [hkc]; simp only [h1, h2, not_false_eq_true, and_self, decide_true]
          · exact e4 k (by omega) k2
theorem c_decisionEnd (d : Nat) {σ τ : zS} {n i : Nat} (H : HRel σ τ n) (h20 : τ 38 20 = nI n) (hi : i < n) : ∃ E, zM (d + 3) mX0_decisionEnd [.inr (.inr 24), .inl (nI i)] σ = some (1, nI E, σ) ∧ i < E ∧ E ≤ n ∧ (∀ k, i < k → k < E → kC τ k = true) ∧ kC τ E = false := by
  have hn := H.2.1
  rw [qX0_decisionEnd_24, qX0_decisionEnd_24_0, nI_1]
  obtain ⟨E, e1, e2, e3, e4, e5⟩ := c_decEndLoop d H h20 300 999999 (i + 1) (by omega) (by omega) (by omega)
  exact ⟨E, e1, by omega, e3, fun k k1 k2 => e4 k (by omega) k2, e5⟩
/-- between two decisions: class and flat machine -/
def Bnd (P σ : zS) (e w : Nat) (τ : zS) (n p i : Nat) : Prop :=
  PRel P σ ∧ σ 30 1 = nI e ∧ e ≤ pSz P ∧ (∀ r, r < 8 → σ 31 r = τ 54 r) ∧ σ 30 2 = τ 38 37 ∧ (∃ t, t ≤ 200 ∧ τ 38 37 = nI t) ∧ σ 30 5 = (if w = 2 then 1 else 0) ∧ (w = 1 ∨ w = 2) ∧ HRel σ τ n ∧ (∃ b s, kInv τ n p b s) ∧ τ 38 34 = 0 ∧ kC τ p = false ∧ τ 38 38 = (if w = 2 then 1 else 0) ∧ τ 38 31 = 0 ∧ i ≤ n ∧ (∀ k, p ≤ k → k < i → ¬ τ 50 k = 0) ∧ (∀ k, i ≤ k → k < p → ¬ τ 50 k = 0)
theorem c_catchLoop (d : Nat) {P T : zS} (hW : ∀ x, x < pSz P → pW P T x) (hJ : ∀ x, x ≤ pSz P → pJ P 11 x) (n : Nat) : ∀ (f m i : Nat) (σ τ : zS) (e w p : Nat), Bnd P σ e w τ n p i → n - i ≤ f → f + 1 < m →
    ∃ σ' t, kTo P (e, w, τ) t ∧ ((zexec zc_X4_catchUp zu_X4_catchUp (zM (d + 7)) m 8 [.inr (.inr 34), .inl (nI i)] σ = some (1, 0, wr σ' 30 4 (nI n)) ∧ dFrm σ σ' ∧ ∃ p', Bnd P σ' t.1 t.2.1 t.2.2 n p' n) ∨
      (zexec zc_X4_catchUp zu_X4_catchUp (zM (d + 7)) m 8 [.inr (.inr 34), .inl (nI i)] σ = some (1, σ' 34 11, cRst σ') ∧ dFrm σ σ' ∧ ¬ t.2.2 38 31 = 0 ∧ σ' 34 11 = t.2.2 38 31 ∧ (t.2.2 38 31 = 2 → σ' 34 12 = t.2.2 38 40) ∧ HRel σ' t.2.2 n ∧ (t.2.2 38 31 = 2 ∨ t.2.2 38 31 = 3 ∨ t.2.2 38 31 = 5))) := by
  intro f
  induction f with
  | zero =>
    intro m i σ τ e w p B hf hm
    obtain ⟨m, rfl⟩ : ∃ k, m = k + 1 := ⟨m - 1, by omega⟩
    have hi : i ≤ n := B.2.2.2.2.2.2.2.2.2.2.2.2.2.2.1
    obtain rfl : i = n := by omega
    refine ⟨σ, (e, w, τ), kTo.rf, Or.inl ⟨?_, ⟨fun _ _ _ _ _ _ _ _ _ _ => rfl, rfl, rfl⟩, p, B⟩⟩
    have hH : HRel σ τ i := B.2.2.2.2.2.2.2.2.1
    rw [qX4_catchUp_34_8, s_size, zbI_some, hH.1, if_neg (nI_nlt (Nat.le_refl _) (by have := hH.2.1; omega)), s_size, zbI_some, hH.1]
  | succ f ih =>
    intro m i σ τ e w p B hf hm
    obtain ⟨m, rfl⟩ : ∃ k, m = k + 1 := ⟨m - 1, by omega⟩
    by_cases hin : i = n
    · subst hin
      refine ⟨σ, (e, w, τ), kTo.rf, Or.inl ⟨?_, ⟨fun _ _ _ _ _ _ _ _ _ _ => rfl, rfl, rfl⟩, p, B⟩⟩
      have hH : HRel σ τ i := B.2.2.2.2.2.2.2.2.1
      rw [qX4_catchUp_34_8, s_size, zbI_some, hH.1, if_neg (nI_nlt (Nat.le_refl _) (by have := hH.2.1; omega)), s_size, zbI_some, hH.1]
    · have B0 := B
      obtain ⟨a1, a2, a3, a4, a5, a6, a7, a8, a9, ⟨b, s, a10⟩, a11, a12, a13, a14, a15, a16, a17⟩ := B
      have hn := a9.2.1
      have h20 := a10.1
      rw [qX4_catchUp_34_8, s_size, zbI_some, a9.1, if_pos (nI_lt (show i < n by omega) (by omega)), c_kindAt (d + 5) a9 i (by omega), zbI_some, if_pos (show i < n by omega)]
      by_cases h0 : τ 50 i = 0
      · -- a decision begins here
        have hpi : p ≤ i := by
          by_cases h : p ≤ i
          · exact h
          · exact absurd h0 (a17 i (Nat.le_refl _) (by omega))
        obtain ⟨E, e1, e2, e3, e4, e5⟩ := c_decisionEnd (d + 4) a9 h20 (show i < n by omega)
        rw [if_pos h0, e1, zbI_some]
        have hgo : kGo τ = wr (wr (wr τ 38 33 (nI (i + 1))) 38 36 0) 38 32 (nI i) := by
          rcases kGo_cases a10 with ⟨h1, _⟩ | ⟨_, h2, _⟩ | ⟨_, _, q, q1, q2, q3, h4⟩
          · exact absurd a11 h1
          · rw [a12] at h2; exact absurd h2 (by decide)
          · have hq : q ≤ i := by
              by_cases h : q ≤ i
              · exact h
              · exact absurd h0 (q3 i hpi (by omega))
            have hqi : q = i := by
              by_cases h : q = i
              · exact h
              · rcases h4 with ⟨g1, g2, _⟩ | ⟨g1, _⟩ | ⟨g1, _⟩ | ⟨g1, _⟩
                · exact absurd g2 (a16 q q1 (by omega))
                · omega
                · omega
                · omega
            subst hqi
            rcases h4 with ⟨_, _, g⟩ | ⟨g1, _⟩ | ⟨g1, _⟩ | ⟨g1, _⟩
            · exact g
            · omega
            · omega
            · omega
        have hF : kTo P (e, w, τ) (e, if w = 1 then 0 else 2, kGo τ) := by
          have := kTo.one (P := P) (s := (e, w, τ))
          rw [kF_go a14 a8] at this
          exact this
        rw [hgo] at hF
        have hS : SimW P (wr (wr (wr (wr (wr (wr (wr σ 34 6 (nI i)) 34 7 (nI i + 1)) 34 8 (nI E)) 34 9 0) 34 10 0) 34 11 0) 30 3 0) e (if w = 1 then 0 else 2) (wr (wr (wr τ 38 33 (nI (i + 1))) 38 36 0) 38 32 (nI i)) n (i + 1) i 0 := by
          have hkc : ∀ k, kC (wr (wr (wr τ 38 33 (nI (i + 1))) 38 36 0) 38 32 (nI i)) k = kC τ k := fun k => kC_cong (by simp (disch := omega) only [lt_litR, lt_litL, eq_litR, eq_litL, lt_nn, eq_nn, lt_n0, z_cl, add_lit, eq_m1, eq_m1', m1_lt, false_or, or_false, if_pos, if_neg, zbI_some, zbV_some, wr_same, wr_cell, wr_slot, ne_eq, not_true_eq_false, not_false_eq_true, true_and, and_true, false_and, and_false, e10, e01, e00, if_true, if_false, Bool.false_eq_true, lit_ne, lit_lt, eq_self]) (by simp (disch := omega) only [lt_litR, lt_litL, eq_litR, eq_litL, lt_nn, eq_nn, lt_n0, z_cl, add_lit, eq_m1, eq_m1', m1_lt, false_or, or_false, if_pos, if_neg, zbI_some, zbV_some, wr_same, wr_cell, wr_slot, ne_eq, not_true_eq_false, not_false_eq_true, true_and, and_true, false_and, and_false, e10, e01, e00, if_true, if_false, Bool.false_eq_true, lit_ne, lit_lt, eq_self])
          refine ⟨⟨fun c c1 c2 => by simp (disch := omega) only [lt_litR, lt_litL, eq_litR, eq_litL, lt_nn, eq_nn, lt_n0, z_cl, add_lit, eq_m1, eq_m1', m1_lt, false_or, or_false, if_pos, if_neg, zbI_some, zbV_some, wr_same, wr_cell, wr_slot, ne_eq, not_true_eq_false, not_false_eq_true, true_and, and_true, false_and, and_false, e10, e01, e00, if_true, if_false, Bool.false_eq_true, lit_ne, lit_lt, eq_self, a1.1 c c1 c2], a1.2⟩, by simp (disch := omega) only [lt_litR, lt_litL, eq_litR, eq_litL, lt_nn, eq_nn, lt_n0, z_cl, add_lit, eq_m1, eq_m1', m1_lt, false_or, or_false, if_pos, if_neg, zbI_some, zbV_some, wr_same, wr_cell, wr_slot, ne_eq, not_true_eq_false, not_false_eq_true, true_and, and_true, false_and, and_false, e10, e01, e00, if_true, if_false, Bool.false_eq_true, lit_ne, lit_lt, eq_self, a2], a3, fun r hr => by simp (disch := omega) only [lt_litR, lt_litL, eq_litR, eq_litL, lt_nn, eq_nn, lt_n0, z_cl, add_lit, eq_m1, eq_m1', m1_lt, false_or, or_false, if_pos, if_neg, zbI_some, zbV_some, wr_same, wr_cell, wr_slot, ne_eq, not_true_eq_false, not_false_eq_true, true_and, and_true, false_and, and_false, e10, e01, e00, if_true, if_false, Bool.false_eq_true, lit_ne, lit_lt, eq_self, a4 r hr], by simp (disch := omega) only [lt_litR, lt_litL, eq_litR, eq_litL, lt_nn, eq_nn, lt_n0, z_cl, add_lit, eq_m1, eq_m1', m1_lt, false_or, or_false, if_pos, if_neg, zbI_some, zbV_some, wr_same, wr_cell, wr_slot, ne_eq, not_true_eq_false, not_false_eq_true, true_and, and_true, false_and, and_false, e10, e01, e00, if_true, if_false, Bool.false_eq_true, lit_ne, lit_lt, eq_self, a5], by simp (disch := omega) only [lt_litR, lt_litL, eq_litR, eq_litL, lt_nn, eq_nn, lt_n0, z_cl, add_lit, eq_m1, eq_m1', m1_lt, false_or, or_false, if_pos, if_neg, zbI_some, zbV_some, wr_same, wr_cell, wr_slot, ne_eq, not_true_eq_false, not_false_eq_true, true_and, and_true, false_and, and_false, e10, e01, e00, if_true, if_false, Bool.false_eq_true, lit_ne, lit_lt, eq_self]; exact a6, by simp (disch := omega) only [lt_litR, lt_litL, eq_litR, eq_litL, lt_nn, eq_nn, lt_n0, z_cl, add_lit, eq_m1, eq_m1', m1_lt, false_or, or_false, if_pos, if_neg, zbI_some, zbV_some, wr_same, wr_cell, wr_slot, ne_eq, not_true_eq_false, not_false_eq_true, true_and, and_true, false_and, and_false, e10, e01, e00, if_true, if_false, Bool.false_eq_true, lit_ne, lit_lt, eq_self], ?_, by simp (disch := omega) only [lt_litR, lt_litL, eq_litR, eq_litL, lt_nn, eq_nn, lt_n0, z_cl, add_lit, eq_m1, eq_m1', m1_lt, false_or, or_false, if_pos, if_neg, zbI_some, zbV_some, wr_same, wr_cell, wr_slot, ne_eq, not_true_eq_false, not_false_eq_true, true_and, and_true, false_and, and_false, e10, e01, e00, if_true, if_false, Bool.false_eq_true, lit_ne, lit_lt, eq_self], by simp (disch := omega) only [lt_litR, lt_litL, eq_litR, eq_litL, lt_nn, eq_nn, lt_n0, z_cl, add_lit, eq_m1, eq_m1', m1_lt, false_or, or_false, if_pos, if_neg, zbI_some, zbV_some, wr_same, wr_cell, wr_slot, ne_eq, not_true_eq_false, not_false_eq_true, true_and, and_true, false_and, and_false, e10, e01, e00, if_true, if_false, Bool.false_eq_true, lit_ne, lit_lt, eq_self], by simp (disch := omega) only [lt_litR, lt_litL, eq_litR, eq_litL, lt_nn, eq_nn, lt_n0, z_cl, add_lit, eq_m1, eq_m1', m1_lt, false_or, or_false, if_pos, if_neg, zbI_some, zbV_some, wr_same, wr_cell, wr_slot, ne_eq, not_true_eq_false, not_false_eq_true, true_and, and_true, false_and, and_false, e10, e01, e00, if_true, if_false, Bool.false_eq_true, lit_ne, lit_lt, eq_self, a11], Or.inl (by simp (disch := omega) only [lt_litR, lt_litL, eq_litR, eq_litL, lt_nn, eq_nn, lt_n0, z_cl, add_lit, eq_m1, eq_m1', m1_lt, false_or, or_false, if_pos, if_neg, zbI_some, zbV_some, wr_same, wr_cell, wr_slot, ne_eq, not_true_eq_false, not_false_eq_true, true_and, and_true, false_and, and_false, e10, e01, e00, if_true, if_false, Bool.false_eq_true, lit_ne, lit_lt, eq_self, a11]), ?_, by simp (disch := omega) only [lt_litR, lt_litL, eq_litR, eq_litL, lt_nn, eq_nn, lt_n0, z_cl, add_lit, eq_m1, eq_m1', m1_lt, false_or, or_false, if_pos, if_neg, zbI_some, zbV_some, wr_same, wr_cell, wr_slot, ne_eq, not_true_eq_false, not_false_eq_true, true_and, and_true, false_and, and_false, e10, e01, e00, if_true, if_false, Bool.false_eq_true, lit_ne, lit_lt, eq_self], ⟨by simp (disch := omega) only [lt_litR, lt_litL, eq_litR, eq_litL, lt_nn, eq_nn, lt_n0, z_cl, add_lit, eq_m1, eq_m1', m1_lt, false_or, or_false, if_pos, if_neg, zbI_some, zbV_some, wr_same, wr_cell, wr_slot, ne_eq, not_true_eq_false, not_false_eq_true, true_and, and_true, false_and, and_false, e10, e01, e00, if_true, if_false, Bool.false_eq_true, lit_ne, lit_lt, eq_self, a10.1], hn, by simp (disch := omega) only [lt_litR, lt_litL, eq_litR, eq_litL, lt_nn, eq_nn, lt_n0, z_cl, add_lit, eq_m1, eq_m1', m1_lt, false_or, or_false, if_pos, if_neg, zbI_some, zbV_some, wr_same, wr_cell, wr_slot, ne_eq, not_true_eq_false, not_false_eq_true, true_and, and_true, false_and, and_false, e10, e01, e00, if_true, if_false, Bool.false_eq_true, lit_ne, lit_lt, eq_self], by omega, by simp (disch := omega) only [lt_litR, lt_litL, eq_litR, eq_litL, lt_nn, eq_nn, lt_n0, z_cl, add_lit, eq_m1, eq_m1', m1_lt, false_or, or_false, if_pos, if_neg, zbI_some, zbV_some, wr_same, wr_cell, wr_slot, ne_eq, not_true_eq_false, not_false_eq_true, true_and, and_true, false_and, and_false, e10, e01, e00, if_true, if_false, Bool.false_eq_true, lit_ne, lit_lt, eq_self], by omega, fun _ => by omega, fun h => ?_, by simp (disch := omega) only [lt_litR, lt_litL, eq_litR, eq_litL, lt_nn, eq_nn, lt_n0, z_cl, add_lit, eq_m1, eq_m1', m1_lt, false_or, or_false, if_pos, if_neg, zbI_some, zbV_some, wr_same, wr_cell, wr_slot, ne_eq, not_true_eq_false, not_false_eq_true, true_and, and_true, false_and, and_false, e10, e01, e00, if_true, if_false, Bool.false_eq_true, lit_ne, lit_lt, eq_self], by omega⟩, by omega, ⟨fun _ => ⟨by omega, a9.cong (by simp (disch := omega) only [lt_litR, lt_litL, eq_litR, eq_litL, lt_nn, eq_nn, lt_n0, z_cl, add_lit, eq_m1, eq_m1', m1_lt, false_or, or_false, if_pos, if_neg, zbI_some, zbV_some, wr_same, wr_cell, wr_slot, ne_eq, not_true_eq_false, not_false_eq_true, true_and, and_true, false_and, and_false, e10, e01, e00, if_true, if_false, Bool.false_eq_true, lit_ne, lit_lt, eq_self]) (by simp (disch := omega) only [lt_litR, lt_litL, eq_litR, eq_litL, lt_nn, eq_nn, lt_n0, z_cl, add_lit, eq_m1, eq_m1', m1_lt, false_or, or_false, if_pos, if_neg, zbI_some, zbV_some, wr_same, wr_cell, wr_slot, ne_eq, not_true_eq_false, not_false_eq_true, true_and, and_true, false_and, and_false, e10, e01, e00, if_true, if_false, Bool.false_eq_true, lit_ne, lit_lt, eq_self]) (fun j _ => by simp (disch := omega) only [lt_litR, lt_litL, eq_litR, eq_litL, lt_nn, eq_nn, lt_n0, z_cl, add_lit, eq_m1, eq_m1', m1_lt, false_or, or_false, if_pos, if_neg, zbI_some, zbV_some, wr_same, wr_cell, wr_slot, ne_eq, not_true_eq_false, not_false_eq_true, true_and, and_true, false_and, and_false, e10, e01, e00, if_true, if_false, Bool.false_eq_true, lit_ne, lit_lt, eq_self, and_self]) (fun j => by simp (disch := omega) only [lt_litR, lt_litL, eq_litR, eq_litL, lt_nn, eq_nn, lt_n0, z_cl, add_lit, eq_m1, eq_m1', m1_lt, false_or, or_false, if_pos, if_neg, zbI_some, zbV_some, wr_same, wr_cell, wr_slot, ne_eq, not_true_eq_false, not_false_eq_true, true_and, and_true, false_and, and_false, e10, e01, e00, if_true, if_false, Bool.false_eq_true, lit_ne, lit_lt, eq_self]) (fun j _ => by simp (disch := omega) only [lt_litR, lt_litL, eq_litR, eq_litL, lt_nn, eq_nn, lt_n0, z_cl, add_lit, eq_m1, eq_m1', m1_lt, false_or, or_false, if_pos, if_neg, zbI_some, zbV_some, wr_same, wr_cell, wr_slot, ne_eq, not_true_eq_false, not_false_eq_true, true_and, and_true, false_and, and_false, e10, e01, e00, if_true, if_false, Bool.false_eq_true, lit_ne, lit_lt, eq_self, and_self]), E, by simp (disch := omega) only [lt_litR, lt_litL, eq_litR, eq_litL, lt_nn, eq_nn, lt_n0, z_cl, add_lit, eq_m1, eq_m1', m1_lt, false_or, or_false, if_pos, if_neg, zbI_some, zbV_some, wr_same, wr_cell, wr_slot, ne_eq, not_true_eq_false, not_false_eq_true, true_and, and_true, false_and, and_false, e10, e01, e00, if_true, if_false, Bool.false_eq_true, lit_ne, lit_lt, eq_self], by omega, e3, fun k k1 k2 => by rw [hkc]; exact e4 k k1 k2, by rw [hkc]; exact e5⟩, fun h => ?_⟩, ?_, by simp (disch := omega) only [lt_litR, lt_litL, eq_litR, eq_litL, lt_nn, eq_nn, lt_n0, z_cl, add_lit, eq_m1, eq_m1', m1_lt, false_or, or_false, if_pos, if_neg, zbI_some, zbV_some, wr_same, wr_cell, wr_slot, ne_eq, not_true_eq_false, not_false_eq_true, true_and, and_true, false_and, and_false, e10, e01, e00, if_true, if_false, Bool.false_eq_true, lit_ne, lit_lt, eq_self, a14]⟩
          · rcases a8 with h | h <;> subst h <;> simp (disch := omega) only [lt_litR, lt_litL, eq_litR, eq_litL, lt_nn, eq_nn, lt_n0, z_cl, add_lit, eq_m1, eq_m1', m1_lt, false_or, or_false, if_pos, if_neg, zbI_some, zbV_some, wr_same, wr_cell, wr_slot, ne_eq, not_true_eq_false, not_false_eq_true, true_and, and_true, false_and, and_false, e10, e01, e00, if_true, if_false, Bool.false_eq_true, lit_ne, lit_lt, eq_self, a7]
          · rcases a8 with h | h <;> subst h <;> simp (disch := omega) only [lt_litR, lt_litL, eq_litR, eq_litL, lt_nn, eq_nn, lt_n0, z_cl, add_lit, eq_m1, eq_m1', m1_lt, false_or, or_false, if_pos, if_neg, zbI_some, zbV_some, wr_same, wr_cell, wr_slot, ne_eq, not_true_eq_false, not_false_eq_true, true_and, and_true, false_and, and_false, e10, e01, e00, if_true, if_false, Bool.false_eq_true, lit_ne, lit_lt, eq_self]
          · simp (disch := omega) only [wr_slot] at h; exact absurd a11 h
          · simp (disch := omega) only [wr_slot] at h; exact absurd a11 h
          · rcases a8 with h | h <;> subst h <;> simp (disch := omega) only [lt_litR, lt_litL, eq_litR, eq_litL, lt_nn, eq_nn, lt_n0, z_cl, add_lit, eq_m1, eq_m1', m1_lt, false_or, or_false, if_pos, if_neg, zbI_some, zbV_some, wr_same, wr_cell, wr_slot, ne_eq, not_true_eq_false, not_false_eq_true, true_and, and_true, false_and, and_false, e10, e01, e00, if_true, if_false, Bool.false_eq_true, lit_ne, lit_lt, eq_self, a13]
        obtain ⟨σ1, c1, c2, c3, t, c4, c5⟩ := c_runDec d (σ := σ) hW hJ (x2 := nI E) (Or.inl rfl) (by rcases a8 with h | h <;> subst h <;> simp) hS
        rw [c1, zbV_some]
        rcases c5 with ⟨g1, g2, g3⟩ | ⟨g1, g2, p', s', g3, g4⟩
        · rw [if_neg g3, c_restart, zbV_some, cRst_cell _ (by omega) (by omega)]
          refine ⟨σ1, t, hF.tr c4, Or.inr ⟨rfl, c2, g1, g2.1, g2.2.2.1, g2.2.2.2.1 (by rw [← g2.2.1, c3]), g2.2.2.2.2.2.1⟩⟩
        · have hl : t.2.2 38 34 = 0 := by
            rw [← g3.2.2.2.2.2.2.2.2.2.2.1, c3]
          obtain ⟨k1, k2, k3⟩ := g3.w2
          rw [if_pos k1, nI_1]
          have hB : Bnd P σ1 t.1 t.2.1 t.2.2 n p' (i + 1) := by
            obtain ⟨d1, d2, d3, d4, d5, d6, d7, d8, d9, d10, d11, d12, d13, d14, d15, d16, d17, d18, d19⟩ := g3
            obtain ⟨f1, f2, E2, f3, f4, f5, f6, f7⟩ := d17.1 hl
            refine ⟨d1, d2, d3, d4, d5, d6, d8, g2, f2, ⟨i, s', d15⟩, hl, g4 hl, d18, d19, by omega, fun k q1 q2 => by omega, fun k q1 q2 => ?_⟩
            have := f6 k (by omega) (by omega)
            simp only [kC, decide_eq_true_eq] at this
            intro h9
            rw [h9] at this
            exact this.2.1 (by decide)
          obtain ⟨σ2, t2, r1, r2⟩ := ih m (i + 1) σ1 t.2.2 t.1 t.2.1 p' hB (by omega) (by omega)
          refine ⟨σ2, t2, hF.tr (c4.tr r1), ?_⟩
          rcases r2 with ⟨r2, r3, r4⟩ | ⟨r2, r3, r4⟩
          · exact Or.inl ⟨r2, c2.tr r3, r4⟩
          · exact Or.inr ⟨r2, c2.tr r3, r4⟩
      · rw [if_neg h0, nI_1]
        have hB : Bnd P σ e w τ n p (i + 1) := by
          refine ⟨a1, a2, a3, a4, a5, a6, a7, a8, a9, ⟨b, s, a10⟩, a11, a12, a13, a14, by omega, fun k k1 k2 => ?_, fun k k1 k2 => a17 k (by omega) k2⟩
          by_cases hk : k = i
          · subst hk; exact h0
          · exact a16 k k1 (by omega)
        exact ih m (i + 1) σ τ e w p hB (by omega) (by omega)
