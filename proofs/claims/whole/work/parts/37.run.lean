-- the reference's run from its beginning
def kZ : Nat → Nat → zS → zS
  | 0, _, τ => τ
  | c + 1, k, τ => kZ c (k + 1) (wr τ 54 k 0)
def kInit (τ : zS) : zS := wr (wr (wr (wr (wr (wr (wr (kZ 8 0 τ) 38 31 0) 38 34 0) 38 38 0) 38 36 0) 38 37 0) 38 32 0) 38 33 0
theorem kZ_cell : ∀ (c k : Nat) (τ : zS) (d : Nat), d ≠ 54 → kZ c k τ d = τ d := by
  intro c
  induction c with
  | zero => intro k τ d h; rfl
  | succ c ih => intro k τ d h; rw [kZ, ih _ _ _ h, wr_cell _ _ _ h]
theorem kZ_at : ∀ (c k : Nat) (τ : zS) (j : Nat), kZ c k τ 54 j = if k ≤ j ∧ j < k + c then 0 else τ 54 j := by
  intro c
  induction c with
  | zero => intro k τ j; rw [kZ, if_neg (by omega)]
  | succ c ih =>
    intro k τ j
    rw [kZ, ih]
    by_cases h : j = k
    · subst h; rw [if_neg (by omega), if_pos (by omega), wr_same]
    · rw [wr_slot _ _ _ h]
      by_cases h2 : k ≤ j ∧ j < k + (c + 1)
      · rw [if_pos (by omega), if_pos h2]
      · rw [if_neg (by omega), if_neg h2]
theorem kInit_cell (τ : zS) {c : Nat} (h : c ≠ 38) (h2 : c ≠ 54) : kInit τ c = τ c := by
  rw [kInit]
  simp (disch := omega) only [lt_litR, lt_litL, eq_litR, eq_litL, lt_nn, eq_nn, lt_n0, z_cl, add_lit, eq_m1, eq_m1', m1_lt, false_or, or_false, if_pos, if_neg, zbI_some, zbV_some, wr_same, wr_cell, wr_slot, ne_eq, not_true_eq_false, not_false_eq_true, true_and, and_true, false_and, and_false, e10, e01, e00, if_true, if_false, Bool.false_eq_true, lit_ne, lit_lt, eq_self, kZ_cell]
theorem kInit_reg (τ : zS) {r : Nat} (h : r < 8) : kInit τ 54 r = 0 := by
  rw [kInit]
  simp (disch := omega) only [lt_litR, lt_litL, eq_litR, eq_litL, lt_nn, eq_nn, lt_n0, z_cl, add_lit, eq_m1, eq_m1', m1_lt, false_or, or_false, if_pos, if_neg, zbI_some, zbV_some, wr_same, wr_cell, wr_slot, ne_eq, not_true_eq_false, not_false_eq_true, true_and, and_true, false_and, and_false, e10, e01, e00, if_true, if_false, Bool.false_eq_true, lit_ne, lit_lt, eq_self, kZ_at]
theorem kInit_38 (τ : zS) {k : Nat} (h : ¬ (31 ≤ k ∧ k ≤ 38) ∨ k = 35) : kInit τ 38 k = τ 38 k := by
  rw [kInit]
  rw [wr_slot _ _ _ (by omega), wr_slot _ _ _ (by omega), wr_slot _ _ _ (by omega), wr_slot _ _ _ (by omega), wr_slot _ _ _ (by omega), wr_slot _ _ _ (by omega), wr_slot _ _ _ (by omega), kZ_cell _ _ _ _ (by omega)]
theorem kInit_0 (τ : zS) {k : Nat} (h : k = 31 ∨ k = 32 ∨ k = 33 ∨ k = 34 ∨ k = 36 ∨ k = 37 ∨ k = 38) : kInit τ 38 k = 0 := by
  rw [kInit]
  rcases h with rfl | rfl | rfl | rfl | rfl | rfl | rfl <;> simp (disch := omega) only [lt_litR, lt_litL, eq_litR, eq_litL, lt_nn, eq_nn, lt_n0, z_cl, add_lit, eq_m1, eq_m1', m1_lt, false_or, or_false, if_pos, if_neg, zbI_some, zbV_some, wr_same, wr_cell, wr_slot, ne_eq, not_true_eq_false, not_false_eq_true, true_and, and_true, false_and, and_false, e10, e01, e00, if_true, if_false, Bool.false_eq_true, lit_ne, lit_lt, eq_self]
theorem kInit_inv (τ : zS) {n : Nat} (h : τ 38 20 = nI n) (hn : n ≤ 200) : kInv (kInit τ) n 0 0 0 := by
  refine ⟨by rw [kInit_38 τ (by omega), h], hn, by rw [kInit_0 τ (by omega)]; rfl, by omega, by rw [kInit_0 τ (by omega)]; rfl, by omega, fun _ => by omega, fun h => absurd (kInit_0 τ (by omega)) h, by rw [kInit_0 τ (by omega)]; rfl, by omega⟩
theorem kInit_same (τ : zS) : kSame τ (kInit τ) := ⟨fun c a1 a2 a3 a4 a5 => kInit_cell τ a1 a5, fun k a1 a2 => kInit_38 τ (by omega)⟩
theorem m_runZero (d m : Nat) : ∀ (c k : Nat) (τ : zS), k + c = 8 → zexec zc_X8_run zu_X8_run (zM d) (m + c + 1) 2 [.inr (.inr 38), .inl (nI k)] τ = zexec zc_X8_run zu_X8_run (zM d) m 56 [.inr (.inr 38)] (wr (wr (wr (wr (wr (wr (wr (kZ c k τ) 38 31 0) 38 34 0) 38 38 0) 38 36 0) 38 37 0) 38 32 0) 38 33 0) := by
  intro c
  induction c with
  | zero => intro k τ h; obtain rfl : k = 8 := by omega
            rw [qX8_run_38_2, kZ, if_neg (by decide)]
  | succ c ih =>
    intro k τ h
    rw [qX8_run_38_2, kZ, ← ih (k + 1) _ (by omega), Nat.add_assoc m c 1]
    simp (disch := omega) only [lt_litR, lt_litL, eq_litR, eq_litL, lt_nn, eq_nn, lt_n0, z_cl, add_lit, eq_m1, eq_m1', m1_lt, false_or, or_false, if_pos, if_neg, zbI_some, zbV_some, wr_same, wr_cell, wr_slot, ne_eq, not_true_eq_false, not_false_eq_true, true_and, and_true, false_and, and_false, e10, e01, e00, if_true, if_false, Bool.false_eq_true, lit_ne, lit_lt, eq_self]
theorem m_runSkip (d : Nat) : ∀ (f m : Nat) (τ : zS) (n p : Nat), τ 38 20 = nI n → n ≤ 200 → τ 38 33 = nI p → p ≤ n → n - p ≤ f → ∃ m', m ≤ m' ∧ zexec zc_X8_run zu_X8_run (zM d) (m + f) 56 [.inr (.inr 38)] τ = zexec zc_X8_run zu_X8_run (zM d) m' 56 [.inr (.inr 38)] (kSkip f τ) := by
  intro f
  induction f with
  | zero => intro m τ n p h hn hp hpn hf; exact ⟨m, Nat.le_refl _, rfl⟩
  | succ f ih =>
    intro m τ n p h hn hp hpn hf
    rw [kSkip]
    by_cases hc : p < n ∧ ¬ τ 50 p = 0
    · have e2 : τ 38 33 < τ 38 20 ∧ ¬ τ 50 (τ 38 33).toNatClampNeg = 0 := by simp (disch := omega) only [lt_litR, lt_litL, eq_litR, eq_litL, lt_nn, eq_nn, lt_n0, z_cl, add_lit, eq_m1, eq_m1', m1_lt, false_or, or_false, if_pos, if_neg, zbI_some, zbV_some, wr_same, wr_cell, wr_slot, ne_eq, not_true_eq_false, not_false_eq_true, true_and, and_true, false_and, and_false, e10, e01, e00, if_true, if_false, Bool.false_eq_true, lit_ne, lit_lt, eq_self, h, hp, hc.2]; exact hc.1
      obtain ⟨m', h1, h2⟩ := ih m (wr τ 38 33 (τ 38 33 + 1)) n (p + 1) (by simp (disch := omega) only [lt_litR, lt_litL, eq_litR, eq_litL, lt_nn, eq_nn, lt_n0, z_cl, add_lit, eq_m1, eq_m1', m1_lt, false_or, or_false, if_pos, if_neg, zbI_some, zbV_some, wr_same, wr_cell, wr_slot, ne_eq, not_true_eq_false, not_false_eq_true, true_and, and_true, false_and, and_false, e10, e01, e00, if_true, if_false, Bool.false_eq_true, lit_ne, lit_lt, eq_self, h]) hn (by simp (disch := omega) only [lt_litR, lt_litL, eq_litR, eq_litL, lt_nn, eq_nn, lt_n0, z_cl, add_lit, eq_m1, eq_m1', m1_lt, false_or, or_false, if_pos, if_neg, zbI_some, zbV_some, wr_same, wr_cell, wr_slot, ne_eq, not_true_eq_false, not_false_eq_true, true_and, and_true, false_and, and_false, e10, e01, e00, if_true, if_false, Bool.false_eq_true, lit_ne, lit_lt, eq_self, hp]) (by omega) (by omega)
      refine ⟨m', h1, ?_⟩
      rw [if_pos e2, ← h2, ← Nat.add_assoc, qX8_run_38_56, if_pos e2.1, if_neg e2.2, hp, if_neg (nI_in (by omega) (by omega))]
    · have e2 : ¬ (τ 38 33 < τ 38 20 ∧ ¬ τ 50 (τ 38 33).toNatClampNeg = 0) := by simp (disch := omega) only [lt_litR, lt_litL, eq_litR, eq_litL, lt_nn, eq_nn, lt_n0, z_cl, add_lit, eq_m1, eq_m1', m1_lt, false_or, or_false, if_pos, if_neg, zbI_some, zbV_some, wr_same, wr_cell, wr_slot, ne_eq, not_true_eq_false, not_false_eq_true, true_and, and_true, false_and, and_false, e10, e01, e00, if_true, if_false, Bool.false_eq_true, lit_ne, lit_lt, eq_self, h, hp]; exact hc
      rw [if_neg e2]
      exact ⟨m + (f + 1), by omega, rfl⟩
/-- the program that stands, on both sides -/
def kProg (P T : zS) : Prop := pSz P ≤ 200 ∧ ∃ (k sd N : Nat) (l : List Nat), k ≤ 11 ∧ sd < 2 ∧ T 38 10 = nI sd ∧ Chain (RpS P T k) (T 49) l (T 43 sd) 0 (pSz P) 0 N ∧ pEnd P (pSz P) N
theorem kSame.prog {P T τ : zS} (h : kSame T τ) (hp : kProg P T) : kProg P τ := by
  obtain ⟨h1, k, sd, N, l, h2, h3, h4, h5, h6⟩ := hp
  refine ⟨h1, k, sd, N, l, h2, h3, by rw [h.2 10 (by omega) (by omega), h4], ?_, h6⟩
  rw [RpS, kT h (c := 45) (by omega), kT h (c := 46) (by omega), kT h (c := 47) (by omega), kT h (c := 48) (by omega), kT h (c := 49) (by omega), h.1 43 (by omega) (by omega) (by omega) (by omega) (by omega)]
  exact h5
theorem pSo_end {P : zS} : pSo P (pSz P) = 13 := by rw [pSo, if_neg (by omega)]
/-- from where the first decision begins -/
theorem m_runList {P τ : zS} (D : Nat) (hD : 620 ≤ D) (hP : kProg P τ) {n p b s : Nat} (hI : kInv τ n p b s) (h0 : τ 38 31 = 0) (hM : kMu τ ≤ 300000) :
    ∃ t : kSt, (if τ 38 10 < 0 ∨ 2 ≤ (τ 38 10).toNatClampNeg then none else zbV (zM D mX8_list [.inr (.inr 38), .inl (τ 43 (τ 38 10).toNatClampNeg)] τ) (fun s2 => if s2 38 31 = 0 then zbV (zM D mX8_stop [.inr (.inr 38), .inl 0] s2) (fun s3 => some (0, 0, s3)) else some (0, 0, s2))) = some (0, 0, t.2.2) ∧ kTo P (0, 0, τ) t ∧ ¬ t.2.2 38 31 = 0 := by
  obtain ⟨hz, k, sd, N, l, hk, hsd, h10, hc, hE⟩ := hP
  rw [h10, if_neg (nI_in hsd (by omega)), z_cl (by omega)]
  obtain ⟨t, t1, t2, t3⟩ := g_list P τ hz k D (by omega) l _ _ _ _ _ τ n p b s hc hE hI h0 kSame.rf hM
  rw [t1, zbV_some]
  by_cases hh : t.2.2 38 31 = 0
  · rw [if_pos hh]
    obtain ⟨g1, g2, ⟨p', b', s', g3⟩, g4⟩ := t3 hh
    obtain ⟨te, tw, tt⟩ := t
    simp only at g1 g2 g3 g4 hh
    subst g1 g2
    obtain ⟨d, rfl⟩ : ∃ d, D = d + 4 := ⟨D - 4, by omega⟩
    obtain ⟨u, u1, u2, u3⟩ := m_stop P d (pSz P) 0 g3 hh (by omega)
    refine ⟨u, by simp only [u1, zbV_some], t2.tr (kTo.turn hh ?_), u3⟩
    rw [kTurn, if_neg (by rw [pSo_end]; decide), if_pos pSo_end]
    exact u2
  · rw [if_neg hh]
    exact ⟨t, rfl, t2, hh⟩

theorem m_run {P τ : zS} (D : Nat) (hD : 630 ≤ D) (hP : kProg P τ) {n : Nat} (hn : τ 38 20 = nI n) (hn2 : n ≤ 200) (hc0 : kC τ 0 = false) :
    ∃ t : kSt, zM D mX8_run [.inr (.inr 38)] τ = some (0, 0, t.2.2) ∧ kTo P (0, 1, kInit τ) t ∧ ¬ t.2.2 38 31 = 0 := by
  obtain ⟨D, rfl⟩ : ∃ k, D = k + 5 := ⟨D - 5, by omega⟩
  have hI := kInit_inv τ hn hn2
  have h0 : kInit τ 38 31 = 0 := kInit_0 τ (by omega)
  have h34 : kInit τ 38 34 = 0 := kInit_0 τ (by omega)
  have h33 : kInit τ 38 33 = nI 0 := hI.2.2.1
  have h20 : kInit τ 38 20 = nI n := hI.1
  rw [qX8_run_38, qX8_run_38_0]
  have e1 := m_runZero (D + 4) 999990 8 0 τ rfl
  have e0 : (nI 0) = (0 : Int32) := rfl
  rw [e0, ← kInit] at e1
  rw [show (999999 : Nat) = 999990 + 8 + 1 from rfl, e1, show (999990 : Nat) = 999789 + 201 from rfl]
  obtain ⟨m', hm, e2⟩ := m_runSkip (D + 4) 201 999789 (kInit τ) n 0 h20 hn2 h33 (by omega) (by omega)
  rw [e2]
  obtain ⟨q, q1, q2, q3, q4, q5⟩ := kSkip_spec 201 (kInit τ) n 0 h20 hn2 h33 (by omega) (by omega)
  have hgo : kGo (kInit τ) = kGo2 (kSkip 201 (kInit τ)) := by
    have : kC (kInit τ) 0 = false := by
      rw [← hc0, kC, kC, h20, hn, kInit_cell τ (by omega) (by omega)]
    rw [kGo, if_pos h34, h33, z_cl (by omega), this, if_neg (by decide)]
  have hF : kTo P (0, 1, kInit τ) (0, 0, kGo (kInit τ)) := by
    have := kTo.one (P := P) (s := (0, 1, kInit τ))
    rw [kF_go h0 (Or.inl rfl)] at this
    exact this
  have hM : kMu (kInit τ) ≤ 202202 := by
    rw [kMu, h20, h33, z_cl (by omega), z_cl (by omega), kInit_0 τ (k := 36) (by omega), if_pos h34]
    have : (n + 1 - 0) * 1001 ≤ 201 * 1001 := Nat.mul_le_mul_right _ (by omega)
    have e9 : (0 : Int32).toNatClampNeg = 0 := by decide
    rw [e9]
    exact Nat.le_trans (Nat.add_le_add this (Nat.le_refl (1001 - 0))) (by decide)
  obtain ⟨m', rfl⟩ : ∃ k, m' = k + 1 := ⟨m' - 1, by omega⟩
  have hPg : kProg P (kGo (kInit τ)) := (kGo_same (kInit_same τ)).prog hP
  rw [qX8_run_38_56]
  have k36 : wr (wr (kInit τ) 38 33 (nI q)) 38 36 0 = wr (kInit τ) 38 33 (nI q) := by
    have := wr_id (wr (kInit τ) 38 33 (nI q)) 38 36
    rw [wr_slot _ _ _ (by omega), kInit_0 τ (by omega)] at this
    exact this
  -- what follows once the first decision has begun
  have key : kGo (kInit τ) 38 31 = 0 → ∃ t : kSt, (if kGo (kInit τ) 38 10 < 0 ∨ 2 ≤ (kGo (kInit τ) 38 10).toNatClampNeg then none else zbV (zM (D + 4) mX8_list [.inr (.inr 38), .inl (kGo (kInit τ) 43 (kGo (kInit τ) 38 10).toNatClampNeg)] (kGo (kInit τ))) (fun s2 => if s2 38 31 = 0 then zbV (zM (D + 4) mX8_stop [.inr (.inr 38), .inl 0] s2) (fun s3 => some (0, 0, s3)) else some (0, 0, s2))) = some (0, 0, t.2.2) ∧ kTo P (0, 1, kInit τ) t ∧ ¬ t.2.2 38 31 = 0 := by
    intro hg
    obtain ⟨p', b', hI', hM', _⟩ := hI.go hg h0
    obtain ⟨t, t1, t2, t3⟩ := m_runList (D + 4) (by omega) hPg hI' hg (by omega)
    exact ⟨t, t1, hF.tr t2, t3⟩
  rw [q3] at hgo ⊢
  rw [kGo2, k36] at hgo
  rcases q4 with rfl | ⟨q4, q6⟩
  · have hb := m_begins (D + 2) (wr (kInit τ) 38 33 (nI q)) (n := q) (by rw [wr_slot _ _ _ (by omega), h20]) hn2
    have hgo2 : kGo (kInit τ) = kBeg (wr (kInit τ) 38 33 (nI q)) := by
      rw [hgo]
      simp (disch := omega) only [lt_litR, lt_litL, eq_litR, eq_litL, lt_nn, eq_nn, lt_n0, z_cl, add_lit, eq_m1, eq_m1', m1_lt, false_or, or_false, if_pos, if_neg, zbI_some, zbV_some, wr_same, wr_cell, wr_slot, ne_eq, not_true_eq_false, not_false_eq_true, true_and, and_true, false_and, and_false, e10, e01, e00, if_true, if_false, Bool.false_eq_true, lit_ne, lit_lt, eq_self, h20, kInit_0 τ (k := 38) (by omega)]
    rw [← hgo2] at hb
    by_cases hg : kGo (kInit τ) 38 31 = 0
    · obtain ⟨t, t1, t2, t3⟩ := key hg
      refine ⟨t, ?_, t2, t3⟩
      rw [← t1]
      simp (disch := omega) only [wr_same, wr_slot, h20, lt_nn, Nat.lt_irrefl, if_false, if_true, hb, zbV_some, hg]
    · refine ⟨_, ?_, hF, hg⟩
      simp (disch := omega) only [wr_same, wr_slot, h20, lt_nn, Nat.lt_irrefl, if_false, if_true, hb, zbV_some, hg]
  · have hne : ¬ nI q = nI n := fun h => by
      have := (nI_eq (by omega) (by omega)).mp h
      omega
    have hgo2 : kGo (kInit τ) = wr (wr (wr (kInit τ) 38 33 (nI q)) 38 32 (nI q)) 38 33 (nI q + 1) := by
      rw [hgo]
      simp (disch := omega) only [wr_same, wr_slot, h20, hne, if_false]
    have hg : kGo (kInit τ) 38 31 = 0 := by
      rw [hgo2]
      simp (disch := omega) only [lt_litR, lt_litL, eq_litR, eq_litL, lt_nn, eq_nn, lt_n0, z_cl, add_lit, eq_m1, eq_m1', m1_lt, false_or, or_false, if_pos, if_neg, zbI_some, zbV_some, wr_same, wr_cell, wr_slot, ne_eq, not_true_eq_false, not_false_eq_true, true_and, and_true, false_and, and_false, e10, e01, e00, if_true, if_false, Bool.false_eq_true, lit_ne, lit_lt, eq_self, h0]
    obtain ⟨t, t1, t2, t3⟩ := key hg
    refine ⟨t, ?_, t2, t3⟩
    rw [← t1]
    simp (disch := omega) only [wr_same, wr_slot, wr_cell, h20, lt_nn, if_true, if_false, q4, z_cl, q6, hne, if_neg (nI_in (show q < 201 by omega) (by omega)), h0, hgo2]
    simp (disch := omega) only [lt_litR, lt_litL, eq_litR, eq_litL, lt_nn, eq_nn, lt_n0, z_cl, add_lit, eq_m1, eq_m1', m1_lt, false_or, or_false, if_pos, if_neg, zbI_some, zbV_some, wr_same, wr_cell, wr_slot, ne_eq, not_true_eq_false, not_false_eq_true, true_and, and_true, false_and, and_false, e10, e01, e00, if_true, if_false, Bool.false_eq_true, lit_ne, lit_lt, eq_self]
