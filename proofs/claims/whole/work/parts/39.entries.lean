-- every entry of the program is as it should be
def pX (P T : zS) (e : Nat) : Prop := ∃ x i j, RX (P 21) (P 22) (T 45) (T 46) (T 47) x i j ∧ P 20 e = nI i ∧ i < 1000 ∧ pEnd P (e + 1) j ∧ nI j = nI j ∧ j ≤ (P 15 8).toNatClampNeg
def pW (P T : zS) (e : Nat) : Prop :=
  (P 16 e = 12 ∧ ∃ t, t ≤ pSz P ∧ P 18 e = nI t) ∨
  ((∃ r, r < 8 ∧ P 17 e = nI r) ∧ (((P 16 e = 0 ∨ P 16 e = 1 ∨ P 16 e = 2) ∧ pX P T e) ∨ ((P 16 e = 3 ∨ P 16 e = 5) ∧ ∃ x, x < 8 ∧ P 18 e = nI x) ∨ (P 16 e = 4 ∧ ∃ x y, x < 8 ∧ P 18 e = nI x ∧ y < 8 ∧ P 19 e = nI y) ∨ P 16 e = 6 ∨ P 16 e = 7 ∨ P 16 e = 8)) ∨
  (P 16 e = 9 ∧ pX P T e) ∨
  ((P 16 e = 10 ∨ P 16 e = 11) ∧ pX P T e ∧ ∃ t, t ≤ pSz P ∧ P 18 e = nI t)
theorem Chain_ile {St : Nat → Nat → Nat → Nat → Nat → Prop} {nx : Nat → Int32} (h : ∀ n e e' i i', St n e e' i i' → i ≤ i') : ∀ {l : List Nat} {hd : Int32} {e e' i i' : Nat}, Chain St nx l hd e e' i i' → i ≤ i' := by
  intro l
  induction l with
  | nil => intro hd e e' i i' hc; exact Nat.le_of_eq hc.2.2
  | cons n l ih =>
    intro hd e e' i i' hc
    obtain ⟨_, e1, i1, h1, h2⟩ := hc
    have := h _ _ _ _ _ h1
    have := ih h2
    omega
theorem RX_lt {S V op a b : Nat → Int32} {x i j : Nat} (h : RX S V op a b x i j) : i < j := by
  obtain ⟨k, _, h⟩ := h
  exact RepX_lt h
theorem RepS_ile {so ta fi se fr S V op a b c nx : Nat → Int32} : ∀ {k n e e' i i' : Nat}, RepS so ta fi se fr S V op a b c nx k n e e' i i' → i ≤ i' := by
  intro k
  induction k with
  | zero => intro n e e' i i' h; exact h.elim
  | succ k ih =>
    intro n e e' i i' h
    obtain ⟨_, _, _, _, h⟩ := h
    rcases h with ⟨_, _, h⟩ | ⟨_, _, _, x, _, hX⟩ | ⟨_, _, x, j, e1, i1, l1, l2, h⟩ | ⟨_, _, x, j, e1, l, h⟩
    · rcases h with ⟨_, _, x, _, hX⟩ | ⟨_, _, _, x, _, hX⟩ | ⟨_, _, _, x, _, hX⟩ | h | h | h | h | h | h
      · exact Nat.le_of_lt (RX_lt hX)
      · exact Nat.le_of_lt (RX_lt hX)
      · exact Nat.le_of_lt (RX_lt hX)
      all_goals exact Nat.le_of_eq h.1
    · exact Nat.le_of_lt (RX_lt hX)
    · have := RX_lt h.2.1
      have := Chain_ile (fun _ _ _ _ _ h => ih h) h.2.2.2.2.1
      have := Chain_ile (fun _ _ _ _ _ h => ih h) h.2.2.2.2.2.2.2.2.2
      omega
    · have := RX_lt h.2.1
      have := Chain_ile (fun _ _ _ _ _ h => ih h) h.2.2.2.1
      omega
theorem chain_all {P T : zS} {Q : Nat → Prop} {k : Nat} (hQ : ∀ n e e' i i', RpS P T k n e e' i i' → pEnd P e' i' → i' ≤ (P 15 8).toNatClampNeg → ∀ x, e ≤ x → x < e' → Q x) : ∀ {l : List Nat} {hd : Int32} {e e' i i' : Nat}, Chain (RpS P T k) (T 49) l hd e e' i i' → pEnd P e' i' → i' ≤ (P 15 8).toNatClampNeg → ∀ x, e ≤ x → x < e' → Q x := by
  intro l
  induction l with
  | nil => intro hd e e' i i' hc hE hN x h1 h2; have := hc.2.1; omega
  | cons n l ih =>
    intro hd e e' i i' hc hE hN x h1 h2
    obtain ⟨_, e1, i1, h3, h4⟩ := hc
    have h5 := Chain_ile (fun _ _ _ _ _ h => RepS_ile h) h4
    by_cases hx : x < e1
    · exact hQ _ _ _ _ _ h3 (Chain_end h4 hE) (by omega) x h1 hx
    · exact ih h4 hE hN x (by omega) h2
theorem rps_all {P T : zS} : ∀ (k n e e' i i' : Nat), RpS P T k n e e' i i' → pEnd P e' i' → i' ≤ (P 15 8).toNatClampNeg → ∀ x, e ≤ x → x < e' → pW P T x := by
  intro k
  induction k with
  | zero => intro n e e' i i' h; exact h.elim
  | succ k ih =>
    intro n e e' i i' hR hE hN x h1 h2
    have hle := pEnd_le hE
    obtain ⟨hn, hfr, hi, hi', hR⟩ := hR
    have hX0 : e' = e + 1 → ∀ y, RX (P 21) (P 22) (T 45) (T 46) (T 47) y i i' → pX P T e := fun h y hX => ⟨y, i, i', hX, hfr, hi, by rw [← h]; exact hE, rfl, hN⟩
    rcases hR with ⟨he, ⟨r, hr, hta, han⟩, hR⟩ | ⟨he, ho, hs, y, hy, hX⟩ | ⟨ho, hs, y, j, e1, j1, l1, l2, hy, hX, hj, hj1, hc1, hs1, hf1, hfr1, hfe, hc2⟩ | ⟨ho, hs, y, j, e1, l, hy, hX, hj, hc, hs1, hf1, hfr1, rfl, hfe⟩
    · obtain rfl : x = e := by omega
      refine Or.inr (Or.inl ⟨⟨r, hr, hta⟩, ?_⟩)
      rcases hR with ⟨ho, hs, y, hy, hX⟩ | ⟨ho, hs, hb, y, hy, hX⟩ | ⟨ho, hs, hb, y, hy, hX⟩ | ⟨_, ho, hs, hb, y, hy, hx2⟩ | ⟨_, ho, hs, hb, hc, y, z, hy, hx2, hz, hy2⟩ | ⟨_, ho, hs, hb, y, hy, hx2⟩ | ⟨_, ho, hs⟩ | ⟨_, ho, hs⟩ | ⟨_, ho, hs, hb⟩
      · exact Or.inl ⟨Or.inl hs, hX0 he _ hX⟩
      · exact Or.inl ⟨Or.inr (Or.inl hs), hX0 he _ hX⟩
      · exact Or.inl ⟨Or.inr (Or.inr hs), hX0 he _ hX⟩
      · exact Or.inr (Or.inl ⟨Or.inl hs, y, hy, hx2⟩)
      · exact Or.inr (Or.inr (Or.inl ⟨hs, y, z, hy, hx2, hz, hy2⟩))
      · exact Or.inr (Or.inl ⟨Or.inr hs, y, hy, hx2⟩)
      · exact Or.inr (Or.inr (Or.inr (Or.inl hs)))
      · exact Or.inr (Or.inr (Or.inr (Or.inr (Or.inl hs))))
      · exact Or.inr (Or.inr (Or.inr (Or.inr (Or.inr hs))))
    · obtain rfl : x = e := by omega
      exact Or.inr (Or.inr (Or.inl ⟨hs, hX0 he _ hX⟩))
    · have k1 := Chain_le (fun _ _ _ _ _ h => RepS_lt h) hc1
      have k2 := Chain_le (fun _ _ _ _ _ h => RepS_lt h) hc2
      have k3 := Chain_ile (fun _ _ _ _ _ h => RepS_ile h) hc1
      have k4 := Chain_ile (fun _ _ _ _ _ h => RepS_ile h) hc2
      have hE1 : pEnd P e1 j1 := ⟨hj1, Or.inl ⟨by omega, hfr1⟩⟩
      by_cases hx : x = e
      · subst hx
        exact Or.inr (Or.inr (Or.inr ⟨Or.inl hs, ⟨y, i, j, hX, hfr, hi, Chain_end hc1 hE1, rfl, by omega⟩, e1 + 1, by omega, hfe⟩))
      · by_cases hx1 : x < e1
        · exact chain_all (fun n e e' i i' => ih n e e' i i') hc1 hE1 (by omega) x (by omega) hx1
        · by_cases hx2 : x = e1
          · subst hx2; exact Or.inl ⟨hs1, e', hle, hf1⟩
          · exact chain_all (fun n e e' i i' => ih n e e' i i') hc2 hE hN x (by omega) h2
    · have k1 := Chain_le (fun _ _ _ _ _ h => RepS_lt h) hc
      have k3 := Chain_ile (fun _ _ _ _ _ h => RepS_ile h) hc
      have hE1 : pEnd P e1 i' := ⟨hi', Or.inl ⟨by omega, hfr1⟩⟩
      by_cases hx : x = e
      · subst hx
        exact Or.inr (Or.inr (Or.inr ⟨Or.inr hs, ⟨y, i, j, hX, hfr, hi, Chain_end hc hE1, rfl, by omega⟩, e1 + 1, by omega, hfe⟩))
      · by_cases hx1 : x < e1
        · exact chain_all (fun n e e' i i' => ih n e e' i i') hc hE1 (by omega) x (by omega) hx1
        · obtain rfl : x = e1 := by omega
          exact Or.inl ⟨hs1, e, by omega, hf1⟩
theorem prog_all {P T : zS} (h : kProg P T) : ∀ x, x < pSz P → pW P T x := by
  obtain ⟨hz, k, sd, N, l, hk, hsd, h10, hc, hE⟩ := h
  intro x hx
  have : (P 15 8).toNatClampNeg = N := by
    obtain ⟨h1, h2 | h2⟩ := hE
    · omega
    · rw [h2.2, z_cl (by omega)]
  exact chain_all (fun n e e' i i' => rps_all k n e e' i i') hc hE (by omega) x (by omega) hx
/-- at most m jumps one behind the other -/
def pJ (P : zS) : Nat → Nat → Prop
  | 0, e => ¬ pSo P e = 12
  | m + 1, e => pSo P e = 12 → pJ P m (P 18 e).toNatClampNeg
theorem pJ_up {P : zS} : ∀ {m e : Nat}, pJ P m e → pJ P (m + 1) e := by
  intro m
  induction m with
  | zero => intro e h h2; exact absurd h2 h
  | succ m ih => intro e h h2; exact ih (h h2)
theorem pJ_le {P : zS} {m m' e : Nat} (h : pJ P m e) (hm : m ≤ m') : pJ P m' e := by
  obtain ⟨c, rfl⟩ := Nat.exists_eq_add_of_le hm
  induction c with
  | zero => exact h
  | succ c ih => exact pJ_up (ih (by omega))
theorem RpS_start {P T : zS} {k n e e' i i' : Nat} (h : RpS P T k n e e' i i') (he : e' ≤ pSz P) : ¬ pSo P e = 12 ∧ ¬ pSo P e = 13 := by
  have hlt := RepS_lt h
  cases k with
  | zero => exact h.elim
  | succ k =>
    rw [pSo_in (by omega)]
    obtain ⟨_, _, _, _, hR⟩ := h
    rcases hR with ⟨_, _, hR⟩ | ⟨_, _, ho, _⟩ | ⟨_, ho, _⟩ | ⟨_, ho, _⟩
    · rcases hR with ⟨_, ho, _⟩ | ⟨_, ho, _⟩ | ⟨_, ho, _⟩ | ⟨_, _, ho, _⟩ | ⟨_, _, ho, _⟩ | ⟨_, _, ho, _⟩ | ⟨_, _, ho⟩ | ⟨_, _, ho⟩ | ⟨_, _, ho, _⟩ <;> rw [ho] <;> decide
    · rw [ho]; decide
    · rw [ho]; decide
    · rw [ho]; decide
theorem chain_jumps {P T : zS} {k q : Nat} (hQ : ∀ n e e' i i', RpS P T k n e e' i i' → pEnd P e' i' → ∀ m, pJ P m e' → ∀ x, e ≤ x → x < e' → pJ P (m + q) x) : ∀ {l : List Nat} {hd : Int32} {e e' i i' : Nat}, Chain (RpS P T k) (T 49) l hd e e' i i' → pEnd P e' i' → ∀ m, pJ P m e' → ∀ x, e ≤ x → x < e' → pJ P (m + q) x := by
  intro l
  induction l with
  | nil => intro hd e e' i i' hc hE m hm x h1 h2; have := hc.2.1; omega
  | cons n l ih =>
    intro hd e e' i i' hc hE m hm x h1 h2
    obtain ⟨_, e1, i1, h3, h4⟩ := hc
    by_cases hx : x < e1
    · refine hQ _ _ _ _ _ h3 (Chain_end h4 hE) m ?_ x h1 hx
      cases l with
      | nil => rw [h4.2.1]; exact hm
      | cons n2 l2 =>
        obtain ⟨_, e2, i2, h5, h6⟩ := h4
        have h7 := Chain_le (fun _ _ _ _ _ h => RepS_lt h) h6
        have h8 := pEnd_le hE
        exact pJ_le (m := 0) (RpS_start h5 (by omega)).1 (by omega)
    · exact ih h4 hE m hm x (by omega) h2
theorem rps_jumps {P T : zS} (hz : pSz P ≤ 200) : ∀ (k n e e' i i' : Nat), RpS P T k n e e' i i' → pEnd P e' i' → ∀ m, pJ P m e' → ∀ x, e ≤ x → x < e' → pJ P (m + k) x := by
  intro k
  induction k with
  | zero => intro n e e' i i' h; exact h.elim
  | succ k ih =>
    intro n e e' i i' hR hE m hm x h1 h2
    have hle := pEnd_le hE
    have hst := RpS_start hR hle
    by_cases hxe : x = e
    · subst hxe; exact pJ_le (m := 0) hst.1 (by omega)
    obtain ⟨hn, hfr, hi, hi', hR⟩ := hR
    rcases hR with ⟨he, _⟩ | ⟨he, _⟩ | ⟨ho, hs, y, j, e1, j1, l1, l2, hy, hX, hj, hj1, hc1, hs1, hf1, hfr1, hfe, hc2⟩ | ⟨ho, hs, y, j, e1, l, hy, hX, hj, hc, hs1, hf1, hfr1, rfl, hfe⟩
    · omega
    · omega
    · have k1 := Chain_le (fun _ _ _ _ _ h => RepS_lt h) hc1
      have k2 := Chain_le (fun _ _ _ _ _ h => RepS_lt h) hc2
      have hE1 : pEnd P e1 j1 := ⟨hj1, Or.inl ⟨by omega, hfr1⟩⟩
      have hm1 : pJ P (m + 1) e1 := fun _ => by rw [hf1, z_cl (by omega)]; exact hm
      by_cases hx1 : x < e1
      · have := chain_jumps (fun n e e' i i' => ih n e e' i i') hc1 hE1 (m + 1) hm1 x (by omega) hx1
        exact pJ_le this (by omega)
      · by_cases hx2 : x = e1
        · subst hx2; exact pJ_le hm1 (by omega)
        · have := chain_jumps (fun n e e' i i' => ih n e e' i i') hc2 hE m hm x (by omega) h2
          exact pJ_le this (by omega)
    · have k1 := Chain_le (fun _ _ _ _ _ h => RepS_lt h) hc
      have hE1 : pEnd P e1 i' := ⟨hi', Or.inl ⟨by omega, hfr1⟩⟩
      have hm1 : pJ P 1 e1 := fun _ => by rw [hf1, z_cl (by omega)]; exact hst.1
      by_cases hx1 : x < e1
      · have := chain_jumps (fun n e e' i i' => ih n e e' i i') hc hE1 1 hm1 x (by omega) hx1
        exact pJ_le this (by omega)
      · obtain rfl : x = e1 := by omega
        exact pJ_le hm1 (by omega)
theorem prog_jumps {P T : zS} (h : kProg P T) : ∀ x, x ≤ pSz P → pJ P 11 x := by
  obtain ⟨hz, k, sd, N, l, hk, hsd, h10, hc, hE⟩ := h
  intro x hx
  have h0 : pJ P 0 (pSz P) := by rw [pJ, pSo_end]; decide
  by_cases hx2 : x = pSz P
  · rw [hx2]; exact pJ_le h0 (by omega)
  · exact pJ_le (chain_jumps (fun n e e' i i' => rps_jumps hz k n e e' i i') hc hE 0 h0 x (by omega) (by omega)) (by omega)

-- the class's questions to its program
def PRel (P σ : zS) : Prop := (∀ c, 15 ≤ c → c ≤ 22 → σ c = P c) ∧ pSz P ≤ 200 ∧ P 15 7 = nI (pSz P) ∧ ∃ ni, ni ≤ 400 ∧ P 15 8 = nI ni
theorem c_pholds (d : Nat) {P σ : zS} (H : PRel P σ) {e : Nat} (he : e ≤ 1000) : zM (d + 1) mX1_holds [.inr (.inr 15), .inl (nI e)] σ = some (1, if e < pSz P then 1 else 0, σ) := by
  obtain ⟨h1, h2, h3, _⟩ := H
  rw [qX1_holds_15, qX1_holds_15_0, h1 15 (by omega) (by omega), h3]
  by_cases h : e < pSz P
  · simp (disch := omega) only [lt_litR, lt_litL, eq_litR, eq_litL, lt_nn, eq_nn, lt_n0, z_cl, add_lit, eq_m1, eq_m1', m1_lt, false_or, or_false, if_pos, if_neg, zbI_some, zbV_some, wr_same, wr_cell, wr_slot, ne_eq, not_true_eq_false, not_false_eq_true, true_and, and_true, false_and, and_false, e10, e01, e00, if_true, if_false, Bool.false_eq_true, lit_ne, lit_lt, eq_self]
  · simp (disch := omega) only [lt_litR, lt_litL, eq_litR, eq_litL, lt_nn, eq_nn, lt_n0, z_cl, add_lit, eq_m1, eq_m1', m1_lt, false_or, or_false, if_pos, if_neg, zbI_some, zbV_some, wr_same, wr_cell, wr_slot, ne_eq, not_true_eq_false, not_false_eq_true, true_and, and_true, false_and, and_false, e10, e01, e00, if_true, if_false, Bool.false_eq_true, lit_ne, lit_lt, eq_self]
theorem c_sortAt (d : Nat) {P σ : zS} (H : PRel P σ) {e : Nat} (he : e ≤ 1000) : zM (d + 2) mX1_sortAt [.inr (.inr 15), .inl (nI e)] σ = some (1, pSo P e, σ) := by
  rw [qX1_sortAt_15, qX1_sortAt_15_0, c_pholds d H he, zbI_some, pSo, H.1 16 (by omega) (by omega)]
  have := H.2.1
  by_cases h : e < pSz P
  · simp (disch := omega) only [lt_litR, lt_litL, eq_litR, eq_litL, lt_nn, eq_nn, lt_n0, z_cl, add_lit, eq_m1, eq_m1', m1_lt, false_or, or_false, if_pos, if_neg, zbI_some, zbV_some, wr_same, wr_cell, wr_slot, ne_eq, not_true_eq_false, not_false_eq_true, true_and, and_true, false_and, and_false, e10, e01, e00, if_true, if_false, Bool.false_eq_true, lit_ne, lit_lt, eq_self]
  · simp (disch := omega) only [lt_litR, lt_litL, eq_litR, eq_litL, lt_nn, eq_nn, lt_n0, z_cl, add_lit, eq_m1, eq_m1', m1_lt, false_or, or_false, if_pos, if_neg, zbI_some, zbV_some, wr_same, wr_cell, wr_slot, ne_eq, not_true_eq_false, not_false_eq_true, true_and, and_true, false_and, and_false, e10, e01, e00, if_true, if_false, Bool.false_eq_true, lit_ne, lit_lt, eq_self]
theorem c_firstAt (d : Nat) {P σ : zS} (H : PRel P σ) {e : Nat} (he : e ≤ 1000) : zM (d + 2) mX1_firstAt [.inr (.inr 15), .inl (nI e)] σ = some (1, if e < pSz P then P 18 e else 0, σ) := by
  rw [qX1_firstAt_15, qX1_firstAt_15_0, c_pholds d H he, zbI_some, H.1 18 (by omega) (by omega)]
  have := H.2.1
  by_cases h : e < pSz P
  · simp (disch := omega) only [lt_litR, lt_litL, eq_litR, eq_litL, lt_nn, eq_nn, lt_n0, z_cl, add_lit, eq_m1, eq_m1', m1_lt, false_or, or_false, if_pos, if_neg, zbI_some, zbV_some, wr_same, wr_cell, wr_slot, ne_eq, not_true_eq_false, not_false_eq_true, true_and, and_true, false_and, and_false, e10, e01, e00, if_true, if_false, Bool.false_eq_true, lit_ne, lit_lt, eq_self]
  · simp (disch := omega) only [lt_litR, lt_litL, eq_litR, eq_litL, lt_nn, eq_nn, lt_n0, z_cl, add_lit, eq_m1, eq_m1', m1_lt, false_or, or_false, if_pos, if_neg, zbI_some, zbV_some, wr_same, wr_cell, wr_slot, ne_eq, not_true_eq_false, not_false_eq_true, true_and, and_true, false_and, and_false, e10, e01, e00, if_true, if_false, Bool.false_eq_true, lit_ne, lit_lt, eq_self]
theorem c_secondAt (d : Nat) {P σ : zS} (H : PRel P σ) {e : Nat} (he : e ≤ 1000) : zM (d + 2) mX1_secondAt [.inr (.inr 15), .inl (nI e)] σ = some (1, if e < pSz P then P 19 e else 0, σ) := by
  rw [qX1_secondAt_15, qX1_secondAt_15_0, c_pholds d H he, zbI_some, H.1 19 (by omega) (by omega)]
  have := H.2.1
  by_cases h : e < pSz P
  · simp (disch := omega) only [lt_litR, lt_litL, eq_litR, eq_litL, lt_nn, eq_nn, lt_n0, z_cl, add_lit, eq_m1, eq_m1', m1_lt, false_or, or_false, if_pos, if_neg, zbI_some, zbV_some, wr_same, wr_cell, wr_slot, ne_eq, not_true_eq_false, not_false_eq_true, true_and, and_true, false_and, and_false, e10, e01, e00, if_true, if_false, Bool.false_eq_true, lit_ne, lit_lt, eq_self]
  · simp (disch := omega) only [lt_litR, lt_litL, eq_litR, eq_litL, lt_nn, eq_nn, lt_n0, z_cl, add_lit, eq_m1, eq_m1', m1_lt, false_or, or_false, if_pos, if_neg, zbI_some, zbV_some, wr_same, wr_cell, wr_slot, ne_eq, not_true_eq_false, not_false_eq_true, true_and, and_true, false_and, and_false, e10, e01, e00, if_true, if_false, Bool.false_eq_true, lit_ne, lit_lt, eq_self]
theorem c_targetAt (d : Nat) {P σ : zS} (H : PRel P σ) {e : Nat} (he : e ≤ 1000) : zM (d + 2) mX1_targetAt [.inr (.inr 15), .inl (nI e)] σ = some (1, if e < pSz P then P 17 e else 0, σ) := by
  rw [qX1_targetAt_15, qX1_targetAt_15_0, c_pholds d H he, zbI_some, H.1 17 (by omega) (by omega)]
  have := H.2.1
  by_cases h : e < pSz P
  · simp (disch := omega) only [lt_litR, lt_litL, eq_litR, eq_litL, lt_nn, eq_nn, lt_n0, z_cl, add_lit, eq_m1, eq_m1', m1_lt, false_or, or_false, if_pos, if_neg, zbI_some, zbV_some, wr_same, wr_cell, wr_slot, ne_eq, not_true_eq_false, not_false_eq_true, true_and, and_true, false_and, and_false, e10, e01, e00, if_true, if_false, Bool.false_eq_true, lit_ne, lit_lt, eq_self]
  · simp (disch := omega) only [lt_litR, lt_litL, eq_litR, eq_litL, lt_nn, eq_nn, lt_n0, z_cl, add_lit, eq_m1, eq_m1', m1_lt, false_or, or_false, if_pos, if_neg, zbI_some, zbV_some, wr_same, wr_cell, wr_slot, ne_eq, not_true_eq_false, not_false_eq_true, true_and, and_true, false_and, and_false, e10, e01, e00, if_true, if_false, Bool.false_eq_true, lit_ne, lit_lt, eq_self]
theorem c_firstItem (d : Nat) {P σ : zS} (H : PRel P σ) {e : Nat} (he : e < pSz P) : zM (d + 2) mX1_firstItem [.inr (.inr 15), .inl (nI e)] σ = some (1, P 20 e, σ) := by
  have := H.2.1
  rw [qX1_firstItem_15, qX1_firstItem_15_0, c_pholds d H (by omega), zbI_some, H.1 20 (by omega) (by omega)]
  simp (disch := omega) only [lt_litR, lt_litL, eq_litR, eq_litL, lt_nn, eq_nn, lt_n0, z_cl, add_lit, eq_m1, eq_m1', m1_lt, false_or, or_false, if_pos, if_neg, zbI_some, zbV_some, wr_same, wr_cell, wr_slot, ne_eq, not_true_eq_false, not_false_eq_true, true_and, and_true, false_and, and_false, e10, e01, e00, if_true, if_false, Bool.false_eq_true, lit_ne, lit_lt, eq_self]
theorem c_itemEnd (d : Nat) {P σ : zS} (H : PRel P σ) {e j : Nat} (he : pEnd P (e + 1) j) : zM (d + 2) mX1_itemEnd [.inr (.inr 15), .inl (nI e)] σ = some (1, nI j, σ) := by
  have := H.2.1
  have h5 := pEnd_le he
  rw [qX1_itemEnd_15, qX1_itemEnd_15_0, nI_1, c_pholds d H (by omega), zbI_some, H.1 20 (by omega) (by omega), H.1 15 (by omega) (by omega)]
  rcases he.2 with ⟨h1, h2⟩ | ⟨h1, h2⟩
  · simp (disch := omega) only [lt_litR, lt_litL, eq_litR, eq_litL, lt_nn, eq_nn, lt_n0, z_cl, add_lit, eq_m1, eq_m1', m1_lt, false_or, or_false, if_pos, if_neg, zbI_some, zbV_some, wr_same, wr_cell, wr_slot, ne_eq, not_true_eq_false, not_false_eq_true, true_and, and_true, false_and, and_false, e10, e01, e00, if_true, if_false, Bool.false_eq_true, lit_ne, lit_lt, eq_self, h2]
  · simp (disch := omega) only [lt_litR, lt_litL, eq_litR, eq_litL, lt_nn, eq_nn, lt_n0, z_cl, add_lit, eq_m1, eq_m1', m1_lt, false_or, or_false, if_pos, if_neg, zbI_some, zbV_some, wr_same, wr_cell, wr_slot, ne_eq, not_true_eq_false, not_false_eq_true, true_and, and_true, false_and, and_false, e10, e01, e00, if_true, if_false, Bool.false_eq_true, lit_ne, lit_lt, eq_self, h2]
/-- the class works out an X -/
theorem c_workOut (d : Nat) {P T σ : zS} (H : PRel P σ) {e : Nat} (he : e < pSz P) (hs : σ 30 1 = nI e) (hX : pX P T e) : ∃ σ', zM (d + 4) mX4_workOut [.inr (.inr 34)] σ = some (1, pEv P e (σ 31), σ') ∧ (∀ c, c ≠ 34 → c ≠ 37 → σ' c = σ c) ∧ (∀ k, k ≠ 5 → σ' 34 k = σ 34 k) := by
  obtain ⟨x, i, j, ⟨k, hk, hX⟩, hfr, hi, hE, _, hj⟩ := hX
  obtain ⟨ni, hn1, hn2⟩ := H.2.2.2
  have hz := H.2.1
  rw [hn2, z_cl (by omega)] at hj
  obtain ⟨v, v1, v2, v3⟩ := RepX_val (σ 31) hX
  have hlt := RepX_lt hX
  have hev : pEv P e (σ 31) = v := by
    rw [pEv, hfr, z_cl (by omega), pIe_end hE, v1]; rfl
  have hH1 : PRel P (wr σ 34 5 0) := ⟨fun c h1 h2 => by rw [wr_cell _ _ _ (by omega), H.1 c h1 h2], H.2⟩
  rw [qX4_workOut_34, qX4_workOut_34_0, hs, c_itemEnd (d + 1) H hE, zbI_some, hs, c_firstItem (d + 1) hH1 he, zbI_some, hfr]
  obtain ⟨σ', w1, w2, w3, w4, w5, w6⟩ := v3 (d + 1) ni j 0 (wr σ 34 5 0) (by rw [hH1.1 21 (by omega) (by omega)]) (by rw [hH1.1 22 (by omega) (by omega)]) (fun r _ => by rw [wr_cell _ _ _ (by omega)]) (by rw [hH1.1 15 (by omega) (by omega), hn2]) hn1 hj (Nat.le_refl _) (by rw [wr_same]; rfl) (by omega)
  refine ⟨wr σ' 34 5 (nI 0), ?_, fun c c1 c2 => by rw [wr_cell _ _ _ c1, w5 c c1 c2, wr_cell _ _ _ c1], fun k hk => by rw [wr_slot _ _ _ hk, w6 k hk, wr_slot _ _ _ hk]⟩
  rw [show (999999 : Nat) = (999999 - (j - i) - 1) + 1 + (j - i) by omega, w1, qX4_workOut_34_35, if_neg (nI_nlt (Nat.le_refl _) (by omega)), c_pop (t := 0) (d + 2) _ w2 (by omega), zbI_some, w3, hev]
