-- the flat machine over the reference's state
def pSz (P : zS) : Nat := (P 15 7).toNatClampNeg
def pSo (P : zS) (e : Nat) : Int32 := if e < pSz P then P 16 e else 13
def pIe (P : zS) (e : Nat) : Nat := if e + 1 < pSz P then (P 20 (e + 1)).toNatClampNeg else (P 15 8).toNatClampNeg
def pEv (P : zS) (e : Nat) (R : Nat → Int32) : Int32 := (kRunX (P 21) (P 22) R (pIe P e - (P 20 e).toNatClampNeg) (P 20 e).toNatClampNeg []).headD 0
abbrev kSt : Type := Nat × Nat × zS
def kOrd (P : zS) (e : Nat) (τ : zS) (k r v : Int32) : kSt := if (kCmd τ k r v).1 = -1 then (e, 0, (kCmd τ k r v).2) else (e + 1, 0, wr (kCmd τ k r v).2 54 (P 17 e).toNatClampNeg (kCmd τ k r v).1)
def kStp (e : Nat) (τ : zS) (v : Int32) : kSt := if (kCmd τ 4 0 v).1 = -1 then (e, 0, (kCmd τ 4 0 v).2) else (e, 2, wr (kCmd τ 4 0 v).2 38 38 1)
def kWai (P : zS) (e : Nat) (τ : zS) (o x y : Int32) : kSt := if (kRdy τ o x y).1 then (e + 1, 0, wr (wr (kRdy τ o x y).2 54 (P 17 e).toNatClampNeg ((kRdy τ o x y).2 38 44)) 38 37 ((kRdy τ o x y).2 38 37 + (if o = 5 then 1 else 0))) else (e, 1, (kRdy τ o x y).2)
def kPat (P : zS) (e : Nat) (τ : zS) (r : Int32) : kSt :=
  if ¬ τ 38 34 = 0 ∨ (kC τ (τ 38 33).toNatClampNeg ∧ τ 50 (τ 38 33).toNatClampNeg = 3 ∧ τ 51 (τ 38 33).toNatClampNeg = r) then (if (kCmd τ 3 r 0).1 = -1 then (e, 0, (kCmd τ 3 r 0).2) else (e + 1, 0, wr (kCmd τ 3 r 0).2 54 (P 17 e).toNatClampNeg 1))
  else (e + 1, 0, wr τ 54 (P 17 e).toNatClampNeg 0)
def kDo (P : zS) (e : Nat) (τ : zS) : kSt :=
  if P 16 e = 0 then (e + 1, 0, wr τ 54 (P 17 e).toNatClampNeg (pEv P e (τ 54)))
  else if P 16 e = 1 then kOrd P e τ 1 (P 18 e) (pEv P e (τ 54))
  else if P 16 e = 2 then kOrd P e τ 2 0 (pEv P e (τ 54))
  else if P 16 e = 3 then kWai P e τ 9 (P 18 e) 0
  else if P 16 e = 4 then kWai P e τ 3 (P 18 e) (P 19 e)
  else if P 16 e = 5 then (e + 1, 0, wr (wr τ 38 44 ((kDone τ (τ 54 (P 18 e).toNatClampNeg)).getD (-2))) 54 (P 17 e).toNatClampNeg (if (kDone τ (τ 54 (P 18 e).toNatClampNeg)).isSome then 1 else 0))
  else if P 16 e = 6 then kWai P e τ 5 0 0
  else if P 16 e = 7 then (e + 1, 0, wr τ 54 (P 17 e).toNatClampNeg (τ 52 (τ 38 32).toNatClampNeg))
  else if P 16 e = 8 then kPat P e τ (P 18 e)
  else if P 16 e = 9 then kStp e τ (pEv P e (τ 54))
  else if pEv P e (τ 54) = 0 then ((P 18 e).toNatClampNeg, 0, τ) else (e + 1, 0, τ)
def kTurn (P : zS) (e : Nat) (τ : zS) : kSt :=
  if pSo P e = 12 then ((P 18 e).toNatClampNeg, 0, τ)
  else if pSo P e = 13 then kStp e τ 0
  else if 1000 < τ 38 36 + 1 then (e, 0, wr (wr τ 38 36 (τ 38 36 + 1)) 38 31 3)
  else kDo P e (wr τ 38 36 (τ 38 36 + 1))
def kF (P : zS) (s : kSt) : kSt := if ¬ s.2.2 38 31 = 0 then s else if s.2.1 = 0 then kTurn P s.1 s.2.2 else (s.1, if s.2.1 = 1 then 0 else 2, kGo s.2.2)
def kIt (P : zS) : Nat → kSt → kSt
  | 0, s => s
  | n + 1, s => kIt P n (kF P s)
theorem kIt_add (P : zS) : ∀ a b s, kIt P (a + b) s = kIt P b (kIt P a s) := by
  intro a
  induction a with
  | zero => intro b s; rw [Nat.zero_add]; rfl
  | succ a ih => intro b s; rw [Nat.add_right_comm, kIt, kIt, ih]
theorem kIt_halt (P : zS) {s : kSt} (h : ¬ s.2.2 38 31 = 0) : ∀ n, kIt P n s = s := by
  intro n
  induction n with
  | zero => rfl
  | succ n ih => rw [kIt, kF, if_pos h, ih]
/-- s goes to t -/
def kTo (P : zS) (s t : kSt) : Prop := ∃ n, kIt P n s = t
theorem kTo.rf {P : zS} {s : kSt} : kTo P s s := ⟨0, rfl⟩
theorem kTo.tr {P : zS} {s t u : kSt} (h : kTo P s t) (h2 : kTo P t u) : kTo P s u := by
  obtain ⟨a, rfl⟩ := h
  obtain ⟨b, rfl⟩ := h2
  exact ⟨a + b, kIt_add P a b s⟩
theorem kTo.one {P : zS} {s : kSt} : kTo P s (kF P s) := ⟨1, rfl⟩
theorem kTo.un {P : zS} {s t u : kSt} (h : kTo P s t) (h2 : kTo P s u) (ht : ¬ t.2.2 38 31 = 0) (hu : ¬ u.2.2 38 31 = 0) : t = u := by
  obtain ⟨a, rfl⟩ := h
  obtain ⟨b, rfl⟩ := h2
  rcases Nat.le_total a b with h | h
  · obtain ⟨c, rfl⟩ := Nat.exists_eq_add_of_le h
    rw [kIt_add, kIt_halt P ht]
  · obtain ⟨c, rfl⟩ := Nat.exists_eq_add_of_le h
    rw [kIt_add, kIt_halt P hu]
/-- the run's numbers -/
def kInv (τ : zS) (n p b s : Nat) : Prop := τ 38 20 = nI n ∧ n ≤ 200 ∧ τ 38 33 = nI p ∧ p ≤ 200 ∧ τ 38 32 = nI b ∧ b ≤ 200 ∧ (τ 38 34 = 0 → p ≤ n) ∧ (¬ τ 38 34 = 0 → τ 38 35 = nI p) ∧ τ 38 36 = nI s ∧ s ≤ 1000
def kMu (τ : zS) : Nat := (if τ 38 34 = 0 then ((τ 38 20).toNatClampNeg + 1 - (τ 38 33).toNatClampNeg) * 1001 else 0) + (1001 - (τ 38 36).toNatClampNeg)
theorem kSkip_spec : ∀ (f : Nat) (τ : zS) (n p : Nat), τ 38 20 = nI n → n ≤ 200 → τ 38 33 = nI p → p ≤ n → n - p ≤ f → ∃ q, p ≤ q ∧ q ≤ n ∧ kSkip f τ = wr τ 38 33 (nI q) ∧ (q = n ∨ (q < n ∧ τ 50 q = 0)) ∧ ∀ k, p ≤ k → k < q → ¬ τ 50 k = 0 := by
  intro f
  induction f with
  | zero =>
    intro τ n p h hn hp hpn hf
    exact ⟨p, Nat.le_refl _, hpn, by rw [kSkip, ← hp, wr_id], Or.inl (by omega), fun k h1 h2 => by omega⟩
  | succ f ih =>
    intro τ n p h hn hp hpn hf
    rw [kSkip]
    by_cases hc : p < n ∧ ¬ τ 50 p = 0
    · obtain ⟨q, q1, q2, q3, q4, q5⟩ := ih (wr τ 38 33 (τ 38 33 + 1)) n (p + 1) (by simp (disch := omega) only [lt_litR, lt_litL, eq_litR, eq_litL, lt_nn, eq_nn, lt_n0, z_cl, add_lit, eq_m1, eq_m1', m1_lt, false_or, or_false, if_pos, if_neg, zbI_some, zbV_some, wr_same, wr_cell, wr_slot, ne_eq, not_true_eq_false, not_false_eq_true, true_and, and_true, false_and, and_false, e10, e01, e00, if_true, if_false, Bool.false_eq_true, lit_ne, lit_lt, eq_self, h]) hn (by simp (disch := omega) only [lt_litR, lt_litL, eq_litR, eq_litL, lt_nn, eq_nn, lt_n0, z_cl, add_lit, eq_m1, eq_m1', m1_lt, false_or, or_false, if_pos, if_neg, zbI_some, zbV_some, wr_same, wr_cell, wr_slot, ne_eq, not_true_eq_false, not_false_eq_true, true_and, and_true, false_and, and_false, e10, e01, e00, if_true, if_false, Bool.false_eq_true, lit_ne, lit_lt, eq_self, hp]) (by omega) (by omega)
      have e2 : τ 38 33 < τ 38 20 ∧ ¬ τ 50 (τ 38 33).toNatClampNeg = 0 := by simp (disch := omega) only [lt_litR, lt_litL, eq_litR, eq_litL, lt_nn, eq_nn, lt_n0, z_cl, add_lit, eq_m1, eq_m1', m1_lt, false_or, or_false, if_pos, if_neg, zbI_some, zbV_some, wr_same, wr_cell, wr_slot, ne_eq, not_true_eq_false, not_false_eq_true, true_and, and_true, false_and, and_false, e10, e01, e00, if_true, if_false, Bool.false_eq_true, lit_ne, lit_lt, eq_self, h, hp, hc.2]; exact hc.1
      refine ⟨q, by omega, q2, ?_, ?_, fun k k1 k2 => ?_⟩
      · rw [if_pos e2, q3, wr_wr]
      · simpa (disch := omega) only [wr_cell] using q4
      · by_cases h5 : k = p
        · subst h5; exact hc.2
        · simpa (disch := omega) only [wr_cell] using q5 k (by omega) k2
    · have e2 : ¬ (τ 38 33 < τ 38 20 ∧ ¬ τ 50 (τ 38 33).toNatClampNeg = 0) := by simp (disch := omega) only [lt_litR, lt_litL, eq_litR, eq_litL, lt_nn, eq_nn, lt_n0, z_cl, add_lit, eq_m1, eq_m1', m1_lt, false_or, or_false, if_pos, if_neg, zbI_some, zbV_some, wr_same, wr_cell, wr_slot, ne_eq, not_true_eq_false, not_false_eq_true, true_and, and_true, false_and, and_false, e10, e01, e00, if_true, if_false, Bool.false_eq_true, lit_ne, lit_lt, eq_self, h, hp]; exact hc
      refine ⟨p, Nat.le_refl _, hpn, by rw [if_neg e2, ← hp, wr_id], ?_, fun k h1 h2 => by omega⟩
      by_cases h5 : p = n
      · exact Or.inl h5
      · refine Or.inr ⟨by omega, ?_⟩
        by_cases h6 : τ 50 p = 0
        · exact h6
        · exact absurd ⟨by omega, h6⟩ hc
/-- what kGo does -/
theorem kGo_cases {τ : zS} {n p b s : Nat} (hI : kInv τ n p b s) :
    (¬ τ 38 34 = 0 ∧ kGo τ = wr τ 38 31 9) ∨
    (τ 38 34 = 0 ∧ kC τ p = true ∧ kGo τ = wr (wr τ 38 31 2) 38 40 (nI p)) ∨
    (τ 38 34 = 0 ∧ kC τ p = false ∧ ∃ q, p ≤ q ∧ q ≤ n ∧ (∀ k, p ≤ k → k < q → ¬ τ 50 k = 0) ∧
      ((q < n ∧ τ 50 q = 0 ∧ kGo τ = wr (wr (wr τ 38 33 (nI (q + 1))) 38 36 0) 38 32 (nI q)) ∨
       (q = n ∧ ¬ τ 38 38 = 0 ∧ kGo τ = wr (wr (wr τ 38 33 (nI n)) 38 36 0) 38 31 4) ∨
       (q = n ∧ τ 38 38 = 0 ∧ n = 200 ∧ kGo τ = wr (wr (wr τ 38 33 (nI n)) 38 36 0) 38 31 5) ∨
       (q = n ∧ τ 38 38 = 0 ∧ n < 200 ∧ kGo τ = wr (wr (wr (wr (wr (wr (wr (wr τ 38 36 0) 38 34 1) 38 32 (nI n)) 50 n 0) 51 n 0) 52 n (τ 38 39)) 38 35 (nI (n + 1))) 38 33 (nI (n + 1))))) := by
  obtain ⟨i1, i2, i3, i4, i5, i6, i7, i8, i9, i10⟩ := hI
  by_cases hl : τ 38 34 = 0
  · have hpn := i7 hl
    rw [kGo, if_pos hl, i3, z_cl (by omega)]
    by_cases hc : kC τ p
    · exact Or.inr (Or.inl ⟨hl, hc, by rw [if_pos hc]⟩)
    · rw [Bool.not_eq_true] at hc
      refine Or.inr (Or.inr ⟨hl, hc, ?_⟩)
      obtain ⟨q, q1, q2, q3, q4, q5⟩ := kSkip_spec 201 τ n p i1 i2 i3 hpn (by omega)
      refine ⟨q, q1, q2, q5, ?_⟩
      rw [hc, if_neg (by decide), q3, kGo2]
      rcases q4 with q4 | ⟨q4, q6⟩
      · subst q4
        refine Or.inr ?_
        by_cases ho : τ 38 38 = 0
        · by_cases hn : q = 200
          · refine Or.inr (Or.inl ⟨rfl, ho, hn, ?_⟩)
            rw [kBeg]
            simp (disch := omega) only [lt_litR, lt_litL, eq_litR, eq_litL, lt_nn, eq_nn, lt_n0, z_cl, add_lit, eq_m1, eq_m1', m1_lt, false_or, or_false, if_pos, if_neg, zbI_some, zbV_some, wr_same, wr_cell, wr_slot, ne_eq, not_true_eq_false, not_false_eq_true, true_and, and_true, false_and, and_false, e10, e01, e00, if_true, if_false, Bool.false_eq_true, lit_ne, lit_lt, eq_self, i1, ho, hn]
          · refine Or.inr (Or.inr ⟨rfl, ho, by omega, ?_⟩)
            rw [kBeg]
            simp (disch := omega) only [lt_litR, lt_litL, eq_litR, eq_litL, lt_nn, eq_nn, lt_n0, z_cl, add_lit, eq_m1, eq_m1', m1_lt, false_or, or_false, if_pos, if_neg, zbI_some, zbV_some, wr_same, wr_cell, wr_slot, ne_eq, not_true_eq_false, not_false_eq_true, true_and, and_true, false_and, and_false, e10, e01, e00, if_true, if_false, Bool.false_eq_true, lit_ne, lit_lt, eq_self, i1, ho, hn, kApp]
            funext c k
            by_cases h38 : c = 38
            · subst h38
              by_cases h33 : k = 33
              · subst h33; simp (disch := omega) only [lt_litR, lt_litL, eq_litR, eq_litL, lt_nn, eq_nn, lt_n0, z_cl, add_lit, eq_m1, eq_m1', m1_lt, false_or, or_false, if_pos, if_neg, zbI_some, zbV_some, wr_same, wr_cell, wr_slot, ne_eq, not_true_eq_false, not_false_eq_true, true_and, and_true, false_and, and_false, e10, e01, e00, if_true, if_false, Bool.false_eq_true, lit_ne, lit_lt, eq_self]
              · by_cases h35 : k = 35
                · subst h35; simp (disch := omega) only [lt_litR, lt_litL, eq_litR, eq_litL, lt_nn, eq_nn, lt_n0, z_cl, add_lit, eq_m1, eq_m1', m1_lt, false_or, or_false, if_pos, if_neg, zbI_some, zbV_some, wr_same, wr_cell, wr_slot, ne_eq, not_true_eq_false, not_false_eq_true, true_and, and_true, false_and, and_false, e10, e01, e00, if_true, if_false, Bool.false_eq_true, lit_ne, lit_lt, eq_self]
                · by_cases h32 : k = 32
                  · subst h32; simp (disch := omega) only [lt_litR, lt_litL, eq_litR, eq_litL, lt_nn, eq_nn, lt_n0, z_cl, add_lit, eq_m1, eq_m1', m1_lt, false_or, or_false, if_pos, if_neg, zbI_some, zbV_some, wr_same, wr_cell, wr_slot, ne_eq, not_true_eq_false, not_false_eq_true, true_and, and_true, false_and, and_false, e10, e01, e00, if_true, if_false, Bool.false_eq_true, lit_ne, lit_lt, eq_self]
                  · by_cases h34 : k = 34
                    · subst h34; simp (disch := omega) only [lt_litR, lt_litL, eq_litR, eq_litL, lt_nn, eq_nn, lt_n0, z_cl, add_lit, eq_m1, eq_m1', m1_lt, false_or, or_false, if_pos, if_neg, zbI_some, zbV_some, wr_same, wr_cell, wr_slot, ne_eq, not_true_eq_false, not_false_eq_true, true_and, and_true, false_and, and_false, e10, e01, e00, if_true, if_false, Bool.false_eq_true, lit_ne, lit_lt, eq_self]
                    · by_cases h36 : k = 36
                      · subst h36; simp (disch := omega) only [lt_litR, lt_litL, eq_litR, eq_litL, lt_nn, eq_nn, lt_n0, z_cl, add_lit, eq_m1, eq_m1', m1_lt, false_or, or_false, if_pos, if_neg, zbI_some, zbV_some, wr_same, wr_cell, wr_slot, ne_eq, not_true_eq_false, not_false_eq_true, true_and, and_true, false_and, and_false, e10, e01, e00, if_true, if_false, Bool.false_eq_true, lit_ne, lit_lt, eq_self]
                      · simp (disch := omega) only [lt_litR, lt_litL, eq_litR, eq_litL, lt_nn, eq_nn, lt_n0, z_cl, add_lit, eq_m1, eq_m1', m1_lt, false_or, or_false, if_pos, if_neg, zbI_some, zbV_some, wr_same, wr_cell, wr_slot, ne_eq, not_true_eq_false, not_false_eq_true, true_and, and_true, false_and, and_false, e10, e01, e00, if_true, if_false, Bool.false_eq_true, lit_ne, lit_lt, eq_self]
            · by_cases h50 : c = 50
              · subst h50
                by_cases hk : k = q
                · subst hk; simp (disch := omega) only [lt_litR, lt_litL, eq_litR, eq_litL, lt_nn, eq_nn, lt_n0, z_cl, add_lit, eq_m1, eq_m1', m1_lt, false_or, or_false, if_pos, if_neg, zbI_some, zbV_some, wr_same, wr_cell, wr_slot, ne_eq, not_true_eq_false, not_false_eq_true, true_and, and_true, false_and, and_false, e10, e01, e00, if_true, if_false, Bool.false_eq_true, lit_ne, lit_lt, eq_self]
                · simp (disch := omega) only [lt_litR, lt_litL, eq_litR, eq_litL, lt_nn, eq_nn, lt_n0, z_cl, add_lit, eq_m1, eq_m1', m1_lt, false_or, or_false, if_pos, if_neg, zbI_some, zbV_some, wr_same, wr_cell, wr_slot, ne_eq, not_true_eq_false, not_false_eq_true, true_and, and_true, false_and, and_false, e10, e01, e00, if_true, if_false, Bool.false_eq_true, lit_ne, lit_lt, eq_self]
              · by_cases h51 : c = 51
                · subst h51
                  by_cases hk : k = q
                  · subst hk; simp (disch := omega) only [lt_litR, lt_litL, eq_litR, eq_litL, lt_nn, eq_nn, lt_n0, z_cl, add_lit, eq_m1, eq_m1', m1_lt, false_or, or_false, if_pos, if_neg, zbI_some, zbV_some, wr_same, wr_cell, wr_slot, ne_eq, not_true_eq_false, not_false_eq_true, true_and, and_true, false_and, and_false, e10, e01, e00, if_true, if_false, Bool.false_eq_true, lit_ne, lit_lt, eq_self]
                  · simp (disch := omega) only [lt_litR, lt_litL, eq_litR, eq_litL, lt_nn, eq_nn, lt_n0, z_cl, add_lit, eq_m1, eq_m1', m1_lt, false_or, or_false, if_pos, if_neg, zbI_some, zbV_some, wr_same, wr_cell, wr_slot, ne_eq, not_true_eq_false, not_false_eq_true, true_and, and_true, false_and, and_false, e10, e01, e00, if_true, if_false, Bool.false_eq_true, lit_ne, lit_lt, eq_self]
                · by_cases h52 : c = 52
                  · subst h52
                    by_cases hk : k = q
                    · subst hk; simp (disch := omega) only [lt_litR, lt_litL, eq_litR, eq_litL, lt_nn, eq_nn, lt_n0, z_cl, add_lit, eq_m1, eq_m1', m1_lt, false_or, or_false, if_pos, if_neg, zbI_some, zbV_some, wr_same, wr_cell, wr_slot, ne_eq, not_true_eq_false, not_false_eq_true, true_and, and_true, false_and, and_false, e10, e01, e00, if_true, if_false, Bool.false_eq_true, lit_ne, lit_lt, eq_self]
                    · simp (disch := omega) only [lt_litR, lt_litL, eq_litR, eq_litL, lt_nn, eq_nn, lt_n0, z_cl, add_lit, eq_m1, eq_m1', m1_lt, false_or, or_false, if_pos, if_neg, zbI_some, zbV_some, wr_same, wr_cell, wr_slot, ne_eq, not_true_eq_false, not_false_eq_true, true_and, and_true, false_and, and_false, e10, e01, e00, if_true, if_false, Bool.false_eq_true, lit_ne, lit_lt, eq_self]
                  · simp (disch := omega) only [lt_litR, lt_litL, eq_litR, eq_litL, lt_nn, eq_nn, lt_n0, z_cl, add_lit, eq_m1, eq_m1', m1_lt, false_or, or_false, if_pos, if_neg, zbI_some, zbV_some, wr_same, wr_cell, wr_slot, ne_eq, not_true_eq_false, not_false_eq_true, true_and, and_true, false_and, and_false, e10, e01, e00, if_true, if_false, Bool.false_eq_true, lit_ne, lit_lt, eq_self]
        · refine Or.inl ⟨rfl, ho, ?_⟩
          simp (disch := omega) only [lt_litR, lt_litL, eq_litR, eq_litL, lt_nn, eq_nn, lt_n0, z_cl, add_lit, eq_m1, eq_m1', m1_lt, false_or, or_false, if_pos, if_neg, zbI_some, zbV_some, wr_same, wr_cell, wr_slot, ne_eq, not_true_eq_false, not_false_eq_true, true_and, and_true, false_and, and_false, e10, e01, e00, if_true, if_false, Bool.false_eq_true, lit_ne, lit_lt, eq_self, i1, ho]
      · refine Or.inl ⟨q4, q6, ?_⟩
        simp (disch := omega) only [lt_litR, lt_litL, eq_litR, eq_litL, lt_nn, eq_nn, lt_n0, z_cl, add_lit, eq_m1, eq_m1', m1_lt, false_or, or_false, if_pos, if_neg, zbI_some, zbV_some, wr_same, wr_cell, wr_slot, ne_eq, not_true_eq_false, not_false_eq_true, true_and, and_true, false_and, and_false, e10, e01, e00, if_true, if_false, Bool.false_eq_true, lit_ne, lit_lt, eq_self, i1]
        funext c k
        by_cases h38 : c = 38
        · subst h38
          by_cases h33 : k = 33
          · subst h33; simp (disch := omega) only [lt_litR, lt_litL, eq_litR, eq_litL, lt_nn, eq_nn, lt_n0, z_cl, add_lit, eq_m1, eq_m1', m1_lt, false_or, or_false, if_pos, if_neg, zbI_some, zbV_some, wr_same, wr_cell, wr_slot, ne_eq, not_true_eq_false, not_false_eq_true, true_and, and_true, false_and, and_false, e10, e01, e00, if_true, if_false, Bool.false_eq_true, lit_ne, lit_lt, eq_self]
          · by_cases h32 : k = 32
            · subst h32; simp (disch := omega) only [lt_litR, lt_litL, eq_litR, eq_litL, lt_nn, eq_nn, lt_n0, z_cl, add_lit, eq_m1, eq_m1', m1_lt, false_or, or_false, if_pos, if_neg, zbI_some, zbV_some, wr_same, wr_cell, wr_slot, ne_eq, not_true_eq_false, not_false_eq_true, true_and, and_true, false_and, and_false, e10, e01, e00, if_true, if_false, Bool.false_eq_true, lit_ne, lit_lt, eq_self]
            · by_cases h36 : k = 36
              · subst h36; simp (disch := omega) only [lt_litR, lt_litL, eq_litR, eq_litL, lt_nn, eq_nn, lt_n0, z_cl, add_lit, eq_m1, eq_m1', m1_lt, false_or, or_false, if_pos, if_neg, zbI_some, zbV_some, wr_same, wr_cell, wr_slot, ne_eq, not_true_eq_false, not_false_eq_true, true_and, and_true, false_and, and_false, e10, e01, e00, if_true, if_false, Bool.false_eq_true, lit_ne, lit_lt, eq_self]
              · simp (disch := omega) only [lt_litR, lt_litL, eq_litR, eq_litL, lt_nn, eq_nn, lt_n0, z_cl, add_lit, eq_m1, eq_m1', m1_lt, false_or, or_false, if_pos, if_neg, zbI_some, zbV_some, wr_same, wr_cell, wr_slot, ne_eq, not_true_eq_false, not_false_eq_true, true_and, and_true, false_and, and_false, e10, e01, e00, if_true, if_false, Bool.false_eq_true, lit_ne, lit_lt, eq_self]
        · simp (disch := omega) only [lt_litR, lt_litL, eq_litR, eq_litL, lt_nn, eq_nn, lt_n0, z_cl, add_lit, eq_m1, eq_m1', m1_lt, false_or, or_false, if_pos, if_neg, zbI_some, zbV_some, wr_same, wr_cell, wr_slot, ne_eq, not_true_eq_false, not_false_eq_true, true_and, and_true, false_and, and_false, e10, e01, e00, if_true, if_false, Bool.false_eq_true, lit_ne, lit_lt, eq_self]
  · refine Or.inl ⟨hl, ?_⟩
    rw [kGo, if_neg hl]
theorem kInv.go {τ : zS} {n p b s : Nat} (hI : kInv τ n p b s) (hg : kGo τ 38 31 = 0) (h0 : τ 38 31 = 0) : ∃ p' b', kInv (kGo τ) n p' b' 0 ∧ kMu (kGo τ) + 1 ≤ kMu τ ∧ p ≤ p' := by
  have hI0 := hI
  obtain ⟨i1, i2, i3, i4, i5, i6, i7, i8, i9, i10⟩ := hI
  rcases kGo_cases hI0 with ⟨h1, h2⟩ | ⟨h1, h2, h3⟩ | ⟨h1, h2, q, q1, q2, q3, h4⟩
  · rw [h2] at hg; simp only [wr_same] at hg; exact absurd hg (by decide)
  · rw [h3] at hg; simp (disch := omega) only [lt_litR, lt_litL, eq_litR, eq_litL, lt_nn, eq_nn, lt_n0, z_cl, add_lit, eq_m1, eq_m1', m1_lt, false_or, or_false, if_pos, if_neg, zbI_some, zbV_some, wr_same, wr_cell, wr_slot, ne_eq, not_true_eq_false, not_false_eq_true, true_and, and_true, false_and, and_false, e10, e01, e00, if_true, if_false, Bool.false_eq_true, lit_ne, lit_lt, eq_self] at hg
  · rcases h4 with ⟨q4, q5, h5⟩ | ⟨q4, q5, h5⟩ | ⟨q4, q5, q6, h5⟩ | ⟨q4, q5, q6, h5⟩
    · refine ⟨q + 1, q, ?_, ?_, by omega⟩
      · rw [h5]
        refine ⟨by simp (disch := omega) only [lt_litR, lt_litL, eq_litR, eq_litL, lt_nn, eq_nn, lt_n0, z_cl, add_lit, eq_m1, eq_m1', m1_lt, false_or, or_false, if_pos, if_neg, zbI_some, zbV_some, wr_same, wr_cell, wr_slot, ne_eq, not_true_eq_false, not_false_eq_true, true_and, and_true, false_and, and_false, e10, e01, e00, if_true, if_false, Bool.false_eq_true, lit_ne, lit_lt, eq_self, i1], i2, by simp (disch := omega) only [lt_litR, lt_litL, eq_litR, eq_litL, lt_nn, eq_nn, lt_n0, z_cl, add_lit, eq_m1, eq_m1', m1_lt, false_or, or_false, if_pos, if_neg, zbI_some, zbV_some, wr_same, wr_cell, wr_slot, ne_eq, not_true_eq_false, not_false_eq_true, true_and, and_true, false_and, and_false, e10, e01, e00, if_true, if_false, Bool.false_eq_true, lit_ne, lit_lt, eq_self], by omega, by simp (disch := omega) only [lt_litR, lt_litL, eq_litR, eq_litL, lt_nn, eq_nn, lt_n0, z_cl, add_lit, eq_m1, eq_m1', m1_lt, false_or, or_false, if_pos, if_neg, zbI_some, zbV_some, wr_same, wr_cell, wr_slot, ne_eq, not_true_eq_false, not_false_eq_true, true_and, and_true, false_and, and_false, e10, e01, e00, if_true, if_false, Bool.false_eq_true, lit_ne, lit_lt, eq_self], by omega, fun _ => by omega, fun h => ?_, by simp (disch := omega) only [lt_litR, lt_litL, eq_litR, eq_litL, lt_nn, eq_nn, lt_n0, z_cl, add_lit, eq_m1, eq_m1', m1_lt, false_or, or_false, if_pos, if_neg, zbI_some, zbV_some, wr_same, wr_cell, wr_slot, ne_eq, not_true_eq_false, not_false_eq_true, true_and, and_true, false_and, and_false, e10, e01, e00, if_true, if_false, Bool.false_eq_true, lit_ne, lit_lt, eq_self], by omega⟩
        simp (disch := omega) only [wr_slot] at h
        exact absurd h1 h
      · rw [h5, kMu, kMu]
        simp (disch := omega) only [lt_litR, lt_litL, eq_litR, eq_litL, lt_nn, eq_nn, lt_n0, z_cl, add_lit, eq_m1, eq_m1', m1_lt, false_or, or_false, if_pos, if_neg, zbI_some, zbV_some, wr_same, wr_cell, wr_slot, ne_eq, not_true_eq_false, not_false_eq_true, true_and, and_true, false_and, and_false, e10, e01, e00, if_true, if_false, Bool.false_eq_true, lit_ne, lit_lt, eq_self, h1, i1, i3, i9]
        have : (0 : Int32).toNatClampNeg = 0 := by decide
        rw [this]
        have : (n + 1 - p) * 1001 = (n + 1 - (q + 1)) * 1001 + (q + 1 - p) * 1001 := by rw [← Nat.add_mul]; congr 1; omega
        omega
    · rw [h5] at hg; simp (disch := omega) only [lt_litR, lt_litL, eq_litR, eq_litL, lt_nn, eq_nn, lt_n0, z_cl, add_lit, eq_m1, eq_m1', m1_lt, false_or, or_false, if_pos, if_neg, zbI_some, zbV_some, wr_same, wr_cell, wr_slot, ne_eq, not_true_eq_false, not_false_eq_true, true_and, and_true, false_and, and_false, e10, e01, e00, if_true, if_false, Bool.false_eq_true, lit_ne, lit_lt, eq_self] at hg
    · rw [h5] at hg; simp (disch := omega) only [lt_litR, lt_litL, eq_litR, eq_litL, lt_nn, eq_nn, lt_n0, z_cl, add_lit, eq_m1, eq_m1', m1_lt, false_or, or_false, if_pos, if_neg, zbI_some, zbV_some, wr_same, wr_cell, wr_slot, ne_eq, not_true_eq_false, not_false_eq_true, true_and, and_true, false_and, and_false, e10, e01, e00, if_true, if_false, Bool.false_eq_true, lit_ne, lit_lt, eq_self] at hg
    · refine ⟨n + 1, n, ?_, ?_, by omega⟩
      · rw [h5]
        refine ⟨by simp (disch := omega) only [lt_litR, lt_litL, eq_litR, eq_litL, lt_nn, eq_nn, lt_n0, z_cl, add_lit, eq_m1, eq_m1', m1_lt, false_or, or_false, if_pos, if_neg, zbI_some, zbV_some, wr_same, wr_cell, wr_slot, ne_eq, not_true_eq_false, not_false_eq_true, true_and, and_true, false_and, and_false, e10, e01, e00, if_true, if_false, Bool.false_eq_true, lit_ne, lit_lt, eq_self, i1], i2, by simp (disch := omega) only [lt_litR, lt_litL, eq_litR, eq_litL, lt_nn, eq_nn, lt_n0, z_cl, add_lit, eq_m1, eq_m1', m1_lt, false_or, or_false, if_pos, if_neg, zbI_some, zbV_some, wr_same, wr_cell, wr_slot, ne_eq, not_true_eq_false, not_false_eq_true, true_and, and_true, false_and, and_false, e10, e01, e00, if_true, if_false, Bool.false_eq_true, lit_ne, lit_lt, eq_self], by omega, by simp (disch := omega) only [lt_litR, lt_litL, eq_litR, eq_litL, lt_nn, eq_nn, lt_n0, z_cl, add_lit, eq_m1, eq_m1', m1_lt, false_or, or_false, if_pos, if_neg, zbI_some, zbV_some, wr_same, wr_cell, wr_slot, ne_eq, not_true_eq_false, not_false_eq_true, true_and, and_true, false_and, and_false, e10, e01, e00, if_true, if_false, Bool.false_eq_true, lit_ne, lit_lt, eq_self], by omega, fun h => ?_, fun _ => by simp (disch := omega) only [lt_litR, lt_litL, eq_litR, eq_litL, lt_nn, eq_nn, lt_n0, z_cl, add_lit, eq_m1, eq_m1', m1_lt, false_or, or_false, if_pos, if_neg, zbI_some, zbV_some, wr_same, wr_cell, wr_slot, ne_eq, not_true_eq_false, not_false_eq_true, true_and, and_true, false_and, and_false, e10, e01, e00, if_true, if_false, Bool.false_eq_true, lit_ne, lit_lt, eq_self], by simp (disch := omega) only [lt_litR, lt_litL, eq_litR, eq_litL, lt_nn, eq_nn, lt_n0, z_cl, add_lit, eq_m1, eq_m1', m1_lt, false_or, or_false, if_pos, if_neg, zbI_some, zbV_some, wr_same, wr_cell, wr_slot, ne_eq, not_true_eq_false, not_false_eq_true, true_and, and_true, false_and, and_false, e10, e01, e00, if_true, if_false, Bool.false_eq_true, lit_ne, lit_lt, eq_self], by omega⟩
        simp (disch := omega) only [wr_slot, wr_cell, wr_same] at h
        exact absurd h (by decide)
      · rw [h5, kMu, kMu]
        simp (disch := omega) only [lt_litR, lt_litL, eq_litR, eq_litL, lt_nn, eq_nn, lt_n0, z_cl, add_lit, eq_m1, eq_m1', m1_lt, false_or, or_false, if_pos, if_neg, zbI_some, zbV_some, wr_same, wr_cell, wr_slot, ne_eq, not_true_eq_false, not_false_eq_true, true_and, and_true, false_and, and_false, e10, e01, e00, if_true, if_false, Bool.false_eq_true, lit_ne, lit_lt, eq_self, h1, i1, i3, i9]
        have : (0 : Int32).toNatClampNeg = 0 := by decide
        rw [this]
        have hpn := i7 h1
        have : 1 * 1001 ≤ (n + 1 - p) * 1001 := Nat.mul_le_mul_right _ (by omega)
        omega

theorem kC_lt {τ : zS} {n p : Nat} (h : τ 38 20 = nI n) (hn : n ≤ 200) (hp : p ≤ 201) (hc : kC τ p = true) : p < n := by
  simp only [kC, decide_eq_true_eq, h] at hc
  exact (nI_ltI (by omega) (by omega)).mp hc.1
/-- what kCmd does -/
theorem kCmd_cases {τ : zS} {n p b s : Nat} (hI : kInv τ n p b s) (k r v : Int32) :
    (τ 38 34 = 0 ∧ p < n ∧ kC τ p = true ∧ τ 50 p = k ∧ τ 51 p = r ∧ τ 52 p = v ∧ kCmd τ k r v = (nI p, wr τ 38 33 (nI (p + 1)))) ∨
    (τ 38 34 = 0 ∧ ¬ (kC τ p = true ∧ τ 50 p = k ∧ τ 51 p = r ∧ τ 52 p = v) ∧ kCmd τ k r v = (-1, wr (wr τ 38 31 2) 38 40 (nI p))) ∨
    (¬ τ 38 34 = 0 ∧ p = 200 ∧ kCmd τ k r v = (-1, wr τ 38 31 5)) ∨
    (¬ τ 38 34 = 0 ∧ p < 200 ∧ kCmd τ k r v = (nI p, wr (wr (wr (wr (wr τ 50 p k) 51 p r) 52 p v) 38 35 (nI (p + 1))) 38 33 (nI (p + 1)))) := by
  obtain ⟨i1, i2, i3, i4, i5, i6, i7, i8, i9, i10⟩ := hI
  rw [kCmd]
  by_cases hl : τ 38 34 = 0
  · have hpn := i7 hl
    rw [if_pos hl, i3, z_cl (by omega)]
    by_cases hc : kC τ p = true ∧ τ 50 p = k ∧ τ 51 p = r ∧ τ 52 p = v
    · exact Or.inl ⟨hl, kC_lt i1 i2 (by omega) hc.1, hc.1, hc.2.1, hc.2.2.1, hc.2.2.2, by rw [if_pos hc, nI_1]⟩
    · exact Or.inr (Or.inl ⟨hl, hc, by rw [if_neg hc]⟩)
  · rw [if_neg hl]
    have i8' := i8 hl
    by_cases hp : p = 200
    · refine Or.inr (Or.inr (Or.inl ⟨hl, hp, ?_⟩))
      rw [if_pos (by simp (disch := omega) only [lt_litR, lt_litL, eq_litR, eq_litL, lt_nn, eq_nn, lt_n0, z_cl, add_lit, eq_m1, eq_m1', m1_lt, false_or, or_false, if_pos, if_neg, zbI_some, zbV_some, wr_same, wr_cell, wr_slot, ne_eq, not_true_eq_false, not_false_eq_true, true_and, and_true, false_and, and_false, e10, e01, e00, if_true, if_false, Bool.false_eq_true, lit_ne, lit_lt, eq_self, i8', hp])]
    · refine Or.inr (Or.inr (Or.inr ⟨hl, by omega, ?_⟩))
      rw [kApp]
      simp (disch := omega) only [lt_litR, lt_litL, eq_litR, eq_litL, lt_nn, eq_nn, lt_n0, z_cl, add_lit, eq_m1, eq_m1', m1_lt, false_or, or_false, if_pos, if_neg, zbI_some, zbV_some, wr_same, wr_cell, wr_slot, ne_eq, not_true_eq_false, not_false_eq_true, true_and, and_true, false_and, and_false, e10, e01, e00, if_true, if_false, Bool.false_eq_true, lit_ne, lit_lt, eq_self, i8']
theorem kInv.cmd {τ : zS} {n p b s : Nat} (hI : kInv τ n p b s) (h0 : τ 38 31 = 0) (k r v : Int32) :
    ((kCmd τ k r v).1 = -1 ∧ ¬ (kCmd τ k r v).2 38 31 = 0) ∨
    (¬ (kCmd τ k r v).1 = -1 ∧ (kCmd τ k r v).2 38 31 = 0 ∧ kInv (kCmd τ k r v).2 n (p + 1) b s ∧ kMu (kCmd τ k r v).2 ≤ kMu τ) := by
  have hI0 := hI
  obtain ⟨i1, i2, i3, i4, i5, i6, i7, i8, i9, i10⟩ := hI
  rcases kCmd_cases hI0 k r v with ⟨h1, h2, h3, h4, h5, h6, h7⟩ | ⟨h1, h2, h3⟩ | ⟨h1, h2, h3⟩ | ⟨h1, h2, h3⟩
  · refine Or.inr ?_
    rw [h7]
    refine ⟨by simp (disch := omega) only [lt_litR, lt_litL, eq_litR, eq_litL, lt_nn, eq_nn, lt_n0, z_cl, add_lit, eq_m1, eq_m1', m1_lt, false_or, or_false, if_pos, if_neg, zbI_some, zbV_some, wr_same, wr_cell, wr_slot, ne_eq, not_true_eq_false, not_false_eq_true, true_and, and_true, false_and, and_false, e10, e01, e00, if_true, if_false, Bool.false_eq_true, lit_ne, lit_lt, eq_self], by simp (disch := omega) only [lt_litR, lt_litL, eq_litR, eq_litL, lt_nn, eq_nn, lt_n0, z_cl, add_lit, eq_m1, eq_m1', m1_lt, false_or, or_false, if_pos, if_neg, zbI_some, zbV_some, wr_same, wr_cell, wr_slot, ne_eq, not_true_eq_false, not_false_eq_true, true_and, and_true, false_and, and_false, e10, e01, e00, if_true, if_false, Bool.false_eq_true, lit_ne, lit_lt, eq_self, h0], ⟨by simp (disch := omega) only [lt_litR, lt_litL, eq_litR, eq_litL, lt_nn, eq_nn, lt_n0, z_cl, add_lit, eq_m1, eq_m1', m1_lt, false_or, or_false, if_pos, if_neg, zbI_some, zbV_some, wr_same, wr_cell, wr_slot, ne_eq, not_true_eq_false, not_false_eq_true, true_and, and_true, false_and, and_false, e10, e01, e00, if_true, if_false, Bool.false_eq_true, lit_ne, lit_lt, eq_self, i1], i2, by simp (disch := omega) only [lt_litR, lt_litL, eq_litR, eq_litL, lt_nn, eq_nn, lt_n0, z_cl, add_lit, eq_m1, eq_m1', m1_lt, false_or, or_false, if_pos, if_neg, zbI_some, zbV_some, wr_same, wr_cell, wr_slot, ne_eq, not_true_eq_false, not_false_eq_true, true_and, and_true, false_and, and_false, e10, e01, e00, if_true, if_false, Bool.false_eq_true, lit_ne, lit_lt, eq_self], by omega, by simp (disch := omega) only [lt_litR, lt_litL, eq_litR, eq_litL, lt_nn, eq_nn, lt_n0, z_cl, add_lit, eq_m1, eq_m1', m1_lt, false_or, or_false, if_pos, if_neg, zbI_some, zbV_some, wr_same, wr_cell, wr_slot, ne_eq, not_true_eq_false, not_false_eq_true, true_and, and_true, false_and, and_false, e10, e01, e00, if_true, if_false, Bool.false_eq_true, lit_ne, lit_lt, eq_self, i5], i6, fun _ => by omega, fun h => ?_, by simp (disch := omega) only [lt_litR, lt_litL, eq_litR, eq_litL, lt_nn, eq_nn, lt_n0, z_cl, add_lit, eq_m1, eq_m1', m1_lt, false_or, or_false, if_pos, if_neg, zbI_some, zbV_some, wr_same, wr_cell, wr_slot, ne_eq, not_true_eq_false, not_false_eq_true, true_and, and_true, false_and, and_false, e10, e01, e00, if_true, if_false, Bool.false_eq_true, lit_ne, lit_lt, eq_self, i9], i10⟩, ?_⟩
    · simp (disch := omega) only [wr_slot] at h; exact absurd h1 h
    · rw [kMu, kMu]
      simp (disch := omega) only [lt_litR, lt_litL, eq_litR, eq_litL, lt_nn, eq_nn, lt_n0, z_cl, add_lit, eq_m1, eq_m1', m1_lt, false_or, or_false, if_pos, if_neg, zbI_some, zbV_some, wr_same, wr_cell, wr_slot, ne_eq, not_true_eq_false, not_false_eq_true, true_and, and_true, false_and, and_false, e10, e01, e00, if_true, if_false, Bool.false_eq_true, lit_ne, lit_lt, eq_self, h1, i1, i3, i9]
      have : (n + 1 - (p + 1)) * 1001 ≤ (n + 1 - p) * 1001 := Nat.mul_le_mul_right _ (by omega)
      exact Nat.add_le_add_right this _
  · refine Or.inl ?_
    rw [h3]
    refine ⟨rfl, ?_⟩
    simp (disch := omega) only [lt_litR, lt_litL, eq_litR, eq_litL, lt_nn, eq_nn, lt_n0, z_cl, add_lit, eq_m1, eq_m1', m1_lt, false_or, or_false, if_pos, if_neg, zbI_some, zbV_some, wr_same, wr_cell, wr_slot, ne_eq, not_true_eq_false, not_false_eq_true, true_and, and_true, false_and, and_false, e10, e01, e00, if_true, if_false, Bool.false_eq_true, lit_ne, lit_lt, eq_self]
  · refine Or.inl ?_
    rw [h3]
    refine ⟨rfl, ?_⟩
    simp (disch := omega) only [lt_litR, lt_litL, eq_litR, eq_litL, lt_nn, eq_nn, lt_n0, z_cl, add_lit, eq_m1, eq_m1', m1_lt, false_or, or_false, if_pos, if_neg, zbI_some, zbV_some, wr_same, wr_cell, wr_slot, ne_eq, not_true_eq_false, not_false_eq_true, true_and, and_true, false_and, and_false, e10, e01, e00, if_true, if_false, Bool.false_eq_true, lit_ne, lit_lt, eq_self]
  · refine Or.inr ?_
    rw [h3]
    refine ⟨by simp (disch := omega) only [lt_litR, lt_litL, eq_litR, eq_litL, lt_nn, eq_nn, lt_n0, z_cl, add_lit, eq_m1, eq_m1', m1_lt, false_or, or_false, if_pos, if_neg, zbI_some, zbV_some, wr_same, wr_cell, wr_slot, ne_eq, not_true_eq_false, not_false_eq_true, true_and, and_true, false_and, and_false, e10, e01, e00, if_true, if_false, Bool.false_eq_true, lit_ne, lit_lt, eq_self], by simp (disch := omega) only [lt_litR, lt_litL, eq_litR, eq_litL, lt_nn, eq_nn, lt_n0, z_cl, add_lit, eq_m1, eq_m1', m1_lt, false_or, or_false, if_pos, if_neg, zbI_some, zbV_some, wr_same, wr_cell, wr_slot, ne_eq, not_true_eq_false, not_false_eq_true, true_and, and_true, false_and, and_false, e10, e01, e00, if_true, if_false, Bool.false_eq_true, lit_ne, lit_lt, eq_self, h0], ⟨by simp (disch := omega) only [lt_litR, lt_litL, eq_litR, eq_litL, lt_nn, eq_nn, lt_n0, z_cl, add_lit, eq_m1, eq_m1', m1_lt, false_or, or_false, if_pos, if_neg, zbI_some, zbV_some, wr_same, wr_cell, wr_slot, ne_eq, not_true_eq_false, not_false_eq_true, true_and, and_true, false_and, and_false, e10, e01, e00, if_true, if_false, Bool.false_eq_true, lit_ne, lit_lt, eq_self, i1], i2, by simp (disch := omega) only [lt_litR, lt_litL, eq_litR, eq_litL, lt_nn, eq_nn, lt_n0, z_cl, add_lit, eq_m1, eq_m1', m1_lt, false_or, or_false, if_pos, if_neg, zbI_some, zbV_some, wr_same, wr_cell, wr_slot, ne_eq, not_true_eq_false, not_false_eq_true, true_and, and_true, false_and, and_false, e10, e01, e00, if_true, if_false, Bool.false_eq_true, lit_ne, lit_lt, eq_self], by omega, by simp (disch := omega) only [lt_litR, lt_litL, eq_litR, eq_litL, lt_nn, eq_nn, lt_n0, z_cl, add_lit, eq_m1, eq_m1', m1_lt, false_or, or_false, if_pos, if_neg, zbI_some, zbV_some, wr_same, wr_cell, wr_slot, ne_eq, not_true_eq_false, not_false_eq_true, true_and, and_true, false_and, and_false, e10, e01, e00, if_true, if_false, Bool.false_eq_true, lit_ne, lit_lt, eq_self, i5], i6, fun h => ?_, fun _ => by simp (disch := omega) only [lt_litR, lt_litL, eq_litR, eq_litL, lt_nn, eq_nn, lt_n0, z_cl, add_lit, eq_m1, eq_m1', m1_lt, false_or, or_false, if_pos, if_neg, zbI_some, zbV_some, wr_same, wr_cell, wr_slot, ne_eq, not_true_eq_false, not_false_eq_true, true_and, and_true, false_and, and_false, e10, e01, e00, if_true, if_false, Bool.false_eq_true, lit_ne, lit_lt, eq_self], by simp (disch := omega) only [lt_litR, lt_litL, eq_litR, eq_litL, lt_nn, eq_nn, lt_n0, z_cl, add_lit, eq_m1, eq_m1', m1_lt, false_or, or_false, if_pos, if_neg, zbI_some, zbV_some, wr_same, wr_cell, wr_slot, ne_eq, not_true_eq_false, not_false_eq_true, true_and, and_true, false_and, and_false, e10, e01, e00, if_true, if_false, Bool.false_eq_true, lit_ne, lit_lt, eq_self, i9], i10⟩, ?_⟩
    · simp (disch := omega) only [wr_slot, wr_cell] at h; exact absurd h h1
    · rw [kMu, kMu]
      simp (disch := omega) only [lt_litR, lt_litL, eq_litR, eq_litL, lt_nn, eq_nn, lt_n0, z_cl, add_lit, eq_m1, eq_m1', m1_lt, false_or, or_false, if_pos, if_neg, zbI_some, zbV_some, wr_same, wr_cell, wr_slot, ne_eq, not_true_eq_false, not_false_eq_true, true_and, and_true, false_and, and_false, e10, e01, e00, if_true, if_false, Bool.false_eq_true, lit_ne, lit_lt, eq_self, h1, i1, i3, i9]
      omega
/-- a change that the run's numbers don't feel -/
theorem kInv.cong {τ τ' : zS} {n p b s : Nat} (hI : kInv τ n p b s) (h : ∀ k, (k = 20 ∨ k = 32 ∨ k = 33 ∨ k = 34 ∨ k = 35 ∨ k = 36) → τ' 38 k = τ 38 k) : kInv τ' n p b s ∧ kMu τ' = kMu τ := by
  obtain ⟨i1, i2, i3, i4, i5, i6, i7, i8, i9, i10⟩ := hI
  have h20 := h 20 (by omega)
  have h32 := h 32 (by omega)
  have h33 := h 33 (by omega)
  have h34 := h 34 (by omega)
  have h35 := h 35 (by omega)
  have h36 := h 36 (by omega)
  refine ⟨?_, ?_⟩
  · rw [kInv, h20, h32, h33, h34, h35, h36]
    exact ⟨i1, i2, i3, i4, i5, i6, i7, i8, i9, i10⟩
  · rw [kMu, kMu, h20, h33, h34, h36]
theorem kInv.step {τ : zS} {n p b s : Nat} (hI : kInv τ n p b s) (h : ¬ 1000 < τ 38 36 + 1) : kInv (wr τ 38 36 (τ 38 36 + 1)) n p b (s + 1) ∧ kMu (wr τ 38 36 (τ 38 36 + 1)) + 1 ≤ kMu τ := by
  obtain ⟨i1, i2, i3, i4, i5, i6, i7, i8, i9, i10⟩ := hI
  have h2 : s < 1000 := by
    rw [i9] at h
    simp (disch := omega) only [lt_litR, lt_litL, eq_litR, eq_litL, lt_nn, eq_nn, lt_n0, z_cl, add_lit, eq_m1, eq_m1', m1_lt, false_or, or_false, if_pos, if_neg, zbI_some, zbV_some, wr_same, wr_cell, wr_slot, ne_eq, not_true_eq_false, not_false_eq_true, true_and, and_true, false_and, and_false, e10, e01, e00, if_true, if_false, Bool.false_eq_true, lit_ne, lit_lt, eq_self] at h
    omega
  refine ⟨⟨by simp (disch := omega) only [lt_litR, lt_litL, eq_litR, eq_litL, lt_nn, eq_nn, lt_n0, z_cl, add_lit, eq_m1, eq_m1', m1_lt, false_or, or_false, if_pos, if_neg, zbI_some, zbV_some, wr_same, wr_cell, wr_slot, ne_eq, not_true_eq_false, not_false_eq_true, true_and, and_true, false_and, and_false, e10, e01, e00, if_true, if_false, Bool.false_eq_true, lit_ne, lit_lt, eq_self, i1], i2, by simp (disch := omega) only [lt_litR, lt_litL, eq_litR, eq_litL, lt_nn, eq_nn, lt_n0, z_cl, add_lit, eq_m1, eq_m1', m1_lt, false_or, or_false, if_pos, if_neg, zbI_some, zbV_some, wr_same, wr_cell, wr_slot, ne_eq, not_true_eq_false, not_false_eq_true, true_and, and_true, false_and, and_false, e10, e01, e00, if_true, if_false, Bool.false_eq_true, lit_ne, lit_lt, eq_self, i3], i4, by simp (disch := omega) only [lt_litR, lt_litL, eq_litR, eq_litL, lt_nn, eq_nn, lt_n0, z_cl, add_lit, eq_m1, eq_m1', m1_lt, false_or, or_false, if_pos, if_neg, zbI_some, zbV_some, wr_same, wr_cell, wr_slot, ne_eq, not_true_eq_false, not_false_eq_true, true_and, and_true, false_and, and_false, e10, e01, e00, if_true, if_false, Bool.false_eq_true, lit_ne, lit_lt, eq_self, i5], i6, fun h => ?_, fun h => ?_, by simp (disch := omega) only [lt_litR, lt_litL, eq_litR, eq_litL, lt_nn, eq_nn, lt_n0, z_cl, add_lit, eq_m1, eq_m1', m1_lt, false_or, or_false, if_pos, if_neg, zbI_some, zbV_some, wr_same, wr_cell, wr_slot, ne_eq, not_true_eq_false, not_false_eq_true, true_and, and_true, false_and, and_false, e10, e01, e00, if_true, if_false, Bool.false_eq_true, lit_ne, lit_lt, eq_self, i9], by omega⟩, ?_⟩
  · simp (disch := omega) only [wr_slot] at h; exact i7 h
  · simp (disch := omega) only [wr_slot] at h ⊢; exact i8 h
  · rw [kMu, kMu]
    simp (disch := omega) only [lt_litR, lt_litL, eq_litR, eq_litL, lt_nn, eq_nn, lt_n0, z_cl, add_lit, eq_m1, eq_m1', m1_lt, false_or, or_false, if_pos, if_neg, zbI_some, zbV_some, wr_same, wr_cell, wr_slot, ne_eq, not_true_eq_false, not_false_eq_true, true_and, and_true, false_and, and_false, e10, e01, e00, if_true, if_false, Bool.false_eq_true, lit_ne, lit_lt, eq_self, i9]
    omega
/-- kRdy writes gave alone -/
theorem kRdy_gave (τ : zS) (o x y : Int32) : ∃ g, (kRdy τ o x y).2 = wr τ 38 44 g := by
  rw [kRdy]
  by_cases h1 : o = 9
  · rw [if_pos h1]; exact ⟨_, rfl⟩
  · rw [if_neg h1]
    by_cases h2 : o = 5
    · rw [if_pos h2]
      cases kSig τ (τ 38 32).toNatClampNeg 0 0 with
      | none => exact ⟨τ 38 44, (wr_id τ 38 44).symm⟩
      | some g => exact ⟨g, rfl⟩
    · rw [if_neg h2]
      by_cases h3 : (kDone τ (τ 54 x.toNatClampNeg)).isSome
      · rw [if_pos h3]; exact ⟨_, rfl⟩
      · rw [if_neg h3]; exact ⟨_, rfl⟩
