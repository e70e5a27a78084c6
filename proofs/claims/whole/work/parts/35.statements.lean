-- statements: the class's entries and the reference's nodes
def RX (S V op a b : Nat → Int32) (x i j : Nat) : Prop := ∃ k, k ≤ 500 ∧ RepX S V op a b k 34 x i j
def Chain (St : Nat → Nat → Nat → Nat → Nat → Prop) (nx : Nat → Int32) : List Nat → Int32 → Nat → Nat → Nat → Nat → Prop
  | [], hd, e, e', i, i' => hd = -1 ∧ e = e' ∧ i = i'
  | n :: l, hd, e, e', i, i' => hd = nI n ∧ ∃ e1 i1, St n e e1 i i1 ∧ Chain St nx l (nx n) e1 e' i1 i'
/-- node n is the entries from e to e', and the items from i to i' -/
def RepS (so ta fi se fr S V op a b c nx : Nat → Int32) : Nat → Nat → Nat → Nat → Nat → Nat → Prop
  | 0 => fun _ _ _ _ _ => False
  | k + 1 => fun n e e' i i' => n < 1600 ∧ fr e = nI i ∧ i < 1000 ∧ i' < 1000 ∧ (
      (e' = e + 1 ∧ (∃ r, r < 8 ∧ ta e = nI r ∧ a n = nI r) ∧ (
        (op n = 10 ∧ so e = 0 ∧ ∃ x, c n = nI x ∧ RX S V op a b x i i') ∨
        (op n = 1 ∧ so e = 1 ∧ b n = fi e ∧ ∃ x, c n = nI x ∧ RX S V op a b x i i') ∨
        (op n = 2 ∧ so e = 2 ∧ b n = 0 ∧ ∃ x, c n = nI x ∧ RX S V op a b x i i') ∨
        (i = i' ∧ op n = 9 ∧ so e = 3 ∧ b n = fi e ∧ ∃ x, x < 8 ∧ fi e = nI x) ∨
        (i = i' ∧ op n = 3 ∧ so e = 4 ∧ b n = fi e ∧ c n = se e ∧ ∃ x y, x < 8 ∧ fi e = nI x ∧ y < 8 ∧ se e = nI y) ∨
        (i = i' ∧ op n = 4 ∧ so e = 5 ∧ b n = fi e ∧ ∃ x, x < 8 ∧ fi e = nI x) ∨
        (i = i' ∧ op n = 5 ∧ so e = 6) ∨
        (i = i' ∧ op n = 6 ∧ so e = 7) ∨
        (i = i' ∧ op n = 7 ∧ so e = 8 ∧ b n = fi e))) ∨
      (e' = e + 1 ∧ op n = 8 ∧ so e = 9 ∧ ∃ x, a n = nI x ∧ RX S V op a b x i i') ∨
      (op n = 11 ∧ so e = 10 ∧ ∃ x j e1 i1 l1 l2, a n = nI x ∧ RX S V op a b x i j ∧ j < 1000 ∧ i1 < 1000 ∧ Chain (RepS so ta fi se fr S V op a b c nx k) nx l1 (b n) (e + 1) e1 j i1 ∧ so e1 = 12 ∧ fi e1 = nI e' ∧ fr e1 = nI i1 ∧ fi e = nI (e1 + 1) ∧ Chain (RepS so ta fi se fr S V op a b c nx k) nx l2 (c n) (e1 + 1) e' i1 i') ∨
      (op n = 12 ∧ so e = 11 ∧ ∃ x j e1 l, a n = nI x ∧ RX S V op a b x i j ∧ j < 1000 ∧ Chain (RepS so ta fi se fr S V op a b c nx k) nx l (b n) (e + 1) e1 j i' ∧ so e1 = 12 ∧ fi e1 = nI e ∧ fr e1 = nI i' ∧ e' = e1 + 1 ∧ fi e = nI (e1 + 1)))
theorem Chain_le {St : Nat → Nat → Nat → Nat → Nat → Prop} {nx : Nat → Int32} (h : ∀ n e e' i i', St n e e' i i' → e < e') : ∀ {l : List Nat} {hd : Int32} {e e' i i' : Nat}, Chain St nx l hd e e' i i' → e ≤ e' := by
  intro l
  induction l with
  | nil => intro hd e e' i i' hc; exact Nat.le_of_eq hc.2.1
  | cons n l ih =>
    intro hd e e' i i' hc
    obtain ⟨_, e1, i1, h1, h2⟩ := hc
    have := h _ _ _ _ _ h1
    have := ih h2
    omega
theorem RepS_lt {so ta fi se fr S V op a b c nx : Nat → Int32} : ∀ {k n e e' i i' : Nat}, RepS so ta fi se fr S V op a b c nx k n e e' i i' → e < e' := by
  intro k
  induction k with
  | zero => intro n e e' i i' h; exact h.elim
  | succ k ih =>
    intro n e e' i i' h
    obtain ⟨_, _, _, _, h⟩ := h
    rcases h with h | h | ⟨_, _, x, j, e1, i1, l1, l2, h⟩ | ⟨_, _, x, j, e1, l, h⟩
    · omega
    · omega
    · have := Chain_le (fun _ _ _ _ _ h => ih h) h.2.2.2.2.1
      have := Chain_le (fun _ _ _ _ _ h => ih h) h.2.2.2.2.2.2.2.2.2
      omega
    · have := Chain_le (fun _ _ _ _ _ h => ih h) h.2.2.2.1
      omega
/-- the statements of the program that stands, and the reference's -/
def RpS (P T : zS) : Nat → Nat → Nat → Nat → Nat → Nat → Prop := RepS (P 16) (P 17) (P 18) (P 19) (P 20) (P 21) (P 22) (T 45) (T 46) (T 47) (T 48) (T 49)
def pEnd (P : zS) (e i : Nat) : Prop := i < 1000 ∧ ((e < pSz P ∧ P 20 e = nI i) ∨ (e = pSz P ∧ P 15 8 = nI i))
theorem pEnd_le {P : zS} {e i : Nat} (h : pEnd P e i) : e ≤ pSz P := by
  rcases h.2 with h | h <;> omega
theorem pIe_end {P : zS} {e i : Nat} (h : pEnd P (e + 1) i) : pIe P e = i := by
  obtain ⟨h0, h⟩ := h
  rw [pIe]
  rcases h with ⟨h1, h2⟩ | ⟨h1, h2⟩
  · rw [if_pos h1, h2, z_cl (by omega)]
  · rw [if_neg (by omega), h2, z_cl (by omega)]
theorem RpS_end {P T : zS} {k n e e' i i' : Nat} (h : RpS P T k n e e' i i') (he : e' ≤ pSz P) : pEnd P e i := by
  have hlt := RepS_lt h
  cases k with
  | zero => exact h.elim
  | succ k => exact ⟨h.2.2.1, Or.inl ⟨by omega, h.2.1⟩⟩
theorem Chain_end {P T : zS} {k : Nat} : ∀ {l : List Nat} {hd : Int32} {e e' i i' : Nat}, Chain (RpS P T k) (T 49) l hd e e' i i' → pEnd P e' i' → pEnd P e i := by
  intro l hd e e' i i' h he
  cases l with
  | nil => obtain ⟨_, rfl, rfl⟩ := h; exact he
  | cons n l =>
    obtain ⟨_, e1, i1, h1, h2⟩ := h
    have h3 := Chain_le (fun _ _ _ _ _ h => RepS_lt h) h2
    have h4 := pEnd_le he
    exact RpS_end h1 (by omega)
/-- the worth of an entry's X, on both sides -/
theorem ev_val {P T τ : zS} {e x i j : Nat} (h : RX (P 21) (P 22) (T 45) (T 46) (T 47) x i j) (hf : P 20 e = nI i) (hi : i < 1000) (he : pIe P e = j) (hT : kSame T τ) (D : Nat) (hD : 500 ≤ D) : zM D mX8_work [.inr (.inr 38), .inl (nI x)] τ = some (1, pEv P e (τ 54), τ) := by
  obtain ⟨k, hk, h⟩ := h
  obtain ⟨v, v1, v2, v3⟩ := RepX_val (τ 54) h
  obtain ⟨d, rfl⟩ : ∃ d, D = d + k := ⟨D - k, by omega⟩
  rw [v2 d τ (hT.1 45 (by omega) (by omega) (by omega) (by omega) (by omega)) (hT.1 46 (by omega) (by omega) (by omega) (by omega) (by omega)) (hT.1 47 (by omega) (by omega) (by omega) (by omega) (by omega)) (fun _ _ => rfl)]
  rw [pEv, hf, z_cl (by omega), he, v1]
  rfl
theorem m_listStop (d m : Nat) (τ : zS) (x : Int32) (h : ¬ τ 38 31 = 0) : zexec zc_X8_list zu_X8_list (zM d) (m + 1) 2 [.inr (.inr 38), .inl x] τ = some (0, 0, τ) := by
  rw [qX8_list_38_2]
  by_cases hx : x = -1
  · rw [if_pos hx]
  · rw [if_neg hx, if_neg h]
/-- lists of statements nested k deep run as they should -/
def gList (P T : zS) (k : Nat) : Prop := ∀ (D : Nat), 3 * k + 520 ≤ D → ∀ (l : List Nat) (hd : Int32) (e e' i i' : Nat) (τ : zS) (n p b s : Nat), Chain (RpS P T k) (T 49) l hd e e' i i' → pEnd P e' i' → kInv τ n p b s → τ 38 31 = 0 → kSame T τ → kMu τ ≤ 300000 →
  ∃ t : kSt, zM D mX8_list [.inr (.inr 38), .inl hd] τ = some (0, 0, t.2.2) ∧ kTo P (e, 0, τ) t ∧ kGood P e' n (kMu τ) t

theorem Chain_len {St : Nat → Nat → Nat → Nat → Nat → Prop} {nx : Nat → Int32} (h : ∀ n e e' i i', St n e e' i i' → e < e') : ∀ {l : List Nat} {hd : Int32} {e e' i i' : Nat}, Chain St nx l hd e e' i i' → e + l.length ≤ e' := by
  intro l
  induction l with
  | nil => intro hd e e' i i' hc; exact Nat.le_of_eq hc.2.1
  | cons n l ih =>
    intro hd e e' i i' hc
    obtain ⟨_, e1, i1, h1, h2⟩ := hc
    have := h _ _ _ _ _ h1
    have := ih h2
    simp only [List.length_cons]
    omega
theorem kT {T τ : zS} (h : kSame T τ) {c : Nat} (hc : 45 ≤ c ∧ c ≤ 49) : τ c = T c := h.1 c (by omega) (by omega) (by omega) (by omega) (by omega)
theorem pSo_in {P : zS} {e : Nat} (h : e < pSz P) : pSo P e = P 16 e := by rw [pSo, if_pos h]
theorem nI_0' : nI 0 = 0 := rfl
theorem kGood.w54 {P : zS} {τ : zS} {e n p b s : Nat} (hI : kInv τ n p b s) (k : Nat) (v : Int32) (h0 : τ 38 31 = 0) : kGood P e n (kMu τ) (e, 0, wr τ 54 k v) := by
  intro _
  obtain ⟨h1, h2⟩ := hI.cong (τ' := wr τ 54 k v) (fun j _ => by rw [wr_cell _ _ _ (by omega)])
  exact ⟨rfl, rfl, ⟨_, _, _, h1⟩, Nat.le_of_eq h2⟩
theorem kGood.cmd {P : zS} {τ : zS} {e n p b s r : Nat} (hP : P 17 e = nI r) (hr : r < 8) (hI : kInv τ n p b s) (h0 : τ 38 31 = 0) (k rr v : Int32) : kGood P (e + 1) n (kMu τ) (kOrd P e τ k rr v) := by
  rw [kOrd]
  rcases hI.cmd h0 k rr v with ⟨h1, h2⟩ | ⟨h1, h2, h3, h4⟩
  · rw [if_pos h1]; exact kGood.halt h2
  · rw [if_neg h1]; exact (kGood.w54 h3 _ _ h2).up h4
theorem m_patch (P T : zS) (d e n r : Nat) (hn : n < 1600) (hr : r < 8) (hP : P 17 e = nI r) (h46 : T 46 n = nI r) (h47 : T 47 n = P 18 e) {τ : zS} {nn p b s : Nat} (hI : kInv τ nn p b s) (h0 : τ 38 31 = 0) (hT : kSame T τ) :
    zM (d + 3) mX8_patch [.inr (.inr 38), .inl (nI n)] τ = some (0, 0, (kPat P e τ (P 18 e)).2.2) ∧ kGood P (e + 1) nn (kMu τ) (kPat P e τ (P 18 e)) := by
  have hI0 := hI
  obtain ⟨i1, i2, i3, i4, i5, i6, i7, i8, i9, i10⟩ := hI
  have e46 : τ 46 = T 46 := kT hT (by omega)
  have e47 : τ 47 = T 47 := kT hT (by omega)
  have c46 : (kCmd τ 3 (P 18 e) 0).2 46 = T 46 := kT (kCmd_same _ _ _ hT) (by omega)
  have hcm := m_command d τ 3 (P 18 e) 0 i1 i2 i3 i7 (fun h => ⟨p, i4, i8 h⟩)
  have f76 : ∀ m (τ' : zS), τ' 46 = T 46 → zexec zc_X8_patch zu_X8_patch (zM (d + 2)) (m + 1) 76 [.inr (.inr 38), .inl (nI n), .inl 1] τ' = some (0, 0, wr τ' 54 r 1) := by
    intro m τ' h
    rw [qX8_patch_38_76, h]
    simp (disch := omega) only [lt_litR, lt_litL, eq_litR, eq_litL, lt_nn, eq_nn, lt_n0, z_cl, add_lit, eq_m1, eq_m1', m1_lt, false_or, or_false, if_pos, if_neg, zbI_some, zbV_some, wr_same, wr_cell, wr_slot, ne_eq, not_true_eq_false, not_false_eq_true, true_and, and_true, false_and, and_false, e10, e01, e00, if_true, if_false, Bool.false_eq_true, lit_ne, lit_lt, eq_self, h46]
  have f55 : ∀ m, zexec zc_X8_patch zu_X8_patch (zM (d + 2)) (m + 2) 55 [.inr (.inr 38), .inl (nI n), .inl 1] τ = if (kCmd τ 3 (P 18 e) 0).1 = -1 then some (0, 0, (kCmd τ 3 (P 18 e) 0).2) else some (0, 0, wr (kCmd τ 3 (P 18 e) 0).2 54 r 1) := by
    intro m
    rw [qX8_patch_38_55, e47]
    simp (disch := omega) only [lt_litR, lt_litL, eq_litR, eq_litL, lt_nn, eq_nn, lt_n0, z_cl, add_lit, eq_m1, eq_m1', m1_lt, false_or, or_false, if_pos, if_neg, zbI_some, zbV_some, wr_same, wr_cell, wr_slot, ne_eq, not_true_eq_false, not_false_eq_true, true_and, and_true, false_and, and_false, e10, e01, e00, if_true, if_false, Bool.false_eq_true, lit_ne, lit_lt, eq_self, h47, hcm]
    rw [f76 _ _ c46]
  have f53 : ∀ m, zexec zc_X8_patch zu_X8_patch (zM (d + 2)) (m + 3) 53 [.inr (.inr 38), .inl (nI n)] τ = some (0, 0, wr τ 54 r 0) := by
    intro m
    rw [qX8_patch_38_53, qX8_patch_38_55, if_pos rfl, qX8_patch_38_76, e46]
    simp (disch := omega) only [lt_litR, lt_litL, eq_litR, eq_litL, lt_nn, eq_nn, lt_n0, z_cl, add_lit, eq_m1, eq_m1', m1_lt, false_or, or_false, if_pos, if_neg, zbI_some, zbV_some, wr_same, wr_cell, wr_slot, ne_eq, not_true_eq_false, not_false_eq_true, true_and, and_true, false_and, and_false, e10, e01, e00, if_true, if_false, Bool.false_eq_true, lit_ne, lit_lt, eq_self, h46]
  have hyes : ∀ m, (¬ τ 38 34 = 0 ∨ (kC τ (τ 38 33).toNatClampNeg = true ∧ τ 50 (τ 38 33).toNatClampNeg = 3 ∧ τ 51 (τ 38 33).toNatClampNeg = P 18 e)) → zexec zc_X8_patch zu_X8_patch (zM (d + 2)) (m + 2) 55 [.inr (.inr 38), .inl (nI n), .inl 1] τ = some (0, 0, (kPat P e τ (P 18 e)).2.2) ∧ kGood P (e + 1) nn (kMu τ) (kPat P e τ (P 18 e)) := by
    intro m hc
    rw [f55, kPat, if_pos hc, hP, z_cl (by omega)]
    rcases hI0.cmd h0 3 (P 18 e) 0 with ⟨h1, h2⟩ | ⟨h1, h2, h3, h4⟩
    · rw [if_pos h1, if_pos h1]; exact ⟨rfl, kGood.halt h2⟩
    · rw [if_neg h1, if_neg h1]; exact ⟨rfl, (kGood.w54 h3 _ _ h2).up h4⟩
  have hno : ∀ m, ¬ (¬ τ 38 34 = 0 ∨ (kC τ (τ 38 33).toNatClampNeg = true ∧ τ 50 (τ 38 33).toNatClampNeg = 3 ∧ τ 51 (τ 38 33).toNatClampNeg = P 18 e)) → zexec zc_X8_patch zu_X8_patch (zM (d + 2)) (m + 3) 53 [.inr (.inr 38), .inl (nI n)] τ = some (0, 0, (kPat P e τ (P 18 e)).2.2) ∧ kGood P (e + 1) nn (kMu τ) (kPat P e τ (P 18 e)) := by
    intro m hc
    rw [f53, kPat, if_neg hc, hP, z_cl (by omega)]
    exact ⟨rfl, kGood.w54 hI0 _ _ h0⟩
  rw [qX8_patch_38, qX8_patch_38_0]
  by_cases hl : τ 38 34 = 0
  · have hpn := i7 hl
    rw [if_pos hl, qX8_patch_38_7, i3, m_isCommand (n := nn) _ _ i1 i2 (by omega), zbI_some]
    rw [i3, z_cl (by omega)] at hyes hno
    by_cases hc : kC τ p = true
    · rw [if_pos hc, if_neg (by decide), qX8_patch_38_18, i3, if_neg (nI_in (by omega) (by omega)), z_cl (by omega)]
      by_cases h3 : τ 50 p = 3
      · rw [if_pos h3, qX8_patch_38_31, i3, if_neg (nI_in (by omega) (by omega)), if_neg (nI_in hn (by omega)), z_cl (by omega), z_cl (by omega), e47, h47]
        by_cases h5 : τ 51 p = P 18 e
        · rw [if_pos h5, qX8_patch_38_49]
          exact hyes _ (Or.inr ⟨hc, h3, h5⟩)
        · rw [if_neg h5]
          exact hno _ (fun h => h.elim (fun h => h hl) (fun h => h5 h.2.2))
      · rw [if_neg h3]
        exact hno _ (fun h => h.elim (fun h => h hl) (fun h => h3 h.2.1))
    · rw [if_neg hc, if_pos rfl]
      exact hno _ (fun h => h.elim (fun h => h hl) (fun h => hc h.1))
  · rw [if_neg hl, qX8_patch_38_49]
    exact hyes _ (Or.inl hl)
theorem m_statement (P T : zS) (k : Nat) (hz : pSz P ≤ 200) (hk : gList P T k) (D : Nat) (hD : 3 * k + 521 ≤ D) {n e e' i i' : Nat} {τ : zS} {nn p b s : Nat} (hR : RpS P T (k + 1) n e e' i i') (hL : ¬ T 45 n = 12) (hE : pEnd P e' i') (hI : kInv τ nn p b s) (h0 : τ 38 31 = 0) (hT : kSame T τ) (hM : kMu τ ≤ 300000) :
    ¬ pSo P e = 12 ∧ ¬ pSo P e = 13 ∧ ∃ t : kSt, zM D mX8_statement [.inr (.inr 38), .inl (nI n)] τ = some (0, 0, t.2.2) ∧ kTo P (kDo P e τ) t ∧ kGood P e' nn (kMu τ) t := by
  have hlt := RepS_lt hR
  have hle := pEnd_le hE
  have hso := pSo_in (P := P) (e := e) (by omega)
  obtain ⟨D, rfl⟩ : ∃ k, D = k + 5 := ⟨D - 5, by omega⟩
  obtain ⟨hn, hfr, hi, hi', hR⟩ := hR
  have e45 : τ 45 = T 45 := kT hT (by omega)
  have e46 : τ 46 = T 46 := kT hT (by omega)
  have e47 : τ 47 = T 47 := kT hT (by omega)
  have e48 : τ 48 = T 48 := kT hT (by omega)
  have hI0 := hI
  obtain ⟨i1, i2, i3, i4, i5, i6, i7, i8, i9, i10⟩ := hI
  rw [hso, qX8_statement_38, qX8_statement_38_0]
  rcases hR with ⟨rfl, ⟨r, hr, hta, han⟩, hR⟩ | ⟨rfl, ho, hs, x, hx, hX⟩ | ⟨ho, hs, x, j, e1, j1, l1, l2, hx, hX, hj, hj1, hc1, hs1, hf1, hfr1, hfe, hc2⟩ | ⟨ho, _⟩
  · rcases hR with ⟨ho, hs, x, hx, hX⟩ | ⟨ho, hs, hb, x, hx, hX⟩ | ⟨ho, hs, hb, x, hx, hX⟩ | ⟨rfl, ho, hs, hb, x, hx, hx2⟩ | ⟨rfl, ho, hs, hb, hc, x, y, hx, hx2, hy, hy2⟩ | ⟨rfl, ho, hs, hb, x, hx, hx2⟩ | ⟨rfl, ho, hs⟩ | ⟨rfl, ho, hs⟩ | ⟨rfl, ho, hs, hb⟩
    · have hw := ev_val hX hfr hi (pIe_end hE) hT (D + 4) (by omega)
      rw [qX8_statement_38_64, kDo]
      simp (disch := omega) only [lt_litR, lt_litL, eq_litR, eq_litL, lt_nn, eq_nn, lt_n0, z_cl, add_lit, eq_m1, eq_m1', m1_lt, false_or, or_false, if_pos, if_neg, zbI_some, zbV_some, wr_same, wr_cell, wr_slot, ne_eq, not_true_eq_false, not_false_eq_true, true_and, and_true, false_and, and_false, e10, e01, e00, if_true, if_false, Bool.false_eq_true, lit_ne, lit_lt, eq_self, e45, ho, e48, hx, hw, e46, han, hs, hta]
      exact ⟨_, rfl, kTo.rf, kGood.w54 hI0 _ _ h0⟩
    · have hw := ev_val hX hfr hi (pIe_end hE) hT (D + 4) (by omega)
      have hcm := m_command (D + 2) τ 1 (T 47 n) (pEv P e (τ 54)) i1 i2 i3 i7 (fun h => ⟨p, i4, i8 h⟩)
      have hg := kGood.cmd (P := P) (e := e) hta hr hI0 h0 1 (P 18 e) (pEv P e (τ 54))
      have c46 : (kCmd τ 1 (T 47 n) (pEv P e (τ 54))).2 46 = T 46 := kT (kCmd_same _ _ _ hT) (by omega)
      rw [qX8_statement_38_134, kDo]
      simp (disch := omega) only [lt_litR, lt_litL, eq_litR, eq_litL, lt_nn, eq_nn, lt_n0, z_cl, add_lit, eq_m1, eq_m1', m1_lt, false_or, or_false, if_pos, if_neg, zbI_some, zbV_some, wr_same, wr_cell, wr_slot, ne_eq, not_true_eq_false, not_false_eq_true, true_and, and_true, false_and, and_false, e10, e01, e00, if_true, if_false, Bool.false_eq_true, lit_ne, lit_lt, eq_self, e45, ho, e48, hx, hw, e46, han, hs, e47, hcm, c46]
      rw [hb]
      refine ⟨kOrd P e τ 1 (P 18 e) (pEv P e (τ 54)), ?_, kTo.rf, hg⟩
      rw [kOrd, hta, z_cl (by omega)]
      by_cases hk : (kCmd τ 1 (P 18 e) (pEv P e (τ 54))).1 = -1
      · rw [if_pos hk, if_pos hk]
      · rw [if_neg hk, if_neg hk]
    · have hw := ev_val hX hfr hi (pIe_end hE) hT (D + 4) (by omega)
      have hcm := m_command (D + 2) τ 2 (T 47 n) (pEv P e (τ 54)) i1 i2 i3 i7 (fun h => ⟨p, i4, i8 h⟩)
      have hg := kGood.cmd (P := P) (e := e) hta hr hI0 h0 2 0 (pEv P e (τ 54))
      have c46 : (kCmd τ 2 (T 47 n) (pEv P e (τ 54))).2 46 = T 46 := kT (kCmd_same _ _ _ hT) (by omega)
      rw [qX8_statement_38_134, kDo]
      simp (disch := omega) only [lt_litR, lt_litL, eq_litR, eq_litL, lt_nn, eq_nn, lt_n0, z_cl, add_lit, eq_m1, eq_m1', m1_lt, false_or, or_false, if_pos, if_neg, zbI_some, zbV_some, wr_same, wr_cell, wr_slot, ne_eq, not_true_eq_false, not_false_eq_true, true_and, and_true, false_and, and_false, e10, e01, e00, if_true, if_false, Bool.false_eq_true, lit_ne, lit_lt, eq_self, e45, ho, e48, hx, hw, e46, han, hs, e47, hcm, c46]
      rw [hb]
      refine ⟨kOrd P e τ 2 0 (pEv P e (τ 54)), ?_, kTo.rf, hg⟩
      rw [kOrd, hta, z_cl (by omega)]
      by_cases hk : (kCmd τ 2 0 (pEv P e (τ 54))).1 = -1
      · rw [if_pos hk, if_pos hk]
      · rw [if_neg hk, if_neg hk]
    · have h1 : ∀ τ, kDo P e τ = kWai P e τ (T 45 n) (T 47 n) (T 48 n) := by
        intro τ
        rw [kDo, hs, ho, hb]
        simp (disch := omega) only [lt_litR, lt_litL, eq_litR, eq_litL, lt_nn, eq_nn, lt_n0, z_cl, add_lit, eq_m1, eq_m1', m1_lt, false_or, or_false, if_pos, if_neg, zbI_some, zbV_some, wr_same, wr_cell, wr_slot, ne_eq, not_true_eq_false, not_false_eq_true, true_and, and_true, false_and, and_false, e10, e01, e00, if_true, if_false, Bool.false_eq_true, lit_ne, lit_lt, eq_self, kWai, kRdy]
      obtain ⟨t, t1, t2, t3⟩ := m_waits P D e n r T (x := x) (y := 0) hn hr hta han (Or.inl ⟨ho, by rw [hb, hx2], hx⟩) h1 (by rw [hso, hs]; decide) (by rw [hso, hs]; decide) hI0 h0 hT hM
      rw [qX8_statement_38_250]
      refine ⟨by rw [hs]; decide, by rw [hs]; decide, t, ?_, t2, t3⟩
      simp (disch := omega) only [lt_litR, lt_litL, eq_litR, eq_litL, lt_nn, eq_nn, lt_n0, z_cl, add_lit, eq_m1, eq_m1', m1_lt, false_or, or_false, if_pos, if_neg, zbI_some, zbV_some, wr_same, wr_cell, wr_slot, ne_eq, not_true_eq_false, not_false_eq_true, true_and, and_true, false_and, and_false, e10, e01, e00, if_true, if_false, Bool.false_eq_true, lit_ne, lit_lt, eq_self, e45, ho, t1]
    · have h1 : ∀ τ, kDo P e τ = kWai P e τ (T 45 n) (T 47 n) (T 48 n) := by
        intro τ
        rw [kDo, hs, ho, hb, hc]
        simp (disch := omega) only [lt_litR, lt_litL, eq_litR, eq_litL, lt_nn, eq_nn, lt_n0, z_cl, add_lit, eq_m1, eq_m1', m1_lt, false_or, or_false, if_pos, if_neg, zbI_some, zbV_some, wr_same, wr_cell, wr_slot, ne_eq, not_true_eq_false, not_false_eq_true, true_and, and_true, false_and, and_false, e10, e01, e00, if_true, if_false, Bool.false_eq_true, lit_ne, lit_lt, eq_self]
      obtain ⟨t, t1, t2, t3⟩ := m_waits P D e n r T (x := x) (y := y) hn hr hta han (Or.inr (Or.inr ⟨ho, by rw [hb, hx2], hx, by rw [hc, hy2], hy⟩)) h1 (by rw [hso, hs]; decide) (by rw [hso, hs]; decide) hI0 h0 hT hM
      rw [qX8_statement_38_250]
      refine ⟨by rw [hs]; decide, by rw [hs]; decide, t, ?_, t2, t3⟩
      simp (disch := omega) only [lt_litR, lt_litL, eq_litR, eq_litL, lt_nn, eq_nn, lt_n0, z_cl, add_lit, eq_m1, eq_m1', m1_lt, false_or, or_false, if_pos, if_neg, zbI_some, zbV_some, wr_same, wr_cell, wr_slot, ne_eq, not_true_eq_false, not_false_eq_true, true_and, and_true, false_and, and_false, e10, e01, e00, if_true, if_false, Bool.false_eq_true, lit_ne, lit_lt, eq_self, e45, ho, t1]
    · have hdn := m_isDone (D + 3) τ (τ 54 x) i3 i4 i5 (by omega)
      rw [qX8_statement_38_194, kDo]
      simp (disch := omega) only [lt_litR, lt_litL, eq_litR, eq_litL, lt_nn, eq_nn, lt_n0, z_cl, add_lit, eq_m1, eq_m1', m1_lt, false_or, or_false, if_pos, if_neg, zbI_some, zbV_some, wr_same, wr_cell, wr_slot, ne_eq, not_true_eq_false, not_false_eq_true, true_and, and_true, false_and, and_false, e10, e01, e00, if_true, if_false, Bool.false_eq_true, lit_ne, lit_lt, eq_self, e45, ho, e47, hb, hx2, e46, han, hs, hta, hdn]
      obtain ⟨h5, h6⟩ := hI0.cong (τ' := wr τ 38 44 ((kDone τ (τ 54 x)).getD (-2))) (fun k hk => wr_slot _ _ _ (by omega))
      refine ⟨_, ?_, kTo.rf, (kGood.w54 h5 _ _ (by rw [wr_slot _ _ _ (by omega), h0])).up (Nat.le_of_eq h6)⟩
      cases kDone τ (τ 54 x) with
      | none => simp
      | some g => simp
    · have h1 : ∀ τ, kDo P e τ = kWai P e τ (T 45 n) (T 47 n) (T 48 n) := by
        intro τ
        rw [kDo, hs, ho]
        simp (disch := omega) only [lt_litR, lt_litL, eq_litR, eq_litL, lt_nn, eq_nn, lt_n0, z_cl, add_lit, eq_m1, eq_m1', m1_lt, false_or, or_false, if_pos, if_neg, zbI_some, zbV_some, wr_same, wr_cell, wr_slot, ne_eq, not_true_eq_false, not_false_eq_true, true_and, and_true, false_and, and_false, e10, e01, e00, if_true, if_false, Bool.false_eq_true, lit_ne, lit_lt, eq_self, kWai, kRdy]
      obtain ⟨t, t1, t2, t3⟩ := m_waits P D e n r T (x := 0) (y := 0) hn hr hta han (Or.inr (Or.inl ho)) h1 (by rw [hso, hs]; decide) (by rw [hso, hs]; decide) hI0 h0 hT hM
      rw [qX8_statement_38_250]
      refine ⟨by rw [hs]; decide, by rw [hs]; decide, t, ?_, t2, t3⟩
      simp (disch := omega) only [lt_litR, lt_litL, eq_litR, eq_litL, lt_nn, eq_nn, lt_n0, z_cl, add_lit, eq_m1, eq_m1', m1_lt, false_or, or_false, if_pos, if_neg, zbI_some, zbV_some, wr_same, wr_cell, wr_slot, ne_eq, not_true_eq_false, not_false_eq_true, true_and, and_true, false_and, and_false, e10, e01, e00, if_true, if_false, Bool.false_eq_true, lit_ne, lit_lt, eq_self, e45, ho, t1]
    · rw [qX8_statement_38_229, kDo]
      simp (disch := omega) only [lt_litR, lt_litL, eq_litR, eq_litL, lt_nn, eq_nn, lt_n0, z_cl, add_lit, eq_m1, eq_m1', m1_lt, false_or, or_false, if_pos, if_neg, zbI_some, zbV_some, wr_same, wr_cell, wr_slot, ne_eq, not_true_eq_false, not_false_eq_true, true_and, and_true, false_and, and_false, e10, e01, e00, if_true, if_false, Bool.false_eq_true, lit_ne, lit_lt, eq_self, e45, ho, e46, han, hs, hta, i5]
      exact ⟨_, rfl, kTo.rf, kGood.w54 hI0 _ _ h0⟩
    · obtain ⟨t1, t2⟩ := m_patch P T (D + 1) e n r hn hr hta han hb hI0 h0 hT
      rw [qX8_statement_38_188, kDo]
      simp (disch := omega) only [lt_litR, lt_litL, eq_litR, eq_litL, lt_nn, eq_nn, lt_n0, z_cl, add_lit, eq_m1, eq_m1', m1_lt, false_or, or_false, if_pos, if_neg, zbI_some, zbV_some, wr_same, wr_cell, wr_slot, ne_eq, not_true_eq_false, not_false_eq_true, true_and, and_true, false_and, and_false, e10, e01, e00, if_true, if_false, Bool.false_eq_true, lit_ne, lit_lt, eq_self, e45, ho, hs, t1]
      exact ⟨_, rfl, kTo.rf, t2⟩
  · have hw := ev_val hX hfr hi (pIe_end hE) hT (D + 4) (by omega)
    obtain ⟨t, t1, t2, t3⟩ := m_stop P D e (pEv P e (τ 54)) hI0 h0 hM
    rw [qX8_statement_38_119, kDo]
    simp (disch := omega) only [lt_litR, lt_litL, eq_litR, eq_litL, lt_nn, eq_nn, lt_n0, z_cl, add_lit, eq_m1, eq_m1', m1_lt, false_or, or_false, if_pos, if_neg, zbI_some, zbV_some, wr_same, wr_cell, wr_slot, ne_eq, not_true_eq_false, not_false_eq_true, true_and, and_true, false_and, and_false, e10, e01, e00, if_true, if_false, Bool.false_eq_true, lit_ne, lit_lt, eq_self, e45, ho, e46, hx, hw, hs, t1]
    exact ⟨t, rfl, t2, kGood.halt t3⟩
  · have hE1 : pEnd P (e + 1) j := by
      refine Chain_end hc1 ⟨hj1, Or.inl ⟨?_, hfr1⟩⟩
      have := Chain_le (fun _ _ _ _ _ h => RepS_lt h) hc2
      omega
    have hw := ev_val hX hfr hi (pIe_end hE1) hT (D + 4) (by omega)
    have hc2' := Chain_le (fun _ _ _ _ _ h => RepS_lt h) hc2
    have hc1' := Chain_le (fun _ _ _ _ _ h => RepS_lt h) hc1
    rw [qX8_statement_38_86, kDo]
    by_cases hv : pEv P e (τ 54) = 0
    · obtain ⟨t, t1, t2, t3⟩ := hk (D + 4) (by omega) l2 _ _ _ _ _ τ nn p b s hc2 hE hI0 h0 hT hM
      simp (disch := omega) only [lt_litR, lt_litL, eq_litR, eq_litL, lt_nn, eq_nn, lt_n0, z_cl, add_lit, eq_m1, eq_m1', m1_lt, false_or, or_false, if_pos, if_neg, zbI_some, zbV_some, wr_same, wr_cell, wr_slot, ne_eq, not_true_eq_false, not_false_eq_true, true_and, and_true, false_and, and_false, e10, e01, e00, if_true, if_false, Bool.false_eq_true, lit_ne, lit_lt, eq_self, e45, ho, e46, e48, hx, hw, hs, eq_true hv, hfe, t1]
      exact ⟨t, rfl, t2, t3⟩
    · obtain ⟨t, t1, t2, t3⟩ := hk (D + 4) (by omega) l1 _ _ _ _ _ τ nn p b s hc1 ⟨hj1, Or.inl ⟨by omega, hfr1⟩⟩ hI0 h0 hT hM
      simp (disch := omega) only [lt_litR, lt_litL, eq_litR, eq_litL, lt_nn, eq_nn, lt_n0, z_cl, add_lit, eq_m1, eq_m1', m1_lt, false_or, or_false, if_pos, if_neg, zbI_some, zbV_some, wr_same, wr_cell, wr_slot, ne_eq, not_true_eq_false, not_false_eq_true, true_and, and_true, false_and, and_false, e10, e01, e00, if_true, if_false, Bool.false_eq_true, lit_ne, lit_lt, eq_self, e45, ho, e46, e47, hx, hw, hs, hv, t1]
      by_cases hh : t.2.2 38 31 = 0
      · obtain ⟨g1, g2, g3, g4⟩ := t3 hh
        obtain ⟨te, tw, tt⟩ := t
        simp only at g1 g2 g3 g4 hh
        subst g1 g2
        refine ⟨(e', 0, tt), rfl, t2.tr (kTo.turn hh ?_), fun _ => ⟨rfl, rfl, g3, g4⟩⟩
        rw [kTurn, if_pos (by rw [pSo_in (by omega), hs1]), hf1, z_cl (by omega)]
        exact kTo.rf
      · exact ⟨t, rfl, t2, kGood.halt hh⟩
  · exact absurd ho hL
