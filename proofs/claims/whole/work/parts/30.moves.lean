-- the reference's run, a move at a time: words
def kApp (τ : zS) (k r v : Int32) : zS := wr (wr (wr (wr (wr τ 50 (τ 38 35).toNatClampNeg k) 51 (τ 38 35).toNatClampNeg r) 52 (τ 38 35).toNatClampNeg v) 38 35 (τ 38 35 + 1)) 38 33 (τ 38 35 + 1)
def kBeg (τ : zS) : zS := if τ 38 20 = 200 then wr τ 38 31 5 else kApp (wr (wr (wr τ 38 34 1) 38 32 (τ 38 20)) 38 35 (τ 38 20)) 0 0 (τ 38 39)
def kC (τ : zS) (p : Nat) : Bool := decide (nI p < τ 38 20 ∧ ¬ τ 50 p < 1 ∧ ¬ 4 < τ 50 p)
def kSkip : Nat → zS → zS
  | 0, τ => τ
  | f + 1, τ => if τ 38 33 < τ 38 20 ∧ ¬ τ 50 (τ 38 33).toNatClampNeg = 0 then kSkip f (wr τ 38 33 (τ 38 33 + 1)) else τ
def kGo2 (τ : zS) : zS := if τ 38 33 = τ 38 20 then (if τ 38 38 = 0 then kBeg (wr τ 38 36 0) else wr (wr τ 38 36 0) 38 31 4) else wr (wr (wr τ 38 36 0) 38 32 (τ 38 33)) 38 33 (τ 38 33 + 1)
def kGo (τ : zS) : zS := if τ 38 34 = 0 then (if kC τ (τ 38 33).toNatClampNeg then wr (wr τ 38 31 2) 38 40 (τ 38 33) else kGo2 (kSkip 201 τ)) else wr τ 38 31 9
def kCmd (τ : zS) (k r v : Int32) : Int32 × zS := if τ 38 34 = 0 then (if kC τ (τ 38 33).toNatClampNeg ∧ τ 50 (τ 38 33).toNatClampNeg = k ∧ τ 51 (τ 38 33).toNatClampNeg = r ∧ τ 52 (τ 38 33).toNatClampNeg = v then (τ 38 33, wr τ 38 33 (τ 38 33 + 1)) else (-1, wr (wr τ 38 31 2) 38 40 (τ 38 33))) else (if τ 38 35 = 200 then (-1, wr τ 38 31 5) else (τ 38 35, kApp τ k r v))
/-- what the end of e gave, looked for at k and on -/
def kEnd (τ : zS) (e : Int32) : Nat → Nat → Option Int32
  | 0, _ => none
  | c + 1, k => if ¬ τ 50 k < 5 ∧ ¬ 7 < τ 50 k ∧ τ 51 k = e then some (if τ 50 k = 5 then τ 52 k else if τ 50 k = 6 then -1 else 0) else kEnd τ e c (k + 1)
def kDone (τ : zS) (e : Int32) : Option Int32 := if ¬ e < 0 ∧ e < τ 38 33 ∧ (τ 50 e.toNatClampNeg = 1 ∨ τ 50 e.toNatClampNeg = 2) then kEnd τ e ((τ 38 32).toNatClampNeg - (e.toNatClampNeg + 1)) (e.toNatClampNeg + 1) else some (-2)
def kSig (τ : zS) : Nat → Nat → Nat → Option Int32
  | 0, _, _ => none
  | c + 1, m, k => if τ 50 k = 8 then (if nI m = τ 38 37 then some (τ 52 k) else kSig τ c (m + 1) (k + 1)) else kSig τ c m (k + 1)
/-- is a wait over: WAIT 9, SIG 5, ANY 3 -/
def kRdy (τ : zS) (o x y : Int32) : Bool × zS :=
  if o = 9 then ((kDone τ (τ 54 x.toNatClampNeg)).isSome, wr τ 38 44 ((kDone τ (τ 54 x.toNatClampNeg)).getD (-2)))
  else if o = 5 then (match kSig τ (τ 38 32).toNatClampNeg 0 0 with
    | some g => (true, wr τ 38 44 g)
    | none => (false, τ))
  else if (kDone τ (τ 54 x.toNatClampNeg)).isSome then (true, wr τ 38 44 1) else ((kDone τ (τ 54 y.toNatClampNeg)).isSome, wr τ 38 44 2)
-- the reference's methods are these
theorem wr_wr (σ : zS) (c k : Nat) (v w : Int32) : wr (wr σ c k v) c k w = wr σ c k w := by
  funext d j
  by_cases h : d = c
  · subst h
    by_cases h2 : j = k
    · subst h2; rw [wr_same, wr_same]
    · rw [wr_slot _ _ _ h2, wr_slot _ _ _ h2, wr_slot _ _ _ h2]
  · rw [wr_cell _ _ _ h, wr_cell _ _ _ h, wr_cell _ _ _ h]
theorem wr_id (σ : zS) (c k : Nat) : wr σ c k (σ c k) = σ := by
  funext d j
  by_cases h : d = c
  · subst h
    by_cases h2 : j = k
    · subst h2; rw [wr_same]
    · rw [wr_slot _ _ _ h2]
  · rw [wr_cell _ _ _ h]
theorem add0 (x : Int32) : x + 0 = x := Int32.add_zero x
theorem sub_11 (x : Int32) : x + 1 - 1 = x := Int32.add_sub_cancel x 1
theorem m_append (d : Nat) (τ : zS) (k r v : Int32) {t : Nat} (h : τ 38 35 = nI t) (ht : t ≤ 200) : zM (d + 1) mX8_append [.inr (.inr 38), .inl k, .inl r, .inl v] τ = some (0, 0, kApp τ k r v) := by
  rw [qX8_append_38, qX8_append_38_0, kApp]
  simp (disch := omega) only [lt_litR, lt_litL, eq_litR, eq_litL, lt_nn, eq_nn, lt_n0, z_cl, add_lit, eq_m1, eq_m1', m1_lt, false_or, or_false, if_pos, if_neg, zbI_some, zbV_some, wr_same, wr_cell, wr_slot, ne_eq, not_true_eq_false, not_false_eq_true, true_and, and_true, false_and, and_false, e10, e01, e00, if_true, if_false, Bool.false_eq_true, lit_ne, lit_lt, eq_self, h]
theorem m_begins (d : Nat) (τ : zS) {n : Nat} (h : τ 38 20 = nI n) (hn : n ≤ 200) : zM (d + 2) mX8_begins [.inr (.inr 38)] τ = some (0, 0, kBeg τ) := by
  rw [qX8_begins_38, qX8_begins_38_0, kBeg]
  by_cases h2 : n = 200
  · simp (disch := omega) only [lt_litR, lt_litL, eq_litR, eq_litL, lt_nn, eq_nn, lt_n0, z_cl, add_lit, eq_m1, eq_m1', m1_lt, false_or, or_false, if_pos, if_neg, zbI_some, zbV_some, wr_same, wr_cell, wr_slot, ne_eq, not_true_eq_false, not_false_eq_true, true_and, and_true, false_and, and_false, e10, e01, e00, if_true, if_false, Bool.false_eq_true, lit_ne, lit_lt, eq_self, h, h2]
  · rw [m_append (t := n) _ _ _ _ _ (by rw [wr_same, h]) hn]
    simp (disch := omega) only [lt_litR, lt_litL, eq_litR, eq_litL, lt_nn, eq_nn, lt_n0, z_cl, add_lit, eq_m1, eq_m1', m1_lt, false_or, or_false, if_pos, if_neg, zbI_some, zbV_some, wr_same, wr_cell, wr_slot, ne_eq, not_true_eq_false, not_false_eq_true, true_and, and_true, false_and, and_false, e10, e01, e00, if_true, if_false, Bool.false_eq_true, lit_ne, lit_lt, eq_self, h, h2]
theorem m_isCommand (d : Nat) (τ : zS) {n p : Nat} (h : τ 38 20 = nI n) (hn : n ≤ 200) (hp : p ≤ 201) : zM (d + 1) mX8_isCommand [.inr (.inr 38), .inl (nI p)] τ = some (1, if kC τ p then 1 else 0, τ) := by
  rw [qX8_isCommand_38, qX8_isCommand_38_0]
  by_cases h1 : p < n
  · by_cases h2 : τ 50 p < 1
    · simp (disch := omega) only [lt_litR, lt_litL, eq_litR, eq_litL, lt_nn, eq_nn, lt_n0, z_cl, add_lit, eq_m1, eq_m1', m1_lt, false_or, or_false, if_pos, if_neg, zbI_some, zbV_some, wr_same, wr_cell, wr_slot, ne_eq, not_true_eq_false, not_false_eq_true, true_and, and_true, false_and, and_false, e10, e01, e00, if_true, if_false, Bool.false_eq_true, lit_ne, lit_lt, eq_self, kC, decide_eq_true_eq, h, h1, h2]
    · by_cases h3 : 4 < τ 50 p
      · simp (disch := omega) only [lt_litR, lt_litL, eq_litR, eq_litL, lt_nn, eq_nn, lt_n0, z_cl, add_lit, eq_m1, eq_m1', m1_lt, false_or, or_false, if_pos, if_neg, zbI_some, zbV_some, wr_same, wr_cell, wr_slot, ne_eq, not_true_eq_false, not_false_eq_true, true_and, and_true, false_and, and_false, e10, e01, e00, if_true, if_false, Bool.false_eq_true, lit_ne, lit_lt, eq_self, kC, decide_eq_true_eq, h, h1, h2, h3]
      · simp (disch := omega) only [lt_litR, lt_litL, eq_litR, eq_litL, lt_nn, eq_nn, lt_n0, z_cl, add_lit, eq_m1, eq_m1', m1_lt, false_or, or_false, if_pos, if_neg, zbI_some, zbV_some, wr_same, wr_cell, wr_slot, ne_eq, not_true_eq_false, not_false_eq_true, true_and, and_true, false_and, and_false, e10, e01, e00, if_true, if_false, Bool.false_eq_true, lit_ne, lit_lt, eq_self, kC, decide_eq_true_eq, h, h1, h2, h3]
  · simp (disch := omega) only [lt_litR, lt_litL, eq_litR, eq_litL, lt_nn, eq_nn, lt_n0, z_cl, add_lit, eq_m1, eq_m1', m1_lt, false_or, or_false, if_pos, if_neg, zbI_some, zbV_some, wr_same, wr_cell, wr_slot, ne_eq, not_true_eq_false, not_false_eq_true, true_and, and_true, false_and, and_false, e10, e01, e00, if_true, if_false, Bool.false_eq_true, lit_ne, lit_lt, eq_self, kC, decide_eq_true_eq, h, h1]
theorem m_step (d : Nat) (τ : zS) : zM (d + 1) mX8_step [.inr (.inr 38)] τ = if 1000 < ((τ 38 36) + 1) then (some (1, 0, wr (wr τ 38 36 ((τ 38 36) + 1)) 38 31 3)) else (if (τ 38 31) = 0 then (some (1, 1, wr τ 38 36 ((τ 38 36) + 1))) else (some (1, 0, wr τ 38 36 ((τ 38 36) + 1)))) := by
  rw [qX8_step_38, qX8_step_38_0]

theorem kSkip_stop {f : Nat} {τ : zS} (h : ¬ (τ 38 33 < τ 38 20 ∧ ¬ τ 50 (τ 38 33).toNatClampNeg = 0)) : kSkip f τ = τ := by
  cases f with
  | zero => rfl
  | succ f => rw [kSkip, if_neg h]
theorem m_goLoop (d : Nat) : ∀ (f m : Nat) (τ : zS) (n p : Nat), τ 38 20 = nI n → n ≤ 200 → τ 38 33 = nI p → p ≤ n → n - p ≤ f → f < m → zexec zc_X8_goOn zu_X8_goOn (zM (d + 2)) m 39 [.inr (.inr 38)] τ = some (0, 0, kGo2 (kSkip f τ)) := by
  intro f
  induction f with
  | zero =>
    intro m τ n p h hn hp hpn hf hm
    obtain ⟨m, rfl⟩ : ∃ k, m = k + 1 := ⟨m - 1, by omega⟩
    obtain rfl : p = n := by omega
    rw [qX8_goOn_38_39, kSkip, kGo2]
    by_cases h2 : τ 38 38 = 0
    · rw [m_begins (n := p) d _ (by rw [wr_slot _ _ _ (by omega), h]) hn]
      simp (disch := omega) only [lt_litR, lt_litL, eq_litR, eq_litL, lt_nn, eq_nn, lt_n0, z_cl, add_lit, eq_m1, eq_m1', m1_lt, false_or, or_false, if_pos, if_neg, zbI_some, zbV_some, wr_same, wr_cell, wr_slot, ne_eq, not_true_eq_false, not_false_eq_true, true_and, and_true, false_and, and_false, e10, e01, e00, if_true, if_false, Bool.false_eq_true, lit_ne, lit_lt, eq_self, h, hp, h2]
    · simp (disch := omega) only [lt_litR, lt_litL, eq_litR, eq_litL, lt_nn, eq_nn, lt_n0, z_cl, add_lit, eq_m1, eq_m1', m1_lt, false_or, or_false, if_pos, if_neg, zbI_some, zbV_some, wr_same, wr_cell, wr_slot, ne_eq, not_true_eq_false, not_false_eq_true, true_and, and_true, false_and, and_false, e10, e01, e00, if_true, if_false, Bool.false_eq_true, lit_ne, lit_lt, eq_self, h, hp, h2]
  | succ f ih =>
    intro m τ n p h hn hp hpn hf hm
    obtain ⟨m, rfl⟩ : ∃ k, m = k + 1 := ⟨m - 1, by omega⟩
    rw [qX8_goOn_38_39]
    by_cases h1 : p < n
    · by_cases h3 : τ 50 p = 0
      · rw [kSkip_stop (by simp (disch := omega) only [lt_litR, lt_litL, eq_litR, eq_litL, lt_nn, eq_nn, lt_n0, z_cl, add_lit, eq_m1, eq_m1', m1_lt, false_or, or_false, if_pos, if_neg, zbI_some, zbV_some, wr_same, wr_cell, wr_slot, ne_eq, not_true_eq_false, not_false_eq_true, true_and, and_true, false_and, and_false, e10, e01, e00, if_true, if_false, Bool.false_eq_true, lit_ne, lit_lt, eq_self, h, hp, h3])]
        rw [kGo2]
        simp (disch := omega) only [lt_litR, lt_litL, eq_litR, eq_litL, lt_nn, eq_nn, lt_n0, z_cl, add_lit, eq_m1, eq_m1', m1_lt, false_or, or_false, if_pos, if_neg, zbI_some, zbV_some, wr_same, wr_cell, wr_slot, ne_eq, not_true_eq_false, not_false_eq_true, true_and, and_true, false_and, and_false, e10, e01, e00, if_true, if_false, Bool.false_eq_true, lit_ne, lit_lt, eq_self, h, hp, h1, h3]
      · rw [ih m (wr τ 38 33 (τ 38 33 + 1)) n (p + 1) (by simp (disch := omega) only [lt_litR, lt_litL, eq_litR, eq_litL, lt_nn, eq_nn, lt_n0, z_cl, add_lit, eq_m1, eq_m1', m1_lt, false_or, or_false, if_pos, if_neg, zbI_some, zbV_some, wr_same, wr_cell, wr_slot, ne_eq, not_true_eq_false, not_false_eq_true, true_and, and_true, false_and, and_false, e10, e01, e00, if_true, if_false, Bool.false_eq_true, lit_ne, lit_lt, eq_self, h]) hn (by simp (disch := omega) only [lt_litR, lt_litL, eq_litR, eq_litL, lt_nn, eq_nn, lt_n0, z_cl, add_lit, eq_m1, eq_m1', m1_lt, false_or, or_false, if_pos, if_neg, zbI_some, zbV_some, wr_same, wr_cell, wr_slot, ne_eq, not_true_eq_false, not_false_eq_true, true_and, and_true, false_and, and_false, e10, e01, e00, if_true, if_false, Bool.false_eq_true, lit_ne, lit_lt, eq_self, hp]) (by omega) (by omega) (by omega), kSkip]
        simp (disch := omega) only [lt_litR, lt_litL, eq_litR, eq_litL, lt_nn, eq_nn, lt_n0, z_cl, add_lit, eq_m1, eq_m1', m1_lt, false_or, or_false, if_pos, if_neg, zbI_some, zbV_some, wr_same, wr_cell, wr_slot, ne_eq, not_true_eq_false, not_false_eq_true, true_and, and_true, false_and, and_false, e10, e01, e00, if_true, if_false, Bool.false_eq_true, lit_ne, lit_lt, eq_self, h, hp, h1, h3]
    · obtain rfl : p = n := by omega
      rw [kSkip_stop (by simp (disch := omega) only [lt_litR, lt_litL, eq_litR, eq_litL, lt_nn, eq_nn, lt_n0, z_cl, add_lit, eq_m1, eq_m1', m1_lt, false_or, or_false, if_pos, if_neg, zbI_some, zbV_some, wr_same, wr_cell, wr_slot, ne_eq, not_true_eq_false, not_false_eq_true, true_and, and_true, false_and, and_false, e10, e01, e00, if_true, if_false, Bool.false_eq_true, lit_ne, lit_lt, eq_self, h, hp, Nat.lt_irrefl]), kGo2]
      by_cases h2 : τ 38 38 = 0
      · rw [m_begins (n := p) d _ (by rw [wr_slot _ _ _ (by omega), h]) hn]
        simp (disch := omega) only [lt_litR, lt_litL, eq_litR, eq_litL, lt_nn, eq_nn, lt_n0, z_cl, add_lit, eq_m1, eq_m1', m1_lt, false_or, or_false, if_pos, if_neg, zbI_some, zbV_some, wr_same, wr_cell, wr_slot, ne_eq, not_true_eq_false, not_false_eq_true, true_and, and_true, false_and, and_false, e10, e01, e00, if_true, if_false, Bool.false_eq_true, lit_ne, lit_lt, eq_self, h, hp, h2]
      · simp (disch := omega) only [lt_litR, lt_litL, eq_litR, eq_litL, lt_nn, eq_nn, lt_n0, z_cl, add_lit, eq_m1, eq_m1', m1_lt, false_or, or_false, if_pos, if_neg, zbI_some, zbV_some, wr_same, wr_cell, wr_slot, ne_eq, not_true_eq_false, not_false_eq_true, true_and, and_true, false_and, and_false, e10, e01, e00, if_true, if_false, Bool.false_eq_true, lit_ne, lit_lt, eq_self, h, hp, h2]
theorem m_goOn (d : Nat) (τ : zS) {n p : Nat} (h : τ 38 20 = nI n) (hn : n ≤ 200) (hp : τ 38 33 = nI p) (hpn : τ 38 34 = 0 → p ≤ n) : zM (d + 3) mX8_goOn [.inr (.inr 38)] τ = some (0, 0, kGo τ) := by
  rw [qX8_goOn_38, qX8_goOn_38_0, kGo]
  by_cases hl : τ 38 34 = 0
  · have h5 := hpn hl
    rw [hp, m_isCommand (n := n) _ _ h hn (by omega), z_cl (by omega)]
    by_cases hc : kC τ p
    · simp only [hl, hc, zbI_some, if_true, e10, if_false, hp]
    · simp only [hl, hc, zbI_some, if_true, e00, if_false, Bool.false_eq_true]
      rw [m_goLoop d 201 _ τ n p h hn hp h5 (by omega) (by omega)]
  · simp only [hl, if_false]

theorem m_command (d : Nat) (τ : zS) (k r v : Int32) {n p : Nat} (h : τ 38 20 = nI n) (hn : n ≤ 200) (hp : τ 38 33 = nI p) (hpn : τ 38 34 = 0 → p ≤ n) (hlv : ¬ τ 38 34 = 0 → ∃ t : Nat, t ≤ 200 ∧ τ 38 35 = nI t) : zM (d + 2) mX8_command [.inr (.inr 38), .inl k, .inl r, .inl v] τ = some (1, (kCmd τ k r v).1, (kCmd τ k r v).2) := by
  rw [qX8_command_38, qX8_command_38_0, kCmd]
  by_cases hl : τ 38 34 = 0
  · have h5 := hpn hl
    rw [hp, m_isCommand (n := n) _ _ h hn (by omega), z_cl (by omega)]
    by_cases hc : kC τ p
    · have h6 : p < n := by
        have := hc
        simp only [kC, decide_eq_true_eq, h] at this
        exact (nI_ltI (by omega) (by omega)).mp this.1
      by_cases h1 : τ 50 p = k
      · by_cases h2 : τ 51 p = r
        · by_cases h3 : τ 52 p = v
          · simp (disch := omega) only [lt_litR, lt_litL, eq_litR, eq_litL, lt_nn, eq_nn, lt_n0, z_cl, add_lit, eq_m1, eq_m1', m1_lt, false_or, or_false, if_pos, if_neg, zbI_some, zbV_some, wr_same, wr_cell, wr_slot, ne_eq, not_true_eq_false, not_false_eq_true, true_and, and_true, false_and, and_false, e10, e01, e00, if_true, if_false, Bool.false_eq_true, lit_ne, lit_lt, eq_self, hl, hc, hp, h1, h2, h3, nI_pred]
          · simp (disch := omega) only [lt_litR, lt_litL, eq_litR, eq_litL, lt_nn, eq_nn, lt_n0, z_cl, add_lit, eq_m1, eq_m1', m1_lt, false_or, or_false, if_pos, if_neg, zbI_some, zbV_some, wr_same, wr_cell, wr_slot, ne_eq, not_true_eq_false, not_false_eq_true, true_and, and_true, false_and, and_false, e10, e01, e00, if_true, if_false, Bool.false_eq_true, lit_ne, lit_lt, eq_self, hl, hc, hp, h1, h2, h3]
        · simp (disch := omega) only [lt_litR, lt_litL, eq_litR, eq_litL, lt_nn, eq_nn, lt_n0, z_cl, add_lit, eq_m1, eq_m1', m1_lt, false_or, or_false, if_pos, if_neg, zbI_some, zbV_some, wr_same, wr_cell, wr_slot, ne_eq, not_true_eq_false, not_false_eq_true, true_and, and_true, false_and, and_false, e10, e01, e00, if_true, if_false, Bool.false_eq_true, lit_ne, lit_lt, eq_self, hl, hc, hp, h1, h2]
      · simp (disch := omega) only [lt_litR, lt_litL, eq_litR, eq_litL, lt_nn, eq_nn, lt_n0, z_cl, add_lit, eq_m1, eq_m1', m1_lt, false_or, or_false, if_pos, if_neg, zbI_some, zbV_some, wr_same, wr_cell, wr_slot, ne_eq, not_true_eq_false, not_false_eq_true, true_and, and_true, false_and, and_false, e10, e01, e00, if_true, if_false, Bool.false_eq_true, lit_ne, lit_lt, eq_self, hl, hc, hp, h1]
    · simp (disch := omega) only [lt_litR, lt_litL, eq_litR, eq_litL, lt_nn, eq_nn, lt_n0, z_cl, add_lit, eq_m1, eq_m1', m1_lt, false_or, or_false, if_pos, if_neg, zbI_some, zbV_some, wr_same, wr_cell, wr_slot, ne_eq, not_true_eq_false, not_false_eq_true, true_and, and_true, false_and, and_false, e10, e01, e00, if_true, if_false, Bool.false_eq_true, lit_ne, lit_lt, eq_self, hl, hc, hp]
  · obtain ⟨t, ht, htt⟩ := hlv hl
    rw [m_append (t := t) _ _ _ _ _ htt ht]
    by_cases h1 : t = 200
    · simp (disch := omega) only [lt_litR, lt_litL, eq_litR, eq_litL, lt_nn, eq_nn, lt_n0, z_cl, add_lit, eq_m1, eq_m1', m1_lt, false_or, or_false, if_pos, if_neg, zbI_some, zbV_some, wr_same, wr_cell, wr_slot, ne_eq, not_true_eq_false, not_false_eq_true, true_and, and_true, false_and, and_false, e10, e01, e00, if_true, if_false, Bool.false_eq_true, lit_ne, lit_lt, eq_self, hl, htt, h1]
    · simp (disch := omega) only [lt_litR, lt_litL, eq_litR, eq_litL, lt_nn, eq_nn, lt_n0, z_cl, add_lit, eq_m1, eq_m1', m1_lt, false_or, or_false, if_pos, if_neg, zbI_some, zbV_some, wr_same, wr_cell, wr_slot, ne_eq, not_true_eq_false, not_false_eq_true, true_and, and_true, false_and, and_false, e10, e01, e00, if_true, if_false, Bool.false_eq_true, lit_ne, lit_lt, eq_self, hl, htt, h1, kApp, nI_pred]
theorem m_doneLoop (d : Nat) : ∀ (f m : Nat) (τ : zS) (e : Int32) (b k : Nat), τ 38 32 = nI b → b ≤ 201 → k ≤ 300 → b - k = f → f < m → zexec zc_X8_isDone zu_X8_isDone (zM d) m 44 [.inr (.inr 38), .inl e, .inl (nI k)] τ = match kEnd τ e f k with
    | some g => some (1, 1, wr τ 38 44 g)
    | none => some (1, 0, τ) := by
  intro f
  induction f with
  | zero =>
    intro m τ e b k h hb hk hf hm
    obtain ⟨m, rfl⟩ : ∃ k, m = k + 1 := ⟨m - 1, by omega⟩
    rw [qX8_isDone_38_44, kEnd]
    simp (disch := omega) only [lt_litR, lt_litL, eq_litR, eq_litL, lt_nn, eq_nn, lt_n0, z_cl, add_lit, eq_m1, eq_m1', m1_lt, false_or, or_false, if_pos, if_neg, zbI_some, zbV_some, wr_same, wr_cell, wr_slot, ne_eq, not_true_eq_false, not_false_eq_true, true_and, and_true, false_and, and_false, e10, e01, e00, if_true, if_false, Bool.false_eq_true, lit_ne, lit_lt, eq_self, h]
  | succ f ih =>
    intro m τ e b k h hb hk hf hm
    obtain ⟨m, rfl⟩ : ∃ k, m = k + 1 := ⟨m - 1, by omega⟩
    rw [qX8_isDone_38_44, kEnd]
    have hih := ih m τ e b (k + 1) h hb (by omega) (by omega) (by omega)
    by_cases h1 : τ 50 k < 5
    · simp (disch := omega) only [lt_litR, lt_litL, eq_litR, eq_litL, lt_nn, eq_nn, lt_n0, z_cl, add_lit, eq_m1, eq_m1', m1_lt, false_or, or_false, if_pos, if_neg, zbI_some, zbV_some, wr_same, wr_cell, wr_slot, ne_eq, not_true_eq_false, not_false_eq_true, true_and, and_true, false_and, and_false, e10, e01, e00, if_true, if_false, Bool.false_eq_true, lit_ne, lit_lt, eq_self, h, h1, hih]
    · by_cases h2 : 7 < τ 50 k
      · simp (disch := omega) only [lt_litR, lt_litL, eq_litR, eq_litL, lt_nn, eq_nn, lt_n0, z_cl, add_lit, eq_m1, eq_m1', m1_lt, false_or, or_false, if_pos, if_neg, zbI_some, zbV_some, wr_same, wr_cell, wr_slot, ne_eq, not_true_eq_false, not_false_eq_true, true_and, and_true, false_and, and_false, e10, e01, e00, if_true, if_false, Bool.false_eq_true, lit_ne, lit_lt, eq_self, h, h1, h2, hih]
      · by_cases h3 : τ 51 k = e
        · by_cases h4 : τ 50 k = 5
          · simp (disch := omega) only [lt_litR, lt_litL, eq_litR, eq_litL, lt_nn, eq_nn, lt_n0, z_cl, add_lit, eq_m1, eq_m1', m1_lt, false_or, or_false, if_pos, if_neg, zbI_some, zbV_some, wr_same, wr_cell, wr_slot, ne_eq, not_true_eq_false, not_false_eq_true, true_and, and_true, false_and, and_false, e10, e01, e00, if_true, if_false, Bool.false_eq_true, lit_ne, lit_lt, eq_self, h, h1, h2, eq_true h3, eq_true h4]
          · by_cases h5 : τ 50 k = 6
            · simp (disch := omega) only [lt_litR, lt_litL, eq_litR, eq_litL, lt_nn, eq_nn, lt_n0, z_cl, add_lit, eq_m1, eq_m1', m1_lt, false_or, or_false, if_pos, if_neg, zbI_some, zbV_some, wr_same, wr_cell, wr_slot, ne_eq, not_true_eq_false, not_false_eq_true, true_and, and_true, false_and, and_false, e10, e01, e00, if_true, if_false, Bool.false_eq_true, lit_ne, lit_lt, eq_self, h, h1, h2, eq_true h3, h4, eq_true h5]
            · simp (disch := omega) only [lt_litR, lt_litL, eq_litR, eq_litL, lt_nn, eq_nn, lt_n0, z_cl, add_lit, eq_m1, eq_m1', m1_lt, false_or, or_false, if_pos, if_neg, zbI_some, zbV_some, wr_same, wr_cell, wr_slot, ne_eq, not_true_eq_false, not_false_eq_true, true_and, and_true, false_and, and_false, e10, e01, e00, if_true, if_false, Bool.false_eq_true, lit_ne, lit_lt, eq_self, h, h1, h2, eq_true h3, h4, h5]
        · simp (disch := omega) only [lt_litR, lt_litL, eq_litR, eq_litL, lt_nn, eq_nn, lt_n0, z_cl, add_lit, eq_m1, eq_m1', m1_lt, false_or, or_false, if_pos, if_neg, zbI_some, zbV_some, wr_same, wr_cell, wr_slot, ne_eq, not_true_eq_false, not_false_eq_true, true_and, and_true, false_and, and_false, e10, e01, e00, if_true, if_false, Bool.false_eq_true, lit_ne, lit_lt, eq_self, h, h1, h2, h3, hih]
theorem kEnd_44 (τ : zS) (g e : Int32) : ∀ c k, kEnd (wr τ 38 44 g) e c k = kEnd τ e c k := by
  intro c
  induction c with
  | zero => intro k; rfl
  | succ c ih => intro k; rw [kEnd, kEnd, ih]; simp (disch := omega) only [lt_litR, lt_litL, eq_litR, eq_litL, lt_nn, eq_nn, lt_n0, z_cl, add_lit, eq_m1, eq_m1', m1_lt, false_or, or_false, if_pos, if_neg, zbI_some, zbV_some, wr_same, wr_cell, wr_slot, ne_eq, not_true_eq_false, not_false_eq_true, true_and, and_true, false_and, and_false, e10, e01, e00, if_true, if_false, Bool.false_eq_true, lit_ne, lit_lt, eq_self]
theorem m_isDone (d : Nat) (τ : zS) (e : Int32) {p b : Nat} (hp : τ 38 33 = nI p) (hp2 : p ≤ 200) (hb : τ 38 32 = nI b) (hb2 : b ≤ 201) : zM (d + 1) mX8_isDone [.inr (.inr 38), .inl e] τ = some (1, if (kDone τ e).isSome then 1 else 0, wr τ 38 44 ((kDone τ e).getD (-2))) := by
  rw [qX8_isDone_38, qX8_isDone_38_0, kDone]
  by_cases h1 : e < 0
  · simp [h1]
  · obtain ⟨j, hj, rfl⟩ := nI_of h1
    by_cases h2 : j < p
    · have hloop := m_doneLoop d (b - (j + 1)) 999999 (wr τ 38 44 (-2)) (nI j) b (j + 1) (by simp (disch := omega) only [lt_litR, lt_litL, eq_litR, eq_litL, lt_nn, eq_nn, lt_n0, z_cl, add_lit, eq_m1, eq_m1', m1_lt, false_or, or_false, if_pos, if_neg, zbI_some, zbV_some, wr_same, wr_cell, wr_slot, ne_eq, not_true_eq_false, not_false_eq_true, true_and, and_true, false_and, and_false, e10, e01, e00, if_true, if_false, Bool.false_eq_true, lit_ne, lit_lt, eq_self, hb]) hb2 (by omega) rfl (by omega)
      rw [kEnd_44] at hloop
      by_cases h3 : τ 50 j = 1
      · simp (disch := omega) only [lt_litR, lt_litL, eq_litR, eq_litL, lt_nn, eq_nn, lt_n0, z_cl, add_lit, eq_m1, eq_m1', m1_lt, false_or, or_false, if_pos, if_neg, zbI_some, zbV_some, wr_same, wr_cell, wr_slot, ne_eq, not_true_eq_false, not_false_eq_true, true_and, and_true, false_and, and_false, e10, e01, e00, if_true, if_false, Bool.false_eq_true, lit_ne, lit_lt, eq_self, hp, hb, eq_true h3, hloop, true_or]
        cases kEnd τ (nI j) (b - (j + 1)) (j + 1) with
        | none => simp
        | some g => simp [wr_wr]
      · by_cases h4 : τ 50 j = 2
        · simp (disch := omega) only [lt_litR, lt_litL, eq_litR, eq_litL, lt_nn, eq_nn, lt_n0, z_cl, add_lit, eq_m1, eq_m1', m1_lt, false_or, or_false, if_pos, if_neg, zbI_some, zbV_some, wr_same, wr_cell, wr_slot, ne_eq, not_true_eq_false, not_false_eq_true, true_and, and_true, false_and, and_false, e10, e01, e00, if_true, if_false, Bool.false_eq_true, lit_ne, lit_lt, eq_self, hp, hb, h3, eq_true h4, hloop, or_true]
          cases kEnd τ (nI j) (b - (j + 1)) (j + 1) with
          | none => simp
          | some g => simp [wr_wr]
        · simp (disch := omega) only [lt_litR, lt_litL, eq_litR, eq_litL, lt_nn, eq_nn, lt_n0, z_cl, add_lit, eq_m1, eq_m1', m1_lt, false_or, or_false, if_pos, if_neg, zbI_some, zbV_some, wr_same, wr_cell, wr_slot, ne_eq, not_true_eq_false, not_false_eq_true, true_and, and_true, false_and, and_false, e10, e01, e00, if_true, if_false, Bool.false_eq_true, lit_ne, lit_lt, eq_self, hp, hb, h3, h4]
          simp
    · simp (disch := omega) only [lt_litR, lt_litL, eq_litR, eq_litL, lt_nn, eq_nn, lt_n0, z_cl, add_lit, eq_m1, eq_m1', m1_lt, false_or, or_false, if_pos, if_neg, zbI_some, zbV_some, wr_same, wr_cell, wr_slot, ne_eq, not_true_eq_false, not_false_eq_true, true_and, and_true, false_and, and_false, e10, e01, e00, if_true, if_false, Bool.false_eq_true, lit_ne, lit_lt, eq_self, hp, hb]
      simp
theorem m_sigLoop (d : Nat) : ∀ (f m : Nat) (τ : zS) (b c k : Nat), τ 38 32 = nI b → b ≤ 201 → k ≤ 300 → b - k = f → f < m → zexec zc_X8_hasSignal zu_X8_hasSignal (zM d) m 4 [.inr (.inr 38), .inl (nI c), .inl (nI k)] τ = match kSig τ f c k with
    | some g => some (1, 1, wr τ 38 44 g)
    | none => some (1, 0, τ) := by
  intro f
  induction f with
  | zero =>
    intro m τ b c k h hb hk hf hm
    obtain ⟨m, rfl⟩ : ∃ k, m = k + 1 := ⟨m - 1, by omega⟩
    rw [qX8_hasSignal_38_4, kSig]
    simp (disch := omega) only [lt_litR, lt_litL, eq_litR, eq_litL, lt_nn, eq_nn, lt_n0, z_cl, add_lit, eq_m1, eq_m1', m1_lt, false_or, or_false, if_pos, if_neg, zbI_some, zbV_some, wr_same, wr_cell, wr_slot, ne_eq, not_true_eq_false, not_false_eq_true, true_and, and_true, false_and, and_false, e10, e01, e00, if_true, if_false, Bool.false_eq_true, lit_ne, lit_lt, eq_self, h]
  | succ f ih =>
    intro m τ b c k h hb hk hf hm
    obtain ⟨m, rfl⟩ : ∃ k, m = k + 1 := ⟨m - 1, by omega⟩
    rw [qX8_hasSignal_38_4, kSig]
    by_cases h1 : τ 50 k = 8
    · by_cases h2 : nI c = τ 38 37
      · simp (disch := omega) only [lt_litR, lt_litL, eq_litR, eq_litL, lt_nn, eq_nn, lt_n0, z_cl, add_lit, eq_m1, eq_m1', m1_lt, false_or, or_false, if_pos, if_neg, zbI_some, zbV_some, wr_same, wr_cell, wr_slot, ne_eq, not_true_eq_false, not_false_eq_true, true_and, and_true, false_and, and_false, e10, e01, e00, if_true, if_false, Bool.false_eq_true, lit_ne, lit_lt, eq_self, h, eq_true h1, eq_true h2]
      · have hih := ih m τ b (c + 1) (k + 1) h hb (by omega) (by omega) (by omega)
        simp (disch := omega) only [lt_litR, lt_litL, eq_litR, eq_litL, lt_nn, eq_nn, lt_n0, z_cl, add_lit, eq_m1, eq_m1', m1_lt, false_or, or_false, if_pos, if_neg, zbI_some, zbV_some, wr_same, wr_cell, wr_slot, ne_eq, not_true_eq_false, not_false_eq_true, true_and, and_true, false_and, and_false, e10, e01, e00, if_true, if_false, Bool.false_eq_true, lit_ne, lit_lt, eq_self, h, eq_true h1, h2, hih]
    · have hih := ih m τ b c (k + 1) h hb (by omega) (by omega) (by omega)
      simp (disch := omega) only [lt_litR, lt_litL, eq_litR, eq_litL, lt_nn, eq_nn, lt_n0, z_cl, add_lit, eq_m1, eq_m1', m1_lt, false_or, or_false, if_pos, if_neg, zbI_some, zbV_some, wr_same, wr_cell, wr_slot, ne_eq, not_true_eq_false, not_false_eq_true, true_and, and_true, false_and, and_false, e10, e01, e00, if_true, if_false, Bool.false_eq_true, lit_ne, lit_lt, eq_self, h, h1, hih]
theorem m_hasSignal (d : Nat) (τ : zS) {b : Nat} (hb : τ 38 32 = nI b) (hb2 : b ≤ 201) : zM (d + 1) mX8_hasSignal [.inr (.inr 38)] τ = match kSig τ b 0 0 with
    | some g => some (1, 1, wr τ 38 44 g)
    | none => some (1, 0, τ) := by
  rw [qX8_hasSignal_38, qX8_hasSignal_38_0]
  exact m_sigLoop d b _ τ b 0 0 hb hb2 (by omega) (by omega) (by omega)
theorem m_isReady (d : Nat) (τ : zS) {n p b x y : Nat} (hp : τ 38 33 = nI p) (hp2 : p ≤ 200) (hb : τ 38 32 = nI b) (hb2 : b ≤ 201) (hn : n < 1600)
    (ho : (τ 45 n = 9 ∧ τ 47 n = nI x ∧ x < 8) ∨ τ 45 n = 5 ∨ (τ 45 n = 3 ∧ τ 47 n = nI x ∧ x < 8 ∧ τ 48 n = nI y ∧ y < 8)) :
    zM (d + 2) mX8_isReady [.inr (.inr 38), .inl (nI n)] τ = some (1, if (kRdy τ (τ 45 n) (τ 47 n) (τ 48 n)).1 then 1 else 0, (kRdy τ (τ 45 n) (τ 47 n) (τ 48 n)).2) := by
  rw [qX8_isReady_38, qX8_isReady_38_0]
  rcases ho with ⟨h1, h2, h3⟩ | h1 | ⟨h1, h2, h3, h4, h5⟩
  · rw [qX8_isReady_38_11, kRdy]
    simp (disch := omega) only [lt_litR, lt_litL, eq_litR, eq_litL, lt_nn, eq_nn, lt_n0, z_cl, add_lit, eq_m1, eq_m1', m1_lt, false_or, or_false, if_pos, if_neg, zbI_some, zbV_some, wr_same, wr_cell, wr_slot, ne_eq, not_true_eq_false, not_false_eq_true, true_and, and_true, false_and, and_false, e10, e01, e00, if_true, if_false, Bool.false_eq_true, lit_ne, lit_lt, eq_self, h1, h2]
    rw [m_isDone (p := p) (b := b) d τ _ hp hp2 hb hb2]
    cases hk : kDone τ (τ 54 x) with
    | none => simp (disch := omega) only [lt_litR, lt_litL, eq_litR, eq_litL, lt_nn, eq_nn, lt_n0, z_cl, add_lit, eq_m1, eq_m1', m1_lt, false_or, or_false, if_pos, if_neg, zbI_some, zbV_some, wr_same, wr_cell, wr_slot, ne_eq, not_true_eq_false, not_false_eq_true, true_and, and_true, false_and, and_false, e10, e01, e00, if_true, if_false, Bool.false_eq_true, lit_ne, lit_lt, eq_self]; try simp
    | some g => simp (disch := omega) only [lt_litR, lt_litL, eq_litR, eq_litL, lt_nn, eq_nn, lt_n0, z_cl, add_lit, eq_m1, eq_m1', m1_lt, false_or, or_false, if_pos, if_neg, zbI_some, zbV_some, wr_same, wr_cell, wr_slot, ne_eq, not_true_eq_false, not_false_eq_true, true_and, and_true, false_and, and_false, e10, e01, e00, if_true, if_false, Bool.false_eq_true, lit_ne, lit_lt, eq_self]; try simp
  · rw [qX8_isReady_38_27, kRdy]
    have e1 : ((5 : Int32) = 9) = False := by decide
    simp (disch := omega) only [lt_litR, lt_litL, eq_litR, eq_litL, lt_nn, eq_nn, lt_n0, z_cl, add_lit, eq_m1, eq_m1', m1_lt, false_or, or_false, if_pos, if_neg, zbI_some, zbV_some, wr_same, wr_cell, wr_slot, ne_eq, not_true_eq_false, not_false_eq_true, true_and, and_true, false_and, and_false, e10, e01, e00, if_true, if_false, Bool.false_eq_true, lit_ne, lit_lt, eq_self, h1, e1, hb]
    rw [m_hasSignal (b := b) _ _ hb hb2]
    cases hk : kSig τ b 0 0 with
    | none => simp (disch := omega) only [lt_litR, lt_litL, eq_litR, eq_litL, lt_nn, eq_nn, lt_n0, z_cl, add_lit, eq_m1, eq_m1', m1_lt, false_or, or_false, if_pos, if_neg, zbI_some, zbV_some, wr_same, wr_cell, wr_slot, ne_eq, not_true_eq_false, not_false_eq_true, true_and, and_true, false_and, and_false, e10, e01, e00, if_true, if_false, Bool.false_eq_true, lit_ne, lit_lt, eq_self]; try simp
    | some g => simp (disch := omega) only [lt_litR, lt_litL, eq_litR, eq_litL, lt_nn, eq_nn, lt_n0, z_cl, add_lit, eq_m1, eq_m1', m1_lt, false_or, or_false, if_pos, if_neg, zbI_some, zbV_some, wr_same, wr_cell, wr_slot, ne_eq, not_true_eq_false, not_false_eq_true, true_and, and_true, false_and, and_false, e10, e01, e00, if_true, if_false, Bool.false_eq_true, lit_ne, lit_lt, eq_self]; try simp
  · rw [qX8_isReady_38_27, qX8_isReady_38_42, kRdy]
    have e1 : ((3 : Int32) = 9) = False := by decide
    have e2 : ((3 : Int32) = 5) = False := by decide
    simp (disch := omega) only [lt_litR, lt_litL, eq_litR, eq_litL, lt_nn, eq_nn, lt_n0, z_cl, add_lit, eq_m1, eq_m1', m1_lt, false_or, or_false, if_pos, if_neg, zbI_some, zbV_some, wr_same, wr_cell, wr_slot, ne_eq, not_true_eq_false, not_false_eq_true, true_and, and_true, false_and, and_false, e10, e01, e00, if_true, if_false, Bool.false_eq_true, lit_ne, lit_lt, eq_self, h1, h2, e1, e2]
    rw [m_isDone (p := p) (b := b) d τ _ hp hp2 hb hb2]
    cases hk : kDone τ (τ 54 x) with
    | some g =>
      simp (disch := omega) only [lt_litR, lt_litL, eq_litR, eq_litL, lt_nn, eq_nn, lt_n0, z_cl, add_lit, eq_m1, eq_m1', m1_lt, false_or, or_false, if_pos, if_neg, zbI_some, zbV_some, wr_same, wr_cell, wr_slot, ne_eq, not_true_eq_false, not_false_eq_true, true_and, and_true, false_and, and_false, e10, e01, e00, if_true, if_false, Bool.false_eq_true, lit_ne, lit_lt, eq_self]
      simp [wr_wr]
    | none =>
      simp only [Option.isSome_none, Option.getD_none]
      simp (disch := omega) only [lt_litR, lt_litL, eq_litR, eq_litL, lt_nn, eq_nn, lt_n0, z_cl, add_lit, eq_m1, eq_m1', m1_lt, false_or, or_false, if_pos, if_neg, zbI_some, zbV_some, wr_same, wr_cell, wr_slot, ne_eq, not_true_eq_false, not_false_eq_true, true_and, and_true, false_and, and_false, e10, e01, e00, if_true, if_false, Bool.false_eq_true, lit_ne, lit_lt, eq_self]
      rw [qX8_isReady_38_67]
      simp (disch := omega) only [lt_litR, lt_litL, eq_litR, eq_litL, lt_nn, eq_nn, lt_n0, z_cl, add_lit, eq_m1, eq_m1', m1_lt, false_or, or_false, if_pos, if_neg, zbI_some, zbV_some, wr_same, wr_cell, wr_slot, ne_eq, not_true_eq_false, not_false_eq_true, true_and, and_true, false_and, and_false, e10, e01, e00, if_true, if_false, Bool.false_eq_true, lit_ne, lit_lt, eq_self, h4]
      have hk2 : ∀ v : Int32, kDone (wr τ 38 44 (-2)) v = kDone τ v := by
        intro v
        rw [kDone, kDone, kEnd_44]
        simp (disch := omega) only [lt_litR, lt_litL, eq_litR, eq_litL, lt_nn, eq_nn, lt_n0, z_cl, add_lit, eq_m1, eq_m1', m1_lt, false_or, or_false, if_pos, if_neg, zbI_some, zbV_some, wr_same, wr_cell, wr_slot, ne_eq, not_true_eq_false, not_false_eq_true, true_and, and_true, false_and, and_false, e10, e01, e00, if_true, if_false, Bool.false_eq_true, lit_ne, lit_lt, eq_self]
      rw [m_isDone (p := p) (b := b) d _ _ (by simp (disch := omega) only [lt_litR, lt_litL, eq_litR, eq_litL, lt_nn, eq_nn, lt_n0, z_cl, add_lit, eq_m1, eq_m1', m1_lt, false_or, or_false, if_pos, if_neg, zbI_some, zbV_some, wr_same, wr_cell, wr_slot, ne_eq, not_true_eq_false, not_false_eq_true, true_and, and_true, false_and, and_false, e10, e01, e00, if_true, if_false, Bool.false_eq_true, lit_ne, lit_lt, eq_self, hp]) hp2 (by simp (disch := omega) only [lt_litR, lt_litL, eq_litR, eq_litL, lt_nn, eq_nn, lt_n0, z_cl, add_lit, eq_m1, eq_m1', m1_lt, false_or, or_false, if_pos, if_neg, zbI_some, zbV_some, wr_same, wr_cell, wr_slot, ne_eq, not_true_eq_false, not_false_eq_true, true_and, and_true, false_and, and_false, e10, e01, e00, if_true, if_false, Bool.false_eq_true, lit_ne, lit_lt, eq_self, hb]) hb2, hk2]
      cases hk3 : kDone τ (τ 54 y) with
      | none => simp (disch := omega) only [lt_litR, lt_litL, eq_litR, eq_litL, lt_nn, eq_nn, lt_n0, z_cl, add_lit, eq_m1, eq_m1', m1_lt, false_or, or_false, if_pos, if_neg, zbI_some, zbV_some, wr_same, wr_cell, wr_slot, ne_eq, not_true_eq_false, not_false_eq_true, true_and, and_true, false_and, and_false, e10, e01, e00, if_true, if_false, Bool.false_eq_true, lit_ne, lit_lt, eq_self]; simp [wr_wr]
      | some g => simp (disch := omega) only [lt_litR, lt_litL, eq_litR, eq_litL, lt_nn, eq_nn, lt_n0, z_cl, add_lit, eq_m1, eq_m1', m1_lt, false_or, or_false, if_pos, if_neg, zbI_some, zbV_some, wr_same, wr_cell, wr_slot, ne_eq, not_true_eq_false, not_false_eq_true, true_and, and_true, false_and, and_false, e10, e01, e00, if_true, if_false, Bool.false_eq_true, lit_ne, lit_lt, eq_self]; simp [wr_wr]
