-- the X of a program: the class's items and the reference's nodes
def kJoin (s x y : Int32) : Int32 := if s = 3 then (if x < y then 1 else 0) else if s = 4 then x + y else if s = 5 then x - y else x * y
def kPut (s v : Int32) (R : Nat → Int32) (st : List Int32) : List Int32 :=
  if s = 0 then v :: st else if s = 1 then R v.toNatClampNeg :: st else if s = 2 then (match st with
    | x :: r => -x :: r
    | [] => []) else match st with
    | y :: x :: r => kJoin s x y :: r
    | _ => []
def kRunX (S V R : Nat → Int32) : Nat → Nat → List Int32 → List Int32
  | 0, _, st => st
  | c + 1, i, st => kRunX S V R c (i + 1) (kPut (S i) (V i) R st)
theorem kRunX_add (S V R : Nat → Int32) : ∀ a b i st, kRunX S V R (a + b) i st = kRunX S V R b (i + a) (kRunX S V R a i st) := by
  intro a
  induction a with
  | zero => intro b i st; simp [kRunX]
  | succ a ih => intro b i st; rw [Nat.add_right_comm, kRunX, kRunX, ih]; congr 1; omega
/-- node n is the items from i to j; h places of the stack are enough -/
def RepX (S V op a b : Nat → Int32) : Nat → Nat → Nat → Nat → Nat → Prop
  | 0, _, _, _, _ => False
  | k + 1, h, n, i, j => n < 1600 ∧ 1 ≤ h ∧ (
      (j = i + 1 ∧ op n = 48 ∧ S i = 0 ∧ V i = a n) ∨
      (j = i + 1 ∧ op n = 114 ∧ S i = 1 ∧ V i = a n ∧ ∃ r, r < 8 ∧ a n = nI r) ∨
      (∃ x q, op n = 110 ∧ a n = nI x ∧ RepX S V op a b k h x i q ∧ j = q + 1 ∧ S q = 2) ∨
      (∃ x y q r, a n = nI x ∧ b n = nI y ∧ RepX S V op a b k h x i q ∧ RepX S V op a b k (h - 1) y q r ∧ 2 ≤ h ∧ j = r + 1 ∧ ((op n = 60 ∧ S r = 3) ∨ (op n = 43 ∧ S r = 4) ∨ (op n = 45 ∧ S r = 5) ∨ (op n = 42 ∧ S r = 6))))
theorem RepX_lt {S V op a b : Nat → Int32} : ∀ {k h n i j : Nat}, RepX S V op a b k h n i j → i < j := by
  intro k
  induction k with
  | zero => intro h n i j hr; exact hr.elim
  | succ k ih =>
    intro h n i j hr
    rcases hr.2.2 with h1 | h1 | ⟨x, q, h1⟩ | ⟨x, y, q, r, h1⟩
    · omega
    · omega
    · have := ih h1.2.2.1; omega
    · have := ih h1.2.2.1; have := ih h1.2.2.2.1; omega
theorem c_push (d : Nat) (σ : zS) (v : Int32) {t : Nat} (h : σ 34 5 = nI t) (ht : t < 34) : zM (d + 1) mX4_push [.inr (.inr 34), .inl v] σ = some (0, 0, wr (wr σ 37 t v) 34 5 (nI (t + 1))) := by
  rw [qX4_push_34, qX4_push_34_0]
  simp (disch := omega) only [lt_litR, lt_litL, eq_litR, eq_litL, lt_nn, eq_nn, lt_n0, z_cl, add_lit, eq_m1, eq_m1', m1_lt, false_or, or_false, if_pos, if_neg, zbI_some, zbV_some, wr_same, wr_cell, wr_slot, ne_eq, not_true_eq_false, not_false_eq_true, true_and, and_true, false_and, and_false, e10, e01, e00, if_true, if_false, Bool.false_eq_true, lit_ne, lit_lt, eq_self, h]
theorem c_pop (d : Nat) (σ : zS) {t : Nat} (h : σ 34 5 = nI (t + 1)) (ht : t < 34) : zM (d + 1) mX4_pop [.inr (.inr 34)] σ = some (1, σ 37 t, wr σ 34 5 (nI t)) := by
  rw [qX4_pop_34, qX4_pop_34_0]
  simp (disch := omega) only [lt_litR, lt_litL, eq_litR, eq_litL, lt_nn, eq_nn, lt_n0, z_cl, add_lit, eq_m1, eq_m1', m1_lt, false_or, or_false, if_pos, if_neg, zbI_some, zbV_some, wr_same, wr_cell, wr_slot, ne_eq, not_true_eq_false, not_false_eq_true, true_and, and_true, false_and, and_false, e10, e01, e00, if_true, if_false, Bool.false_eq_true, lit_ne, lit_lt, eq_self, h, nI_pred]
theorem c_get (d : Nat) (σ : zS) {r : Nat} (hr : r < 8) : zM (d + 1) mX3_get [.inr (.inr 30), .inl (nI r)] σ = some (1, σ 31 r, σ) := by
  rw [qX3_get_30, qX3_get_30_0]
  simp (disch := omega) only [lt_litR, lt_litL, eq_litR, eq_litL, lt_nn, eq_nn, lt_n0, z_cl, add_lit, eq_m1, eq_m1', m1_lt, false_or, or_false, if_pos, if_neg, zbI_some, zbV_some, wr_same, wr_cell, wr_slot, ne_eq, not_true_eq_false, not_false_eq_true, true_and, and_true, false_and, and_false, e10, e01, e00, if_true, if_false, Bool.false_eq_true, lit_ne, lit_lt, eq_self]
theorem c_join (d : Nat) (σ : zS) (s x y : Int32) : zM (d + 1) mX4_join [.inl s, .inl x, .inl y] σ = some (1, kJoin s x y, σ) := by
  rw [qX4_join, qX4_join_0, kJoin]
  by_cases h1 : s = 3
  · by_cases h2 : x < y <;> simp [h1, h2]
  · by_cases h2 : s = 4
    · simp [h1, h2]
    · by_cases h3 : s = 5 <;> simp [h1, h2, h3]
theorem c_itemSort (d : Nat) (σ : zS) {i n : Nat} (hn : σ 15 8 = nI n) (hi : i < n) (hn2 : n ≤ 400) : zM (d + 1) mX1_itemSort [.inr (.inr 15), .inl (nI i)] σ = some (1, σ 21 i, σ) := by
  rw [qX1_itemSort_15, qX1_itemSort_15_0]
  simp (disch := omega) only [lt_litR, lt_litL, eq_litR, eq_litL, lt_nn, eq_nn, lt_n0, z_cl, add_lit, eq_m1, eq_m1', m1_lt, false_or, or_false, if_pos, if_neg, zbI_some, zbV_some, wr_same, wr_cell, wr_slot, ne_eq, not_true_eq_false, not_false_eq_true, true_and, and_true, false_and, and_false, e10, e01, e00, if_true, if_false, Bool.false_eq_true, lit_ne, lit_lt, eq_self, hn]
theorem c_itemValue (d : Nat) (σ : zS) {i n : Nat} (hn : σ 15 8 = nI n) (hi : i < n) (hn2 : n ≤ 400) : zM (d + 1) mX1_itemValue [.inr (.inr 15), .inl (nI i)] σ = some (1, σ 22 i, σ) := by
  rw [qX1_itemValue_15, qX1_itemValue_15_0]
  simp (disch := omega) only [lt_litR, lt_litL, eq_litR, eq_litL, lt_nn, eq_nn, lt_n0, z_cl, add_lit, eq_m1, eq_m1', m1_lt, false_or, or_false, if_pos, if_neg, zbI_some, zbV_some, wr_same, wr_cell, wr_slot, ne_eq, not_true_eq_false, not_false_eq_true, true_and, and_true, false_and, and_false, e10, e01, e00, if_true, if_false, Bool.false_eq_true, lit_ne, lit_lt, eq_self, hn]
/-- what the class's stack does with a piece of items -/
def XC (S V R : Nat → Int32) (h i j : Nat) (v : Int32) : Prop := ∀ (d ni J t : Nat) (σ : zS), σ 21 = S → σ 22 = V → (∀ r, r < 8 → σ 31 r = R r) → σ 15 8 = nI ni → ni ≤ 400 → J ≤ ni → j ≤ J → σ 34 5 = nI t → t + h ≤ 34 →
  ∃ σ', (∀ m, zexec zc_X4_workOut zu_X4_workOut (zM (d + 2)) (m + (j - i)) 35 [.inr (.inr 34), .inl (nI J), .inl (nI i)] σ = zexec zc_X4_workOut zu_X4_workOut (zM (d + 2)) m 35 [.inr (.inr 34), .inl (nI J), .inl (nI j)] σ') ∧
    σ' 34 5 = nI (t + 1) ∧ σ' 37 t = v ∧ (∀ u, u < t → σ' 37 u = σ 37 u) ∧ (∀ c, c ≠ 34 → c ≠ 37 → σ' c = σ c) ∧ (∀ k, k ≠ 5 → σ' 34 k = σ 34 k)
theorem RepX_val {S V op a b : Nat → Int32} (R : Nat → Int32) : ∀ {k h n i j : Nat}, RepX S V op a b k h n i j → ∃ v, (∀ st, kRunX S V R (j - i) i st = v :: st) ∧ (∀ (d : Nat) (τ : zS), τ 45 = op → τ 46 = a → τ 47 = b → (∀ r, r < 8 → τ 54 r = R r) → zM (d + k) mX8_work [.inr (.inr 38), .inl (nI n)] τ = some (1, v, τ)) ∧ XC S V R h i j v := by
  intro k
  induction k with
  | zero => intro h n i j hr; exact hr.elim
  | succ k ih =>
    intro h n i j hr
    obtain ⟨hn, hh, hr⟩ := hr
    rcases hr with ⟨h1, h2, h3, h4⟩ | ⟨h1, h2, h3, h4, r, h5, h6⟩ | ⟨x, q, h1, h2, h3, h4, h5⟩ | ⟨x, y, q, r, h1, h2, h3, h4, h5, h6, h7⟩
    · subst h1
      refine ⟨a n, fun st => ?_, fun d τ e1 e2 e3 e4 => ?_, ?_⟩
      · rw [show i + 1 - i = 0 + 1 by omega, kRunX, kRunX, h3, h4]; simp [kPut]
      · rw [← Nat.add_assoc, qX8_work_38, qX8_work_38_0, qX8_work_38_64]
        simp (disch := omega) only [lt_litR, lt_litL, eq_litR, eq_litL, lt_nn, eq_nn, lt_n0, z_cl, add_lit, eq_m1, eq_m1', m1_lt, false_or, or_false, if_pos, if_neg, zbI_some, zbV_some, wr_same, wr_cell, wr_slot, ne_eq, not_true_eq_false, not_false_eq_true, true_and, and_true, false_and, and_false, e10, e01, e00, if_true, if_false, Bool.false_eq_true, lit_ne, lit_lt, eq_self, e1, e2, h2]
      · intro d ni J t σ s1 s2 s3 s4 s5 s6 s7 s8 s9
        refine ⟨wr (wr σ 37 t (a n)) 34 5 (nI (t + 1)), fun m => ?_, by simp (disch := omega) only [lt_litR, lt_litL, eq_litR, eq_litL, lt_nn, eq_nn, lt_n0, z_cl, add_lit, eq_m1, eq_m1', m1_lt, false_or, or_false, if_pos, if_neg, zbI_some, zbV_some, wr_same, wr_cell, wr_slot, ne_eq, not_true_eq_false, not_false_eq_true, true_and, and_true, false_and, and_false, e10, e01, e00, if_true, if_false, Bool.false_eq_true, lit_ne, lit_lt, eq_self], by simp (disch := omega) only [lt_litR, lt_litL, eq_litR, eq_litL, lt_nn, eq_nn, lt_n0, z_cl, add_lit, eq_m1, eq_m1', m1_lt, false_or, or_false, if_pos, if_neg, zbI_some, zbV_some, wr_same, wr_cell, wr_slot, ne_eq, not_true_eq_false, not_false_eq_true, true_and, and_true, false_and, and_false, e10, e01, e00, if_true, if_false, Bool.false_eq_true, lit_ne, lit_lt, eq_self], fun u hu => by simp (disch := omega) only [lt_litR, lt_litL, eq_litR, eq_litL, lt_nn, eq_nn, lt_n0, z_cl, add_lit, eq_m1, eq_m1', m1_lt, false_or, or_false, if_pos, if_neg, zbI_some, zbV_some, wr_same, wr_cell, wr_slot, ne_eq, not_true_eq_false, not_false_eq_true, true_and, and_true, false_and, and_false, e10, e01, e00, if_true, if_false, Bool.false_eq_true, lit_ne, lit_lt, eq_self], fun c c1 c2 => by simp (disch := omega) only [lt_litR, lt_litL, eq_litR, eq_litL, lt_nn, eq_nn, lt_n0, z_cl, add_lit, eq_m1, eq_m1', m1_lt, false_or, or_false, if_pos, if_neg, zbI_some, zbV_some, wr_same, wr_cell, wr_slot, ne_eq, not_true_eq_false, not_false_eq_true, true_and, and_true, false_and, and_false, e10, e01, e00, if_true, if_false, Bool.false_eq_true, lit_ne, lit_lt, eq_self], fun k hk => by simp (disch := omega) only [lt_litR, lt_litL, eq_litR, eq_litL, lt_nn, eq_nn, lt_n0, z_cl, add_lit, eq_m1, eq_m1', m1_lt, false_or, or_false, if_pos, if_neg, zbI_some, zbV_some, wr_same, wr_cell, wr_slot, ne_eq, not_true_eq_false, not_false_eq_true, true_and, and_true, false_and, and_false, e10, e01, e00, if_true, if_false, Bool.false_eq_true, lit_ne, lit_lt, eq_self]⟩
        rw [show m + (i + 1 - i) = m + 1 by omega, qX4_workOut_34_35, c_itemSort _ _ s4 (by omega) s5, zbI_some, c_itemValue _ _ s4 (by omega) s5, zbI_some, qX4_work_34, qX4_work_34_0, c_push _ _ _ s8 (by omega), s1, s2, h3, h4]
        simp (disch := omega) only [lt_litR, lt_litL, eq_litR, eq_litL, lt_nn, eq_nn, lt_n0, z_cl, add_lit, eq_m1, eq_m1', m1_lt, false_or, or_false, if_pos, if_neg, zbI_some, zbV_some, wr_same, wr_cell, wr_slot, ne_eq, not_true_eq_false, not_false_eq_true, true_and, and_true, false_and, and_false, e10, e01, e00, if_true, if_false, Bool.false_eq_true, lit_ne, lit_lt, eq_self]
    · subst h1
      refine ⟨R r, fun st => ?_, fun d τ e1 e2 e3 e4 => ?_, ?_⟩
      · rw [show i + 1 - i = 0 + 1 by omega, kRunX, kRunX, h3, h4, h6]
        simp [kPut, z_cl (show r < 2 ^ 31 by omega)]
      · rw [← Nat.add_assoc, qX8_work_38, qX8_work_38_0, qX8_work_38_71]
        simp (disch := omega) only [lt_litR, lt_litL, eq_litR, eq_litL, lt_nn, eq_nn, lt_n0, z_cl, add_lit, eq_m1, eq_m1', m1_lt, false_or, or_false, if_pos, if_neg, zbI_some, zbV_some, wr_same, wr_cell, wr_slot, ne_eq, not_true_eq_false, not_false_eq_true, true_and, and_true, false_and, and_false, e10, e01, e00, if_true, if_false, Bool.false_eq_true, lit_ne, lit_lt, eq_self, e1, e2, h2, h6, e4 r h5]
      · intro d ni J t σ s1 s2 s3 s4 s5 s6 s7 s8 s9
        refine ⟨wr (wr σ 37 t (R r)) 34 5 (nI (t + 1)), fun m => ?_, by simp (disch := omega) only [lt_litR, lt_litL, eq_litR, eq_litL, lt_nn, eq_nn, lt_n0, z_cl, add_lit, eq_m1, eq_m1', m1_lt, false_or, or_false, if_pos, if_neg, zbI_some, zbV_some, wr_same, wr_cell, wr_slot, ne_eq, not_true_eq_false, not_false_eq_true, true_and, and_true, false_and, and_false, e10, e01, e00, if_true, if_false, Bool.false_eq_true, lit_ne, lit_lt, eq_self], by simp (disch := omega) only [lt_litR, lt_litL, eq_litR, eq_litL, lt_nn, eq_nn, lt_n0, z_cl, add_lit, eq_m1, eq_m1', m1_lt, false_or, or_false, if_pos, if_neg, zbI_some, zbV_some, wr_same, wr_cell, wr_slot, ne_eq, not_true_eq_false, not_false_eq_true, true_and, and_true, false_and, and_false, e10, e01, e00, if_true, if_false, Bool.false_eq_true, lit_ne, lit_lt, eq_self], fun u hu => by simp (disch := omega) only [lt_litR, lt_litL, eq_litR, eq_litL, lt_nn, eq_nn, lt_n0, z_cl, add_lit, eq_m1, eq_m1', m1_lt, false_or, or_false, if_pos, if_neg, zbI_some, zbV_some, wr_same, wr_cell, wr_slot, ne_eq, not_true_eq_false, not_false_eq_true, true_and, and_true, false_and, and_false, e10, e01, e00, if_true, if_false, Bool.false_eq_true, lit_ne, lit_lt, eq_self], fun c c1 c2 => by simp (disch := omega) only [lt_litR, lt_litL, eq_litR, eq_litL, lt_nn, eq_nn, lt_n0, z_cl, add_lit, eq_m1, eq_m1', m1_lt, false_or, or_false, if_pos, if_neg, zbI_some, zbV_some, wr_same, wr_cell, wr_slot, ne_eq, not_true_eq_false, not_false_eq_true, true_and, and_true, false_and, and_false, e10, e01, e00, if_true, if_false, Bool.false_eq_true, lit_ne, lit_lt, eq_self], fun k hk => by simp (disch := omega) only [lt_litR, lt_litL, eq_litR, eq_litL, lt_nn, eq_nn, lt_n0, z_cl, add_lit, eq_m1, eq_m1', m1_lt, false_or, or_false, if_pos, if_neg, zbI_some, zbV_some, wr_same, wr_cell, wr_slot, ne_eq, not_true_eq_false, not_false_eq_true, true_and, and_true, false_and, and_false, e10, e01, e00, if_true, if_false, Bool.false_eq_true, lit_ne, lit_lt, eq_self]⟩
        rw [show m + (i + 1 - i) = m + 1 by omega, qX4_workOut_34_35, c_itemSort _ _ s4 (by omega) s5, zbI_some, c_itemValue _ _ s4 (by omega) s5, zbI_some, qX4_work_34, qX4_work_34_0, s1, s2, h3, h4, h6, c_get _ _ h5, zbI_some, s3 r h5]
        have hpush := fun v => c_push d σ v s8 (show t < 34 by omega)
        have hpush1 := fun v => c_push (d + 1) σ v s8 (show t < 34 by omega)
        simp (disch := omega) only [lt_litR, lt_litL, eq_litR, eq_litL, lt_nn, eq_nn, lt_n0, z_cl, add_lit, eq_m1, eq_m1', m1_lt, false_or, or_false, if_pos, if_neg, zbI_some, zbV_some, wr_same, wr_cell, wr_slot, ne_eq, not_true_eq_false, not_false_eq_true, true_and, and_true, false_and, and_false, e10, e01, e00, if_true, if_false, Bool.false_eq_true, lit_ne, lit_lt, eq_self, hpush, hpush1]
    · obtain ⟨v, v1, v2, v3⟩ := ih h3
      have hlt := RepX_lt h3
      subst h4
      refine ⟨-v, fun st => ?_, fun d τ e1 e2 e3 e4 => ?_, ?_⟩
      · rw [show q + 1 - i = (q - i) + (0 + 1) by omega, kRunX_add, v1, kRunX, kRunX, show i + (q - i) = q by omega, h5]; simp [kPut]
      · rw [← Nat.add_assoc, qX8_work_38, qX8_work_38_0, qX8_work_38_83]
        simp (disch := omega) only [lt_litR, lt_litL, eq_litR, eq_litL, lt_nn, eq_nn, lt_n0, z_cl, add_lit, eq_m1, eq_m1', m1_lt, false_or, or_false, if_pos, if_neg, zbI_some, zbV_some, wr_same, wr_cell, wr_slot, ne_eq, not_true_eq_false, not_false_eq_true, true_and, and_true, false_and, and_false, e10, e01, e00, if_true, if_false, Bool.false_eq_true, lit_ne, lit_lt, eq_self, e1, e2, h1, h2, v2 d τ e1 e2 e3 e4]
      · intro d ni J t σ s1 s2 s3 s4 s5 s6 s7 s8 s9
        obtain ⟨σ', w1, w2, w3, w4, w5, w6⟩ := v3 d ni J t σ s1 s2 s3 s4 s5 s6 (by omega) s8 (by omega)
        have t4 : σ' 15 8 = nI ni := by rw [w5 15 (by omega) (by omega), s4]
        have t1 : σ' 21 = S := by rw [w5 21 (by omega) (by omega), s1]
        have t2 : σ' 22 = V := by rw [w5 22 (by omega) (by omega), s2]
        refine ⟨wr (wr (wr σ' 34 5 (nI t)) 37 t (-v)) 34 5 (nI (t + 1)), fun m => ?_, by simp (disch := omega) only [lt_litR, lt_litL, eq_litR, eq_litL, lt_nn, eq_nn, lt_n0, z_cl, add_lit, eq_m1, eq_m1', m1_lt, false_or, or_false, if_pos, if_neg, zbI_some, zbV_some, wr_same, wr_cell, wr_slot, ne_eq, not_true_eq_false, not_false_eq_true, true_and, and_true, false_and, and_false, e10, e01, e00, if_true, if_false, Bool.false_eq_true, lit_ne, lit_lt, eq_self], by simp (disch := omega) only [lt_litR, lt_litL, eq_litR, eq_litL, lt_nn, eq_nn, lt_n0, z_cl, add_lit, eq_m1, eq_m1', m1_lt, false_or, or_false, if_pos, if_neg, zbI_some, zbV_some, wr_same, wr_cell, wr_slot, ne_eq, not_true_eq_false, not_false_eq_true, true_and, and_true, false_and, and_false, e10, e01, e00, if_true, if_false, Bool.false_eq_true, lit_ne, lit_lt, eq_self], fun u hu => by simp (disch := omega) only [lt_litR, lt_litL, eq_litR, eq_litL, lt_nn, eq_nn, lt_n0, z_cl, add_lit, eq_m1, eq_m1', m1_lt, false_or, or_false, if_pos, if_neg, zbI_some, zbV_some, wr_same, wr_cell, wr_slot, ne_eq, not_true_eq_false, not_false_eq_true, true_and, and_true, false_and, and_false, e10, e01, e00, if_true, if_false, Bool.false_eq_true, lit_ne, lit_lt, eq_self, w4 u hu], fun c c1 c2 => by simp (disch := omega) only [lt_litR, lt_litL, eq_litR, eq_litL, lt_nn, eq_nn, lt_n0, z_cl, add_lit, eq_m1, eq_m1', m1_lt, false_or, or_false, if_pos, if_neg, zbI_some, zbV_some, wr_same, wr_cell, wr_slot, ne_eq, not_true_eq_false, not_false_eq_true, true_and, and_true, false_and, and_false, e10, e01, e00, if_true, if_false, Bool.false_eq_true, lit_ne, lit_lt, eq_self, w5 c c1 c2], fun k hk => by simp (disch := omega) only [lt_litR, lt_litL, eq_litR, eq_litL, lt_nn, eq_nn, lt_n0, z_cl, add_lit, eq_m1, eq_m1', m1_lt, false_or, or_false, if_pos, if_neg, zbI_some, zbV_some, wr_same, wr_cell, wr_slot, ne_eq, not_true_eq_false, not_false_eq_true, true_and, and_true, false_and, and_false, e10, e01, e00, if_true, if_false, Bool.false_eq_true, lit_ne, lit_lt, eq_self, w6 k hk]⟩
        rw [show m + (q + 1 - i) = (m + 1) + (q - i) by omega, w1, qX4_workOut_34_35, c_itemSort _ _ t4 (by omega) s5, zbI_some, c_itemValue _ _ t4 (by omega) s5, zbI_some, qX4_work_34, qX4_work_34_0, t1, h5, c_pop (t := t) _ _ w2 (by omega), zbI_some, w3]
        have hpush := fun v => c_push d (wr σ' 34 5 (nI t)) v (t := t) (by simp (disch := omega) only [lt_litR, lt_litL, eq_litR, eq_litL, lt_nn, eq_nn, lt_n0, z_cl, add_lit, eq_m1, eq_m1', m1_lt, false_or, or_false, if_pos, if_neg, zbI_some, zbV_some, wr_same, wr_cell, wr_slot, ne_eq, not_true_eq_false, not_false_eq_true, true_and, and_true, false_and, and_false, e10, e01, e00, if_true, if_false, Bool.false_eq_true, lit_ne, lit_lt, eq_self]) (show t < 34 by omega)
        rw [if_pos (nI_lt (by omega) (by omega)), if_neg (by decide), if_neg (by decide), if_pos rfl, hpush, zbV_some, zbV_some, add_lit]
    · obtain ⟨v, v1, v2, v3⟩ := ih h3
      obtain ⟨w, w1, w2, w3⟩ := ih h4
      have hlt := RepX_lt h3
      have hlt2 := RepX_lt h4
      subst h6
      refine ⟨kJoin (S r) v w, fun st => ?_, fun d τ e1 e2 e3 e4 => ?_, ?_⟩
      · rw [show r + 1 - i = (q - i) + ((r - q) + (0 + 1)) by omega, kRunX_add, v1, kRunX_add, show i + (q - i) = q by omega, w1, kRunX, kRunX, show q + (r - q) = r by omega]
        rcases h7 with ⟨_, h7⟩ | ⟨_, h7⟩ | ⟨_, h7⟩ | ⟨_, h7⟩ <;> rw [h7] <;> simp [kPut]
      · rw [← Nat.add_assoc, qX8_work_38, qX8_work_38_0]
        have f1 := v2 d τ e1 e2 e3 e4
        have f2 := w2 d τ e1 e2 e3 e4
        rcases h7 with ⟨h7, h8⟩ | ⟨h7, h8⟩ | ⟨h7, h8⟩ | ⟨h7, h8⟩
        · rw [qX8_work_38_161]
          simp (disch := omega) only [lt_litR, lt_litL, eq_litR, eq_litL, lt_nn, eq_nn, lt_n0, z_cl, add_lit, eq_m1, eq_m1', m1_lt, false_or, or_false, if_pos, if_neg, zbI_some, zbV_some, wr_same, wr_cell, wr_slot, ne_eq, not_true_eq_false, not_false_eq_true, true_and, and_true, false_and, and_false, e10, e01, e00, if_true, if_false, Bool.false_eq_true, lit_ne, lit_lt, eq_self, e1, e2, e3, h1, h2, h7, h8, f1, f2]
          by_cases hlt : v < w <;> simp [kJoin, hlt]
        · rw [qX8_work_38_95]
          simp (disch := omega) only [lt_litR, lt_litL, eq_litR, eq_litL, lt_nn, eq_nn, lt_n0, z_cl, add_lit, eq_m1, eq_m1', m1_lt, false_or, or_false, if_pos, if_neg, zbI_some, zbV_some, wr_same, wr_cell, wr_slot, ne_eq, not_true_eq_false, not_false_eq_true, true_and, and_true, false_and, and_false, e10, e01, e00, if_true, if_false, Bool.false_eq_true, lit_ne, lit_lt, eq_self, e1, e2, e3, h1, h2, h7, h8, f1, f2]
          simp [kJoin]
        · rw [qX8_work_38_117]
          simp (disch := omega) only [lt_litR, lt_litL, eq_litR, eq_litL, lt_nn, eq_nn, lt_n0, z_cl, add_lit, eq_m1, eq_m1', m1_lt, false_or, or_false, if_pos, if_neg, zbI_some, zbV_some, wr_same, wr_cell, wr_slot, ne_eq, not_true_eq_false, not_false_eq_true, true_and, and_true, false_and, and_false, e10, e01, e00, if_true, if_false, Bool.false_eq_true, lit_ne, lit_lt, eq_self, e1, e2, e3, h1, h2, h7, h8, f1, f2]
          simp [kJoin]
        · rw [qX8_work_38_139]
          simp (disch := omega) only [lt_litR, lt_litL, eq_litR, eq_litL, lt_nn, eq_nn, lt_n0, z_cl, add_lit, eq_m1, eq_m1', m1_lt, false_or, or_false, if_pos, if_neg, zbI_some, zbV_some, wr_same, wr_cell, wr_slot, ne_eq, not_true_eq_false, not_false_eq_true, true_and, and_true, false_and, and_false, e10, e01, e00, if_true, if_false, Bool.false_eq_true, lit_ne, lit_lt, eq_self, e1, e2, e3, h1, h2, h7, h8, f1, f2]
          simp [kJoin]
      · intro d ni J t σ s1 s2 s3 s4 s5 s6 s7 s8 s9
        obtain ⟨σ1, a1, a2, a3, a4, a5, a6⟩ := v3 d ni J t σ s1 s2 s3 s4 s5 s6 (by omega) s8 (by omega)
        obtain ⟨σ', b1, b2, b3, b4, b5, b6⟩ := w3 d ni J (t + 1) σ1 (by rw [a5 _ (by omega) (by omega), s1]) (by rw [a5 _ (by omega) (by omega), s2]) (fun r hr => by rw [a5 _ (by omega) (by omega), s3 r hr]) (by rw [a5 _ (by omega) (by omega), s4]) s5 s6 (by omega) a2 (by omega)
        have t4 : σ' 15 8 = nI ni := by rw [b5 15 (by omega) (by omega), a5 15 (by omega) (by omega), s4]
        have t1 : σ' 21 = S := by rw [b5 21 (by omega) (by omega), a5 21 (by omega) (by omega), s1]
        refine ⟨wr (wr (wr (wr σ' 34 5 (nI (t + 1))) 34 5 (nI t)) 37 t (kJoin (S r) v w)) 34 5 (nI (t + 1)), fun m => ?_, by simp (disch := omega) only [lt_litR, lt_litL, eq_litR, eq_litL, lt_nn, eq_nn, lt_n0, z_cl, add_lit, eq_m1, eq_m1', m1_lt, false_or, or_false, if_pos, if_neg, zbI_some, zbV_some, wr_same, wr_cell, wr_slot, ne_eq, not_true_eq_false, not_false_eq_true, true_and, and_true, false_and, and_false, e10, e01, e00, if_true, if_false, Bool.false_eq_true, lit_ne, lit_lt, eq_self], by simp (disch := omega) only [lt_litR, lt_litL, eq_litR, eq_litL, lt_nn, eq_nn, lt_n0, z_cl, add_lit, eq_m1, eq_m1', m1_lt, false_or, or_false, if_pos, if_neg, zbI_some, zbV_some, wr_same, wr_cell, wr_slot, ne_eq, not_true_eq_false, not_false_eq_true, true_and, and_true, false_and, and_false, e10, e01, e00, if_true, if_false, Bool.false_eq_true, lit_ne, lit_lt, eq_self], fun u hu => by simp (disch := omega) only [lt_litR, lt_litL, eq_litR, eq_litL, lt_nn, eq_nn, lt_n0, z_cl, add_lit, eq_m1, eq_m1', m1_lt, false_or, or_false, if_pos, if_neg, zbI_some, zbV_some, wr_same, wr_cell, wr_slot, ne_eq, not_true_eq_false, not_false_eq_true, true_and, and_true, false_and, and_false, e10, e01, e00, if_true, if_false, Bool.false_eq_true, lit_ne, lit_lt, eq_self, b4 u (by omega), a4 u hu], fun c c1 c2 => by simp (disch := omega) only [lt_litR, lt_litL, eq_litR, eq_litL, lt_nn, eq_nn, lt_n0, z_cl, add_lit, eq_m1, eq_m1', m1_lt, false_or, or_false, if_pos, if_neg, zbI_some, zbV_some, wr_same, wr_cell, wr_slot, ne_eq, not_true_eq_false, not_false_eq_true, true_and, and_true, false_and, and_false, e10, e01, e00, if_true, if_false, Bool.false_eq_true, lit_ne, lit_lt, eq_self, b5 c c1 c2, a5 c c1 c2], fun k hk => by simp (disch := omega) only [lt_litR, lt_litL, eq_litR, eq_litL, lt_nn, eq_nn, lt_n0, z_cl, add_lit, eq_m1, eq_m1', m1_lt, false_or, or_false, if_pos, if_neg, zbI_some, zbV_some, wr_same, wr_cell, wr_slot, ne_eq, not_true_eq_false, not_false_eq_true, true_and, and_true, false_and, and_false, e10, e01, e00, if_true, if_false, Bool.false_eq_true, lit_ne, lit_lt, eq_self, b6 k hk, a6 k hk]⟩
        rw [show m + (r + 1 - i) = (m + 1) + (r - q) + (q - i) by omega, a1, b1, qX4_workOut_34_35, c_itemSort _ _ t4 (by omega) s5, zbI_some, c_itemValue _ _ t4 (by omega) s5, zbI_some, qX4_work_34, qX4_work_34_0, t1]
        have hpop1 := c_pop (t := t + 1) d σ' b2 (by omega)
        have hpop2 := c_pop (t := t) d (wr σ' 34 5 (nI (t + 1))) (by simp (disch := omega) only [lt_litR, lt_litL, eq_litR, eq_litL, lt_nn, eq_nn, lt_n0, z_cl, add_lit, eq_m1, eq_m1', m1_lt, false_or, or_false, if_pos, if_neg, zbI_some, zbV_some, wr_same, wr_cell, wr_slot, ne_eq, not_true_eq_false, not_false_eq_true, true_and, and_true, false_and, and_false, e10, e01, e00, if_true, if_false, Bool.false_eq_true, lit_ne, lit_lt, eq_self]) (by omega)
        have hpush := fun v => c_push d (wr (wr σ' 34 5 (nI (t + 1))) 34 5 (nI t)) v (t := t) (by simp (disch := omega) only [lt_litR, lt_litL, eq_litR, eq_litL, lt_nn, eq_nn, lt_n0, z_cl, add_lit, eq_m1, eq_m1', m1_lt, false_or, or_false, if_pos, if_neg, zbI_some, zbV_some, wr_same, wr_cell, wr_slot, ne_eq, not_true_eq_false, not_false_eq_true, true_and, and_true, false_and, and_false, e10, e01, e00, if_true, if_false, Bool.false_eq_true, lit_ne, lit_lt, eq_self]) (show t < 34 by omega)
        have hv : σ' 37 t = v := by rw [b4 t (by omega), a3]
        have hS : ¬ S r = 0 ∧ ¬ S r = 1 ∧ ¬ S r = 2 := by
          rcases h7 with ⟨_, h7⟩ | ⟨_, h7⟩ | ⟨_, h7⟩ | ⟨_, h7⟩ <;> rw [h7] <;> decide
        simp (disch := omega) only [lt_litR, lt_litL, eq_litR, eq_litL, lt_nn, eq_nn, lt_n0, z_cl, add_lit, eq_m1, eq_m1', m1_lt, false_or, or_false, if_pos, if_neg, zbI_some, zbV_some, wr_same, wr_cell, wr_slot, ne_eq, not_true_eq_false, not_false_eq_true, true_and, and_true, false_and, and_false, e10, e01, e00, if_true, if_false, Bool.false_eq_true, lit_ne, lit_lt, eq_self, hS.1, hS.2.1, hS.2.2, hpop1, hpop2, b3, c_join, hv, hpush]
