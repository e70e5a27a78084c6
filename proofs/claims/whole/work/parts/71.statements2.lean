-- statements while they are read
/-- one statement, over what holds of those in it -/
def RepS1 (so ta fi se fr S V op opX a b c nx : Nat → Int32) (St : Nat → Nat → Nat → Nat → Nat → Prop) (n e e' i i' : Nat) : Prop := n < 1600 ∧ fr e = nI i ∧ i < 1000 ∧ i' < 1000 ∧ (
      (e' = e + 1 ∧ (∃ r, r < 8 ∧ ta e = nI r ∧ a n = nI r) ∧ (
        (op n = 10 ∧ so e = 0 ∧ ∃ x, c n = nI x ∧ RX S V opX a b x i i') ∨
        (op n = 1 ∧ so e = 1 ∧ b n = fi e ∧ ∃ x, c n = nI x ∧ RX S V opX a b x i i') ∨
        (op n = 2 ∧ so e = 2 ∧ b n = 0 ∧ ∃ x, c n = nI x ∧ RX S V opX a b x i i') ∨
        (i = i' ∧ op n = 9 ∧ so e = 3 ∧ b n = fi e ∧ ∃ x, x < 8 ∧ fi e = nI x) ∨
        (i = i' ∧ op n = 3 ∧ so e = 4 ∧ b n = fi e ∧ c n = se e ∧ ∃ x y, x < 8 ∧ fi e = nI x ∧ y < 8 ∧ se e = nI y) ∨
        (i = i' ∧ op n = 4 ∧ so e = 5 ∧ b n = fi e ∧ ∃ x, x < 8 ∧ fi e = nI x) ∨
        (i = i' ∧ op n = 5 ∧ so e = 6) ∨
        (i = i' ∧ op n = 6 ∧ so e = 7) ∨
        (i = i' ∧ op n = 7 ∧ so e = 8 ∧ b n = fi e))) ∨
      (e' = e + 1 ∧ op n = 8 ∧ so e = 9 ∧ ∃ x, a n = nI x ∧ RX S V opX a b x i i') ∨
      (op n = 11 ∧ so e = 10 ∧ ∃ x j e1 i1 l1 l2, a n = nI x ∧ RX S V opX a b x i j ∧ j < 1000 ∧ i1 < 1000 ∧ Chain St nx l1 (b n) (e + 1) e1 j i1 ∧ so e1 = 12 ∧ fi e1 = nI e' ∧ fr e1 = nI i1 ∧ fi e = nI (e1 + 1) ∧ Chain St nx l2 (c n) (e1 + 1) e' i1 i') ∨
      (op n = 12 ∧ so e = 11 ∧ ∃ x j e1 l, a n = nI x ∧ RX S V opX a b x i j ∧ j < 1000 ∧ Chain St nx l (b n) (e + 1) e1 j i' ∧ so e1 = 12 ∧ fi e1 = nI e ∧ fr e1 = nI i' ∧ e' = e1 + 1 ∧ fi e = nI (e1 + 1)))
theorem RepS_1 {so ta fi se fr S V op a b c nx : Nat → Int32} {k n e e' i i' : Nat} : RepS so ta fi se fr S V op a b c nx (k + 1) n e e' i i' ↔ RepS1 so ta fi se fr S V op op a b c nx (RepS so ta fi se fr S V op a b c nx k) n e e' i i' := Iff.rfl
theorem Chain_tr {St St' : Nat → Nat → Nat → Nat → Nat → Prop} {nx nx' : Nat → Int32} (lt : ∀ n e e' i i', St n e e' i i' → e < e' ∧ i ≤ i') {E0 E1 I0 I1 : Nat} (h : ∀ n e e' i i', E0 ≤ e → e' ≤ E1 → I0 ≤ i → i' ≤ I1 → St n e e' i i' → St' n e e' i i' ∧ nx' n = nx n) : ∀ {l : List Nat} {hd : Int32} {e e' i i' : Nat}, E0 ≤ e → e' ≤ E1 → I0 ≤ i → i' ≤ I1 → Chain St nx l hd e e' i i' → Chain St' nx' l hd e e' i i' := by
  intro l
  induction l with
  | nil => intro hd e e' i i' _ _ _ _ hc; exact hc
  | cons n l ih =>
    intro hd e e' i i' h1 h2 h3 h4 hc
    obtain ⟨c1, e1, i1, c2, c3⟩ := hc
    obtain ⟨t1, t2⟩ := lt _ _ _ _ _ c2
    have k1 := Chain_le (fun n e e' i i' h => (lt n e e' i i' h).1) c3
    have k2 := Chain_ile (fun n e e' i i' h => (lt n e e' i i' h).2) c3
    obtain ⟨g1, g2⟩ := h _ _ _ _ _ h1 (by omega) h3 (by omega) c2
    exact ⟨c1, e1, i1, g1, by rw [g2]; exact ih (by omega) h2 (by omega) h4 c3⟩
theorem RX_tr {S V S' V' op a b op' a' b' : Nat → Int32} (h : ∀ n, ¬ op' n = 0 → op n = op' n ∧ a n = a' n ∧ b n = b' n) {x i j : Nat} (hr : RX S V op' a' b' x i j) (hI : ∀ q, i ≤ q → q < j → S' q = S q ∧ V' q = V q) : RX S' V' op a b x i j := by
  obtain ⟨k, k1, k2⟩ := hr
  exact ⟨k, k1, RepX_tr h k2 hI⟩
/-- a statement stands when others are written elsewhere -/
theorem RepS1_tr {so ta fi se fr S V so' ta' fi' se' fr' S' V' op opX a b c nx op' opX' a' b' c' nx' : Nat → Int32} {St St' : Nat → Nat → Nat → Nat → Nat → Prop} {n e e' i i' : Nat}
    (lt : ∀ n e e' i i', St n e e' i i' → e < e' ∧ i ≤ i') (hn : op' n = op n ∧ a' n = a n ∧ b' n = b n ∧ c' n = c n) (hX : ∀ m, ¬ opX m = 0 → opX' m = opX m ∧ a' m = a m ∧ b' m = b m)
    (hE : ∀ q, e ≤ q → q < e' → so' q = so q ∧ ta' q = ta q ∧ fi' q = fi q ∧ se' q = se q ∧ fr' q = fr q) (hI : ∀ q, i ≤ q → q < i' → S' q = S q ∧ V' q = V q)
    (hS : ∀ m f f' j j', e < f → f' ≤ e' → i ≤ j → j' ≤ i' → St m f f' j j' → St' m f f' j j' ∧ nx' m = nx m)
    (H : RepS1 so ta fi se fr S V op opX a b c nx St n e e' i i') : RepS1 so' ta' fi' se' fr' S' V' op' opX' a' b' c' nx' St' n e e' i i' := by
  obtain ⟨h1, h2, h3, h4, H⟩ := H
  obtain ⟨n1, n2, n3, n4⟩ := hn
  have hee : e < e' := by
    rcases H with ⟨h, _⟩ | ⟨h, _⟩ | ⟨_, _, x, j, e1, i1, l1, l2, h⟩ | ⟨_, _, x, j, e1, l, h⟩
    · omega
    · omega
    · have k1 := Chain_le (fun n e e' i i' h => (lt n e e' i i' h).1) h.2.2.2.2.1
      have k2 := Chain_le (fun n e e' i i' h => (lt n e e' i i' h).1) h.2.2.2.2.2.2.2.2.2
      omega
    · have k1 := Chain_le (fun n e e' i i' h => (lt n e e' i i' h).1) h.2.2.2.1
      omega
  obtain ⟨q1, q2, q3, q4, q5⟩ := hE e (Nat.le_refl _) hee
  refine ⟨h1, by rw [q5, h2], h3, h4, ?_⟩
  rw [n1, n2, n3, n4, q1, q2, q3, q4]
  rcases H with ⟨r1, r2, hr⟩ | ⟨r1, r2, r3, x, r4, r5⟩ | ⟨r1, r2, x, j, e1, i1, l1, l2, r3, r4, r5, r6, r7, r8, r9, r10, r11, r12⟩ | ⟨r1, r2, x, j, e1, l, r3, r4, r5, r6, r7, r8, r9, r10, r11⟩
  · refine Or.inl ⟨r1, r2, ?_⟩
    rcases hr with ⟨q1, q2, x, q3, q4⟩ | ⟨q1, q2, q5, x, q3, q4⟩ | ⟨q1, q2, q5, x, q3, q4⟩ | hr | hr | hr | hr | hr | hr
    · exact Or.inl ⟨q1, q2, x, q3, RX_tr hX q4 hI⟩
    · exact Or.inr (Or.inl ⟨q1, q2, q5, x, q3, RX_tr hX q4 hI⟩)
    · exact Or.inr (Or.inr (Or.inl ⟨q1, q2, q5, x, q3, RX_tr hX q4 hI⟩))
    · exact Or.inr (Or.inr (Or.inr (Or.inl hr)))
    · exact Or.inr (Or.inr (Or.inr (Or.inr (Or.inl hr))))
    · exact Or.inr (Or.inr (Or.inr (Or.inr (Or.inr (Or.inl hr)))))
    · exact Or.inr (Or.inr (Or.inr (Or.inr (Or.inr (Or.inr (Or.inl hr))))))
    · exact Or.inr (Or.inr (Or.inr (Or.inr (Or.inr (Or.inr (Or.inr (Or.inl hr)))))))
    · exact Or.inr (Or.inr (Or.inr (Or.inr (Or.inr (Or.inr (Or.inr (Or.inr hr)))))))
  · exact Or.inr (Or.inl ⟨r1, r2, r3, x, r4, RX_tr hX r5 hI⟩)
  · have k0 := RX_lt r4
    have k1 := Chain_le (fun n e e' i i' h => (lt n e e' i i' h).1) r7
    have k2 := Chain_ile (fun n e e' i i' h => (lt n e e' i i' h).2) r7
    have k3 := Chain_le (fun n e e' i i' h => (lt n e e' i i' h).1) r12
    have k4 := Chain_ile (fun n e e' i i' h => (lt n e e' i i' h).2) r12
    obtain ⟨w1, w2, w3, w4, w5⟩ := hE e1 (by omega) (by omega)
    refine Or.inr (Or.inr (Or.inl ⟨r1, r2, x, j, e1, i1, l1, l2, r3, RX_tr hX r4 (fun q q1 q2 => hI q q1 (by omega)), r5, r6, ?_, by rw [w1, r8], by rw [w3, r9], by rw [w5, r10], r11, ?_⟩))
    · exact Chain_tr lt (E0 := e + 1) (E1 := e') (I0 := i) (I1 := i') (fun m f f' j j' g1 g2 g3 g4 g5 => hS m f f' j j' (by omega) g2 g3 g4 g5) (by omega) (by omega) (by omega) (by omega) r7
    · exact Chain_tr lt (E0 := e + 1) (E1 := e') (I0 := i) (I1 := i') (fun m f f' j j' g1 g2 g3 g4 g5 => hS m f f' j j' (by omega) g2 g3 g4 g5) (by omega) (by omega) (by omega) (by omega) r12
  · have k0 := RX_lt r4
    have k1 := Chain_le (fun n e e' i i' h => (lt n e e' i i' h).1) r6
    have k2 := Chain_ile (fun n e e' i i' h => (lt n e e' i i' h).2) r6
    obtain ⟨w1, w2, w3, w4, w5⟩ := hE e1 (by omega) (by omega)
    refine Or.inr (Or.inr (Or.inr ⟨r1, r2, x, j, e1, l, r3, RX_tr hX r4 (fun q q1 q2 => hI q q1 (by omega)), r5, ?_, by rw [w1, r7], by rw [w3, r8], by rw [w5, r9], r10, r11⟩))
    exact Chain_tr lt (E0 := e + 1) (E1 := e') (I0 := i) (I1 := i') (fun m f f' j j' g1 g2 g3 g4 g5 => hS m f f' j j' (by omega) g2 g3 g4 g5) (by omega) (by omega) (by omega) (by omega) r6
theorem RepS_op {so ta fi se fr S V op a b c nx : Nat → Int32} {k n e e' i i' : Nat} (h : RepS so ta fi se fr S V op a b c nx k n e e' i i') : ¬ op n = 0 := by
  cases k with
  | zero => exact h.elim
  | succ k =>
    obtain ⟨_, _, _, _, hr⟩ := h
    rcases hr with ⟨_, _, hr⟩ | ⟨_, ho, _⟩ | ⟨ho, _⟩ | ⟨ho, _⟩
    · rcases hr with ⟨ho, _⟩ | ⟨ho, _⟩ | ⟨ho, _⟩ | ⟨_, ho, _⟩ | ⟨_, ho, _⟩ | ⟨_, ho, _⟩ | ⟨_, ho, _⟩ | ⟨_, ho, _⟩ | ⟨_, ho, _⟩ <;> rw [ho] <;> decide
    · rw [ho]; decide
    · rw [ho]; decide
    · rw [ho]; decide
theorem RepS_tr {so ta fi se fr S V so' ta' fi' se' fr' S' V' op a b c nx op' a' b' c' nx' : Nat → Int32} (h : ∀ n, ¬ op n = 0 → op' n = op n ∧ a' n = a n ∧ b' n = b n ∧ c' n = c n ∧ nx' n = nx n) : ∀ {k n e e' i i' : Nat}, (∀ q, e ≤ q → q < e' → so' q = so q ∧ ta' q = ta q ∧ fi' q = fi q ∧ se' q = se q ∧ fr' q = fr q) → (∀ q, i ≤ q → q < i' → S' q = S q ∧ V' q = V q) → RepS so ta fi se fr S V op a b c nx k n e e' i i' → RepS so' ta' fi' se' fr' S' V' op' a' b' c' nx' k n e e' i i' := by
  intro k
  induction k with
  | zero => intro n e e' i i' _ _ hr; exact hr.elim
  | succ k ih =>
    intro n e e' i i' hE hI hr
    have ho := RepS_op hr
    obtain ⟨o1, o2, o3, o4, o5⟩ := h n ho
    refine RepS_1.mpr (RepS1_tr (fun n e e' i i' h => ⟨RepS_lt h, RepS_ile h⟩) ⟨o1, o2, o3, o4⟩ (fun m hm => ⟨(h m hm).1, (h m hm).2.1, (h m hm).2.2.1⟩) hE hI (fun m f f' j j' g1 g2 g3 g4 g5 => ?_) (RepS_1.mp hr))
    exact ⟨ih (fun q q1 q2 => hE q (by omega) (by omega)) (fun q q1 q2 => hI q (by omega) (by omega)) g5, (h m (RepS_op g5)).2.2.2.2⟩
theorem RepS_mono {so ta fi se fr S V op a b c nx : Nat → Int32} : ∀ {k k' n e e' i i' : Nat}, RepS so ta fi se fr S V op a b c nx k n e e' i i' → k ≤ k' → RepS so ta fi se fr S V op a b c nx k' n e e' i i' := by
  intro k
  induction k with
  | zero => intro k' n e e' i i' h; exact h.elim
  | succ k ih =>
    intro k' n e e' i i' h hk
    obtain ⟨k', rfl⟩ : ∃ q, k' = q + 1 := ⟨k' - 1, by omega⟩
    refine RepS_1.mpr (RepS1_tr (fun n e e' i i' h => ⟨RepS_lt h, RepS_ile h⟩) ⟨rfl, rfl, rfl, rfl⟩ (fun _ _ => ⟨rfl, rfl, rfl⟩) (fun _ _ _ => ⟨rfl, rfl, rfl, rfl, rfl⟩) (fun _ _ _ => ⟨rfl, rfl⟩) (fun m f f' j j' g1 g2 g3 g4 g5 => ⟨ih g5 (by omega), rfl⟩) (RepS_1.mp h))
