-- what holds between the calls
def Pc (σ : zS) : zS := fun c => if 15 ≤ c ∧ c ≤ 22 then σ c else fun _ => 0
theorem Pc_at (σ : zS) {c : Nat} (h : 15 ≤ c) (h2 : c ≤ 22) : Pc σ c = σ c := by rw [Pc, if_pos ⟨h, h2⟩]
theorem Pc_cong {σ σ' : zS} (h : ∀ c, 15 ≤ c → c ≤ 22 → σ' c = σ c) : Pc σ' = Pc σ := by
  funext c
  rw [Pc, Pc]
  by_cases hc : 15 ≤ c ∧ c ≤ 22
  · rw [if_pos hc, if_pos hc, h c hc.1 hc.2]
  · rw [if_neg hc, if_neg hc]
/-- the class's run is one of the flat machine's stops -/
def CRs (P σ τ : zS) (n : Nat) : Prop := ∃ e w τ1 p i, kTo P (0, 1, kInit τ) (e, w, τ1) ∧ Bnd P σ e w τ1 n p i ∧ σ 30 4 = nI i
theorem kTo_tab {P τ τ1 : zS} {e w n : Nat} (h : τ 38 20 = nI n) (hn : n ≤ 200) (hto : kTo P (0, 1, kInit τ) (e, w, τ1)) (hg : τ1 38 31 = 0) : ∀ i, i < n → tEq τ τ1 i := by
  obtain ⟨m, hm⟩ := hto
  have h1 := kInit_inv τ h hn
  obtain ⟨p3, b3, s3, f1, f2, f3, f5, f4⟩ := Mn.It (P := P) m (s := (0, 1, kInit τ)) h1 (by rw [hm]; exact hg)
  rw [hm] at f4
  intro i hi
  have h34 : kInit τ 38 34 = 0 := kInit_0 τ (by omega)
  obtain ⟨g1, g2, g3⟩ := f4 i (by simp only [kCt]; rw [if_pos h34]; exact hi)
  simp only at g1 g2 g3
  rw [kInit_cell τ (by omega) (by omega)] at g1 g2 g3
  exact ⟨g1, g2, g3⟩
theorem CRs.keep {P T σ σ' τ τ' : zS} {n n' : Nat} (H : CRs P σ τ n) (hz : pSz P ≤ 200) (hW : ∀ x, x < pSz P → pW P T x) (hP : PRel P σ') (h30 : ∀ k, (k = 1 ∨ k = 2 ∨ k = 4 ∨ k = 5) → σ' 30 k = σ 30 k) (h31 : ∀ r, r < 8 → σ' 31 r = σ 31 r) (hH : HRel σ' τ' n') (hn : n ≤ n') (h20 : τ 38 20 = nI n) (h20' : τ' 38 20 = nI n') (ht : ∀ i, i < n → tEq τ τ' i) (hk : kC τ' n = false) : CRs P σ' τ' n' := by
  obtain ⟨e, w, τ1, p, i, hto, B, h4⟩ := H
  obtain ⟨a1, a2, a3, a4, a5, a6, a7, a8, a9, ⟨b, s, a10⟩, a11, a12, a13, a14, a15, a16, a17⟩ := B
  have hn' := hH.2.1
  have hpn := a10.2.2.2.2.2.2.1 a11
  have htab := kTo_tab h20 (by omega) hto a14
  have hteq : ∀ i, i < n → tEq τ1 τ' i := fun i hi => by
    obtain ⟨x1, x2, x3⟩ := ht i hi
    obtain ⟨y1, y2, y3⟩ := htab i hi
    exact ⟨by rw [x1, y1], by rw [x2, y2], by rw [x3, y3]⟩
  obtain ⟨τ2, b', s', r1, r2, r3⟩ := replay (L := n) hz hW h20 (by omega) h20' hn' hto a14 a10 hpn hn hk (fun _ => ⟨Nat.le_refl _, kC_false a10.1 (by omega) (Nat.le_refl _) (by omega)⟩) (fun h => absurd a11 h) hteq
  have htq : ∀ i, i < n → tEq τ1 τ2 i := fun i hi => by
    obtain ⟨x1, x2, x3⟩ := hteq i hi
    obtain ⟨y1, y2, y3⟩ := r3 i (by omega)
    exact ⟨by rw [y1, x1], by rw [y2, x2], by rw [y3, x3]⟩
  obtain ⟨c1, c2, c3, c4, c5, c6, c7, c8, c9, c10, c11, c12, c13, c14, c15, c16, c17⟩ := r2
  refine ⟨e, w, τ2, p, i, r1, ⟨hP, by rw [h30 1 (by omega), a2], a3, fun r hr => by rw [h31 r hr, a4 r hr, c2 r hr], by rw [h30 2 (by omega), a5, c3], by rw [c3]; exact a6, by rw [h30 5 (by omega), a7], a8, hH.cong rfl rfl (fun _ _ => ⟨rfl, rfl, rfl, rfl⟩) (fun _ => rfl) (fun i hi => r3 i hi), ⟨b', s', c9⟩, c7, ?_, by rw [c4, a13], c6, by omega, fun k k1 k2 => ?_, fun k k1 k2 => ?_⟩, by rw [h30 4 (by omega), h4]⟩
  · by_cases hp : p = n
    · rw [hp]; exact c12
    · rw [kC_at c9.1 hn' (by omega), (htq p (by omega)).1, ← kC_at a10.1 (by omega) (by omega)]
      exact a12
  · rw [(htq k (by omega)).1]; exact a16 k k1 k2
  · rw [(htq k (by omega)).1]; exact a17 k k1 k2
/-- a run that begins anew -/
theorem CRs.fresh {P σ τ : zS} {n : Nat} (hP : PRel P σ) (h30 : ∀ k, 1 ≤ k → k ≤ 5 → σ 30 k = 0) (h31 : ∀ r, r < 8 → σ 31 r = 0) (hH : HRel σ τ n) (h20 : τ 38 20 = nI n) (hk : kC τ 0 = false) : CRs P σ τ n := by
  have hn := hH.2.1
  refine ⟨0, 1, kInit τ, 0, 0, kTo.rf, ⟨hP, by rw [h30 1 (by omega) (by omega)]; rfl, Nat.zero_le _, fun r hr => by rw [h31 r hr, kInit_reg τ hr], by rw [h30 2 (by omega) (by omega), kInit_0 τ (by omega)], ⟨0, by omega, by rw [kInit_0 τ (by omega)]; rfl⟩, by rw [h30 5 (by omega) (by omega)]; rfl, Or.inl rfl, ?_, ⟨0, 0, kInit_inv τ h20 hn⟩, kInit_0 τ (by omega), ?_, by rw [kInit_0 τ (by omega)]; rfl, kInit_0 τ (by omega), by omega, fun k k1 k2 => by omega, fun k k1 k2 => by omega⟩, by rw [h30 4 (by omega) (by omega)]; rfl⟩
  · exact hH.cong rfl rfl (fun _ _ => ⟨rfl, rfl, rfl, rfl⟩) (fun _ => rfl) (fun i _ => by rw [kInit_cell τ (by omega) (by omega), kInit_cell τ (by omega) (by omega), kInit_cell τ (by omega) (by omega)]; exact ⟨rfl, rfl, rfl⟩)
  · rw [← hk]
    exact kC_cong (kInit_38 τ (by omega)) (by rw [kInit_cell τ (by omega) (by omega)])
/-- the reference's nodes of one side -/
def mask (sd : Nat) (T : zS) : zS := fun c => if 45 ≤ c ∧ c ≤ 49 then (fun n => if 800 * sd ≤ n ∧ n < 800 * sd + 800 then T c n else 0) else T c
theorem RepX_more {S V op a b op' a' b' : Nat → Int32} (h : ∀ n, ¬ op' n = 0 → op n = op' n ∧ a n = a' n ∧ b n = b' n) : ∀ {k hh n i j : Nat}, RepX S V op' a' b' k hh n i j → RepX S V op a b k hh n i j := by
  intro k
  induction k with
  | zero => intro hh n i j hr; exact hr
  | succ k ih =>
    intro hh n i j hr
    obtain ⟨h1, h2, hr⟩ := hr
    have hn : ¬ op' n = 0 := by
      rcases hr with ⟨_, h, _⟩ | ⟨_, h, _⟩ | ⟨_, _, h, _⟩ | ⟨x, y, q, r, _, _, _, _, _, _, h⟩
      · rw [h]; decide
      · rw [h]; decide
      · rw [h]; decide
      · rcases h with ⟨h, _⟩ | ⟨h, _⟩ | ⟨h, _⟩ | ⟨h, _⟩ <;> rw [h] <;> decide
    obtain ⟨e1, e2, e3⟩ := h n hn
    refine ⟨h1, h2, ?_⟩
    rw [e1, e2, e3]
    rcases hr with hr | hr | ⟨x, q, r1, r2, r3, r4⟩ | ⟨x, y, q, r, r1, r2, r3, r4, r5⟩
    · exact Or.inl hr
    · exact Or.inr (Or.inl hr)
    · exact Or.inr (Or.inr (Or.inl ⟨x, q, r1, r2, ih r3, r4⟩))
    · exact Or.inr (Or.inr (Or.inr ⟨x, y, q, r, r1, r2, ih r3, ih r4, r5⟩))
theorem Chain_more {St St' : Nat → Nat → Nat → Nat → Nat → Prop} {nx nx' : Nat → Int32} (h : ∀ n e e' i i', St' n e e' i i' → St n e e' i i' ∧ nx n = nx' n) : ∀ {l : List Nat} {hd : Int32} {e e' i i' : Nat}, Chain St' nx' l hd e e' i i' → Chain St nx l hd e e' i i' := by
  intro l
  induction l with
  | nil => intro hd e e' i i' hc; exact hc
  | cons n l ih =>
    intro hd e e' i i' hc
    obtain ⟨h1, e1, i1, h2, h3⟩ := hc
    obtain ⟨h4, h5⟩ := h _ _ _ _ _ h2
    exact ⟨h1, e1, i1, h4, by rw [h5]; exact ih h3⟩
theorem RepS_more {so ta fi se fr S V op a b c nx op' a' b' c' nx' : Nat → Int32} (h : ∀ n, ¬ op' n = 0 → op n = op' n ∧ a n = a' n ∧ b n = b' n ∧ c n = c' n ∧ nx n = nx' n) : ∀ {k n e e' i i' : Nat}, RepS so ta fi se fr S V op' a' b' c' nx' k n e e' i i' → RepS so ta fi se fr S V op a b c nx k n e e' i i' ∧ nx n = nx' n := by
  have hX : ∀ {x i j : Nat}, RX S V op' a' b' x i j → RX S V op a b x i j := fun ⟨k, k1, k2⟩ => ⟨k, k1, RepX_more (fun n hn => ⟨(h n hn).1, (h n hn).2.1, (h n hn).2.2.1⟩) k2⟩
  intro k
  induction k with
  | zero => intro n e e' i i' hr; exact hr.elim
  | succ k ih =>
    intro n e e' i i' hr
    obtain ⟨h1, h2, h3, h4, hr⟩ := hr
    have hn : ¬ op' n = 0 := by
      rcases hr with ⟨_, _, hr⟩ | ⟨_, ho, _⟩ | ⟨ho, _⟩ | ⟨ho, _⟩
      · rcases hr with ⟨ho, _⟩ | ⟨ho, _⟩ | ⟨ho, _⟩ | ⟨_, ho, _⟩ | ⟨_, ho, _⟩ | ⟨_, ho, _⟩ | ⟨_, ho, _⟩ | ⟨_, ho, _⟩ | ⟨_, ho, _⟩ <;> rw [ho] <;> decide
      · rw [ho]; decide
      · rw [ho]; decide
      · rw [ho]; decide
    obtain ⟨e1, e2, e3, e4, e5⟩ := h n hn
    refine ⟨⟨h1, h2, h3, h4, ?_⟩, e5⟩
    rw [e1, e2, e3, e4]
    rcases hr with ⟨r1, r2, hr⟩ | ⟨r1, r2, r3, x, r4, r5⟩ | ⟨r1, r2, x, j, e1, i1, l1, l2, r3, r4, r5, r6, r7, r8, r9, r10, r11, r12⟩ | ⟨r1, r2, x, j, e1, l, r3, r4, r5, r6, r7⟩
    · refine Or.inl ⟨r1, r2, ?_⟩
      rcases hr with ⟨q1, q2, x, q3, q4⟩ | ⟨q1, q2, q5, x, q3, q4⟩ | ⟨q1, q2, q5, x, q3, q4⟩ | hr | hr | hr | hr | hr | hr
      · exact Or.inl ⟨q1, q2, x, q3, hX q4⟩
      · exact Or.inr (Or.inl ⟨q1, q2, q5, x, q3, hX q4⟩)
      · exact Or.inr (Or.inr (Or.inl ⟨q1, q2, q5, x, q3, hX q4⟩))
      · exact Or.inr (Or.inr (Or.inr (Or.inl hr)))
      · exact Or.inr (Or.inr (Or.inr (Or.inr (Or.inl hr))))
      · exact Or.inr (Or.inr (Or.inr (Or.inr (Or.inr (Or.inl hr)))))
      · exact Or.inr (Or.inr (Or.inr (Or.inr (Or.inr (Or.inr (Or.inl hr))))))
      · exact Or.inr (Or.inr (Or.inr (Or.inr (Or.inr (Or.inr (Or.inr (Or.inl hr)))))))
      · exact Or.inr (Or.inr (Or.inr (Or.inr (Or.inr (Or.inr (Or.inr (Or.inr hr)))))))
    · exact Or.inr (Or.inl ⟨r1, r2, r3, x, r4, hX r5⟩)
    · exact Or.inr (Or.inr (Or.inl ⟨r1, r2, x, j, e1, i1, l1, l2, r3, hX r4, r5, r6, Chain_more (fun n e e2 i i2 h => ih (n := n) (e := e) (e' := e2) (i := i) (i' := i2) h) r7, r8, r9, r10, r11, Chain_more (fun n e e2 i i2 h => ih (n := n) (e := e) (e' := e2) (i := i) (i' := i2) h) r12⟩))
    · exact Or.inr (Or.inr (Or.inr ⟨r1, r2, x, j, e1, l, r3, hX r4, r5, Chain_more (fun n e e2 i i2 h => ih (n := n) (e := e) (e' := e2) (i := i) (i' := i2) h) r6, r7⟩))
theorem mask_ne {sd : Nat} {T : zS} {n : Nat} (h : ¬ mask sd T 45 n = 0) : ∀ c, 45 ≤ c → c ≤ 49 → T c n = mask sd T c n := by
  have hr : 800 * sd ≤ n ∧ n < 800 * sd + 800 := by
    by_cases hr : 800 * sd ≤ n ∧ n < 800 * sd + 800
    · exact hr
    · exfalso
      apply h
      rw [mask, if_pos (by omega), if_neg hr]
  intro c c1 c2
  rw [mask, if_pos ⟨c1, c2⟩, if_pos hr]
/-- the program that stands on both sides, the reference's on its own side -/
def kPrM (P T : zS) : Prop := ∃ sd, sd < 2 ∧ T 38 10 = nI sd ∧ kProg P (mask sd T)
theorem kPrM.to {P T : zS} (h : kPrM P T) : kProg P T := by
  obtain ⟨sd, h1, h2, hz, k, sd2, N, l, a2, a3, a4, a5, a6⟩ := h
  have m38 : mask sd T 38 = T 38 := by rw [mask, if_neg (by omega)]
  have m43 : mask sd T 43 = T 43 := by rw [mask, if_neg (by omega)]
  rw [m38] at a4
  rw [m43] at a5
  exact ⟨hz, k, sd2, N, l, a2, a3, a4, Chain_more (fun n e e' i i' hr => RepS_more (fun n hn => ⟨mask_ne hn 45 (by omega) (by omega), mask_ne hn 46 (by omega) (by omega), mask_ne hn 47 (by omega) (by omega), mask_ne hn 48 (by omega) (by omega), mask_ne hn 49 (by omega) (by omega)⟩) hr) a5, a6⟩
theorem kPrM.cong2 {P T T' : zS} (h : kPrM P T) (h1 : ∀ sd, T 38 10 = nI sd → ∀ c n, 45 ≤ c → c ≤ 49 → 800 * sd ≤ n → n < 800 * sd + 800 → T' c n = T c n) (h2 : ∀ sd, T 38 10 = nI sd → T' 43 sd = T 43 sd) (h3 : T' 38 10 = T 38 10) : kPrM P T' := by
  obtain ⟨sd, a1, a2, hz, k, sd2, N, l, b2, b3, b4, b5, b6⟩ := h
  have m38 : ∀ T : zS, mask sd T 38 = T 38 := fun T => by rw [mask, if_neg (by omega)]
  have m43 : ∀ T : zS, mask sd T 43 = T 43 := fun T => by rw [mask, if_neg (by omega)]
  rw [m38] at b4
  have hm : ∀ c, 45 ≤ c → c ≤ 49 → mask sd T' c = mask sd T c := fun c c1 c2 => by
    rw [mask, mask, if_pos ⟨c1, c2⟩, if_pos ⟨c1, c2⟩]
    funext n
    by_cases hr : 800 * sd ≤ n ∧ n < 800 * sd + 800
    · rw [if_pos hr, if_pos hr, h1 sd a2 c n c1 c2 hr.1 hr.2]
    · rw [if_neg hr, if_neg hr]
  refine ⟨sd, a1, by rw [h3, a2], hz, k, sd2, N, l, b2, b3, by rw [m38, h3, b4], ?_, b6⟩
  rw [RpS, hm 45 (by omega) (by omega), hm 46 (by omega) (by omega), hm 47 (by omega) (by omega), hm 48 (by omega) (by omega), hm 49 (by omega) (by omega), m43, h2 sd2 b4, ← m43 T]
  exact b5
theorem kPrM.cong {P T T' : zS} (h : kPrM P T) (h1 : ∀ c, 45 ≤ c → c ≤ 49 → T' c = T c) (h2 : T' 43 = T 43) (h3 : T' 38 10 = T 38 10) : kPrM P T' :=
  h.cong2 (fun _ _ c n c1 c2 _ _ => by rw [h1 c c1 c2]) (fun _ _ => by rw [h2]) h3
def TapeOk (σ : zS) : Prop := ∃ m, m ≤ 400 ∧ σ 1 1 = nI m ∧ σ 38 2 = nI m ∧ ∀ i, i < m → ∃ c, 32 ≤ c ∧ c ≤ 126 ∧ σ 2 i = nI c ∧ σ 39 i = nI c
def InvN (σ : zS) (n : Nat) : Prop :=
  TapeOk σ ∧ (σ 0 10 = σ 38 3 ∧ σ 0 11 = σ 38 28 ∧ σ 0 12 = σ 38 29) ∧ (HRel σ σ n ∧ σ 38 20 = nI n ∧ kC σ 0 = false) ∧
  ((∀ r, r < 8 → σ 33 r = σ 53 r) ∧ σ 32 5 = σ 38 25 ∧ σ 32 3 = σ 38 26 ∧ σ 32 2 = σ 38 27 ∧ (σ 32 5 = 0 ∨ σ 32 5 = 1)) ∧
  (σ 0 9 = σ 38 11 ∧ (σ 0 9 = 0 ∨ (σ 0 9 = 1 ∧ kPrM (Pc σ) σ ∧ PRel (Pc σ) σ ∧ CRs (Pc σ) σ σ n))) ∧ ∃ sd, sd < 2 ∧ σ 38 10 = nI sd
theorem Bnd.cong {P σ σ' τ : zS} {e w n p i : Nat} (B : Bnd P σ e w τ n p i) (h1 : ∀ c, 15 ≤ c → c ≤ 22 → σ' c = σ c) (h2 : ∀ c, 24 ≤ c → c ≤ 29 → σ' c = σ c) (h30 : ∀ k, (k = 1 ∨ k = 2 ∨ k = 5) → σ' 30 k = σ 30 k) (h31 : σ' 31 = σ 31) : Bnd P σ' e w τ n p i := by
  obtain ⟨a1, a2, a3, a4, a5, a6, a7, a8, a9, a10, a11, a12, a13, a14, a15, a16, a17⟩ := B
  exact ⟨⟨fun c c1 c2 => by rw [h1 c c1 c2, a1.1 c c1 c2], a1.2⟩, by rw [h30 1 (by omega), a2], a3, fun r hr => by rw [h31, a4 r hr], by rw [h30 2 (by omega), a5], a6, by rw [h30 5 (by omega), a7], a8, a9.cong (by rw [h2 24 (by omega) (by omega)]) (by rw [h2 24 (by omega) (by omega)]) (fun i _ => by rw [h2 25 (by omega) (by omega), h2 26 (by omega) (by omega), h2 27 (by omega) (by omega), h2 28 (by omega) (by omega)]; exact ⟨rfl, rfl, rfl, rfl⟩) (fun i => by rw [h2 29 (by omega) (by omega)]) (fun _ _ => ⟨rfl, rfl, rfl⟩), a10, a11, a12, a13, a14, a15, a16, a17⟩
