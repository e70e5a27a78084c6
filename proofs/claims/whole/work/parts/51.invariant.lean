-- what holds between the calls
def Pc (σ : zS) : zS := fun c => if 15 ≤ c ∧ c ≤ 22 then σ c else fun _ => 0
theorem Pc_at (σ : zS) {c : Nat} (h : 15 ≤ c) (h2 : c ≤ 22) : Pc σ c = σ c := by rw [Pc, if_pos ⟨h, h2⟩]
theorem Pc_cong {σ σ' : zS} (h : ∀ c, 15 ≤ c → c ≤ 22 → σ' c = σ c) : Pc σ' = Pc σ := by
  funext c
  rw [Pc, Pc]
  by_cases hc : 15 ≤ c ∧ c ≤ 22
  · rw [if_pos hc, if_pos hc, h c hc.1 hc.2]
  · rw [if_neg hc, if_neg hc]
/-- the class's run is one of the flat machine's stops -/
def CRs (P σ τ : zS) (n : Nat) : Prop := ∃ e w τ1 p i, kTo P (0, 1, kInit τ) (e, w, τ1) ∧ Bnd P σ e w τ1 n p i ∧ σ 30 4 = nI i
theorem kTo_tab {P τ τ1 : zS} {e w n : Nat} (h : τ 38 20 = nI n) (hn : n ≤ 200) (hto : kTo P (0, 1, kInit τ) (e, w, τ1)) (hg : τ1 38 31 = 0) : ∀ i, i < n → tEq τ τ1 i := by
  obtain ⟨m, hm⟩ := hto
  have h1 := kInit_inv τ h hn
  obtain ⟨p3, b3, s3, f1, f2, f3, f5, f4⟩ := Mn.It (P := P) m (s := (0, 1, kInit τ)) h1 (by rw [hm]; exact hg)
  rw [hm] at f4
  intro i hi
  have h34 : kInit τ 38 34 = 0 := kInit_0 τ (by omega)
  obtain ⟨g1, g2, g3⟩ := f4 i (by simp only [kCt]; rw [if_pos h34]; exact hi)
  simp only at g1 g2 g3
  rw [kInit_cell τ (by omega) (by omega)] at g1 g2 g3
  exact ⟨g1, g2, g3⟩
theorem CRs.keep {P T σ σ' τ τ' : zS} {n n' : Nat} (H : CRs P σ τ n) (hz : pSz P ≤ 200) (hW : ∀ x, x < pSz P → pW P T x) (hP : PRel P σ') (h30 : ∀ k, (k = 1 ∨ k = 2 ∨ k = 4 ∨ k = 5) → σ' 30 k = σ 30 k) (h31 : ∀ r, r < 8 → σ' 31 r = σ 31 r) (hH : HRel σ' τ' n') (hn : n ≤ n') (h20 : τ 38 20 = nI n) (h20' : τ' 38 20 = nI n') (ht : ∀ i, i < n → tEq τ τ' i) (hk : kC τ' n = false) : CRs P σ' τ' n' := by
  obtain ⟨e, w, τ1, p, i, hto, B, h4⟩ := H
  obtain ⟨a1, a2, a3, a4, a5, a6, a7, a8, a9, ⟨b, s, a10⟩, a11, a12, a13, a14, a15, a16, a17⟩ := B
  have hn' := hH.2.1
  have hpn := a10.2.2.2.2.2.2.1 a11
  have htab := kTo_tab h20 (by omega) hto a14
  have hteq : ∀ i, i < n → tEq τ1 τ' i := fun i hi => by
    obtain ⟨x1, x2, x3⟩ := ht i hi
    obtain ⟨y1, y2, y3⟩ := htab i hi
    exact ⟨by rw [x1, y1], by rw [x2, y2], by rw [x3, y3]⟩
  obtain ⟨τ2, b', s', r1, r2, r3⟩ := replay (L := n) hz hW h20 (by omega) h20' hn' hto a14 a10 hpn hn hk (fun _ => ⟨Nat.le_refl _, kC_false a10.1 (by omega) (Nat.le_refl _) (by omega)⟩) (fun h => absurd a11 h) hteq
  have htq : ∀ i, i < n → tEq τ1 τ2 i := fun i hi => by
    obtain ⟨x1, x2, x3⟩ := hteq i hi
    obtain ⟨y1, y2, y3⟩ := r3 i (by omega)
    exact ⟨by rw [y1, x1], by rw [y2, x2], by rw [y3, x3]⟩
  obtain ⟨c1, c2, c3, c4, c5, c6, c7, c8, c9, c10, c11, c12, c13, c14, c15, c16, c17⟩ := r2
  refine ⟨e, w, τ2, p, i, r1, ⟨hP, by rw [h30 1 (by omega), a2], a3, fun r hr => by rw [h31 r hr, a4 r hr, c2 r hr], by rw [h30 2 (by omega), a5, c3], by rw [c3]; exact a6, by rw [h30 5 (by omega), a7], a8, hH.cong rfl rfl (fun _ _ => ⟨rfl, rfl, rfl, rfl⟩) (fun _ => rfl) (fun i hi => r3 i hi), ⟨b', s', c9⟩, c7, ?_, by rw [c4, a13], c6, by omega, fun k k1 k2 => ?_, fun k k1 k2 => ?_⟩, by rw [h30 4 (by omega), h4]⟩
  · by_cases hp : p = n
    · rw [hp]; exact c12
    · rw [kC_at c9.1 hn' (by omega), (htq p (by omega)).1, ← kC_at a10.1 (by omega) (by omega)]
      exact a12
  · rw [(htq k (by omega)).1]; exact a16 k k1 k2
  · rw [(htq k (by omega)).1]; exact a17 k k1 k2
/-- a run that begins anew -/
theorem CRs.fresh {P σ τ : zS} {n : Nat} (hP : PRel P σ) (h30 : ∀ k, 1 ≤ k → k ≤ 5 → σ 30 k = 0) (h31 : ∀ r, r < 8 → σ 31 r = 0) (hH : HRel σ τ n) (h20 : τ 38 20 = nI n) (hk : kC τ 0 = false) : CRs P σ τ n := by
  have hn := hH.2.1
  refine ⟨0, 1, kInit τ, 0, 0, kTo.rf, ⟨hP, by rw [h30 1 (by omega) (by omega)]; rfl, Nat.zero_le _, fun r hr => by rw [h31 r hr, kInit_reg τ hr], by rw [h30 2 (by omega) (by omega), kInit_0 τ (by omega)], ⟨0, by omega, by rw [kInit_0 τ (by omega)]; rfl⟩, by rw [h30 5 (by omega) (by omega)]; rfl, Or.inl rfl, ?_, ⟨0, 0, kInit_inv τ h20 hn⟩, kInit_0 τ (by omega), ?_, by rw [kInit_0 τ (by omega)]; rfl, kInit_0 τ (by omega), by omega, fun k k1 k2 => by omega, fun k k1 k2 => by omega⟩, by rw [h30 4 (by omega) (by omega)]; rfl⟩
  · exact hH.cong rfl rfl (fun _ _ => ⟨rfl, rfl, rfl, rfl⟩) (fun _ => rfl) (fun i _ => by rw [kInit_cell τ (by omega) (by omega), kInit_cell τ (by omega) (by omega), kInit_cell τ (by omega) (by omega)]; exact ⟨rfl, rfl, rfl⟩)
  · rw [← hk]
    exact kC_cong (kInit_38 τ (by omega)) (by rw [kInit_cell τ (by omega) (by omega)])
def TapeOk (σ : zS) : Prop := ∃ m, m ≤ 400 ∧ σ 1 1 = nI m ∧ σ 38 2 = nI m ∧ ∀ i, i < m → ∃ c, 32 ≤ c ∧ c ≤ 126 ∧ σ 2 i = nI c ∧ σ 39 i = nI c
def InvN (σ : zS) (n : Nat) : Prop :=
  TapeOk σ ∧ (σ 0 10 = σ 38 3 ∧ σ 0 11 = σ 38 28 ∧ σ 0 12 = σ 38 29) ∧ (HRel σ σ n ∧ σ 38 20 = nI n ∧ kC σ 0 = false) ∧
  ((∀ r, r < 8 → σ 33 r = σ 53 r) ∧ σ 32 5 = σ 38 25 ∧ σ 32 3 = σ 38 26 ∧ σ 32 2 = σ 38 27 ∧ (σ 32 5 = 0 ∨ σ 32 5 = 1)) ∧
  (σ 0 9 = σ 38 11 ∧ (σ 0 9 = 0 ∨ (σ 0 9 = 1 ∧ kProg (Pc σ) σ ∧ PRel (Pc σ) σ ∧ CRs (Pc σ) σ σ n))) ∧ ∃ sd, sd < 2 ∧ σ 38 10 = nI sd
theorem Bnd.cong {P σ σ' τ : zS} {e w n p i : Nat} (B : Bnd P σ e w τ n p i) (h1 : ∀ c, 15 ≤ c → c ≤ 22 → σ' c = σ c) (h2 : ∀ c, 24 ≤ c → c ≤ 29 → σ' c = σ c) (h30 : ∀ k, (k = 1 ∨ k = 2 ∨ k = 5) → σ' 30 k = σ 30 k) (h31 : σ' 31 = σ 31) : Bnd P σ' e w τ n p i := by
  obtain ⟨a1, a2, a3, a4, a5, a6, a7, a8, a9, a10, a11, a12, a13, a14, a15, a16, a17⟩ := B
  exact ⟨⟨fun c c1 c2 => by rw [h1 c c1 c2, a1.1 c c1 c2], a1.2⟩, by rw [h30 1 (by omega), a2], a3, fun r hr => by rw [h31, a4 r hr], by rw [h30 2 (by omega), a5], a6, by rw [h30 5 (by omega), a7], a8, a9.cong (by rw [h2 24 (by omega) (by omega)]) (by rw [h2 24 (by omega) (by omega)]) (fun i _ => by rw [h2 25 (by omega) (by omega), h2 26 (by omega) (by omega), h2 27 (by omega) (by omega), h2 28 (by omega) (by omega)]; exact ⟨rfl, rfl, rfl, rfl⟩) (fun i => by rw [h2 29 (by omega) (by omega)]) (fun _ _ => ⟨rfl, rfl, rfl⟩), a10, a11, a12, a13, a14, a15, a16, a17⟩
