theorem kF_w {P : zS} {s : kSt} (h : s.2.1 ≤ 2) : (kF P s).2.1 ≤ 2 := by
  rw [kF]
  split
  · exact h
  split
  · exact kTurn_w
  · simp only
    split <;> omega
theorem Agr.It {P T : zS} {L : Nat} {K R V : Nat → Int32} {n1 n2 : Nat} (hz : pSz P ≤ 200) (hK0 : n1 < L → K n1 = 0) (hW : ∀ x, x < pSz P → pW P T x) : ∀ (m : Nat) (e w : Nat) (τ1 τ2 : zS) (p b s pF bF sF : Nat), Agr P L K R V e w τ1 τ2 n1 n2 p b s → w ≤ 2 → (kIt P m (e, w, τ1)).2.2 38 31 = 0 → kInv (kIt P m (e, w, τ1)).2.2 n1 pF bF sF → pF ≤ L → (∀ i, i < L → i < kCt (kIt P m (e, w, τ1)).2.2 n1 pF → tK K R V (kIt P m (e, w, τ1)).2.2 i) →
    ∃ τ2' b s, kIt P m (e, w, τ2) = ((kIt P m (e, w, τ1)).1, (kIt P m (e, w, τ1)).2.1, τ2') ∧ Agr P L K R V (kIt P m (e, w, τ1)).1 (kIt P m (e, w, τ1)).2.1 (kIt P m (e, w, τ1)).2.2 τ2' n1 n2 pF b s := by
  intro m
  induction m with
  | zero =>
    intro e w τ1 τ2 p b s pF bF sF H hw hg hI hp hS
    obtain ⟨rfl, rfl, rfl⟩ := H.2.2.2.2.2.2.2.1.un hI
    exact ⟨τ2, _, _, rfl, H⟩
  | succ m ih =>
    intro e w τ1 τ2 p b s pF bF sF H hw hg hI hp hS
    rw [kIt] at hg hI hS ⊢
    rw [kIt]
    have hg1 := kIt_goes m hg
    have h8 := H.2.2.2.2.2.2.2.1
    have h0 := H.2.2.2.2.1
    obtain ⟨p1, b1, s1, c1, c2, c3, c5, c4⟩ := Mn.F (P := P) (s := (e, w, τ1)) h8 h0 hg1
    obtain ⟨p2, b2, s2, d1, d2, d3, d5, d4⟩ := Mn.It (P := P) m c1 hg
    obtain ⟨hpp, _, _⟩ := d1.un hI
    subst hpp
    have hS1 : ∀ i, i < L → i < kCt (kF P (e, w, τ1)).2.2 n1 p1 → tK K R V (kF P (e, w, τ1)).2.2 i := by
      intro i i1 i2
      obtain ⟨f1, f2, f3⟩ := d4 i i2
      obtain ⟨g1, g2, g3⟩ := hS i i1 (by omega)
      exact ⟨by rw [← f1, g1], by rw [← f2, g2], by rw [← f3, g3]⟩
    obtain ⟨τ2', b', s', e1, e2⟩ := H.F hw hz hK0 hW hg1 c1 (by omega) hS1
    rw [e1]
    have hw1 := kF_w (P := P) (s := (e, w, τ1)) hw
    obtain ⟨k1, k2, k3⟩ : ∃ x y z, kF P (e, w, τ1) = (x, y, z) := ⟨_, _, _, rfl⟩
    exact ih (kF P (e, w, τ1)).1 (kF P (e, w, τ1)).2.1 (kF P (e, w, τ1)).2.2 τ2' p1 b' s' _ _ _ e2 hw1 hg hI hp hS
/-- a run goes the same way over a history that has grown behind it -/
theorem replay {P T τa τb τ1 : zS} (hz : pSz P ≤ 200) (hW : ∀ x, x < pSz P → pW P T x) {na nb e w p b s L : Nat} (ha : τa 38 20 = nI na) (hna : na ≤ 200) (hb : τb 38 20 = nI nb) (hnb : nb ≤ 200) (hto : kTo P (0, 1, kInit τa) (e, w, τ1)) (hg : τ1 38 31 = 0) (hI : kInv τ1 na p b s) (hpL : p ≤ L) (hL : L ≤ nb) (hkb : kC τb L = false)
    (hr : τ1 38 34 = 0 → L ≤ na ∧ kC τ1 L = false) (hl : ¬ τ1 38 34 = 0 → L = p ∧ na < p ∧ τ1 50 na = 0) (ht : ∀ i, i < L → tEq τ1 τb i) :
    ∃ τ2 b' s', kTo P (0, 1, kInit τb) (e, w, τ2) ∧ Agr P L (τb 50) (τb 51) (τb 52) e w τ1 τ2 na nb p b' s' ∧ (∀ i, i < nb → tEq τb τ2 i) := by
  obtain ⟨m, hm⟩ := hto
  have h1a := kInit_inv τa ha hna
  have h1b := kInit_inv τb hb hnb
  have g : (kIt P m (0, 1, kInit τa)).2.2 = τ1 := by rw [hm]
  obtain ⟨p2, b2, s2, d1, d2, d3, d5, d4⟩ := Mn.It (P := P) m (s := (0, 1, kInit τa)) h1a (by rw [g]; exact hg)
  rw [g] at d1 d3 d4 d5
  simp only at d3 d4 d5
  obtain ⟨hpp, _, _⟩ := d1.un hI
  subst hpp
  have h34 : kInit τa 38 34 = 0 := kInit_0 τa (by omega)
  have hct : kCt (kInit τa) na 0 = na := by rw [kCt, if_pos h34]
  rw [hct] at d4 d5
  have hta : ∀ i, i < na → tEq τa τ1 i := fun i hi => by
    obtain ⟨f1, f2, f3⟩ := d4 i hi
    rw [kInit_cell τa (by omega) (by omega)] at f1 f2 f3
    exact ⟨f1, f2, f3⟩
  have hK0 : na < L → τb 50 na = 0 := by
    intro h
    by_cases hlv : τ1 38 34 = 0
    · have := (hr hlv).1; omega
    · obtain ⟨q1, q2, q3⟩ := hl hlv
      rw [(ht na h).1, q3]
  have hkb2 : kC (kInit τb) L = kC τb L := kC_cong (kInit_38 τb (by omega)) (by rw [kInit_cell τb (by omega) (by omega)])
  have hA : Agr P L (τb 50) (τb 51) (τb 52) 0 1 (kInit τa) (kInit τb) na nb 0 0 0 := by
    refine ⟨Nat.zero_le _, fun r hr => by rw [kInit_reg τa hr, kInit_reg τb hr], by rw [kInit_0 τa (by omega), kInit_0 τb (by omega)], by rw [kInit_0 τa (by omega), kInit_0 τb (by omega)], kInit_0 τa (by omega), kInit_0 τb (by omega), kInit_0 τb (by omega), h1a, h1b, fun i hi => ?_, hL, by rw [hkb2, hkb], fun i i1 i2 => ?_, fun _ hLn => ?_, fun h => absurd h (by decide), Nat.zero_le _, Or.inl (kInit_0 τa (by omega))⟩
    · rw [tK, kInit_cell τb (by omega) (by omega), kInit_cell τb (by omega) (by omega), kInit_cell τb (by omega) (by omega)]
      exact ⟨rfl, rfl, rfl⟩
    · rw [hct] at i2
      obtain ⟨f1, f2, f3⟩ := hta i i2
      obtain ⟨g1, g2, g3⟩ := ht i i1
      rw [tK, kInit_cell τa (by omega) (by omega), kInit_cell τa (by omega) (by omega), kInit_cell τa (by omega) (by omega)]
      exact ⟨by rw [g1, f1], by rw [g2, f2], by rw [g3, f3]⟩
    · by_cases hlv : τ1 38 34 = 0
      · have h5 := (hr hlv).2
        by_cases hLe : L = na
        · exact kC_false h1a.1 hna (by omega) (by omega)
        · rw [← h5]
          refine kC_cong (by rw [h1a.1, hI.1]) ?_
          rw [kInit_cell τa (by omega) (by omega), (hta L (by omega)).1]
      · have := hl hlv; omega
  have hS : ∀ i, i < L → i < kCt (kIt P m (0, 1, kInit τa)).2.2 na p → tK (τb 50) (τb 51) (τb 52) (kIt P m (0, 1, kInit τa)).2.2 i := by
    intro i i1 _
    rw [g]
    obtain ⟨g1, g2, g3⟩ := ht i i1
    exact ⟨g1.symm, g2.symm, g3.symm⟩
  obtain ⟨τ2, b', s', e1, e2⟩ := Agr.It hz hK0 hW m 0 1 (kInit τa) (kInit τb) 0 0 0 p b s hA (by omega) (by rw [g]; exact hg) (by rw [g]; exact hI) hpL hS
  rw [hm] at e1 e2
  simp only at e1 e2
  refine ⟨τ2, b', s', ⟨m, e1⟩, e2, fun i hi => ?_⟩
  obtain ⟨p3, b3, s3, f1, f2, f3, f5, f4⟩ := Mn.It (P := P) m (s := (0, 1, kInit τb)) h1b (by rw [e1]; exact e2.2.2.2.2.2.1)
  rw [e1] at f4
  have h34b : kInit τb 38 34 = 0 := kInit_0 τb (by omega)
  obtain ⟨g1, g2, g3⟩ := f4 i (by simp only [kCt]; rw [if_pos h34b]; exact hi)
  simp only at g1 g2 g3
  rw [kInit_cell τb (by omega) (by omega)] at g1 g2 g3
  exact ⟨g1, g2, g3⟩
