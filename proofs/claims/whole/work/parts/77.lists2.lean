-- lists of statements while they are read
def hdOf : List Nat → Int32
  | [] => -1
  | x :: _ => nI x
def lst : List Nat → Nat
  | [] => 0
  | [x] => x
  | _ :: y :: l => lst (y :: l)
def LC (σ τ : zS) (k : Nat) : List Nat → Nat → Nat → Nat → Nat → Nat → Nat → Prop
  | [], lo, hi, e, e', i, i' => lo = hi ∧ e = e' ∧ i = i'
  | x :: l, lo, hi, e, e', i, i' => ∃ e1 i1, lo ≤ x ∧ x < hi ∧ SG σ τ k lo x e e1 i i1 ∧ τ 49 x = hdOf l ∧ LC σ τ k l (x + 1) hi e1 e' i1 i'
theorem LC.le {σ τ : zS} {k : Nat} : ∀ {l : List Nat} {lo hi e e' i i' : Nat}, LC σ τ k l lo hi e e' i i' → lo ≤ hi ∧ e ≤ e' ∧ i ≤ i' := by
  intro l
  induction l with
  | nil => intro lo hi e e' i i' h; obtain ⟨rfl, rfl, rfl⟩ := h; exact ⟨Nat.le_refl _, Nat.le_refl _, Nat.le_refl _⟩
  | cons x l ih =>
    intro lo hi e e' i i' h
    obtain ⟨e1, i1, h1, h2, h3, h4, h5⟩ := h
    have := ih h5
    have := h3.lt
    omega
theorem LC.lstIn {σ τ : zS} {k : Nat} : ∀ {l : List Nat} {lo hi e e' i i' : Nat}, LC σ τ k l lo hi e e' i i' → ¬ l = [] → lo ≤ lst l ∧ lst l < hi := by
  intro l
  induction l with
  | nil => intro lo hi e e' i i' h hn; exact absurd rfl hn
  | cons x l ih =>
    intro lo hi e e' i i' h _
    obtain ⟨e1, i1, h1, h2, h3, h4, h5⟩ := h
    cases l with
    | nil => exact ⟨h1, h2⟩
    | cons y l =>
      have := ih h5 (by intro h; cases h)
      have hy : lst (x :: y :: l) = lst (y :: l) := rfl
      rw [hy]; omega
theorem LC.fr {σ τ σ' τ' : zS} {k : Nat} : ∀ {l : List Nat} {lo hi e e' i i' : Nat}, LC σ τ k l lo hi e e' i i' → (∀ c q, 8 ≤ c → c ≤ 12 → e ≤ q → q < e' → σ' c q = σ c q) → (∀ q, i ≤ q → q < i' → σ' 13 q = σ 13 q ∧ σ' 14 q = σ 14 q) → (∀ c n, 45 ≤ c → c ≤ 49 → lo ≤ n → n < hi → τ' c n = τ c n) → LC σ' τ' k l lo hi e e' i i' := by
  intro l
  induction l with
  | nil => intro lo hi e e' i i' h _ _ _; exact h
  | cons x l ih =>
    intro lo hi e e' i i' h hE hI hN
    obtain ⟨e1, i1, h1, h2, h3, h4, h5⟩ := h
    have t := h3.lt
    have t5 := h5.le
    exact ⟨e1, i1, h1, h2, h3.tr (fun c q c1 c2 q1 q2 => hE c q c1 c2 q1 (by omega)) (fun q q1 q2 => hI q q1 (by omega)) (fun c n c1 c2 n1 n2 => hN c n c1 c2 n1 (by omega)) (fun c c1 c2 => hN c x c1 (by omega) h1 h2), by rw [hN 49 x (by omega) (by omega) h1 h2, h4], ih h5 (fun c q c1 c2 q1 q2 => hE c q c1 c2 (by omega) q2) (fun q q1 q2 => hI q (by omega) q2) (fun c n c1 c2 n1 n2 => hN c n c1 c2 (by omega) n2)⟩
/-- one more behind -/
theorem LC.app {σ τ σ' τ' : zS} {k x e2 i2 : Nat} : ∀ {l : List Nat} {lo hi e e' i i' : Nat}, LC σ τ k l lo hi e e' i i' → (∀ c q, 8 ≤ c → c ≤ 12 → e ≤ q → q < e' → σ' c q = σ c q) → (∀ q, i ≤ q → q < i' → σ' 13 q = σ 13 q ∧ σ' 14 q = σ 14 q) → (∀ c n, 45 ≤ c → c ≤ 48 → lo ≤ n → n < hi → τ' c n = τ c n) → (∀ n, lo ≤ n → n < hi → (¬ l = [] → n ≠ lst l) → τ' 49 n = τ 49 n) → (¬ l = [] → τ' 49 (lst l) = nI x) → hi ≤ x → SG σ' τ' k hi x e' e2 i' i2 → τ' 49 x = -1 → LC σ' τ' k (l ++ [x]) lo (x + 1) e e2 i i2 := by
  intro l
  induction l with
  | nil =>
    intro lo hi e e' i i' h _ _ _ _ _ hx hS h1
    obtain ⟨rfl, rfl, rfl⟩ := h
    exact ⟨e2, i2, hx, by omega, hS, h1, rfl, rfl, rfl⟩
  | cons y l ih =>
    intro lo hi e e' i i' h hE hI hN hM hL hx hS hz
    obtain ⟨e1, i1, h1, h2, h3, h4, h5⟩ := h
    have t := h3.lt
    have t5 := h5.le
    cases l with
    | nil =>
      have hy : lst [y] = y := rfl
      obtain ⟨rfl, rfl, rfl⟩ := h5
      refine ⟨e1, i1, h1, by omega, h3.tr (fun c q c1 c2 q1 q2 => hE c q c1 c2 q1 q2) hI (fun c n c1 c2 n1 n2 => ?_) (fun c c1 c2 => hN c y c1 (by omega) h1 h2), ?_, e2, i2, hx, by omega, hS, hz, rfl, rfl, rfl⟩
      · by_cases hc : c = 49
        · subst hc; exact hM n n1 (by omega) (fun _ => by rw [hy]; omega)
        · exact hN c n c1 (by omega) n1 (by omega)
      · have := hL (by intro h; cases h)
        rw [hy] at this; exact this
    | cons z l =>
      have hl := h5.lstIn (by intro h; cases h)
      have hy : lst (y :: z :: l) = lst (z :: l) := rfl
      refine ⟨e1, i1, h1, by omega, h3.tr (fun c q c1 c2 q1 q2 => hE c q c1 c2 q1 (by omega)) (fun q q1 q2 => hI q q1 (by omega)) (fun c n c1 c2 n1 n2 => ?_) (fun c c1 c2 => hN c y c1 (by omega) h1 h2), ?_, ?_⟩
      · by_cases hc : c = 49
        · subst hc; exact hM n n1 (by omega) (fun _ => by rw [hy]; omega)
        · exact hN c n c1 (by omega) n1 (by omega)
      · rw [hM y h1 h2 (fun _ => by rw [hy]; omega), h4]; rfl
      · exact ih h5 (fun c q c1 c2 q1 q2 => hE c q c1 c2 (by omega) q2) (fun q q1 q2 => hI q (by omega) q2) (fun c n c1 c2 n1 n2 => hN c n c1 c2 (by omega) n2) (fun n n1 n2 n3 => hM n (by omega) n2 (fun _ => n3 (by intro h; cases h))) (fun _ => hL (by intro h; cases h)) hx hS hz
theorem LC.chain {σ τ : zS} {k : Nat} {lo2 hi2 : Nat} : ∀ {l : List Nat} {lo hi e e' i i' : Nat}, LC σ τ k l lo hi e e' i i' → lo2 ≤ lo → hi ≤ hi2 → Chain (RepS (σ 8) (σ 9) (σ 10) (σ 11) (σ 12) (σ 13) (σ 14) (mkT lo2 hi2 (τ 45)) (τ 46) (τ 47) (τ 48) (τ 49) (k + 1)) (τ 49) l (hdOf l) e e' i i' := by
  intro l
  induction l with
  | nil => intro lo hi e e' i i' h _ _; exact ⟨rfl, h.2.1, h.2.2⟩
  | cons x l ih =>
    intro lo hi e e' i i' h g1 g2
    obtain ⟨e1, i1, h1, h2, h3, h4, h5⟩ := h
    exact ⟨rfl, e1, i1, h3.rep g1 (by omega) h1, by rw [h4]; exact ih h5 (by omega) g2⟩
theorem SG.mono {σ τ : zS} {k k' lo x e e' i i' : Nat} (H : SG σ τ k lo x e e' i i') (hk : k ≤ k') : SG σ τ k' lo x e e' i i' :=
  RepS1_tr (fun n e e' i i' h => ⟨RepS_lt h, RepS_ile h⟩) ⟨rfl, rfl, rfl, rfl⟩ (fun _ _ => ⟨rfl, rfl, rfl⟩) (fun _ _ _ => ⟨rfl, rfl, rfl, rfl, rfl⟩) (fun _ _ _ => ⟨rfl, rfl⟩) (fun m f f' j j' g1 g2 g3 g4 g5 => ⟨RepS_mono g5 hk, rfl⟩) H
theorem SRes.mono {mm s sd : Nat} {σ τ : zS} {p dep ne ni nn k k' : Nat} {oc om : Option zR} (H : SRes mm s sd σ τ p dep ne ni nn k oc om) (hk : k ≤ k') : SRes mm s sd σ τ p dep ne ni nn k' oc om := by
  obtain ⟨r, σ', τ', h1, h2, h3, h4, h5⟩ := H
  refine ⟨r, σ', τ', h1, h2, h3, h4, ?_⟩
  rcases h5 with h5 | ⟨g0, p', ne', ni', nn', nj', nc', g1, g2, g3, g4, g5, g6, g7, g8, g9⟩
  · exact Or.inl h5
  · exact Or.inr ⟨g0, p', ne', ni', nn', nj', nc', g1, g2, g3, g4, g5, g6, g7, g8.mono hk, g9⟩
/-- the node of ? or @ -/
theorem t_fin2 (d : Nat) {mm s sd : Nat} {σ τ σ1 τ1 : zS} {p dep ne ni nn p1 ne1 ni1 nn1 nj nc k : Nat} (o x y z : Int32) (H1 : PB mm s sd σ1 τ1 p1 dep ne1 ni1 nn1) (hx : pFr σ σ1 ne ni) (hy : qFr sd τ τ1 nn) (hp : p < p1) (he : 2 * ne1 + p ≤ 2 * ne + p1) (hi : ni1 + p ≤ ni + p1) (hn : nn1 + 1 + p ≤ nn + p1) (hn0 : nn ≤ nn1) (hi0 : ni ≤ ni1) (h2ne : 2 * ne ≤ p) (hnn : nn ≤ p) (hj : σ1 7 9 = nI nj) (hc : τ1 38 14 = nI nc) (hjc : nc + nj = ne1)
    (hB : RepS1 (σ1 8) (σ1 9) (σ1 10) (σ1 11) (σ1 12) (σ1 13) (σ1 14) (mNd τ1 sd nn1 o x y z 45) (mkT (800 * (1 - sd) + nn) (800 * (1 - sd) + nn1) (τ1 45)) (mNd τ1 sd nn1 o x y z 46) (mNd τ1 sd nn1 o x y z 47) (mNd τ1 sd nn1 o x y z 48) (τ1 49) (RepS (σ1 8) (σ1 9) (σ1 10) (σ1 11) (σ1 12) (σ1 13) (σ1 14) (mkT (800 * (1 - sd) + nn) (800 * (1 - sd) + nn1) (τ1 45)) (τ1 46) (τ1 47) (τ1 48) (τ1 49) k) (800 * (1 - sd) + nn1) ne ne1 ni ni1) :
    SRes mm s sd σ τ p dep ne ni nn k (some (1, 1, σ1)) (zbI (zM (d + 1) mX8_node [.inr (.inr 38), .inl o, .inl x, .inl y, .inl z] τ1) (fun r2 s2 => some (1, 1, wr s2 38 41 r2))) := by
  have hle := H1.le
  obtain ⟨e0, e1, e2, e3, e4, e5, e6⟩ := mNd_at τ1 sd nn1 o x y z
  have yN : qFr sd τ1 (wr (mNd τ1 sd nn1 o x y z) 38 41 (nI (800 * (1 - sd) + nn1))) nn1 := (yFr.node hle.2.2.2.2.1 (by omega) o x y z).q.tr (qFr.w (by omega) _) (Nat.le_refl _)
  have H2 : PB mm s sd σ1 (wr (mNd τ1 sd nn1 o x y z) 38 41 (nI (800 * (1 - sd) + nn1))) p1 dep ne1 ni1 (nn1 + 1) := by
    refine H1.ofP pFr.rf yN H1.2.2.2.2.2.2.2.2.1 ?_ hle.1 ?_ hle.2.2.2.2.2 H1.2.2.2.2.2.2.2.2.2.2.2.2.2.1 H1.2.2.2.2.2.2.2.2.2.2.2.2.2.2.1 H1.2.2.2.2.2.2.2.2.2.2.2.2.2.2.2.1 ?_ hle.2.2.1 (by omega)
    · rw [wr_slot _ _ _ (by omega), e6, H1.2.2.2.2.2.2.2.2.2.1]
    · rw [wr_slot _ _ _ (by omega), e6, H1.2.2.2.2.2.2.2.2.2.2.2.1]
    · rw [wr_cell _ _ _ (by omega), e0]
  rw [m_node d H1.2.2.2.2.2.2.1 H1.2.2.2.2.2.2.2.1 H1.2.2.2.2.2.2.2.2.2.2.2.2.2.2.2.2.1 (by omega), zbI_some]
  have c45 : ∀ c, 45 ≤ c → c ≤ 49 → wr (mNd τ1 sd nn1 o x y z) 38 41 (nI (800 * (1 - sd) + nn1)) c = mNd τ1 sd nn1 o x y z c := fun c h1 h2 => by rw [wr_cell _ _ _ (by omega)]
  refine ⟨1, _, _, rfl, rfl, hx, hy.tr yN hn0, Or.inr ⟨rfl, p1, ne1, ni1, nn1 + 1, nj, nc, ⟨H2, hj, ?_, hjc, by omega⟩, hp, he, hi, hn, by omega, ?_, ?_, ?_⟩⟩
  · rw [wr_slot _ _ _ (by omega), e6, hc]
  · rw [wr_same, Nat.add_sub_cancel]
  · rw [Nat.add_sub_cancel, SG, c45 45 (by omega) (by omega), c45 46 (by omega) (by omega), c45 47 (by omega) (by omega), c45 48 (by omega) (by omega), c45 49 (by omega) (by omega)]
    have hm : mkT (800 * (1 - sd) + nn) (800 * (1 - sd) + nn1) (mNd τ1 sd nn1 o x y z 45) = mkT (800 * (1 - sd) + nn) (800 * (1 - sd) + nn1) (τ1 45) := by
      funext n
      rw [mkT, mkT]
      by_cases hr : 800 * (1 - sd) + nn ≤ n ∧ n < 800 * (1 - sd) + nn1
      · rw [if_pos hr, if_pos hr, mNd_ne _ _ _ _ _ _ _ (by omega) (by omega) (by omega)]
      · rw [if_neg hr, if_neg hr]
    rw [hm]
    refine RepS1_tr (fun n e e' i i' h => ⟨RepS_lt h, RepS_ile h⟩) ⟨rfl, rfl, rfl, rfl⟩ (fun m _ => ⟨rfl, rfl, rfl⟩) (fun q _ _ => ⟨rfl, rfl, rfl, rfl, rfl⟩) (fun q _ _ => ⟨rfl, rfl⟩) (fun m f f' j j' g1 g2 g3 g4 g5 => ⟨RepS_tr (fun q hq => ?_) (fun q _ _ => ⟨rfl, rfl, rfl, rfl, rfl⟩) (fun q _ _ => ⟨rfl, rfl⟩) g5, ?_⟩) hB
    · have hr := mkT_in hq
      exact ⟨rfl, mNd_ne _ _ _ _ _ _ _ (by omega) (by omega) (by omega), mNd_ne _ _ _ _ _ _ _ (by omega) (by omega) (by omega), mNd_ne _ _ _ _ _ _ _ (by omega) (by omega) (by omega), mNd_ne _ _ _ _ _ _ _ (by omega) (by omega) (by omega)⟩
    · have hr := mkT_in (RepS_op g5)
      exact mNd_ne _ _ _ _ _ _ _ (by omega) (by omega) (by omega)
  · rw [c45 49 (by omega) (by omega), Nat.add_sub_cancel, e5]
def cJ (σ : zS) (ne ni nj : Nat) (t : Int32) : zS := wr (wr (cE σ ne ni 12 0) 10 ne t) 7 9 (nI (nj + 1))
theorem c_addJump (d : Nat) {σ : zS} {ne ni nj : Nat} (h7 : σ 7 7 = nI ne) (h8 : σ 7 8 = nI ni) (h9 : σ 7 9 = nI nj) (hn : ne < 200) (hj : nj < 1000) (t : Int32) : zM (d + 3) mX1_addJump [.inr (.inr 7), .inl t] σ = some (1, nI ne, cJ σ ne ni nj t) := by
  obtain ⟨c1, c2, c3, c4, c5, c6, c7, c8, c9, c10⟩ := cE_fr σ ne ni 12 0
  rw [qX1_addJump_7, qX1_addJump_7_0, c_addE (d + 1) h7 h8 hn, zbI_some, c_setFirst d c2 (by omega) (by omega), zbV_some, cJ, wr_cell _ _ _ (show 7 ≠ 10 by omega), c4, h9, nI_1]
theorem cJ_fr (σ : zS) (ne ni nj : Nat) (t : Int32) : pFr σ (cJ σ ne ni nj t) ne ni ∧ cJ σ ne ni nj t 7 7 = nI (ne + 1) ∧ cJ σ ne ni nj t 7 8 = σ 7 8 ∧ cJ σ ne ni nj t 7 9 = nI (nj + 1) ∧ cJ σ ne ni nj t 3 = σ 3 ∧ cJ σ ne ni nj t 8 ne = 12 ∧ cJ σ ne ni nj t 10 ne = t ∧ cJ σ ne ni nj t 12 ne = nI ni := by
  obtain ⟨c1, c2, c3, c4, c5, c6, c7, c8, c9, c10⟩ := cE_fr σ ne ni 12 0
  refine ⟨c1.tr ((pFr.set (c := 10) (by omega) (Nat.le_refl _) t).tr (c := cJ σ ne ni nj t) (f := ne) (j := ni) ⟨fun c h1 h2 h3 => ?_, fun j hj => ?_, fun c q h1 h2 h3 => ?_, fun i hi => ?_⟩ (Nat.le_refl _) (Nat.le_refl _)) (Nat.le_refl _) (Nat.le_refl _), ?_, ?_, ?_, ?_, ?_, ?_, ?_⟩
  · rw [cJ, wr_cell _ _ _ (by omega)]
  · rw [cJ, wr_cell _ _ _ (by omega)]
  · rw [cJ, wr_cell _ _ _ (by omega)]
  · rw [cJ, wr_cell _ _ _ (by omega), wr_cell _ _ _ (by omega)]; exact ⟨rfl, rfl⟩
  · rw [cJ, wr_slot _ _ _ (by omega), wr_cell _ _ _ (by omega), c2]
  · rw [cJ, wr_slot _ _ _ (by omega), wr_cell _ _ _ (by omega), c3]
  · rw [cJ, wr_same]
  · rw [cJ, wr_cell _ _ _ (by omega), wr_cell _ _ _ (by omega), c5]
  · rw [cJ, wr_cell _ _ _ (by omega), wr_cell _ _ _ (by omega), c6]
  · rw [cJ, wr_cell _ _ _ (by omega), wr_same]
  · rw [cJ, wr_cell _ _ _ (by omega), wr_cell _ _ _ (by omega), c10]
theorem c_psize (d : Nat) {σ : zS} {ne : Nat} (h7 : σ 7 7 = nI ne) : zM (d + 1) mX1_size [.inr (.inr 7)] σ = some (1, nI ne, σ) := by
  rw [qX1_size_7, qX1_size_7_0, h7]
