-- String's methods wherever the tokens call them
theorem zsw1 : zin 475 (.methodLink RX6 105 yJ0_length_8abf5) = true ∧ zin 476 (.instanceMethod yJ0_length_8abf5) = true ∧ zin 477 (.selects RJ0 yJ0_length_8abf5 yJ0_length_8abf5) = true ∧ zin 485 (.methodLink RX6 106 yJ0_charAt_5068e) = true ∧ zin 486 (.instanceMethod yJ0_charAt_5068e) = true ∧ zin 487 (.selects RJ0 yJ0_charAt_5068e yJ0_charAt_5068e) = true ∧ zin 536 (.methodLink RX6 74 yJ0_indexOf_0f7a4) = true ∧ zin 537 (.instanceMethod yJ0_indexOf_0f7a4) = true ∧ zin 538 (.selects RJ0 yJ0_indexOf_0f7a4 yJ0_indexOf_0f7a4) = true := by decide +kernel
set_option maxRecDepth 100000 in
theorem zcJ_cat : lw_tbl[488]? = some (.code yJ0_charAt_5068e cJ0_charAt_5068e 2 (some .char)) := rfl
set_option maxRecDepth 100000 in
theorem zcJ_ixo : lw_tbl[539]? = some (.code yJ0_indexOf_0f7a4 cJ0_indexOf_0f7a4 2 (some .int)) := rfl
theorem zX.toJ {a adV : Nat → Nat} {A : Nat → Prop} {s U : State} {H H1 : Heap} (hX : zX a adV A s H) (hW : s.WarmedH U.vm) (hq : ∀ q : Nat, q < H.size → ¬ A q → H1[q]? = H[q]?) (hU : U.heap = H1) : zJ a adV U := by
  have h1 : zX a adV (fun _ => False) U H1 := hX.moved hW hq (fun _ h => h.elim)
  subst hU
  exact ⟨h1.2.2.1, h1.2.2.2.1, h1.2.2.2.2⟩
theorem zscall_0 {go : zGo} {nx : Nat} {L : List (Nat × zV)} {st : List zV} {σ : zS} {out : zR} (h : zscall go nx 0 L st σ = some out) : ∃ c r, st = .inr (.inr c) :: r ∧ ¬ (c < 1000 ∨ 1010 ≤ c ∨ 8 < (r.map zcat).sum) ∧ go nx L (.inl (Int32.ofNat (zstr (c - 1000)).length) :: r) σ = some out := by
  rcases st with _ | ⟨x | x | c, r⟩
  · exact absurd h (by simp [zscall])
  · exact absurd h (by simp [zscall])
  · exact absurd h (by simp [zscall])
  · have h : (if c < 1000 ∨ 1010 ≤ c ∨ 8 < (r.map zcat).sum then none else go nx L (.inl (Int32.ofNat (zstr (c - 1000)).length) :: r) σ) = some out := h
    by_cases h1 : c < 1000 ∨ 1010 ≤ c ∨ 8 < (r.map zcat).sum
    · rw [if_pos h1] at h; cases h
    · rw [if_neg h1] at h; exact ⟨c, r, rfl, h1, h⟩
theorem zscall_1 {go : zGo} {nx : Nat} {L : List (Nat × zV)} {st : List zV} {σ : zS} {out : zR} (h : zscall go nx 1 L st σ = some out) : ∃ i c r, st = .inl i :: .inr (.inr c) :: r ∧ ¬ (c < 1000 ∨ 1010 ≤ c ∨ 8 < (r.map zcat).sum) ∧ ¬ (i < 0 ∨ (zstr (c - 1000)).length ≤ i.toNatClampNeg) ∧ go nx L (.inl ((zstr (c - 1000)).getD i.toNatClampNeg 0) :: r) σ = some out := by
  rcases st with _ | ⟨i | x | x, _ | ⟨y | y | c, r⟩⟩
  case cons.inl.cons.inr.inr =>
    have h : (if c < 1000 ∨ 1010 ≤ c ∨ 8 < (r.map zcat).sum then none else if i < 0 ∨ (zstr (c - 1000)).length ≤ i.toNatClampNeg then none else go nx L (.inl ((zstr (c - 1000)).getD i.toNatClampNeg 0) :: r) σ) = some out := h
    by_cases h1 : c < 1000 ∨ 1010 ≤ c ∨ 8 < (r.map zcat).sum
    · rw [if_pos h1] at h; cases h
    · rw [if_neg h1] at h
      by_cases h2 : i < 0 ∨ (zstr (c - 1000)).length ≤ i.toNatClampNeg
      · rw [if_pos h2] at h; cases h
      · rw [if_neg h2] at h; exact ⟨i, c, r, rfl, h1, h2, h⟩
  all_goals exact absurd h (by simp [zscall])
theorem zscall_2 {go : zGo} {nx : Nat} {L : List (Nat × zV)} {st : List zV} {σ : zS} {out : zR} (h : zscall go nx 2 L st σ = some out) : ∃ v c r, st = .inl v :: .inr (.inr c) :: r ∧ ¬ (c < 1000 ∨ 1010 ≤ c ∨ 8 < (r.map zcat).sum ∨ v < 0 ∨ 256 ≤ v) ∧ go nx L (.inl (zixF v (zstr (c - 1000)) 0) :: r) σ = some out := by
  rcases st with _ | ⟨i | x | x, _ | ⟨y | y | c, r⟩⟩
  case cons.inl.cons.inr.inr =>
    have h : (if c < 1000 ∨ 1010 ≤ c ∨ 8 < (r.map zcat).sum ∨ i < 0 ∨ 256 ≤ i then none else go nx L (.inl (zixF i (zstr (c - 1000)) 0) :: r) σ) = some out := h
    by_cases h1 : c < 1000 ∨ 1010 ≤ c ∨ 8 < (r.map zcat).sum ∨ i < 0 ∨ 256 ≤ i
    · rw [if_pos h1] at h; cases h
    · rw [if_neg h1] at h; exact ⟨i, c, r, rfl, h1, h⟩
  all_goals exact absurd h (by simp [zscall])
theorem zlens_eq : ∀ i, i < 10 → (zstr i).length = zlens.getD i 0 := by decide +kernel
theorem zStr_all (l : Launch) (a adV : Nat → Nat) (kI kC : ClassId) (dC : Nat → ClassId) (dI : Nat → Nat → Nat) : zStrAll l a adV kI kC dC dI := by
  intro p e R s m args below meth c cells slots Q A cc nL Ts out C0 hroom hR
  intro go pc idx nx x L st σ ls H locs hgo hd _ hmem hnx hs hl hP hS
  obtain ⟨hx, hb, hml, hown, hts, hTs, hK, hX, hinj, hA⟩ := C0
  have htb : ∀ w ∈ zTB, w.before args s = true := fun w h => hts w (hTs w h)
  obtain ⟨w1, w2, w3, w4, w5, w6, w7, w8, w9⟩ := zsw1
  obtain ⟨-, -, -, -, -, -, -, -, -, v10⟩ := zj_w
  have hJ : ∀ U : State, U.heap = H → s.WarmedH U.vm → zJ a adV U := fun U hU hW => hX.toJ hW hS.2.1 hU
  have hE := hX.2.2.1
  obtain ⟨hR1, hR2⟩ := hR
  simp only [zSC, List.mem_cons, List.not_mem_nil, or_false, Prod.mk.injEq] at hmem
  rcases hmem with ⟨rfl, rfl⟩ | ⟨rfl, rfl⟩ | ⟨rfl, rfl⟩
  · obtain ⟨v, q, r, rfl, h1, h2⟩ := zscall_2 hs
    simp only [not_or] at h1
    obtain ⟨g1, g2, g3, g4, g5⟩ := h1
    obtain ⟨i, rfl⟩ : ∃ i, q = 1000 + i := ⟨q - 1000, by omega⟩
    have hi : i < 10 := by omega
    rw [show 1000 + i - 1000 = i by omega] at h2
    obtain ⟨n, hn, rfl⟩ := nI_of g4
    have hn2 : n < 256 := by
      rcases Nat.lt_or_ge n 256 with h | h
      · exact h
      · exact absurd (nI_le h hn) g5
    have k1 := hgo _ _ _ _ _ _ _ h2 hl hP hS
    rw [hnx] at k1
    have hcw : CallW R s args RX6 RJ0 74 yJ0_indexOf_0f7a4 cJ0_indexOf_0f7a4 2 (some .int) (zws yJ0_indexOf_0f7a4 cJ0_indexOf_0f7a4 2 (some .int)) { frames := 7, cells := 0, slots := 0, locals := 200 } 0 0 1 :=
      ⟨callB_of 1 htb (zGood (fun _ h => h) zcJ_ixo) rfl rfl rfl (htb _ (zin_mem v10)) (htb _ (zin_mem w7)) (by decide +kernel) ⟨Nat.le_trans (by decide) hR1, Nat.le_trans (by decide) hR2⟩, htb _ (zin_mem w8), htb _ (zin_mem w9)⟩
    exact W.callR (W.runV (As := [.int (nI n)]) (rest := r.map (zden a)) (b := a (1000 + i)) ⟨hx, hb, hml, hown, htb⟩ (cJ_indexOf l a adV hi hn2) hcw ⟨zJ.blind, vk_recv (adK := fun i => a (1000 + i)) (i := i) hE hi hS, fun U hU hW => ⟨rfl, hJ U hU hW⟩⟩ rfl rfl hl.1 rfl (lv_room (by rw [zcats]; omega)) hd hroom) k1
  · obtain ⟨q, r, rfl, h1, h2⟩ := zscall_0 hs
    simp only [not_or] at h1
    obtain ⟨g1, g2, g3⟩ := h1
    obtain ⟨i, rfl⟩ : ∃ i, q = 1000 + i := ⟨q - 1000, by omega⟩
    have hi : i < 10 := by omega
    rw [show 1000 + i - 1000 = i by omega, zlens_eq i hi] at h2
    have k1 := hgo _ _ _ _ _ _ _ h2 hl hP hS
    rw [hnx] at k1
    have hcw : CallW R s args RX6 RJ0 105 yJ0_length_8abf5 cJ0_length_8abf5 1 (some .int) (zws yJ0_length_8abf5 cJ0_length_8abf5 1 (some .int)) { frames := 3, cells := 0, slots := 0, locals := 60 } 0 0 0 :=
      ⟨callB_of 0 htb (zGood (fun _ h => h) zcJ_len) rfl rfl rfl (htb _ (zin_mem v10)) (htb _ (zin_mem w1)) (by decide +kernel) ⟨Nat.le_trans (by decide) hR1, Nat.le_trans (by decide) hR2⟩, htb _ (zin_mem w2), htb _ (zin_mem w3)⟩
    exact W.callR (W.runV (As := []) (rest := r.map (zden a)) (b := a (1000 + i)) ⟨hx, hb, hml, hown, htb⟩ (cJ_length l a adV hi) hcw ⟨zJ.blind, vk_recv (adK := fun i => a (1000 + i)) (i := i) hE hi hS, fun U hU hW => ⟨rfl, hJ U hU hW⟩⟩ rfl rfl hl.1 rfl (lv_room (by rw [zcats]; omega)) hd hroom) k1
  · obtain ⟨v, q, r, rfl, h1, h3, h2⟩ := zscall_1 hs
    simp only [not_or] at h1 h3
    obtain ⟨g1, g2, g3⟩ := h1
    obtain ⟨g4, g5⟩ := h3
    obtain ⟨i, rfl⟩ : ∃ i, q = 1000 + i := ⟨q - 1000, by omega⟩
    have hi : i < 10 := by omega
    rw [show 1000 + i - 1000 = i by omega] at h2 g5
    obtain ⟨n, hn, rfl⟩ := nI_of g4
    rw [nI_clamp hn] at g5 h2
    rw [zlens_eq i hi] at g5
    have hn2 : n < zlens.getD i 0 := by omega
    have k1 := hgo _ _ _ _ _ _ _ h2 hl hP hS
    rw [hnx] at k1
    have hcw : CallW R s args RX6 RJ0 106 yJ0_charAt_5068e cJ0_charAt_5068e 2 (some .char) (zws yJ0_charAt_5068e cJ0_charAt_5068e 2 (some .char)) { frames := 7, cells := 0, slots := 0, locals := 200 } 0 0 1 :=
      ⟨callB_of 1 htb (zGood (fun _ h => h) zcJ_cat) rfl rfl rfl (htb _ (zin_mem v10)) (htb _ (zin_mem w4)) (by decide +kernel) ⟨Nat.le_trans (by decide) hR1, Nat.le_trans (by decide) hR2⟩, htb _ (zin_mem w5), htb _ (zin_mem w6)⟩
    exact W.callR (W.runV (As := [.int (nI n)]) (rest := r.map (zden a)) (b := a (1000 + i)) ⟨hx, hb, hml, hown, htb⟩ (cJ_charAt l a adV hi hn2) hcw ⟨zJ.blind, vk_recv (adK := fun i => a (1000 + i)) (i := i) hE hi hS, fun U hU hW => ⟨rfl, hJ U hU hW⟩⟩ rfl rfl hl.1 rfl (lv_room (by rw [zcats]; omega)) hd hroom) k1
