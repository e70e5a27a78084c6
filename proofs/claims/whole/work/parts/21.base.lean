-- words for the pure part
theorem wr_same (σ : zS) (c k : Nat) (v : Int32) : wr σ c k v c k = v := by simp [wr, zset, upd]
theorem wr_cell (σ : zS) {c d : Nat} (k : Nat) (v : Int32) (h : d ≠ c) : wr σ c k v d = σ d := by simp [wr, zset, h]
theorem wr_slot (σ : zS) (c : Nat) {k j : Nat} (v : Int32) (h : j ≠ k) : wr σ c k v c j = σ c j := by simp [wr, zset, upd, h]
theorem wr_at (σ : zS) (c k : Nat) (v : Int32) (j : Nat) : wr σ c k v c j = if j = k then v else σ c j := by simp [wr, zset, upd]
theorem wcp_cell (σ : zS) {c d e : Nat} (n : Nat) (h : e ≠ d) : wcp σ c d n e = σ e := by simp [wcp, zset, h]
theorem wcp_at (σ : zS) (c d n j : Nat) : wcp σ c d n d j = if j < n then σ c j else σ d j := by simp [wcp, zset, va_cpy]
theorem zbI_some (r : Int32) (s : zS) (k : Int32 → zS → Option zR) : zbI (some (1, r, s)) k = k r s := rfl
theorem zbV_some (r : Int32) (s : zS) (k : zS → Option zR) : zbV (some (0, r, s)) k = k s := rfl
/-- an index that is in -/
theorem z_in {i n : Nat} (h : i < n) (hn : n < 2 ^ 31) : ¬ (nI i < 0 ∨ n ≤ (nI i).toNatClampNeg) := nI_in h hn
theorem z_cl {i : Nat} (h : i < 2 ^ 31) : (nI i).toNatClampNeg = i := nI_clamp h
/-- numbers below 0 or not -/
theorem z_split (x : Int32) : x < 0 ∨ ∃ j : Nat, j < 2 ^ 31 ∧ x = nI j := by
  by_cases h : x < 0
  · exact Or.inl h
  · exact Or.inr (nI_of h)
/-- an event's number -/
theorem s_holds (d : Nat) (σ : zS) (i : Int32) : zM (d + 1) mX0_holds [.inr (.inr 24), .inl i] σ = some (1, if ¬ i < 0 ∧ i < σ 24 5 then 1 else 0, σ) := by
  rw [qX0_holds_24, qX0_holds_24_0]
  by_cases h1 : i < 0
  · simp [h1]
  · by_cases h2 : i < σ 24 5
    · simp [h1, h2]
    · simp [h1, h2]
theorem s_size (d : Nat) (σ : zS) : zM (d + 1) mX0_size [.inr (.inr 24)] σ = some (1, σ 24 5, σ) := by
  rw [qX0_size_24, qX0_size_24_0]
theorem e10 : ((1 : Int32) = 0) = False := eq_false (by decide)
theorem e01 : ((0 : Int32) = 1) = False := eq_false (by decide)
theorem e00 : ((0 : Int32) = 0) = True := eq_true rfl
/-- the KIND of an event, -1 where there is none -/
theorem s_kindAt (d : Nat) (σ : zS) (i : Int32) {n : Nat} (hn : σ 24 5 = nI n) (hn2 : n ≤ 200) : zM (d + 2) mX0_kindAt [.inr (.inr 24), .inl i] σ = some (1, if ¬ i < 0 ∧ i < nI n then σ 25 i.toNatClampNeg else -1, σ) := by
  rw [qX0_kindAt_24, qX0_kindAt_24_0, s_holds, zbI_some, hn]
  by_cases h : ¬ i < 0 ∧ i < nI n
  · have hc := h
    obtain ⟨h1, h2⟩ := h
    obtain ⟨j, hj, rfl⟩ := nI_of h1
    have hjn : j < n := (nI_ltI hj (by omega)).mp h2
    have h3 := z_in (i := j) (n := 200) (by omega) (by omega)
    simp only [eq_true hc, eq_false h3, e10, if_true, if_false]
  · simp only [eq_false h, e00, if_true, if_false]
/-- its REF -/
theorem s_refAt (d : Nat) (σ : zS) (i : Int32) {n : Nat} (hn : σ 24 5 = nI n) (hn2 : n ≤ 200) : zM (d + 2) mX0_refAt [.inr (.inr 24), .inl i] σ = some (1, if ¬ i < 0 ∧ i < nI n then σ 26 i.toNatClampNeg else 0, σ) := by
  rw [qX0_refAt_24, qX0_refAt_24_0, s_holds, zbI_some, hn]
  by_cases h : ¬ i < 0 ∧ i < nI n
  · have hc := h
    obtain ⟨h1, h2⟩ := h
    obtain ⟨j, hj, rfl⟩ := nI_of h1
    have hjn : j < n := (nI_ltI hj (by omega)).mp h2
    have h3 := z_in (i := j) (n := 200) (by omega) (by omega)
    simp only [eq_true hc, eq_false h3, e10, if_true, if_false]
  · simp only [eq_false h, e00, if_true, if_false]
/-- its VALUE -/
theorem s_valueAt (d : Nat) (σ : zS) (i : Int32) {n : Nat} (hn : σ 24 5 = nI n) (hn2 : n ≤ 200) : zM (d + 2) mX0_valueAt [.inr (.inr 24), .inl i] σ = some (1, if ¬ i < 0 ∧ i < nI n then σ 27 i.toNatClampNeg else 0, σ) := by
  rw [qX0_valueAt_24, qX0_valueAt_24_0, s_holds, zbI_some, hn]
  by_cases h : ¬ i < 0 ∧ i < nI n
  · have hc := h
    obtain ⟨h1, h2⟩ := h
    obtain ⟨j, hj, rfl⟩ := nI_of h1
    have hjn : j < n := (nI_ltI hj (by omega)).mp h2
    have h3 := z_in (i := j) (n := 200) (by omega) (by omega)
    simp only [eq_true hc, eq_false h3, e10, if_true, if_false]
  · simp only [eq_false h, e00, if_true, if_false]
