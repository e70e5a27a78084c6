-- the reference's run is the flat machine's
def kSame (τ τ' : zS) : Prop := (∀ c, c ≠ 38 → c ≠ 50 → c ≠ 51 → c ≠ 52 → c ≠ 54 → τ' c = τ c) ∧ (∀ k, ¬ (31 ≤ k ∧ k ≤ 40 ∧ k ≠ 39) → k ≠ 44 → τ' 38 k = τ 38 k)
theorem kSame.rf {τ : zS} : kSame τ τ := ⟨fun _ _ _ _ _ _ => rfl, fun _ _ _ => rfl⟩
theorem kSame.tr {τ τ1 τ2 : zS} (h : kSame τ τ1) (h2 : kSame τ1 τ2) : kSame τ τ2 :=
  ⟨fun c a1 a2 a3 a4 a5 => (h2.1 c a1 a2 a3 a4 a5).trans (h.1 c a1 a2 a3 a4 a5), fun k a1 a2 => (h2.2 k a1 a2).trans (h.2 k a1 a2)⟩
theorem kSame.w38 {τ τ1 : zS} {k : Nat} (v : Int32) (hk : (31 ≤ k ∧ k ≤ 40 ∧ k ≠ 39) ∨ k = 44) (h : kSame τ τ1) : kSame τ (wr τ1 38 k v) :=
  h.tr ⟨fun c a1 a2 a3 a4 a5 => wr_cell _ _ _ a1, fun j a1 a2 => wr_slot _ _ _ (by omega)⟩
theorem kSame.w5 {τ τ1 : zS} {c : Nat} (k : Nat) (v : Int32) (hc : c = 50 ∨ c = 51 ∨ c = 52 ∨ c = 54) (h : kSame τ τ1) : kSame τ (wr τ1 c k v) :=
  h.tr ⟨fun d a1 a2 a3 a4 a5 => wr_cell _ _ _ (by omega), fun j a1 a2 => by rw [wr_cell _ _ _ (by omega)]⟩
theorem kApp_same {τ τ1 : zS} (k r v : Int32) (h : kSame τ τ1) : kSame τ (kApp τ1 k r v) := by
  rw [kApp]
  exact kSame.w38 _ (by omega) (kSame.w38 _ (by omega) (kSame.w5 _ _ (by omega) (kSame.w5 _ _ (by omega) (kSame.w5 _ _ (by omega) h))))
theorem kBeg_same {τ τ1 : zS} (h : kSame τ τ1) : kSame τ (kBeg τ1) := by
  rw [kBeg]
  by_cases h1 : τ1 38 20 = 200
  · rw [if_pos h1]; exact kSame.w38 _ (by omega) h
  · rw [if_neg h1]; exact kApp_same _ _ _ (kSame.w38 _ (by omega) (kSame.w38 _ (by omega) (kSame.w38 _ (by omega) h)))
theorem kSkip_same {τ : zS} : ∀ f {τ1 : zS}, kSame τ τ1 → kSame τ (kSkip f τ1) := by
  intro f
  induction f with
  | zero => intro τ1 h; exact h
  | succ f ih =>
    intro τ1 h
    rw [kSkip]
    by_cases h1 : τ1 38 33 < τ1 38 20 ∧ ¬ τ1 50 (τ1 38 33).toNatClampNeg = 0
    · rw [if_pos h1]; exact ih (kSame.w38 _ (by omega) h)
    · rw [if_neg h1]; exact h
theorem kGo_same {τ τ1 : zS} (h : kSame τ τ1) : kSame τ (kGo τ1) := by
  rw [kGo]
  by_cases h1 : τ1 38 34 = 0
  · rw [if_pos h1]
    by_cases h2 : kC τ1 (τ1 38 33).toNatClampNeg
    · rw [if_pos h2]; exact kSame.w38 _ (by omega) (kSame.w38 _ (by omega) h)
    · rw [if_neg h2, kGo2]
      have h3 := kSkip_same 201 h
      by_cases h4 : kSkip 201 τ1 38 33 = kSkip 201 τ1 38 20
      · rw [if_pos h4]
        by_cases h5 : kSkip 201 τ1 38 38 = 0
        · rw [if_pos h5]; exact kBeg_same (kSame.w38 _ (by omega) h3)
        · rw [if_neg h5]; exact kSame.w38 _ (by omega) (kSame.w38 _ (by omega) h3)
      · rw [if_neg h4]; exact kSame.w38 _ (by omega) (kSame.w38 _ (by omega) (kSame.w38 _ (by omega) h3))
  · rw [if_neg h1]; exact kSame.w38 _ (by omega) h
theorem kCmd_same {τ τ1 : zS} (k r v : Int32) (h : kSame τ τ1) : kSame τ (kCmd τ1 k r v).2 := by
  rw [kCmd]
  split
  · split
    · exact kSame.w38 _ (by omega) h
    · exact kSame.w38 _ (by omega) (kSame.w38 _ (by omega) h)
  · split
    · exact kSame.w38 _ (by omega) h
    · exact kApp_same _ _ _ h
theorem kRdy_same {τ τ1 : zS} (o x y : Int32) (h : kSame τ τ1) : kSame τ (kRdy τ1 o x y).2 := by
  obtain ⟨g, hg⟩ := kRdy_gave τ1 o x y
  rw [hg]
  exact kSame.w38 _ (by omega) h
theorem kStp_same {τ τ1 : zS} (e : Nat) (v : Int32) (h : kSame τ τ1) : kSame τ (kStp e τ1 v).2.2 := by
  rw [kStp]
  split
  · exact kCmd_same _ _ _ h
  · exact kSame.w38 _ (by omega) (kCmd_same _ _ _ h)
theorem kOrd_same {P τ τ1 : zS} (e : Nat) (k r v : Int32) (h : kSame τ τ1) : kSame τ (kOrd P e τ1 k r v).2.2 := by
  rw [kOrd]
  split
  · exact kCmd_same _ _ _ h
  · exact kSame.w5 _ _ (by omega) (kCmd_same _ _ _ h)
theorem kWai_same {P τ τ1 : zS} (e : Nat) (o x y : Int32) (h : kSame τ τ1) : kSame τ (kWai P e τ1 o x y).2.2 := by
  rw [kWai]
  split
  · exact kSame.w38 _ (by omega) (kSame.w5 _ _ (by omega) (kRdy_same _ _ _ h))
  · exact kRdy_same _ _ _ h
theorem kPat_same {P τ τ1 : zS} (e : Nat) (r : Int32) (h : kSame τ τ1) : kSame τ (kPat P e τ1 r).2.2 := by
  rw [kPat]
  split
  · split
    · exact kCmd_same _ _ _ h
    · exact kSame.w5 _ _ (by omega) (kCmd_same _ _ _ h)
  · exact kSame.w5 _ _ (by omega) h
theorem kDo_same {P τ τ1 : zS} (e : Nat) (h : kSame τ τ1) : kSame τ (kDo P e τ1).2.2 := by
  unfold kDo
  split
  · exact kSame.w5 _ _ (by omega) h
  split
  · exact kOrd_same _ _ _ _ h
  split
  · exact kOrd_same _ _ _ _ h
  split
  · exact kWai_same _ _ _ _ h
  split
  · exact kWai_same _ _ _ _ h
  split
  · exact kSame.w5 _ _ (by omega) (kSame.w38 _ (by omega) h)
  split
  · exact kWai_same _ _ _ _ h
  split
  · exact kSame.w5 _ _ (by omega) h
  split
  · exact kPat_same _ _ h
  split
  · exact kStp_same _ _ h
  split
  · exact h
  · exact h
theorem kF_same {P τ : zS} {s : kSt} (h : kSame τ s.2.2) : kSame τ (kF P s).2.2 := by
  unfold kF kTurn
  split
  · exact h
  split
  · split
    · exact h
    split
    · exact kStp_same _ _ h
    split
    · exact kSame.w38 _ (by omega) (kSame.w38 _ (by omega) h)
    · exact kDo_same _ (kSame.w38 _ (by omega) h)
  · exact kGo_same h
theorem kIt_same {P τ : zS} : ∀ n {s : kSt}, kSame τ s.2.2 → kSame τ (kIt P n s).2.2 := by
  intro n
  induction n with
  | zero => intro s h; exact h
  | succ n ih => intro s h; exact ih (kF_same h)
theorem kTo.same {P : zS} {s t : kSt} (h : kTo P s t) : kSame s.2.2 t.2.2 := by
  obtain ⟨n, rfl⟩ := h
  exact kIt_same n kSame.rf
theorem kF_go {P τ : zS} {e w : Nat} (h0 : τ 38 31 = 0) (hw : w = 1 ∨ w = 2) : kF P (e, w, τ) = (e, if w = 1 then 0 else 2, kGo τ) := by
  rw [kF]
  simp only [h0, not_true_eq_false, if_false]
  rw [if_neg (by omega)]
theorem m_stopLoop (P : zS) (d e : Nat) : ∀ (N m : Nat) (τ : zS) (n p b s : Nat), kInv τ n p b s → kMu τ ≤ N → N + 1 < m → ∃ t : kSt, zexec zc_X8_stop zu_X8_stop (zM (d + 3)) m 17 [.inr (.inr 38)] τ = some (0, 0, t.2.2) ∧ kTo P (e, 2, τ) t ∧ ¬ t.2.2 38 31 = 0 := by
  intro N
  induction N with
  | zero =>
    intro m τ n p b s hI hN hm
    exfalso
    have := hI.2.2.2.2.2.2.2.2
    rw [kMu, this.1, z_cl (by omega)] at hN
    omega
  | succ N ih =>
    intro m τ n p b s hI hN hm
    obtain ⟨m, rfl⟩ : ∃ k, m = k + 1 := ⟨m - 1, by omega⟩
    rw [qX8_stop_38_17]
    by_cases h0 : τ 38 31 = 0
    · rw [if_pos h0, m_goOn (n := n) (p := p) d τ hI.1 hI.2.1 hI.2.2.1 hI.2.2.2.2.2.2.1, zbV_some]
      have hF : kTo P (e, 2, τ) (e, 2, kGo τ) := by
        have := kTo.one (P := P) (s := (e, 2, τ))
        rw [kF_go h0 (Or.inr rfl)] at this
        exact this
      by_cases hg : kGo τ 38 31 = 0
      · obtain ⟨p', b', hI', hM, _⟩ := hI.go hg h0
        obtain ⟨t, t1, t2, t3⟩ := ih m (kGo τ) n p' b' 0 hI' (by omega) (by omega)
        exact ⟨t, t1, hF.tr t2, t3⟩
      · obtain ⟨m, rfl⟩ : ∃ k, m = k + 1 := ⟨m - 1, by omega⟩
        rw [qX8_stop_38_17, if_neg hg]
        exact ⟨_, rfl, hF, hg⟩
    · rw [if_neg h0]
      exact ⟨(e, 2, τ), rfl, kTo.rf, h0⟩
theorem m_stop (P : zS) (d e : Nat) {τ : zS} {n p b s : Nat} (v : Int32) (hI : kInv τ n p b s) (h0 : τ 38 31 = 0) (hM : kMu τ ≤ 300000) : ∃ t : kSt, zM (d + 4) mX8_stop [.inr (.inr 38), .inl v] τ = some (0, 0, t.2.2) ∧ kTo P (kStp e τ v) t ∧ ¬ t.2.2 38 31 = 0 := by
  have hI0 := hI
  obtain ⟨i1, i2, i3, i4, i5, i6, i7, i8, i9, i10⟩ := hI
  rw [qX8_stop_38, qX8_stop_38_0, m_command (n := n) (p := p) _ _ _ _ _ i1 i2 i3 i7 (fun h => ⟨p, i4, i8 h⟩), zbI_some, kStp]
  rcases hI0.cmd h0 4 0 v with ⟨h1, h2⟩ | ⟨h1, h2, h3, h4⟩
  · rw [if_pos h1, if_pos h1]
    exact ⟨_, rfl, kTo.rf, h2⟩
  · rw [if_neg h1, if_neg h1]
    obtain ⟨h5, h6⟩ := h3.cong (τ' := wr (kCmd τ 4 0 v).2 38 38 1) (fun k hk => wr_slot _ _ _ (by omega))
    exact m_stopLoop P d e 300000 _ _ n (p + 1) b s h5 (by omega) (by omega)
