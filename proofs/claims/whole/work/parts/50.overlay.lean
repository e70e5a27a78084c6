-- the flat machine doesn't look at the class
def ov (τ ρ : zS) : zS := fun c => if c < 38 then ρ c else τ c
theorem ov_rd (τ ρ : zS) {c : Nat} (h : 38 ≤ c) : ov τ ρ c = τ c := by rw [ov, if_neg (by omega)]
theorem ov_lo (τ ρ : zS) {c : Nat} (h : c < 38) : ov τ ρ c = ρ c := by rw [ov, if_pos h]
theorem ov_wr (τ ρ : zS) {c : Nat} (k : Nat) (v : Int32) (h : 38 ≤ c) : ov (wr τ c k v) ρ = wr (ov τ ρ) c k v := by
  funext d
  by_cases hd : d < 38
  · rw [ov_lo _ _ hd, wr_cell _ _ _ (by omega), ov_lo _ _ hd]
  · rw [ov_rd _ _ (by omega)]
    by_cases h2 : d = c
    · subst h2
      funext j
      by_cases hj : j = k
      · subst hj; rw [wr_same, wr_same]
      · rw [wr_slot _ _ _ hj, wr_slot _ _ _ hj, ov_rd _ _ h]
    · rw [wr_cell _ _ _ h2, wr_cell _ _ _ h2, ov_rd _ _ (by omega)]
theorem kC_ov (τ ρ : zS) (p : Nat) : kC (ov τ ρ) p = kC τ p := by
  rw [kC, kC, ov_rd _ _ (by omega), ov_rd _ _ (by omega)]
theorem kApp_ov (τ ρ : zS) (k r v : Int32) : kApp (ov τ ρ) k r v = ov (kApp τ k r v) ρ := by
  simp (disch := omega) only [kApp, ov_wr, ov_rd]
theorem kBeg_ov (τ ρ : zS) : kBeg (ov τ ρ) = ov (kBeg τ) ρ := by
  rw [kBeg, kBeg, ov_rd _ _ (by omega)]
  split
  · rw [ov_wr _ _ _ _ (by omega)]
  · rw [← ov_wr _ _ _ _ (by omega), ← ov_wr _ _ _ _ (by omega), ← ov_wr _ _ _ _ (by omega), kApp_ov]
theorem kSkip_ov (ρ : zS) : ∀ (f : Nat) (τ : zS), kSkip f (ov τ ρ) = ov (kSkip f τ) ρ := by
  intro f
  induction f with
  | zero => intro τ; rfl
  | succ f ih =>
    intro τ
    rw [kSkip, kSkip, ov_rd _ _ (by omega), ov_rd _ _ (by omega)]
    split
    · rw [← ov_wr _ _ _ _ (by omega), ih]
    · rfl
theorem kGo_ov (τ ρ : zS) : kGo (ov τ ρ) = ov (kGo τ) ρ := by
  rw [kGo, kGo, kC_ov, kSkip_ov, kGo2, kGo2]
  simp (disch := omega) only [ov_rd]
  split
  · split
    · simp (disch := omega) only [ov_wr]
    · split
      · split
        · rw [← ov_wr _ _ _ _ (by omega), kBeg_ov]
        · simp (disch := omega) only [ov_wr]
      · simp (disch := omega) only [ov_wr]
  · simp (disch := omega) only [ov_wr]
theorem kCmd_ov (τ ρ : zS) (k r v : Int32) : kCmd (ov τ ρ) k r v = ((kCmd τ k r v).1, ov (kCmd τ k r v).2 ρ) := by
  rw [kCmd, kCmd, kC_ov, kApp_ov]
  simp (disch := omega) only [ov_rd]
  split
  · split
    · simp (disch := omega) only [ov_wr]
    · simp (disch := omega) only [ov_wr]
  · split
    · simp (disch := omega) only [ov_wr]
    · rfl
theorem kEnd_ov (τ ρ : zS) (e : Int32) : ∀ c k, kEnd (ov τ ρ) e c k = kEnd τ e c k := by
  intro c
  induction c with
  | zero => intro k; rfl
  | succ c ih => intro k; rw [kEnd, kEnd, ih]; simp (disch := omega) only [ov_rd]
theorem kDone_ov (τ ρ : zS) (e : Int32) : kDone (ov τ ρ) e = kDone τ e := by
  rw [kDone, kDone, kEnd_ov]; simp (disch := omega) only [ov_rd]
theorem kSig_ov (τ ρ : zS) : ∀ c m k, kSig (ov τ ρ) c m k = kSig τ c m k := by
  intro c
  induction c with
  | zero => intro m k; rfl
  | succ c ih => intro m k; rw [kSig, kSig, ih, ih]; simp (disch := omega) only [ov_rd]
theorem kRdy_ov (τ ρ : zS) (o x y : Int32) : kRdy (ov τ ρ) o x y = ((kRdy τ o x y).1, ov (kRdy τ o x y).2 ρ) := by
  rw [kRdy, kRdy]
  simp (disch := omega) only [ov_rd, kDone_ov, kSig_ov]
  split
  · simp (disch := omega) only [ov_wr]
  · split
    · cases kSig τ (τ 38 32).toNatClampNeg 0 0 with
      | none => rfl
      | some g => simp (disch := omega) only [ov_wr]
    · split
      · simp (disch := omega) only [ov_wr]
      · simp (disch := omega) only [ov_wr]
def ovS (s : kSt) (ρ : zS) : kSt := (s.1, s.2.1, ov s.2.2 ρ)
theorem kOrd_ov (P τ ρ : zS) (e : Nat) (k r v : Int32) : kOrd P e (ov τ ρ) k r v = ovS (kOrd P e τ k r v) ρ := by
  rw [kOrd, kOrd, kCmd_ov, ovS]
  split
  · rfl
  · simp (disch := omega) only [ov_wr]
theorem kStp_ov (τ ρ : zS) (e : Nat) (v : Int32) : kStp e (ov τ ρ) v = ovS (kStp e τ v) ρ := by
  rw [kStp, kStp, kCmd_ov, ovS]
  split
  · rfl
  · simp (disch := omega) only [ov_wr]
theorem kWai_ov (P τ ρ : zS) (e : Nat) (o x y : Int32) : kWai P e (ov τ ρ) o x y = ovS (kWai P e τ o x y) ρ := by
  rw [kWai, kWai, kRdy_ov, ovS]
  by_cases h : (kRdy τ o x y).1
  · simp (disch := omega) only [h, if_true, ov_wr, ov_rd]
  · simp (disch := omega) only [h, if_false, ov_wr, ov_rd, Bool.false_eq_true]
theorem kPat_ov (P τ ρ : zS) (e : Nat) (r : Int32) : kPat P e (ov τ ρ) r = ovS (kPat P e τ r) ρ := by
  rw [kPat, kPat, kCmd_ov, kC_ov, ovS]
  simp (disch := omega) only [ov_rd]
  split
  · split
    · rfl
    · simp (disch := omega) only [ov_wr]
  · simp (disch := omega) only [ov_wr]
theorem kDo_ov (P τ ρ : zS) (e : Nat) : kDo P e (ov τ ρ) = ovS (kDo P e τ) ρ := by
  rw [kDo, kDo]
  by_cases h0 : P 16 e = 0
  · rw [if_pos h0, if_pos h0]
    simp (disch := omega) only [ovS, ov_rd, kDone_ov, kOrd_ov, kWai_ov, kPat_ov, kStp_ov, ov_wr]
  rw [if_neg h0, if_neg h0]
  by_cases h1 : P 16 e = 1
  · rw [if_pos h1, if_pos h1]
    simp (disch := omega) only [ovS, ov_rd, kDone_ov, kOrd_ov, kWai_ov, kPat_ov, kStp_ov, ov_wr]
  rw [if_neg h1, if_neg h1]
  by_cases h2 : P 16 e = 2
  · rw [if_pos h2, if_pos h2]
    simp (disch := omega) only [ovS, ov_rd, kDone_ov, kOrd_ov, kWai_ov, kPat_ov, kStp_ov, ov_wr]
  rw [if_neg h2, if_neg h2]
  by_cases h3 : P 16 e = 3
  · rw [if_pos h3, if_pos h3]
    simp (disch := omega) only [ovS, ov_rd, kDone_ov, kOrd_ov, kWai_ov, kPat_ov, kStp_ov, ov_wr]
  rw [if_neg h3, if_neg h3]
  by_cases h4 : P 16 e = 4
  · rw [if_pos h4, if_pos h4]
    simp (disch := omega) only [ovS, ov_rd, kDone_ov, kOrd_ov, kWai_ov, kPat_ov, kStp_ov, ov_wr]
  rw [if_neg h4, if_neg h4]
  by_cases h5 : P 16 e = 5
  · rw [if_pos h5, if_pos h5]
    simp (disch := omega) only [ovS, ov_rd, kDone_ov, kOrd_ov, kWai_ov, kPat_ov, kStp_ov, ov_wr]
  rw [if_neg h5, if_neg h5]
  by_cases h6 : P 16 e = 6
  · rw [if_pos h6, if_pos h6]
    simp (disch := omega) only [ovS, ov_rd, kDone_ov, kOrd_ov, kWai_ov, kPat_ov, kStp_ov, ov_wr]
  rw [if_neg h6, if_neg h6]
  by_cases h7 : P 16 e = 7
  · rw [if_pos h7, if_pos h7]
    simp (disch := omega) only [ovS, ov_rd, kDone_ov, kOrd_ov, kWai_ov, kPat_ov, kStp_ov, ov_wr]
  rw [if_neg h7, if_neg h7]
  by_cases h8 : P 16 e = 8
  · rw [if_pos h8, if_pos h8]
    simp (disch := omega) only [ovS, ov_rd, kDone_ov, kOrd_ov, kWai_ov, kPat_ov, kStp_ov, ov_wr]
  rw [if_neg h8, if_neg h8]
  by_cases h9 : P 16 e = 9
  · rw [if_pos h9, if_pos h9]
    simp (disch := omega) only [ovS, ov_rd, kDone_ov, kOrd_ov, kWai_ov, kPat_ov, kStp_ov, ov_wr]
  rw [if_neg h9, if_neg h9]
  rw [ov_rd _ _ (by omega)]
  by_cases h : pEv P e (τ 54) = 0
  · rw [if_pos h, if_pos h]; rfl
  · rw [if_neg h, if_neg h]; rfl
theorem kTurn_ov (P τ ρ : zS) (e : Nat) : kTurn P e (ov τ ρ) = ovS (kTurn P e τ) ρ := by
  unfold kTurn
  simp (disch := omega) only [ov_rd, kStp_ov]
  split
  · rfl
  split
  · rfl
  split
  · simp (disch := omega) only [ovS, ov_wr]
  · rw [← ov_wr _ _ _ _ (by omega), kDo_ov]
theorem kF_ov (P ρ : zS) (s : kSt) : kF P (ovS s ρ) = ovS (kF P s) ρ := by
  obtain ⟨e, w, τ⟩ := s
  have h1 : ovS (e, w, τ) ρ = (e, w, ov τ ρ) := rfl
  rw [h1]
  by_cases h0 : τ 38 31 = 0
  · have h02 : ov τ ρ 38 31 = 0 := by rw [ov_rd _ _ (by omega), h0]
    by_cases hw : w = 0
    · subst hw
      rw [kF_turn h0, kF_turn h02, kTurn_ov]
    · have e1 : ∀ τ : zS, τ 38 31 = 0 → kF P (e, w, τ) = (e, if w = 1 then 0 else 2, kGo τ) := fun τ h => by
        rw [kF]
        simp only [h, not_true_eq_false, if_false, hw]
      rw [e1 _ h0, e1 _ h02, kGo_ov]
      rfl
  · have h02 : ¬ ov τ ρ 38 31 = 0 := by rw [ov_rd _ _ (by omega)]; exact h0
    rw [kF, kF, if_pos h0, if_pos h02]
    rfl
theorem kIt_ov (P ρ : zS) : ∀ n s, kIt P n (ovS s ρ) = ovS (kIt P n s) ρ := by
  intro n
  induction n with
  | zero => intro s; rfl
  | succ n ih => intro s; rw [kIt, kIt, kF_ov, ih]
theorem kTo.ov {P : zS} {s t : kSt} (h : kTo P s t) (ρ : zS) : kTo P (ovS s ρ) (ovS t ρ) := by
  obtain ⟨n, rfl⟩ := h
  exact ⟨n, kIt_ov P ρ n s⟩
theorem kInit_ov (τ ρ : zS) : kInit (ov τ ρ) = ov (kInit τ) ρ := by
  have hz : ∀ c k τ, kZ c k (ov τ ρ) = ov (kZ c k τ) ρ := by
    intro c
    induction c with
    | zero => intro k τ; rfl
    | succ c ih => intro k τ; rw [kZ, kZ, ← ov_wr _ _ _ _ (by omega), ih]
  rw [kInit, kInit, hz]
  simp (disch := omega) only [ov_wr]
