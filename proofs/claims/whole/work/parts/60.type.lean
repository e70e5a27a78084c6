-- type
theorem byte_s (w : Int64) (s : Nat) (hs : s ≤ 56) (su : UInt64) (ss : Int64) (h1 : su = UInt64.ofNat s) (h2 : ss = Int64.ofNat s) (h3 : ((BitVec.ofNat 64 s).smod 64#64).toNat = s) : ((w.toUInt64 >>> su).toInt64).toInt32 &&& 255 = ((w >>> ss) &&& (255 : Int32).toInt64).toInt32 := by
  subst h1 h2
  apply Int32.toBitVec_inj.mp
  apply BitVec.eq_of_getLsbD_eq
  intro i hi
  simp
  by_cases h8 : i < 8
  · have h9 : s % 64 = s := Nat.mod_eq_of_lt (by omega)
    rw [h3, h9]
    congr 1
    rw [BitVec.getLsbD_signExtend, BitVec.getLsbD_signExtend, BitVec.getLsbD_ushiftRight, BitVec.getLsbD_sshiftRight]
    have e1 : i < 64 := by omega
    have e2 : s + i < 64 := by omega
    have e3 : ¬ 64 ≤ i := by omega
    simp [hi, e1, e2, e3]
  · have : (255#32).getLsbD i = false := by
      have : ∀ i : Fin 32, 8 ≤ i.val → (255#32).getLsbD i.val = false := by decide
      exact this ⟨i, hi⟩ (by simpa using h8)
    rw [this, Bool.and_false, Bool.and_false]
theorem byte_lt (x : Int32) : ∃ c : Nat, c < 256 ∧ x &&& 255 = nI c := by
  obtain ⟨j, h1, h2⟩ := pk_andE x (m := 255) 8 (by decide)
  exact ⟨j, h1, h2⟩
theorem byte_k (w : Int64) : ∀ k, k < 8 → ∃ c, c < 256 ∧ (((w.toUInt64 >>> ((8 * nI k).toInt64.toUInt64 &&& Int64.toUInt64 63)).toInt64).toInt32) &&& 255 = nI c ∧ (((w >>> ((8 * nI k).toInt64 &&& 63)) &&& ((255 : Int32).toInt64)).toInt32) = nI c := by
  intro k hk
  obtain ⟨c, hc, h1⟩ := byte_lt (((w.toUInt64 >>> ((8 * nI k).toInt64.toUInt64 &&& Int64.toUInt64 63)).toInt64).toInt32)
  refine ⟨c, hc, h1, ?_⟩
  rw [← h1]
  rcases (show k = 0 ∨ k = 1 ∨ k = 2 ∨ k = 3 ∨ k = 4 ∨ k = 5 ∨ k = 6 ∨ k = 7 by omega) with rfl | rfl | rfl | rfl | rfl | rfl | rfl | rfl
  · exact (byte_s w 0 (by omega) _ _ (by decide) (by decide) (by decide)).symm
  · exact (byte_s w 8 (by omega) _ _ (by decide) (by decide) (by decide)).symm
  · exact (byte_s w 16 (by omega) _ _ (by decide) (by decide) (by decide)).symm
  · exact (byte_s w 24 (by omega) _ _ (by decide) (by decide) (by decide)).symm
  · exact (byte_s w 32 (by omega) _ _ (by decide) (by decide) (by decide)).symm
  · exact (byte_s w 40 (by omega) _ _ (by decide) (by decide) (by decide)).symm
  · exact (byte_s w 48 (by omega) _ _ (by decide) (by decide) (by decide)).symm
  · exact (byte_s w 56 (by omega) _ _ (by decide) (by decide) (by decide)).symm
/-- the k-th byte of a word -/
def kB (w : Int64) (k : Nat) : Nat := (((w >>> ((8 * nI k).toInt64 &&& 63)) &&& ((255 : Int32).toInt64)).toInt32).toNatClampNeg
theorem kB_k (w : Int64) {k : Nat} (hk : k < 8) : kB w k < 256 ∧ (((w.toUInt64 >>> ((8 * nI k).toInt64.toUInt64 &&& Int64.toUInt64 63)).toInt64).toInt32) &&& 255 = nI (kB w k) ∧ (((w >>> ((8 * nI k).toInt64 &&& 63)) &&& ((255 : Int32).toInt64)).toInt32) = nI (kB w k) := by
  obtain ⟨c, h1, h2, h3⟩ := byte_k w k hk
  rw [kB, h3, z_cl (by omega)]
  exact ⟨h1, h2, rfl⟩
theorem c_byteOf (d : Nat) (σ : zS) (w : Int64) {k : Nat} (hk : k < 8) : zM (d + 1) mX5_byteOf [.inr (.inl w), .inl (nI k)] σ = some (1, nI (kB w k), σ) := by
  rw [qX5_byteOf, qX5_byteOf_0, (kB_k w hk).2.1]
def kOk (w : Int64) (n : Nat) : Prop := ∀ k, k < n → 32 ≤ kB w k ∧ kB w k ≤ 126
def cP (w : Int64) : Nat → zS → zS
  | 0, σ => σ
  | i + 1, σ => cP w i (wr (wr σ 2 (σ 1 1).toNatClampNeg (nI (kB w i))) 1 1 (σ 1 1 + 1))
def mP (w : Int64) : Nat → zS → zS
  | 0, σ => σ
  | i + 1, σ => mP w i (wr (wr σ 39 (σ 38 2).toNatClampNeg (nI (kB w i))) 38 2 (σ 38 2 + 1))
def zIx (i : Nat) : Int32 := if i = 0 then -1 else nI (i - 1)
theorem zIx_s (i : Nat) : zIx (i + 1) = nI i := by rw [zIx, if_neg (by omega)]; rfl
theorem zIx_m (i : Nat) : nI i + (-1) = zIx i := by
  by_cases h : i = 0
  · subst h; rfl
  · rw [zIx, if_neg h, sb_m1 (by omega)]
theorem c_putW (d : Nat) (w : Int64) : ∀ (i m : Nat) (σ : zS) (n : Nat), i ≤ 8 → σ 1 1 = nI n → n + i ≤ 400 → zexec zc_X5_put zu_X5_put (zM (d + 1)) (m + 1 + i) 69 [.inr (.inr 1), .inr (.inl w), .inl (zIx i)] σ = some (1, 1, cP w i σ) := by
  intro i
  induction i with
  | zero => intro m σ n h8 h hn; rw [Nat.add_zero, qX5_put_1_69, cP]; rfl
  | succ i ih =>
    intro m σ n h8 h hn
    obtain ⟨k1, k2, k3⟩ := kB_k w (show i < 8 by omega)
    rw [← Nat.add_assoc, zIx_s, qX5_put_1_69, c_byteOf d σ w (by omega), zbI_some, cP, zIx_m]
    have hch : vp_nar .char (((nI (kB w i)).toUInt32 % 65536).toInt32) = nI (kB w i) := by
      rw [pk_vc, pk_char, pk_tn (by omega), Nat.mod_eq_of_lt (by omega)]
    rw [hch, if_neg (nI_pos (by omega)), h, if_pos (show nI n < 400 from nI_lt (b := 400) (by omega) (by omega)), if_neg (nI_in (by omega) (by omega))]
    exact ih m _ (n + 1) (by omega) (by rw [wr_same, nI_1]) (by omega)
theorem m_putW (d : Nat) (w : Int64) : ∀ (i m : Nat) (σ : zS) (n : Nat), i ≤ 8 → σ 38 2 = nI n → n + i ≤ 400 → zexec zc_X8_type zu_X8_type (zM d) (m + 1 + i) 80 [.inr (.inr 38), .inr (.inl w), .inl (zIx i)] σ = some (1, 1, mP w i σ) := by
  intro i
  induction i with
  | zero => intro m σ n h8 h hn; rw [Nat.add_zero, qX8_type_38_80, mP]; rfl
  | succ i ih =>
    intro m σ n h8 h hn
    obtain ⟨k1, k2, k3⟩ := kB_k w (show i < 8 by omega)
    rw [← Nat.add_assoc, zIx_s, qX8_type_38_80, k3, mP, zIx_m, if_neg (nI_pos (by omega)), h, if_neg (nI_in (by omega) (by omega))]
    exact ih m _ (n + 1) (by omega) (by rw [wr_same, nI_1]) (by omega)
theorem c_putC (d : Nat) (w : Int64) (n : Nat) (hn : n ≤ 8) (σ : zS) : ∀ (f m i : Nat), n - i = f → i ≤ n → f < m →
    ((∀ k, i ≤ k → k < n → 32 ≤ kB w k ∧ kB w k ≤ 126) ∧ ∃ m', m ≤ m' + f + 1 ∧ zexec zc_X5_put zu_X5_put (zM (d + 1)) m 28 [.inr (.inr 1), .inr (.inl w), .inl (nI n), .inl (nI i)] σ = zexec zc_X5_put zu_X5_put (zM (d + 1)) m' 69 [.inr (.inr 1), .inr (.inl w), .inl (nI n - 1)] σ) ∨
    ((∃ k, i ≤ k ∧ k < n ∧ ¬ (32 ≤ kB w k ∧ kB w k ≤ 126)) ∧ zexec zc_X5_put zu_X5_put (zM (d + 1)) m 28 [.inr (.inr 1), .inr (.inl w), .inl (nI n), .inl (nI i)] σ = some (1, 0, σ)) := by
  intro f
  induction f with
  | zero =>
    intro m i hf hi hm
    obtain ⟨m, rfl⟩ : ∃ k, m = k + 1 := ⟨m - 1, by omega⟩
    refine Or.inl ⟨fun k h1 h2 => by omega, m, by omega, ?_⟩
    rw [qX5_put_1_28, if_neg (nI_nlt (by omega) (by omega))]
  | succ f ih =>
    intro m i hf hi hm
    obtain ⟨m, rfl⟩ : ∃ k, m = k + 1 := ⟨m - 1, by omega⟩
    obtain ⟨k1, k2, k3⟩ := kB_k w (show i < 8 by omega)
    rw [qX5_put_1_28, if_pos (nI_lt (by omega) (by omega)), c_byteOf d σ w (by omega), zbI_some, nI_1]
    by_cases h1 : kB w i < 32
    · refine Or.inr ⟨⟨i, Nat.le_refl _, by omega, by omega⟩, ?_⟩
      simp (disch := omega) only [lt_litR, lt_litL, eq_litR, eq_litL, lt_nn, eq_nn, lt_n0, z_cl, add_lit, eq_m1, eq_m1', m1_lt, false_or, or_false, if_pos, if_neg, zbI_some, zbV_some, wr_same, wr_cell, wr_slot, ne_eq, not_true_eq_false, not_false_eq_true, true_and, and_true, false_and, and_false, e10, e01, e00, if_true, if_false, Bool.false_eq_true, lit_ne, lit_lt, eq_self]
    · by_cases h2 : 126 < kB w i
      · refine Or.inr ⟨⟨i, Nat.le_refl _, by omega, by omega⟩, ?_⟩
        simp (disch := omega) only [lt_litR, lt_litL, eq_litR, eq_litL, lt_nn, eq_nn, lt_n0, z_cl, add_lit, eq_m1, eq_m1', m1_lt, false_or, or_false, if_pos, if_neg, zbI_some, zbV_some, wr_same, wr_cell, wr_slot, ne_eq, not_true_eq_false, not_false_eq_true, true_and, and_true, false_and, and_false, e10, e01, e00, if_true, if_false, Bool.false_eq_true, lit_ne, lit_lt, eq_self]
      · have e1 : (if nI (kB w i) < 32 then some (1, 0, σ) else if 126 < nI (kB w i) then some (1, 0, σ) else zexec zc_X5_put zu_X5_put (zM (d + 1)) m 28 [.inr (.inr 1), .inr (.inl w), .inl (nI n), .inl (nI (i + 1))] σ) = zexec zc_X5_put zu_X5_put (zM (d + 1)) m 28 [.inr (.inr 1), .inr (.inl w), .inl (nI n), .inl (nI (i + 1))] σ := by simp (disch := omega) only [lt_litR, lt_litL, eq_litR, eq_litL, lt_nn, eq_nn, lt_n0, z_cl, add_lit, eq_m1, eq_m1', m1_lt, false_or, or_false, if_pos, if_neg, zbI_some, zbV_some, wr_same, wr_cell, wr_slot, ne_eq, not_true_eq_false, not_false_eq_true, true_and, and_true, false_and, and_false, e10, e01, e00, if_true, if_false, Bool.false_eq_true, lit_ne, lit_lt, eq_self]
        rw [e1]
        rcases ih m (i + 1) (by omega) (by omega) (by omega) with ⟨g1, m', g2, g3⟩ | ⟨⟨k, g1, g2, g3⟩, g4⟩
        · refine Or.inl ⟨fun k q1 q2 => ?_, m', by omega, g3⟩
          by_cases hk : k = i
          · subst hk; omega
          · exact g1 k (by omega) q2
        · exact Or.inr ⟨⟨k, by omega, g2, g3⟩, g4⟩
theorem m_putC (d : Nat) (w : Int64) (n : Nat) (hn : n ≤ 8) (σ : zS) : ∀ (f m i : Nat), n - i = f → i ≤ n → f < m →
    ((∀ k, i ≤ k → k < n → 32 ≤ kB w k ∧ kB w k ≤ 126) ∧ ∃ m', m ≤ m' + f + 1 ∧ zexec zc_X8_type zu_X8_type (zM d) m 33 [.inr (.inr 38), .inr (.inl w), .inl (nI n), .inl (nI i)] σ = zexec zc_X8_type zu_X8_type (zM d) m' 80 [.inr (.inr 38), .inr (.inl w), .inl (nI n - 1)] σ) ∨
    ((∃ k, i ≤ k ∧ k < n ∧ ¬ (32 ≤ kB w k ∧ kB w k ≤ 126)) ∧ zexec zc_X8_type zu_X8_type (zM d) m 33 [.inr (.inr 38), .inr (.inl w), .inl (nI n), .inl (nI i)] σ = some (1, 0, σ)) := by
  intro f
  induction f with
  | zero =>
    intro m i hf hi hm
    obtain ⟨m, rfl⟩ : ∃ k, m = k + 1 := ⟨m - 1, by omega⟩
    refine Or.inl ⟨fun k h1 h2 => by omega, m, by omega, ?_⟩
    rw [qX8_type_38_33, if_neg (nI_nlt (by omega) (by omega))]
  | succ f ih =>
    intro m i hf hi hm
    obtain ⟨m, rfl⟩ : ∃ k, m = k + 1 := ⟨m - 1, by omega⟩
    obtain ⟨k1, k2, k3⟩ := kB_k w (show i < 8 by omega)
    rw [qX8_type_38_33, if_pos (nI_lt (by omega) (by omega)), k3, nI_1]
    by_cases h1 : kB w i < 32
    · refine Or.inr ⟨⟨i, Nat.le_refl _, by omega, by omega⟩, ?_⟩
      simp (disch := omega) only [lt_litR, lt_litL, eq_litR, eq_litL, lt_nn, eq_nn, lt_n0, z_cl, add_lit, eq_m1, eq_m1', m1_lt, false_or, or_false, if_pos, if_neg, zbI_some, zbV_some, wr_same, wr_cell, wr_slot, ne_eq, not_true_eq_false, not_false_eq_true, true_and, and_true, false_and, and_false, e10, e01, e00, if_true, if_false, Bool.false_eq_true, lit_ne, lit_lt, eq_self]
    · by_cases h2 : 126 < kB w i
      · refine Or.inr ⟨⟨i, Nat.le_refl _, by omega, by omega⟩, ?_⟩
        simp (disch := omega) only [lt_litR, lt_litL, eq_litR, eq_litL, lt_nn, eq_nn, lt_n0, z_cl, add_lit, eq_m1, eq_m1', m1_lt, false_or, or_false, if_pos, if_neg, zbI_some, zbV_some, wr_same, wr_cell, wr_slot, ne_eq, not_true_eq_false, not_false_eq_true, true_and, and_true, false_and, and_false, e10, e01, e00, if_true, if_false, Bool.false_eq_true, lit_ne, lit_lt, eq_self]
      · have e1 : (if nI (kB w i) < 32 then some (1, 0, σ) else if 126 < nI (kB w i) then some (1, 0, σ) else zexec zc_X8_type zu_X8_type (zM d) m 33 [.inr (.inr 38), .inr (.inl w), .inl (nI n), .inl (nI (i + 1))] σ) = zexec zc_X8_type zu_X8_type (zM d) m 33 [.inr (.inr 38), .inr (.inl w), .inl (nI n), .inl (nI (i + 1))] σ := by simp (disch := omega) only [lt_litR, lt_litL, eq_litR, eq_litL, lt_nn, eq_nn, lt_n0, z_cl, add_lit, eq_m1, eq_m1', m1_lt, false_or, or_false, if_pos, if_neg, zbI_some, zbV_some, wr_same, wr_cell, wr_slot, ne_eq, not_true_eq_false, not_false_eq_true, true_and, and_true, false_and, and_false, e10, e01, e00, if_true, if_false, Bool.false_eq_true, lit_ne, lit_lt, eq_self]
        rw [e1]
        rcases ih m (i + 1) (by omega) (by omega) (by omega) with ⟨g1, m', g2, g3⟩ | ⟨⟨k, g1, g2, g3⟩, g4⟩
        · refine Or.inl ⟨fun k q1 q2 => ?_, m', by omega, g3⟩
          by_cases hk : k = i
          · subst hk; omega
          · exact g1 k (by omega) q2
        · exact Or.inr ⟨⟨k, by omega, g2, g3⟩, g4⟩
theorem cP_cell (w : Int64) : ∀ (i : Nat) (σ : zS) (c : Nat), c ≠ 1 → c ≠ 2 → cP w i σ c = σ c := by
  intro i
  induction i with
  | zero => intro σ c h1 h2; rfl
  | succ i ih => intro σ c h1 h2; rw [cP, ih _ c h1 h2, wr_cell _ _ _ h1, wr_cell _ _ _ h2]
theorem mP_cell (w : Int64) : ∀ (i : Nat) (σ : zS) (c : Nat), c ≠ 38 → c ≠ 39 → mP w i σ c = σ c := by
  intro i
  induction i with
  | zero => intro σ c h1 h2; rfl
  | succ i ih => intro σ c h1 h2; rw [mP, ih _ c h1 h2, wr_cell _ _ _ h1, wr_cell _ _ _ h2]
theorem mP_38 (w : Int64) : ∀ (i : Nat) (σ : zS) (k : Nat), k ≠ 2 → mP w i σ 38 k = σ 38 k := by
  intro i
  induction i with
  | zero => intro σ k h; rfl
  | succ i ih => intro σ k h; rw [mP, ih _ k h, wr_slot _ _ _ h, wr_cell _ _ _ (by omega)]
def TapeR (σ τ : zS) (m : Nat) : Prop := σ 1 1 = nI m ∧ τ 38 2 = nI m ∧ ∀ i, i < m → ∃ c, 32 ≤ c ∧ c ≤ 126 ∧ σ 2 i = nI c ∧ τ 39 i = nI c
theorem TapeR.put (w : Int64) : ∀ (i : Nat) (σ τ : zS) (m : Nat), TapeR σ τ m → m + i ≤ 400 → kOk w i → TapeR (cP w i σ) (mP w i τ) (m + i) := by
  intro i
  induction i with
  | zero => intro σ τ m h _ _; exact h
  | succ i ih =>
    intro σ τ m h hm hk
    obtain ⟨h1, h2, h3⟩ := h
    rw [cP, mP, show m + (i + 1) = m + 1 + i by omega]
    refine ih _ _ (m + 1) ⟨by rw [wr_same, h1, nI_1], by rw [wr_same, h2, nI_1], fun j hj => ?_⟩ (by omega) (fun k hk2 => hk k (by omega))
    have e1 : wr (wr σ 2 (σ 1 1).toNatClampNeg (nI (kB w i))) 1 1 (σ 1 1 + 1) 2 = wr σ 2 m (nI (kB w i)) 2 := by rw [wr_cell _ _ _ (by omega), h1, z_cl (by omega)]
    have e2 : wr (wr τ 39 (τ 38 2).toNatClampNeg (nI (kB w i))) 38 2 (τ 38 2 + 1) 39 = wr τ 39 m (nI (kB w i)) 39 := by rw [wr_cell _ _ _ (by omega), h2, z_cl (by omega)]
    rw [e1, e2]
    by_cases hjm : j = m
    · subst hjm
      exact ⟨kB w i, (hk i (by omega)).1, (hk i (by omega)).2, by rw [wr_same], by rw [wr_same]⟩
    · rw [wr_slot _ _ _ hjm, wr_slot _ _ _ hjm]
      exact h3 j (by omega)
theorem InvN.frameT {σ σ2 : zS} {n : Nat} (H : InvN σ n) (hc : ∀ c, c ≠ 1 → c ≠ 2 → c ≠ 38 → c ≠ 39 → σ2 c = σ c) (h38 : ∀ k, k ≠ 0 → k ≠ 2 → σ2 38 k = σ 38 k) (hT : TapeOk σ2) : InvN σ2 n := by
  obtain ⟨a1, ⟨a21, a22, a23⟩, ⟨a3, a4, a5⟩, ⟨b1, b2, b3, b4, b5⟩, ⟨c1, c2⟩, sd, c3, c4⟩ := H
  have hcc : ∀ c, c = 0 ∨ (2 < c ∧ c < 38) ∨ 39 < c → σ2 c = σ c := fun c h => hc c (by omega) (by omega) (by omega) (by omega)
  have hPc : Pc σ2 = Pc σ := Pc_cong (fun c c1 c2 => hcc c (by omega))
  have hn := a3.2.1
  have hH : HRel σ2 σ2 n := a3.cong (by rw [hcc 24 (by omega)]) (by rw [hcc 24 (by omega)]) (fun i _ => by rw [hcc 25 (by omega), hcc 26 (by omega), hcc 27 (by omega), hcc 28 (by omega)]; exact ⟨rfl, rfl, rfl, rfl⟩) (fun i => by rw [hcc 29 (by omega)]) (fun i _ => by rw [hcc 50 (by omega), hcc 51 (by omega), hcc 52 (by omega)]; exact ⟨rfl, rfl, rfl⟩)
  refine ⟨hT, ⟨by rw [hcc 0 (by omega), h38 3 (by omega) (by omega), a21], by rw [hcc 0 (by omega), h38 28 (by omega) (by omega), a22], by rw [hcc 0 (by omega), h38 29 (by omega) (by omega), a23]⟩, ⟨hH, by rw [h38 20 (by omega) (by omega), a4], ?_⟩, ⟨fun r hr => by rw [hcc 33 (by omega), hcc 53 (by omega), b1 r hr], by rw [hcc 32 (by omega), h38 25 (by omega) (by omega), b2], by rw [hcc 32 (by omega), h38 26 (by omega) (by omega), b3], by rw [hcc 32 (by omega), h38 27 (by omega) (by omega), b4], by rw [hcc 32 (by omega)]; exact b5⟩, ⟨by rw [hcc 0 (by omega), h38 11 (by omega) (by omega), c1], ?_⟩, sd, c3, by rw [h38 10 (by omega) (by omega), c4]⟩
  · rw [← a5]; exact kC_cong (h38 20 (by omega) (by omega)) (by rw [hcc 50 (by omega)])
  · rw [hcc 0 (by omega), hPc]
    rcases c2 with h | ⟨h1, h2, h3, h4⟩
    · exact Or.inl h
    · have hR : PRel (Pc σ) σ2 := ⟨fun c x1 x2 => by rw [hcc c (by omega), h3.1 c x1 x2], h3.2⟩
      refine Or.inr ⟨h1, h2.cong (fun c _ _ => hcc c (by omega)) (hcc 43 (by omega)) (h38 10 (by omega) (by omega)), hR, ?_⟩
      exact h4.keep h3.2.1 (prog_all h2.to) hR (fun k _ => by rw [hcc 30 (by omega)]) (fun r _ => by rw [hcc 31 (by omega)]) hH (Nat.le_refl _) a4 (by rw [h38 20 (by omega) (by omega), a4]) (fun i _ => by rw [tEq, hcc 50 (by omega), hcc 51 (by omega), hcc 52 (by omega)]; exact ⟨rfl, rfl, rfl⟩) (kC_false (by rw [h38 20 (by omega) (by omega), a4]) hn (Nat.le_refl _) (by omega))
theorem t_type (d : Nat) {σ : zS} {n : Nat} (H : InvN σ n) (w : Int64) (x : Int32) : ∃ v σ1 σ2, zM (d + 3) mX7_type [.inr (.inr 0), .inr (.inl w), .inl x] σ = some (1, v, σ1) ∧ zM (d + 3) mX8_type [.inr (.inr 38), .inr (.inl w), .inl x] σ1 = some (1, v, σ2) ∧ InvN σ2 n := by
  obtain ⟨m, m1, m2, m3, m4⟩ := H.1
  have no : zM (d + 2) mX5_put [.inr (.inr 1), .inr (.inl w), .inl x] σ = some (1, 0, σ) → zM (d + 3) mX8_type [.inr (.inr 38), .inr (.inl w), .inl x] σ = some (1, 0, wr σ 38 0 0) → ∃ v σ1 σ2, zM (d + 3) mX7_type [.inr (.inr 0), .inr (.inl w), .inl x] σ = some (1, v, σ1) ∧ zM (d + 3) mX8_type [.inr (.inr 38), .inr (.inl w), .inl x] σ1 = some (1, v, σ2) ∧ InvN σ2 n := by
    intro h1 h2
    exact ⟨0, σ, wr σ 38 0 0, by rw [qX7_type_0, qX7_type_0_0, h1, zbI_some, if_pos (Or.inl rfl)], h2, H.thr 0⟩
  by_cases h1 : x < 1
  · exact no (by rw [qX5_put_1, qX5_put_1_0, if_pos h1]) (by rw [qX8_type_38, qX8_type_38_0, if_pos h1])
  · by_cases h8 : 8 < x
    · exact no (by rw [qX5_put_1, qX5_put_1_0, if_neg h1, if_pos h8]) (by rw [qX8_type_38, qX8_type_38_0, if_neg h1, if_pos h8])
    · have h0 : ¬ x < 0 := fun h => h1 (by
        rw [Int32.lt_iff_toInt_lt] at h ⊢
        have e0 : (0 : Int32).toInt = 0 := by decide
        have e1 : (1 : Int32).toInt = 1 := by decide
        omega)
      obtain ⟨k, hk, rfl⟩ := nI_of h0
      simp (disch := omega) only [lt_litR, lt_litL, eq_litR, eq_litL, lt_nn, eq_nn, lt_n0, z_cl, add_lit, eq_m1, eq_m1', m1_lt, false_or, or_false, if_pos, if_neg, zbI_some, zbV_some, wr_same, wr_cell, wr_slot, ne_eq, not_true_eq_false, not_false_eq_true, true_and, and_true, false_and, and_false, e10, e01, e00, if_true, if_false, Bool.false_eq_true, lit_ne, lit_lt, eq_self] at h1 h8
      have hsub : (400 : Int32) - nI m = nI (400 - m) := by
        show nI 400 - nI m = _
        exact pk_sub (by omega)
      have hc1 : ¬ nI k < 1 := by simp (disch := omega) only [lt_litR, lt_litL, eq_litR, eq_litL, lt_nn, eq_nn, lt_n0, z_cl, add_lit, eq_m1, eq_m1', m1_lt, false_or, or_false, if_pos, if_neg, zbI_some, zbV_some, wr_same, wr_cell, wr_slot, ne_eq, not_true_eq_false, not_false_eq_true, true_and, and_true, false_and, and_false, e10, e01, e00, if_true, if_false, Bool.false_eq_true, lit_ne, lit_lt, eq_self]; omega
      have hc8 : ¬ 8 < nI k := by simp (disch := omega) only [lt_litR, lt_litL, eq_litR, eq_litL, lt_nn, eq_nn, lt_n0, z_cl, add_lit, eq_m1, eq_m1', m1_lt, false_or, or_false, if_pos, if_neg, zbI_some, zbV_some, wr_same, wr_cell, wr_slot, ne_eq, not_true_eq_false, not_false_eq_true, true_and, and_true, false_and, and_false, e10, e01, e00, if_true, if_false, Bool.false_eq_true, lit_ne, lit_lt, eq_self]; omega
      by_cases hfit : 400 < m + k
      · refine no ?_ ?_
        · rw [qX5_put_1, qX5_put_1_0, if_neg hc1, if_neg hc8, m2, hsub, if_pos (nI_lt (by omega) (by omega))]
        · rw [qX8_type_38, qX8_type_38_0, if_neg hc1, if_neg hc8, qX8_type_38_16, wr_slot _ _ _ (by omega), m3, nI_add, if_pos (show (400 : Int32) < nI (m + k) from nI_lt (a := 400) hfit (by omega))]
      · have e0 : nI 0 = (0 : Int32) := rfl
        have hput : ∀ σ', σ' 1 1 = nI m → zM (d + 2) mX5_put [.inr (.inr 1), .inr (.inl w), .inl (nI k)] σ' = zexec zc_X5_put zu_X5_put (zM (d + 1)) 999999 28 [.inr (.inr 1), .inr (.inl w), .inl (nI k), .inl (nI 0)] σ' := fun σ' h => by
          rw [qX5_put_1, qX5_put_1_0, if_neg hc1, if_neg hc8, h, hsub, if_neg (nI_nlt (by omega) (by omega)), e0]
        have htyp : ∀ τ : zS, τ 38 2 = nI m → zM (d + 3) mX8_type [.inr (.inr 38), .inr (.inl w), .inl (nI k)] τ = zexec zc_X8_type zu_X8_type (zM (d + 2)) 999998 33 [.inr (.inr 38), .inr (.inl w), .inl (nI k), .inl (nI 0)] (wr τ 38 0 0) := fun τ h => by
          rw [qX8_type_38, qX8_type_38_0, if_neg hc1, if_neg hc8, qX8_type_38_16, wr_slot _ _ _ (by omega), h, nI_add, if_neg (show ¬ (400 : Int32) < nI (m + k) from nI_nlt (b := m + k) (a := 400) (by omega) (by omega)), e0]
        have hix : nI k - 1 = zIx k := by
          obtain ⟨j, rfl⟩ : ∃ j, k = j + 1 := ⟨k - 1, by omega⟩
          rw [nI_pred, zIx_s]
        rcases c_putC d w k (by omega) σ k 999999 0 (by omega) (by omega) (by omega) with ⟨g1, m', g2, g3⟩ | ⟨⟨j, j1, j2, j3⟩, g⟩
        · have hok : kOk w k := fun j hj => g1 j (by omega) hj
          obtain ⟨m'', rfl⟩ : ∃ q, m' = q + 1 + k := ⟨m' - 1 - k, by omega⟩
          have hcls : zM (d + 2) mX5_put [.inr (.inr 1), .inr (.inl w), .inl (nI k)] σ = some (1, 1, cP w k σ) := by
            rw [hput σ m2, g3, hix]
            exact c_putW d w k m'' σ m (by omega) m2 (by omega)
          have h382 : cP w k σ 38 2 = nI m := by rw [cP_cell w k σ 38 (by omega) (by omega), m3]
          have h382' : wr (cP w k σ) 38 0 0 38 2 = nI m := by rw [wr_slot _ _ _ (by omega), h382]
          rcases m_putC (d + 2) w k (by omega) (wr (cP w k σ) 38 0 0) k 999998 0 (by omega) (by omega) (by omega) with ⟨_, q', q2, q3⟩ | ⟨⟨j, j1, j2, j3⟩, _⟩
          · obtain ⟨q'', rfl⟩ : ∃ q, q' = q + 1 + k := ⟨q' - 1 - k, by omega⟩
            refine ⟨1, cP w k σ, mP w k (wr (cP w k σ) 38 0 0), by rw [qX7_type_0, qX7_type_0_0, hcls, zbI_some, if_pos (Or.inr rfl)], ?_, ?_⟩
            · rw [htyp _ h382, q3, hix]
              exact m_putW (d + 2) w k q'' _ m (by omega) h382' (by omega)
            · refine H.frameT (fun c x1 x2 x3 x4 => ?_) (fun j x1 x2 => ?_) ?_
              · rw [mP_cell w k _ c x3 x4, wr_cell _ _ _ x3, cP_cell w k σ c x1 x2]
              · rw [mP_38 w k _ j x2, wr_slot _ _ _ x1, cP_cell w k σ 38 (by omega) (by omega)]
              · have hTR : TapeR σ (wr (cP w k σ) 38 0 0) m := ⟨m2, h382', fun i hi => by
                  obtain ⟨c, y1, y2, y3, y4⟩ := m4 i hi
                  exact ⟨c, y1, y2, y3, by rw [wr_cell _ _ _ (by omega), cP_cell w k σ 39 (by omega) (by omega), y4]⟩⟩
                obtain ⟨r1, r2, r3⟩ := hTR.put w k σ _ m (by omega) hok
                refine ⟨m + k, by omega, ?_, r2, fun i hi => ?_⟩
                · rw [mP_cell w k _ 1 (by omega) (by omega), wr_cell _ _ _ (by omega), r1]
                · rw [mP_cell w k _ 2 (by omega) (by omega), wr_cell _ _ _ (by omega)]
                  exact r3 i hi
          · exact absurd (hok j j2) j3
        · refine no (by rw [hput σ m2, g]) ?_
          rw [htyp σ m3]
          rcases m_putC (d + 2) w k (by omega) (wr σ 38 0 0) k 999998 0 (by omega) (by omega) (by omega) with ⟨q1, _⟩ | ⟨_, q⟩
          · exact absurd (q1 j (by omega) j2) j3
          · exact q
