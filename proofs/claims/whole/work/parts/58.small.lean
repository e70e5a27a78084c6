-- the small calls
theorem InvN.thr {σ : zS} {n : Nat} (H : InvN σ n) (v : Int32) : InvN (wr σ 38 0 v) n := by
  have H0 := H
  obtain ⟨a1, ⟨a21, a22, a23⟩, _⟩ := H
  exact H0.frame (fun c _ _ => by simp (disch := omega) only [lt_litR, lt_litL, eq_litR, eq_litL, lt_nn, eq_nn, lt_n0, z_cl, add_lit, eq_m1, eq_m1', m1_lt, false_or, or_false, if_pos, if_neg, zbI_some, zbV_some, wr_same, wr_cell, wr_slot, ne_eq, not_true_eq_false, not_false_eq_true, true_and, and_true, false_and, and_false, e10, e01, e00, if_true, if_false, Bool.false_eq_true, lit_ne, lit_lt, eq_self]) (by simp (disch := omega) only [lt_litR, lt_litL, eq_litR, eq_litL, lt_nn, eq_nn, lt_n0, z_cl, add_lit, eq_m1, eq_m1', m1_lt, false_or, or_false, if_pos, if_neg, zbI_some, zbV_some, wr_same, wr_cell, wr_slot, ne_eq, not_true_eq_false, not_false_eq_true, true_and, and_true, false_and, and_false, e10, e01, e00, if_true, if_false, Bool.false_eq_true, lit_ne, lit_lt, eq_self]) (fun k hk => by simp (disch := omega) only [lt_litR, lt_litL, eq_litR, eq_litL, lt_nn, eq_nn, lt_n0, z_cl, add_lit, eq_m1, eq_m1', m1_lt, false_or, or_false, if_pos, if_neg, zbI_some, zbV_some, wr_same, wr_cell, wr_slot, ne_eq, not_true_eq_false, not_false_eq_true, true_and, and_true, false_and, and_false, e10, e01, e00, if_true, if_false, Bool.false_eq_true, lit_ne, lit_lt, eq_self]) ⟨by simp (disch := omega) only [lt_litR, lt_litL, eq_litR, eq_litL, lt_nn, eq_nn, lt_n0, z_cl, add_lit, eq_m1, eq_m1', m1_lt, false_or, or_false, if_pos, if_neg, zbI_some, zbV_some, wr_same, wr_cell, wr_slot, ne_eq, not_true_eq_false, not_false_eq_true, true_and, and_true, false_and, and_false, e10, e01, e00, if_true, if_false, Bool.false_eq_true, lit_ne, lit_lt, eq_self, a21], by simp (disch := omega) only [lt_litR, lt_litL, eq_litR, eq_litL, lt_nn, eq_nn, lt_n0, z_cl, add_lit, eq_m1, eq_m1', m1_lt, false_or, or_false, if_pos, if_neg, zbI_some, zbV_some, wr_same, wr_cell, wr_slot, ne_eq, not_true_eq_false, not_false_eq_true, true_and, and_true, false_and, and_false, e10, e01, e00, if_true, if_false, Bool.false_eq_true, lit_ne, lit_lt, eq_self, a22], by simp (disch := omega) only [lt_litR, lt_litL, eq_litR, eq_litL, lt_nn, eq_nn, lt_n0, z_cl, add_lit, eq_m1, eq_m1', m1_lt, false_or, or_false, if_pos, if_neg, zbI_some, zbV_some, wr_same, wr_cell, wr_slot, ne_eq, not_true_eq_false, not_false_eq_true, true_and, and_true, false_and, and_false, e10, e01, e00, if_true, if_false, Bool.false_eq_true, lit_ne, lit_lt, eq_self, a23]⟩
theorem t_fault (d : Nat) {σ : zS} {n : Nat} (H : InvN σ n) : ∃ v, zM (d + 1) mX7_fault [.inr (.inr 0)] σ = some (1, v, σ) ∧ zM (d + 1) mX8_fault [.inr (.inr 38)] σ = some (1, v, wr σ 38 0 0) ∧ InvN (wr σ 38 0 0) n :=
  ⟨σ 0 10, by rw [qX7_fault_0, qX7_fault_0_0], by rw [qX8_fault_38, qX8_fault_38_0, H.2.1.1], H.thr 0⟩
theorem t_refused (d : Nat) {σ : zS} {n : Nat} (H : InvN σ n) : ∃ v, zM (d + 1) mX7_refused [.inr (.inr 0)] σ = some (1, v, σ) ∧ zM (d + 1) mX8_refused [.inr (.inr 38)] σ = some (1, v, wr σ 38 0 0) ∧ InvN (wr σ 38 0 0) n :=
  ⟨σ 0 11, by rw [qX7_refused_0, qX7_refused_0_0], by rw [qX8_refused_38, qX8_refused_38_0, H.2.1.2.1], H.thr 0⟩
theorem t_differs (d : Nat) {σ : zS} {n : Nat} (H : InvN σ n) : ∃ v, zM (d + 1) mX7_differs [.inr (.inr 0)] σ = some (1, v, σ) ∧ zM (d + 1) mX8_differs [.inr (.inr 38)] σ = some (1, v, wr σ 38 0 0) ∧ InvN (wr σ 38 0 0) n :=
  ⟨σ 0 12, by rw [qX7_differs_0, qX7_differs_0_0], by rw [qX8_differs_38, qX8_differs_38_0, H.2.1.2.2], H.thr 0⟩
theorem t_register (d : Nat) {σ : zS} {n : Nat} (H : InvN σ n) (x : Int32) : ∃ k v v2 t, zM (d + 2) mX7_register [.inr (.inr 0), .inl x] σ = some (k, v, σ) ∧ zM (d + 2) mX8_register [.inr (.inr 38), .inl x] σ = some (1, v2, wr σ 38 0 t) ∧ ((k = 1 ∧ t = 0 ∧ v = v2) ∨ (k = 2 ∧ t = 1)) ∧ InvN (wr σ 38 0 t) n := by
  rw [qX7_register_0, qX7_register_0_0, qX8_register_38, qX8_register_38_0]
  by_cases h1 : x < 0
  · exact ⟨2, 0, 0, 1, by rw [if_pos h1], by rw [if_pos h1], Or.inr ⟨rfl, rfl⟩, H.thr 1⟩
  · obtain ⟨j, hj, rfl⟩ := nI_of h1
    rw [if_neg h1, if_neg h1]
    by_cases h2 : j < 8
    · refine ⟨1, σ 33 j, σ 53 j, 0, ?_, ?_, Or.inl ⟨rfl, rfl, H.2.2.2.1.1 j h2⟩, H.thr 0⟩
      · rw [qX3_get_32, qX3_get_32_0]; simp (disch := omega) only [lt_litR, lt_litL, eq_litR, eq_litL, lt_nn, eq_nn, lt_n0, z_cl, add_lit, eq_m1, eq_m1', m1_lt, false_or, or_false, if_pos, if_neg, zbI_some, zbV_some, wr_same, wr_cell, wr_slot, ne_eq, not_true_eq_false, not_false_eq_true, true_and, and_true, false_and, and_false, e10, e01, e00, if_true, if_false, Bool.false_eq_true, lit_ne, lit_lt, eq_self]
      · simp (disch := omega) only [lt_litR, lt_litL, eq_litR, eq_litL, lt_nn, eq_nn, lt_n0, z_cl, add_lit, eq_m1, eq_m1', m1_lt, false_or, or_false, if_pos, if_neg, zbI_some, zbV_some, wr_same, wr_cell, wr_slot, ne_eq, not_true_eq_false, not_false_eq_true, true_and, and_true, false_and, and_false, e10, e01, e00, if_true, if_false, Bool.false_eq_true, lit_ne, lit_lt, eq_self]
    · refine ⟨2, 0, 0, 1, ?_, ?_, Or.inr ⟨rfl, rfl⟩, H.thr 1⟩
      · simp (disch := omega) only [lt_litR, lt_litL, eq_litR, eq_litL, lt_nn, eq_nn, lt_n0, z_cl, add_lit, eq_m1, eq_m1', m1_lt, false_or, or_false, if_pos, if_neg, zbI_some, zbV_some, wr_same, wr_cell, wr_slot, ne_eq, not_true_eq_false, not_false_eq_true, true_and, and_true, false_and, and_false, e10, e01, e00, if_true, if_false, Bool.false_eq_true, lit_ne, lit_lt, eq_self]
      · simp (disch := omega) only [lt_litR, lt_litL, eq_litR, eq_litL, lt_nn, eq_nn, lt_n0, z_cl, add_lit, eq_m1, eq_m1', m1_lt, false_or, or_false, if_pos, if_neg, zbI_some, zbV_some, wr_same, wr_cell, wr_slot, ne_eq, not_true_eq_false, not_false_eq_true, true_and, and_true, false_and, and_false, e10, e01, e00, if_true, if_false, Bool.false_eq_true, lit_ne, lit_lt, eq_self]
theorem t_event (d : Nat) {σ : zS} {n : Nat} (H : InvN σ n) (x y : Int32) : ∃ k v v2 t, zM (d + 3) mX7_event [.inr (.inr 0), .inl x, .inl y] σ = some (k, v, σ) ∧ zM (d + 3) mX8_event [.inr (.inr 38), .inl x, .inl y] σ = some (1, v2, wr σ 38 0 t) ∧ ((k = 1 ∧ t = 0 ∧ v = v2) ∨ (k = 2 ∧ t = 1)) ∧ InvN (wr σ 38 0 t) n := by
  have hH := H.2.2.1.1
  have h20 := H.2.2.1.2.1
  have hn := hH.2.1
  rw [qX7_event_0, qX7_event_0_0, s_holds, zbI_some, hH.1, qX8_event_38, qX8_event_38_0, h20]
  by_cases h1 : x < 0
  · exact ⟨2, 0, 0, 1, by rw [if_neg (show ¬ (¬ x < 0 ∧ x < nI n) from fun h => h.1 h1), if_pos rfl], by rw [if_pos h1], Or.inr ⟨rfl, rfl⟩, H.thr 1⟩
  · obtain ⟨j, hj, rfl⟩ := nI_of h1
    rw [if_neg h1]
    by_cases h2 : j < n
    · obtain ⟨e1, e2, e3⟩ := hH.2.2.1 j h2
      have hjn : nI j < nI n := nI_lt h2 (by omega)
      rw [if_pos hjn, if_pos (show ¬ nI j < 0 ∧ nI j < nI n from ⟨h1, hjn⟩), if_neg (by decide), c_kindAt d hH j hj, c_refAt d hH j hj, c_valueAt d hH j hj, zbI_some, zbI_some, zbI_some, if_pos h2, if_pos h2, if_pos h2]
      by_cases h3 : y < 0
      · exact ⟨2, 0, 0, 1, by rw [if_pos h3], by rw [if_pos h3], Or.inr ⟨rfl, rfl⟩, H.thr 1⟩
      · by_cases h4 : 2 < y
        · exact ⟨2, 0, 0, 1, by rw [if_neg h3, if_pos h4], by rw [if_neg h3, if_pos h4], Or.inr ⟨rfl, rfl⟩, H.thr 1⟩
        · rw [if_neg h3, if_neg h4, if_neg h3, if_neg h4]
          have hin : ¬ (nI j < 0 ∨ 201 ≤ (nI j).toNatClampNeg) := nI_in (by omega) (by omega)
          rw [if_neg hin, if_neg hin, if_neg hin, z_cl (by omega)]
          by_cases h5 : y = 0
          · exact ⟨1, _, _, 0, by rw [if_pos h5], by rw [if_pos h5], Or.inl ⟨rfl, rfl, rfl⟩, H.thr 0⟩
          · by_cases h6 : y = 1
            · exact ⟨1, _, _, 0, by rw [if_neg h5, if_pos h6], by rw [if_neg h5, if_pos h6], Or.inl ⟨rfl, rfl, rfl⟩, H.thr 0⟩
            · exact ⟨1, _, _, 0, by rw [if_neg h5, if_neg h6], by rw [if_neg h5, if_neg h6], Or.inl ⟨rfl, rfl, rfl⟩, H.thr 0⟩
    · have hjn : ¬ nI j < nI n := nI_nlt (by omega) (by omega)
      exact ⟨2, 0, 0, 1, by rw [if_neg (show ¬ (¬ nI j < 0 ∧ nI j < nI n) from fun h => hjn h.2), if_pos rfl], by rw [if_neg hjn], Or.inr ⟨rfl, rfl⟩, H.thr 1⟩
theorem t_crash (d : Nat) {σ : zS} {n : Nat} (H : InvN σ n) : ∃ σ1, zM (d + 2) mX7_crash [.inr (.inr 0)] σ = some (0, 0, σ1) ∧ zM (d + 2) mX8_crash [.inr (.inr 38)] σ1 = some (0, 0, wr σ1 38 0 0) ∧ InvN (wr σ1 38 0 0) n := by
  refine ⟨cRst σ, by rw [qX7_crash_0, qX7_crash_0_0, c_restart, zbV_some], by rw [qX8_crash_38, qX8_crash_38_0], InvN.thr ?_ 0⟩
  obtain ⟨a1, ⟨a21, a22, a23⟩, ⟨a3, a4, a5⟩, ⟨b1, b2, b3, b4, b5⟩, ⟨c1, c2⟩, sd, c3, c4⟩ := H
  have cc : ∀ c, c ≠ 30 → c ≠ 31 → cRst σ c = σ c := fun c h1 h2 => cRst_cell σ h1 h2
  have hPc : Pc (cRst σ) = Pc σ := Pc_cong (fun c _ _ => cc c (by omega) (by omega))
  have hH : HRel (cRst σ) (cRst σ) n := a3.cong (by rw [cc 24 (by omega) (by omega)]) (by rw [cc 24 (by omega) (by omega)]) (fun i _ => by rw [cc 25 (by omega) (by omega), cc 26 (by omega) (by omega), cc 27 (by omega) (by omega), cc 28 (by omega) (by omega)]; exact ⟨rfl, rfl, rfl, rfl⟩) (fun i => by rw [cc 29 (by omega) (by omega)]) (fun i _ => by rw [cc 50 (by omega) (by omega), cc 51 (by omega) (by omega), cc 52 (by omega) (by omega)]; exact ⟨rfl, rfl, rfl⟩)
  have h38 : cRst σ 38 = σ 38 := cc 38 (by omega) (by omega)
  have h0 : cRst σ 0 = σ 0 := cc 0 (by omega) (by omega)
  have hk : kC (cRst σ) 0 = false := by rw [← a5]; exact kC_cong (by rw [h38]) (by rw [cc 50 (by omega) (by omega)])
  refine ⟨a1.cong (by rw [cc 1 (by omega) (by omega)]) (cc 2 (by omega) (by omega)) (by rw [h38]) (cc 39 (by omega) (by omega)), ⟨by rw [h0, h38, a21], by rw [h0, h38, a22], by rw [h0, h38, a23]⟩, ⟨hH, by rw [h38, a4], hk⟩, ⟨fun r hr => by rw [cc 33 (by omega) (by omega), cc 53 (by omega) (by omega), b1 r hr], by rw [cc 32 (by omega) (by omega), h38, b2], by rw [cc 32 (by omega) (by omega), h38, b3], by rw [cc 32 (by omega) (by omega), h38, b4], by rw [cc 32 (by omega) (by omega)]; exact b5⟩, ⟨by rw [h0, h38, c1], ?_⟩, sd, c3, by rw [h38, c4]⟩
  rw [h0, hPc]
  rcases c2 with h | ⟨h1, h2, h3, h4⟩
  · exact Or.inl h
  · have hR : PRel (Pc σ) (cRst σ) := ⟨fun c x1 x2 => by rw [cc c (by omega) (by omega), h3.1 c x1 x2], h3.2⟩
    exact Or.inr ⟨h1, h2.cong (fun c _ _ => cc c (by omega) (by omega)) (cc 43 (by omega) (by omega)) (by rw [h38]), hR, CRs.fresh hR (fun k k1 k2 => cRst_30 σ k1 k2) (fun r hr => cRst_reg σ hr) hH (by rw [h38, a4]) hk⟩
def cRs2 (σ : zS) : zS := wr (wr (wr (wr (wr (cZ 33 8 0 σ) 32 1 0) 32 2 0) 32 3 0) 32 4 0) 32 5 0
theorem c_rstLoop2 (d m : Nat) : ∀ (c k : Nat) (σ : zS), k + c = 8 → zexec zc_X3_restart zu_X3_restart (zM d) (m + 1 + c) 2 [.inr (.inr 32), .inl (nI k)] σ = some (0, 0, wr (wr (wr (wr (wr (cZ 33 c k σ) 32 1 0) 32 2 0) 32 3 0) 32 4 0) 32 5 0) := by
  intro c
  induction c with
  | zero => intro k σ h; obtain rfl : k = 8 := by omega
            rw [Nat.add_zero, qX3_restart_32_2, if_neg (by decide)]; rfl
  | succ c ih =>
    intro k σ h
    rw [← Nat.add_assoc, qX3_restart_32_2, cZ, ← ih (k + 1) _ (by omega)]
    simp (disch := omega) only [lt_litR, lt_litL, eq_litR, eq_litL, lt_nn, eq_nn, lt_n0, z_cl, add_lit, eq_m1, eq_m1', m1_lt, false_or, or_false, if_pos, if_neg, zbI_some, zbV_some, wr_same, wr_cell, wr_slot, ne_eq, not_true_eq_false, not_false_eq_true, true_and, and_true, false_and, and_false, e10, e01, e00, if_true, if_false, Bool.false_eq_true, lit_ne, lit_lt, eq_self]
theorem c_restart2 (d : Nat) (σ : zS) : zM (d + 1) mX3_restart [.inr (.inr 32)] σ = some (0, 0, cRs2 σ) := by
  rw [qX3_restart_32, qX3_restart_32_0]
  exact c_rstLoop2 d 999990 8 0 σ rfl
theorem cRs2_cell (σ : zS) {c : Nat} (h : c ≠ 32) (h2 : c ≠ 33) : cRs2 σ c = σ c := by
  rw [cRs2]; simp (disch := omega) only [lt_litR, lt_litL, eq_litR, eq_litL, lt_nn, eq_nn, lt_n0, z_cl, add_lit, eq_m1, eq_m1', m1_lt, false_or, or_false, if_pos, if_neg, zbI_some, zbV_some, wr_same, wr_cell, wr_slot, ne_eq, not_true_eq_false, not_false_eq_true, true_and, and_true, false_and, and_false, e10, e01, e00, if_true, if_false, Bool.false_eq_true, lit_ne, lit_lt, eq_self, cZ_cell]
theorem cRs2_reg (σ : zS) {r : Nat} (h : r < 8) : cRs2 σ 33 r = 0 := by
  rw [cRs2]; simp (disch := omega) only [lt_litR, lt_litL, eq_litR, eq_litL, lt_nn, eq_nn, lt_n0, z_cl, add_lit, eq_m1, eq_m1', m1_lt, false_or, or_false, if_pos, if_neg, zbI_some, zbV_some, wr_same, wr_cell, wr_slot, ne_eq, not_true_eq_false, not_false_eq_true, true_and, and_true, false_and, and_false, e10, e01, e00, if_true, if_false, Bool.false_eq_true, lit_ne, lit_lt, eq_self, cZ_at]
theorem cRs2_32 (σ : zS) {k : Nat} (h : 1 ≤ k) (h2 : k ≤ 5) : cRs2 σ 32 k = 0 := by
  rw [cRs2]
  rcases (show k = 1 ∨ k = 2 ∨ k = 3 ∨ k = 4 ∨ k = 5 by omega) with rfl | rfl | rfl | rfl | rfl <;> simp (disch := omega) only [lt_litR, lt_litL, eq_litR, eq_litL, lt_nn, eq_nn, lt_n0, z_cl, add_lit, eq_m1, eq_m1', m1_lt, false_or, or_false, if_pos, if_neg, zbI_some, zbV_some, wr_same, wr_cell, wr_slot, ne_eq, not_true_eq_false, not_false_eq_true, true_and, and_true, false_and, and_false, e10, e01, e00, if_true, if_false, Bool.false_eq_true, lit_ne, lit_lt, eq_self]
theorem m_clrLoop (d m : Nat) : ∀ (c k : Nat) (σ : zS), k + c = 8 → zexec zc_X8_clear zu_X8_clear (zM d) (m + 1 + c) 12 [.inr (.inr 38), .inl (nI k)] σ = some (0, 0, wr (wr (wr (cZ 53 c k σ) 38 25 0) 38 26 0) 38 27 0) := by
  intro c
  induction c with
  | zero => intro k σ h; obtain rfl : k = 8 := by omega
            rw [Nat.add_zero, qX8_clear_38_12, if_neg (by decide)]; rfl
  | succ c ih =>
    intro k σ h
    rw [← Nat.add_assoc, qX8_clear_38_12, cZ, ← ih (k + 1) _ (by omega)]
    simp (disch := omega) only [lt_litR, lt_litL, eq_litR, eq_litL, lt_nn, eq_nn, lt_n0, z_cl, add_lit, eq_m1, eq_m1', m1_lt, false_or, or_false, if_pos, if_neg, zbI_some, zbV_some, wr_same, wr_cell, wr_slot, ne_eq, not_true_eq_false, not_false_eq_true, true_and, and_true, false_and, and_false, e10, e01, e00, if_true, if_false, Bool.false_eq_true, lit_ne, lit_lt, eq_self]
theorem t_clear (d : Nat) {σ : zS} {n : Nat} (H : InvN σ n) : ∃ σ1 σ2, zM (d + 2) mX7_clear [.inr (.inr 0)] σ = some (0, 0, σ1) ∧ zM (d + 2) mX8_clear [.inr (.inr 38)] σ1 = some (0, 0, σ2) ∧ InvN σ2 0 := by
  have hcl : zM (d + 2) mX7_clear [.inr (.inr 0)] σ = some (0, 0, cRs2 (cRst (wr (wr σ 24 5 0) 24 6 0))) := by
    rw [qX7_clear_0, qX7_clear_0_0, qX0_wipe_24, qX0_wipe_24_0, zbV_some, c_restart, zbV_some, c_restart2, zbV_some]
  have hml : ∀ τ, zM (d + 2) mX8_clear [.inr (.inr 38)] τ = some (0, 0, wr (wr (wr (cZ 53 8 0 (wr (wr τ 38 0 0) 38 20 0)) 38 25 0) 38 26 0) 38 27 0) := fun τ => by
    rw [qX8_clear_38, qX8_clear_38_0]
    exact m_clrLoop (d + 1) 999990 8 0 _ rfl
  refine ⟨_, _, hcl, hml _, ?_⟩
  generalize hσ1 : cRs2 (cRst (wr (wr σ 24 5 0) 24 6 0)) = σ1
  generalize hσ2 : wr (wr (wr (cZ 53 8 0 (wr (wr σ1 38 0 0) 38 20 0)) 38 25 0) 38 26 0) 38 27 0 = σ2
  obtain ⟨a1, ⟨a21, a22, a23⟩, ⟨a3, a4, a5⟩, ⟨b1, b2, b3, b4, b5⟩, ⟨c1, c2⟩, sd, c3, c4⟩ := H
  have g1 : ∀ c, c ≠ 38 → c ≠ 53 → σ2 c = σ1 c := fun c h1 h2 => by rw [← hσ2]; simp (disch := omega) only [lt_litR, lt_litL, eq_litR, eq_litL, lt_nn, eq_nn, lt_n0, z_cl, add_lit, eq_m1, eq_m1', m1_lt, false_or, or_false, if_pos, if_neg, zbI_some, zbV_some, wr_same, wr_cell, wr_slot, ne_eq, not_true_eq_false, not_false_eq_true, true_and, and_true, false_and, and_false, e10, e01, e00, if_true, if_false, Bool.false_eq_true, lit_ne, lit_lt, eq_self, cZ_cell]
  have g38 : ∀ k, k ≠ 0 → k ≠ 20 → k ≠ 25 → k ≠ 26 → k ≠ 27 → σ2 38 k = σ1 38 k := fun k h1 h2 h3 h4 h5 => by rw [← hσ2]; simp (disch := omega) only [lt_litR, lt_litL, eq_litR, eq_litL, lt_nn, eq_nn, lt_n0, z_cl, add_lit, eq_m1, eq_m1', m1_lt, false_or, or_false, if_pos, if_neg, zbI_some, zbV_some, wr_same, wr_cell, wr_slot, ne_eq, not_true_eq_false, not_false_eq_true, true_and, and_true, false_and, and_false, e10, e01, e00, if_true, if_false, Bool.false_eq_true, lit_ne, lit_lt, eq_self, cZ_cell]
  have k1 : ∀ c, c ≠ 24 → c ≠ 30 → c ≠ 31 → c ≠ 32 → c ≠ 33 → σ1 c = σ c := fun c h1 h2 h3 h4 h5 => by rw [← hσ1, cRs2_cell _ h4 h5, cRst_cell _ h2 h3, wr_cell _ _ _ h1, wr_cell _ _ _ h1]
  have kk : ∀ c, c < 24 ∨ 33 < c → σ1 c = σ c := fun c h => k1 c (by omega) (by omega) (by omega) (by omega) (by omega)
  have h20 : σ2 38 20 = nI 0 := by rw [← hσ2]; simp (disch := omega) only [lt_litR, lt_litL, eq_litR, eq_litL, lt_nn, eq_nn, lt_n0, z_cl, add_lit, eq_m1, eq_m1', m1_lt, false_or, or_false, if_pos, if_neg, zbI_some, zbV_some, wr_same, wr_cell, wr_slot, ne_eq, not_true_eq_false, not_false_eq_true, true_and, and_true, false_and, and_false, e10, e01, e00, if_true, if_false, Bool.false_eq_true, lit_ne, lit_lt, eq_self, cZ_cell]
  have hH : HRel σ2 σ2 0 := by
    refine ⟨?_, by omega, fun i hi => by omega, fun i hi => by omega, fun i hi => by omega, ?_, fun i hi => by omega⟩
    · rw [g1 24 (by omega) (by omega), ← hσ1, cRs2_cell _ (by omega) (by omega), cRst_cell _ (by omega) (by omega)]; simp (disch := omega) only [lt_litR, lt_litL, eq_litR, eq_litL, lt_nn, eq_nn, lt_n0, z_cl, add_lit, eq_m1, eq_m1', m1_lt, false_or, or_false, if_pos, if_neg, zbI_some, zbV_some, wr_same, wr_cell, wr_slot, ne_eq, not_true_eq_false, not_false_eq_true, true_and, and_true, false_and, and_false, e10, e01, e00, if_true, if_false, Bool.false_eq_true, lit_ne, lit_lt, eq_self]
    · rw [g1 24 (by omega) (by omega), ← hσ1, cRs2_cell _ (by omega) (by omega), cRst_cell _ (by omega) (by omega)]; simp (disch := omega) only [lt_litR, lt_litL, eq_litR, eq_litL, lt_nn, eq_nn, lt_n0, z_cl, add_lit, eq_m1, eq_m1', m1_lt, false_or, or_false, if_pos, if_neg, zbI_some, zbV_some, wr_same, wr_cell, wr_slot, ne_eq, not_true_eq_false, not_false_eq_true, true_and, and_true, false_and, and_false, e10, e01, e00, if_true, if_false, Bool.false_eq_true, lit_ne, lit_lt, eq_self, kCnt]
  have hPc : Pc σ2 = Pc σ := Pc_cong (fun c _ _ => by rw [g1 c (by omega) (by omega), kk c (by omega)])
  have hk : kC σ2 0 = false := kC_false h20 (by omega) (by omega) (by omega)
  refine ⟨a1.cong (by rw [g1 1 (by omega) (by omega), kk 1 (by omega)]) (by rw [g1 2 (by omega) (by omega), kk 2 (by omega)]) (by rw [g38 2 (by omega) (by omega) (by omega) (by omega) (by omega), kk 38 (by omega)]) (by rw [g1 39 (by omega) (by omega), kk 39 (by omega)]), ⟨?_, ?_, ?_⟩, ⟨hH, h20, hk⟩, ⟨fun r hr => ?_, ?_, ?_, ?_, ?_⟩, ⟨?_, ?_⟩, sd, c3, ?_⟩
  · rw [g1 0 (by omega) (by omega), kk 0 (by omega), g38 3 (by omega) (by omega) (by omega) (by omega) (by omega), kk 38 (by omega), a21]
  · rw [g1 0 (by omega) (by omega), kk 0 (by omega), g38 28 (by omega) (by omega) (by omega) (by omega) (by omega), kk 38 (by omega), a22]
  · rw [g1 0 (by omega) (by omega), kk 0 (by omega), g38 29 (by omega) (by omega) (by omega) (by omega) (by omega), kk 38 (by omega), a23]
  · rw [g1 33 (by omega) (by omega), ← hσ1, cRs2_reg _ hr, ← hσ2]; simp (disch := omega) only [lt_litR, lt_litL, eq_litR, eq_litL, lt_nn, eq_nn, lt_n0, z_cl, add_lit, eq_m1, eq_m1', m1_lt, false_or, or_false, if_pos, if_neg, zbI_some, zbV_some, wr_same, wr_cell, wr_slot, ne_eq, not_true_eq_false, not_false_eq_true, true_and, and_true, false_and, and_false, e10, e01, e00, if_true, if_false, Bool.false_eq_true, lit_ne, lit_lt, eq_self, cZ_at]
  · rw [g1 32 (by omega) (by omega), ← hσ1, cRs2_32 _ (by omega) (by omega), ← hσ2]; simp (disch := omega) only [lt_litR, lt_litL, eq_litR, eq_litL, lt_nn, eq_nn, lt_n0, z_cl, add_lit, eq_m1, eq_m1', m1_lt, false_or, or_false, if_pos, if_neg, zbI_some, zbV_some, wr_same, wr_cell, wr_slot, ne_eq, not_true_eq_false, not_false_eq_true, true_and, and_true, false_and, and_false, e10, e01, e00, if_true, if_false, Bool.false_eq_true, lit_ne, lit_lt, eq_self]
  · rw [g1 32 (by omega) (by omega), ← hσ1, cRs2_32 _ (by omega) (by omega), ← hσ2]; simp (disch := omega) only [lt_litR, lt_litL, eq_litR, eq_litL, lt_nn, eq_nn, lt_n0, z_cl, add_lit, eq_m1, eq_m1', m1_lt, false_or, or_false, if_pos, if_neg, zbI_some, zbV_some, wr_same, wr_cell, wr_slot, ne_eq, not_true_eq_false, not_false_eq_true, true_and, and_true, false_and, and_false, e10, e01, e00, if_true, if_false, Bool.false_eq_true, lit_ne, lit_lt, eq_self]
  · rw [g1 32 (by omega) (by omega), ← hσ1, cRs2_32 _ (by omega) (by omega), ← hσ2]; simp (disch := omega) only [lt_litR, lt_litL, eq_litR, eq_litL, lt_nn, eq_nn, lt_n0, z_cl, add_lit, eq_m1, eq_m1', m1_lt, false_or, or_false, if_pos, if_neg, zbI_some, zbV_some, wr_same, wr_cell, wr_slot, ne_eq, not_true_eq_false, not_false_eq_true, true_and, and_true, false_and, and_false, e10, e01, e00, if_true, if_false, Bool.false_eq_true, lit_ne, lit_lt, eq_self]
  · rw [g1 32 (by omega) (by omega), ← hσ1, cRs2_32 _ (by omega) (by omega)]; exact Or.inl rfl
  · rw [g1 0 (by omega) (by omega), kk 0 (by omega), g38 11 (by omega) (by omega) (by omega) (by omega) (by omega), kk 38 (by omega), c1]
  · rw [g1 0 (by omega) (by omega), kk 0 (by omega), hPc]
    rcases c2 with h | ⟨h1, h2, h3, h4⟩
    · exact Or.inl h
    · have hR : PRel (Pc σ) σ2 := ⟨fun c x1 x2 => by rw [g1 c (by omega) (by omega), kk c (by omega), h3.1 c x1 x2], h3.2⟩
      refine Or.inr ⟨h1, h2.cong (fun c _ _ => by rw [g1 c (by omega) (by omega), kk c (by omega)]) (by rw [g1 43 (by omega) (by omega), kk 43 (by omega)]) (by rw [g38 10 (by omega) (by omega) (by omega) (by omega) (by omega), kk 38 (by omega)]), hR, CRs.fresh hR (fun k k1 k2 => ?_) (fun r hr => ?_) hH h20 hk⟩
      · rw [g1 30 (by omega) (by omega), ← hσ1, cRs2_cell _ (by omega) (by omega), cRst_30 _ k1 k2]
      · rw [g1 31 (by omega) (by omega), ← hσ1, cRs2_cell _ (by omega) (by omega), cRst_reg _ hr]
  · rw [g38 10 (by omega) (by omega) (by omega) (by omega) (by omega), kk 38 (by omega), c4]
