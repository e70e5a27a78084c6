def bd (t : Nat → Nat) (k : Nat) : Prop := 0 < k → ¬ (isL (t (k - 1)) = true ∧ isL (t k) = true) ∧ ¬ (isD (t (k - 1)) = true ∧ isD (t k) = true)
theorem isS_bd {t : Nat → Nat} {k : Nat} (h : bd t k) : isS t k = decide (¬ t k = 32) := by
  rw [isS]
  by_cases hk : 0 < k
  · obtain ⟨h1, h2⟩ := h hk
    cases h3 : isL (t (k - 1)) <;> cases h4 : isL (t k) <;> cases h5 : isD (t (k - 1)) <;> cases h6 : isD (t k) <;> simp_all
  · simp [hk]
theorem isS_inL {t : Nat → Nat} {k : Nat} (hk : 0 < k) (h1 : isL (t (k - 1)) = true) (h2 : isL (t k) = true) : isS t k = false := by
  rw [isS]; simp [h1, h2, hk]
theorem isS_inD {t : Nat → Nat} {k : Nat} (hk : 0 < k) (h1 : isD (t (k - 1)) = true) (h2 : isD (t k) = true) : isS t k = false := by
  rw [isS]; simp [h1, h2, hk]
theorem isLD {c : Nat} (h : isL c = true) : isD c = false := by
  simp only [isL, isD, decide_eq_true_eq, decide_eq_false_iff_not] at h ⊢; omega
theorem isDL {c : Nat} (h : isD c = true) : isL c = false := by
  simp only [isL, isD, decide_eq_true_eq, decide_eq_false_iff_not] at h ⊢; omega
theorem c_scanTok (d : Nat) {t : Nat → Nat} {m j k e : Nat} {σ : zS} (H : TT σ t m) (h3 : σ 3 3 = nI j) (hj : j < 401) (hk : k < e) (he : e ≤ m) (hs : isS t k = true) (hr : ∀ q, k < q → q < e → isS t q = false) (M : Nat) : zexec zc_X6_scan zu_X6_scan (zM (d + 5)) (M + (e - k)) 12 [.inr (.inr 3), .inr (.inr 1), .inl (nI k)] σ = zexec zc_X6_scan zu_X6_scan (zM (d + 5)) M 12 [.inr (.inr 3), .inr (.inr 1), .inl (nI e)] (cTok σ t m j k) := by
  have hm := H.2.1
  obtain ⟨g1, g2⟩ := cTok_fr σ t m j k
  rw [show M + (e - k) = (M + (e - (k + 1))) + 1 by omega, qX6_scan_3_1_12, c_length, zbI_some, H.1, if_pos (nI_lt (show k < m by omega) (by omega)), c_isStart (d + 3) H (by omega), zbI_some, hs, if_pos rfl, if_neg (by decide), c_addFrom d H (by omega) h3 hj, zbV_some, nI_1, c_scanRun d (H.fr g1) (e - (k + 1)) M (k + 1) (by omega) (fun q q1 q2 => hr q (by omega) (by omega)), show k + 1 + (e - (k + 1)) = e by omega]
/-- what both scans come to -/
def TokS (σ τ : zS) (j : Nat) (oc om : Option zR) : Prop := ∃ σ' τ' J s, oc = some (0, 0, σ') ∧ om = some (0, 0, τ') ∧ (∀ i, i ≤ J → tR σ' τ' i) ∧ (σ' 4 J = 0 ∨ σ' 4 J = 1) ∧ σ' 3 3 = nI s ∧ J < s ∧ s ≤ 401 ∧ tFr σ σ' j ∧ uFr τ τ' j
theorem tR_keep {σ σ' τ τ' : zS} {j i : Nat} (h : tR σ τ i) (h1 : tFr σ σ' j) (h2 : uFr τ τ' j) (hi : i < j) : tR σ' τ' i := by
  obtain ⟨a1, a2, a3⟩ := h1.2.1 i hi
  obtain ⟨b1, b2, b3⟩ := h2.2.2 i hi
  rw [tR, a1, a2, a3, b1, b2, b3]
  exact h
theorem cTk_at (σ : zS) (j : Nat) (k p v : Int32) : cTk σ j k p v 4 j = k ∧ cTk σ j k p v 5 j = p ∧ cTk σ j k p v 6 j = v := by
  rw [cTk]; refine ⟨?_, ?_, ?_⟩ <;> simp (disch := omega) only [lt_litR, lt_litL, eq_litR, eq_litL, lt_nn, eq_nn, lt_n0, z_cl, add_lit, eq_m1, eq_m1', m1_lt, false_or, or_false, if_pos, if_neg, zbI_some, zbV_some, wr_same, wr_cell, wr_slot, ne_eq, not_true_eq_false, not_false_eq_true, true_and, and_true, false_and, and_false, e10, e01, e00, if_true, if_false, Bool.false_eq_true, lit_ne, lit_lt, eq_self]
theorem m_tokEnd (d M : Nat) {τ : zS} {t : Nat → Nat} {m j : Nat} (H : TM τ t m) (h4 : τ 38 4 = nI j) (hj : j < 402) (x : Int32) (k : Nat) (hk : x = 0 ∨ (m ≤ k ∧ k < 2 ^ 31)) : zexec zc_X8_tokenize zu_X8_tokenize (zM (d + 1)) (M + 1) 9 [.inr (.inr 38), .inl (nI k), .inl x] τ = some (0, 0, mTk τ j 0 (nI m) 0) := by
  have hm := H.2.1
  rw [qX8_tokenize_38_9, m_token d h4 hj, zbV_some, H.1]
  by_cases hx : x = 0
  · rw [if_pos hx]
  · rcases hk with hk | hk
    · exact absurd hk hx
    · rw [if_neg hx, if_neg (nI_nlt hk.1 hk.2)]
theorem t_scanLoop (d : Nat) {t : Nat → Nat} {m : Nat} : ∀ (f k j M1 M2 : Nat) (σ τ : zS), TT σ t m → TM τ t m → σ 3 3 = nI j → τ 38 4 = nI j → j ≤ k → k ≤ m → m - k ≤ f → (∀ i, i < j → tR σ τ i) → (0 < j → ¬ τ 40 (j - 1) = 4) → (k < m → bd t k) → m - k < M1 → 3 * (m - k) + 10 < M2 →
    TokS σ τ j (zexec zc_X6_scan zu_X6_scan (zM (d + 5)) M1 12 [.inr (.inr 3), .inr (.inr 1), .inl (nI k)] σ) (zexec zc_X8_tokenize zu_X8_tokenize (zM (d + 3)) M2 9 [.inr (.inr 38), .inl (nI k), .inl 1] τ) := by
  intro f
  induction f using Nat.strongRecOn with
  | ind f ih =>
    intro k j M1 M2 σ τ H HM h3 h4 hj hk hf hR hb4 hbd hM1 hM2
    have hm := H.2.1
    by_cases hkm : k = m
    · -- the tape's end
      subst hkm
      obtain ⟨M1, rfl⟩ : ∃ q, M1 = q + 1 := ⟨M1 - 1, by omega⟩
      obtain ⟨M2, rfl⟩ : ∃ q, M2 = q + 1 := ⟨M2 - 1, by omega⟩
      obtain ⟨g1, g2⟩ := cTk_fr σ j 0 (nI k) 0
      obtain ⟨a1, a2, a3⟩ := cTk_at σ j 0 (nI k) 0
      obtain ⟨b1, b2, b3, b4⟩ := mTk_38 τ j 0 (nI k) 0
      refine ⟨cTk σ j 0 (nI k) 0, mTk τ j 0 (nI k) 0, j, j + 1, ?_, m_tokEnd (d + 2) M2 HM h4 (by omega) 1 k (Or.inr ⟨Nat.le_refl _, by omega⟩), fun i hi => ?_, Or.inl a1, g2, by omega, by omega, g1, mTk_fr _ _ _ _ _⟩
      · rw [qX6_scan_3_1_12, c_length, zbI_some, H.1, if_neg (nI_nlt (Nat.le_refl _) (by omega)), c_length, zbI_some, H.1, c_tadd (d + 4) h3 (by omega), zbV_some]
      · by_cases hij : i = j
        · subst hij
          rw [tR, a1, a2, a3, b2, b3, b4]
          exact ⟨⟨rfl, nI_pos (by omega)⟩, Or.inl ⟨rfl, rfl⟩⟩
        · exact tR_keep (hR i (by omega)) g1 (mTk_fr _ _ _ _ _) (by omega)
    · have hkm2 : k < m := by omega
      have hc := (H.2.2 k hkm2).2
      have hb := hbd hkm2
      have hS := isS_bd hb
      by_cases h32 : t k = 32
      · -- a blank
        obtain ⟨M2, rfl⟩ : ∃ q, M2 = q + 1 := ⟨M2 - 1, by omega⟩
        have hS0 : isS t k = false := by rw [hS]; simp [h32]
        have hnb : bd t (k + 1) := fun _ => by
          have : k + 1 - 1 = k := by omega
          rw [this, h32]; simp [isL, isD]
        have ec : zexec zc_X6_scan zu_X6_scan (zM (d + 5)) M1 12 [.inr (.inr 3), .inr (.inr 1), .inl (nI k)] σ = zexec zc_X6_scan zu_X6_scan (zM (d + 5)) (M1 - 1) 12 [.inr (.inr 3), .inr (.inr 1), .inl (nI (k + 1))] σ := by
          have := c_scanRun d H 1 (M1 - 1) k (by omega) (fun q q1 q2 => by rw [show q = k by omega]; exact hS0)
          rw [show M1 - 1 + 1 = M1 by omega] at this
          exact this
        have em : zexec zc_X8_tokenize zu_X8_tokenize (zM (d + 3)) (M2 + 1) 9 [.inr (.inr 38), .inl (nI k), .inl 1] τ = zexec zc_X8_tokenize zu_X8_tokenize (zM (d + 3)) M2 9 [.inr (.inr 38), .inl (nI (k + 1)), .inl 1] τ := by
          rw [qX8_tokenize_38_9, if_neg (show ¬ (1 : Int32) = 0 by decide), HM.1, if_pos (nI_lt hkm2 (by omega)), if_neg (nI_in (show k < 400 by omega) (by omega)), z_cl (by omega), (HM.2.2 k hkm2).1, if_pos (show nI (t k) = 32 by rw [h32]; rfl), h4, nI_1]
          by_cases hj0 : j = 0
          · subst hj0; rw [if_pos (show nI 0 = 0 from rfl)]
          · obtain ⟨j, rfl⟩ : ∃ q, j = q + 1 := ⟨j - 1, by omega⟩
            rw [nI_pred, if_neg (show ¬ nI (j + 1) = 0 by simp (disch := omega) only [lt_litR, lt_litL, eq_litR, eq_litL, lt_nn, eq_nn, lt_n0, z_cl, add_lit, eq_m1, eq_m1', m1_lt, false_or, or_false, if_pos, if_neg, zbI_some, zbV_some, wr_same, wr_cell, wr_slot, ne_eq, not_true_eq_false, not_false_eq_true, true_and, and_true, false_and, and_false, e10, e01, e00, if_true, if_false, Bool.false_eq_true, lit_ne, lit_lt, eq_self]; omega), if_neg (nI_in (show j < 402 by omega) (by omega)), z_cl (by omega), if_neg (show ¬ τ 40 j = 4 from hb4 (by omega))]
        rw [ec, em]
        exact ih (f - 1) (by omega) (k + 1) j (M1 - 1) M2 σ τ H HM h3 h4 (by omega) (by omega) (by omega) hR hb4 (fun _ => hnb) (by omega) (by omega)
      · have hS1 : isS t k = true := by rw [hS]; simp [h32]
        -- a token from k to e: the rest
        have key : ∀ (e : Nat) (ck cv mk mv : Int32) (M2' : Nat), k < e → e ≤ m → (∀ q, k < q → q < e → isS t q = false) → cTok σ t m j k = cTk σ j ck (nI k) cv → zexec zc_X8_tokenize zu_X8_tokenize (zM (d + 3)) M2 9 [.inr (.inr 38), .inl (nI k), .inl 1] τ = zexec zc_X8_tokenize zu_X8_tokenize (zM (d + 3)) M2' 9 [.inr (.inr 38), .inl (nI e), .inl (if mk = 4 then 0 else 1)] (mTk τ j mk (nI k) mv) → TokR ck (nI k) cv mk (nI k) mv → (mk = 4 → ck = 1) → (e < m → bd t e) → 3 * (m - e) + 10 < M2' → TokS σ τ j (zexec zc_X6_scan zu_X6_scan (zM (d + 5)) M1 12 [.inr (.inr 3), .inr (.inr 1), .inl (nI k)] σ) (zexec zc_X8_tokenize zu_X8_tokenize (zM (d + 3)) M2 9 [.inr (.inr 38), .inl (nI k), .inl 1] τ) := by
          intro e ck cv mk mv M2' e1 e2 e3 e4 e5 e6 e7 e8 e9
          obtain ⟨g1, g2⟩ := cTk_fr σ j ck (nI k) cv
          obtain ⟨a1, a2, a3⟩ := cTk_at σ j ck (nI k) cv
          obtain ⟨b1, b2, b3, b4⟩ := mTk_38 τ j mk (nI k) mv
          have u1 := mTk_fr τ j mk (nI k) mv
          have hR1 : ∀ i, i < j + 1 → tR (cTk σ j ck (nI k) cv) (mTk τ j mk (nI k) mv) i := fun i hi => by
            by_cases hij : i = j
            · subst hij; rw [tR, a1, a2, a3, b2, b3, b4]; exact e6
            · exact tR_keep (hR i (by omega)) g1 u1 (by omega)
          have ec := c_scanTok d H h3 (by omega) e1 e2 hS1 e3 (M1 - (e - k))
          rw [show M1 - (e - k) + (e - k) = M1 by omega, e4] at ec
          rw [ec, e5]
          by_cases hm4 : mk = 4
          · rw [if_pos hm4]
            obtain ⟨M2', rfl⟩ : ∃ q, M2' = q + 1 := ⟨M2' - 1, by omega⟩
            rw [m_tokEnd (d + 2) M2' (HM.fr u1) b1 (by omega) 0 e (Or.inl rfl)]
            obtain ⟨σ', s, r1, r2, r3, r4, r5⟩ := c_scanRest d (m - e) (M1 - (e - k)) e (j + 1) (cTk σ j ck (nI k) cv) (H.fr g1) g2 (by omega) e2 (Nat.le_refl _) (by omega)
            have u2 := mTk_fr (mTk τ j mk (nI k) mv) (j + 1) 0 (nI m) 0
            refine ⟨σ', _, j, s, r1, rfl, fun i hi => tR_keep (hR1 i (by omega)) r2 u2 (by omega), Or.inr ?_, r3, by omega, r5, g1.tr r2 (by omega), u1.tr u2 (by omega)⟩
            rw [(r2.2.1 j (by omega)).1, a1, e7 hm4]
          · rw [if_neg hm4]
            obtain ⟨σ', τ', J, s, r1, r2, r3, r4, r5, r6, r7, r8, r9⟩ := ih (m - e) (by omega) e (j + 1) (M1 - (e - k)) M2' _ _ (H.fr g1) (HM.fr u1) g2 b1 (by omega) e2 (Nat.le_refl _) hR1 (fun _ => by rw [show j + 1 - 1 = j by omega, b2]; exact hm4) e8 (by omega) e9
            exact ⟨σ', τ', J, s, r1, r2, r3, r4, r5, r6, r7, g1.tr r8 (by omega), u1.tr r9 (by omega)⟩
        have hbeg : zexec zc_X8_tokenize zu_X8_tokenize (zM (d + 3)) M2 9 [.inr (.inr 38), .inl (nI k), .inl 1] τ = if isD (t k) then zexec zc_X8_tokenize zu_X8_tokenize (zM (d + 3)) (M2 - 1) 55 [.inr (.inr 38), .inl (nI k), .inl (nI k), .inl 0] τ else if isL (t k) then zexec zc_X8_tokenize zu_X8_tokenize (zM (d + 3)) (M2 - 1) 136 [.inr (.inr 38), .inl (nI k), .inl (nI k)] τ else zexec zc_X8_tokenize zu_X8_tokenize (zM (d + 3)) (M2 - 1) 9 [.inr (.inr 38), .inl (nI (k + 1)), .inl (if (if isG (t k) then (3 : Int32) else 4) = 4 then 0 else 1)] (mTk τ j (if isG (t k) then 3 else 4) (nI k) (nI (t k))) := by
          obtain ⟨M2, rfl⟩ : ∃ q, M2 = q + 1 := ⟨M2 - 1, by omega⟩
          have hin : ¬ (nI k < 0 ∨ 400 ≤ k) := nin (by omega) (by omega)
          have h39 := (HM.2.2 k hkm2).1
          rw [qX8_tokenize_38_9, if_neg (show ¬ (1 : Int32) = 0 by decide), HM.1, if_pos (nI_lt hkm2 (by omega)), z_cl (by omega), if_neg hin, h39, if_neg (show ¬ nI (t k) = 32 by simp (disch := omega) only [lt_litR, lt_litL, eq_litR, eq_litL, lt_nn, eq_nn, lt_n0, z_cl, add_lit, eq_m1, eq_m1', m1_lt, false_or, or_false, if_pos, if_neg, zbI_some, zbV_some, wr_same, wr_cell, wr_slot, ne_eq, not_true_eq_false, not_false_eq_true, true_and, and_true, false_and, and_false, e10, e01, e00, if_true, if_false, Bool.false_eq_true, lit_ne, lit_lt, eq_self]; exact h32), if_neg hin, m_isDigit (d + 2) τ (by omega), zbI_some, Nat.add_sub_cancel]
          cases hD : isD (t k) with
          | true => rw [if_pos rfl, if_pos rfl, if_neg (by decide)]
          | false =>
            rw [if_neg (show ¬ false = true by decide), if_neg (show ¬ false = true by decide), if_pos rfl, if_neg hin, h39, m_isLetter (d + 2) τ (by omega), zbI_some]
            cases hL : isL (t k) with
            | true => rw [if_pos rfl, if_pos rfl, if_neg (by decide)]
            | false =>
              rw [if_neg (show ¬ false = true by decide), if_neg (show ¬ false = true by decide), if_pos rfl, if_neg hin, h39, m_isSign (d + 2) τ (by omega), zbI_some]
              cases hG : isG (t k) with
              | true =>
                obtain ⟨b1, b2, b3, b4⟩ := mTk_38 τ j 3 (nI k) (nI (t k))
                rw [if_pos rfl, if_pos rfl, if_neg (by decide), if_neg hin, h39, m_token (d + 2) h4 (by omega), zbV_some, nI_1, m_good _ _ _ j b1 (by omega), b2]
              | false =>
                obtain ⟨b1, b2, b3, b4⟩ := mTk_38 τ j 4 (nI k) (nI (t k))
                rw [if_neg (show ¬ false = true by decide), if_neg (show ¬ false = true by decide), if_pos rfl, if_neg hin, h39, m_token (d + 2) h4 (by omega), zbV_some, nI_1, m_good _ _ _ j b1 (by omega), b2]
        cases hD : isD (t k) with
        | true =>
          obtain ⟨r1, r2, r3, r4⟩ := rE_spec isD t m (m - k) k hk (Nat.le_refl _)
          have hend := rE_end (Q := isD) (t := t) hk (Nat.le_refl (m - k))
          have hke : k < rE isD t m (m - k) k := by
            rcases r4 with r4 | ⟨r4, r5⟩
            · omega
            · by_cases h : rE isD t m (m - k) k = k
              · rw [h, hD] at r5; exact absurd r5 (by decide)
              · omega
          rw [hD, if_pos rfl] at hbeg
          obtain ⟨M', x1, x2⟩ := m_numLoop (d + 2) HM k (m - k) (M2 - 1) k 0 (Nat.le_refl _) hk (Nat.le_refl _) (by omega)
          rw [x2] at hbeg
          generalize he : rE isD t m (m - k) k = e at *
          obtain ⟨M', rfl⟩ : ∃ q, M' = q + 1 := ⟨M' - 1, by omega⟩
          have hcT : cTok σ t m j k = cTk σ j (if 6 < e - k then 1 else 3) (nI k) (cNum t (e - k) k 0) := by
            rw [cTok, isDL hD, hD, he]; rfl
          have hnd : isD (if e < m then t e else 0) = false := by
            cases hq : isD (if e < m then t e else 0) with
            | false => rfl
            | true => exact absurd (hend hq) (by decide)
          have hlt : (if e < m then t e else 0) < 1000 := by
            by_cases h : e < m
            · rw [if_pos h]; have := (H.2.2 e h).2; omega
            · rw [if_neg h]; omega
          have hbg : zexec zc_X8_tokenize zu_X8_tokenize (zM (d + 3)) M2 9 [.inr (.inr 38), .inl (nI k), .inl 1] τ = zexec zc_X8_tokenize zu_X8_tokenize (zM (d + 3)) M' 9 [.inr (.inr 38), .inl (nI e), .inl (if (if 6 < e - k then (4 : Int32) else 2) = 4 then 0 else 1)] (mTk τ j (if 6 < e - k then 4 else 2) (nI k) (mNum t k (e - k) k 0)) := by
            rw [hbeg, qX8_tokenize_38_55, m_see (d + 2) HM (by omega), zbI_some, m_isDigit (d + 2) τ hlt, zbI_some, hnd, if_neg (show ¬ false = true by decide), if_pos rfl, pk_sub (by omega)]
            by_cases h6 : 6 < e - k
            · obtain ⟨b1, b2, b3, b4⟩ := mTk_38 τ j 4 (nI k) (mNum t k (e - k) k 0)
              rw [if_pos (show (6 : Int32) < nI (e - k) from nI_lt (a := 6) h6 (by omega)), if_pos h6, m_token (d + 2) h4 (by omega), zbV_some, m_good _ _ _ j b1 (by omega), b2]
            · obtain ⟨b1, b2, b3, b4⟩ := mTk_38 τ j 2 (nI k) (mNum t k (e - k) k 0)
              rw [if_neg (show ¬ (6 : Int32) < nI (e - k) from nI_nlt (b := e - k) (a := 6) (by omega) (by omega)), if_neg h6, m_token (d + 2) h4 (by omega), zbV_some, m_good _ _ _ j b1 (by omega), b2]
          refine key e _ _ _ _ M' hke r2 (fun q q1 q2 => isS_inD (by omega) (r3 (q - 1) (by omega) (by omega)) (r3 q (by omega) q2)) hcT hbg ?_ ?_ (fun hem _ => ?_) (by omega)
          · by_cases h6 : 6 < e - k
            · rw [if_pos h6, if_pos h6]
              exact ⟨⟨rfl, nI_pos (by omega)⟩, Or.inr (Or.inl ⟨rfl, Or.inl rfl⟩)⟩
            · rw [if_neg h6, if_neg h6]
              exact ⟨⟨rfl, nI_pos (by omega)⟩, Or.inr (Or.inr (Or.inr (Or.inl ⟨rfl, rfl, num_eq t k (e - k) k 0 (by omega)⟩)))⟩
          · by_cases h6 : 6 < e - k
            · intro _; rw [if_pos h6]
            · rw [if_neg h6]; intro h; exact absurd h (by decide)
          · rcases r4 with r4 | ⟨_, r5⟩
            · omega
            · have h9 := r3 (e - 1) (by omega) (by omega)
              rw [isDL h9, r5]; simp
        | false =>
          cases hL : isL (t k) with
          | true =>
            obtain ⟨r1, r2, r3, r4⟩ := rE_spec isL t m (m - k) k hk (Nat.le_refl _)
            have hend := rE_end (Q := isL) (t := t) hk (Nat.le_refl (m - k))
            have hke : k < rE isL t m (m - k) k := by
              rcases r4 with r4 | ⟨r4, r5⟩
              · omega
              · by_cases h : rE isL t m (m - k) k = k
                · rw [h, hL] at r5; exact absurd r5 (by decide)
                · omega
            rw [hD, hL, if_neg (show ¬ false = true by decide), if_pos rfl] at hbeg
            obtain ⟨M', x1, x2⟩ := m_nameRun (d + 2) HM k (m - k) (M2 - 1) k hk (Nat.le_refl _) (by omega)
            rw [x2] at hbeg
            generalize he : rE isL t m (m - k) k = e at *
            obtain ⟨M', rfl⟩ : ∃ q, M' = q + 1 := ⟨M' - 1, by omega⟩
            have hcT : cTok σ t m j k = cNm σ t j k (e - k) := by
              rw [cTok, hL, he]; rfl
            have hnd : isL (if e < m then t e else 0) = false := by
              cases hq : isL (if e < m then t e else 0) with
              | false => rfl
              | true => exact absurd (hend hq) (by decide)
            have hlt : (if e < m then t e else 0) < 1000 := by
              by_cases h : e < m
              · rw [if_pos h]; have := (H.2.2 e h).2; omega
              · rw [if_neg h]; omega
            have hbg : zexec zc_X8_tokenize zu_X8_tokenize (zM (d + 3)) M2 9 [.inr (.inr 38), .inl (nI k), .inl 1] τ = zexec zc_X8_tokenize zu_X8_tokenize (zM (d + 3)) M' 9 [.inr (.inr 38), .inl (nI e), .inl (if (1 : Int32) = 4 then 0 else 1)] (mTk τ j 1 (nI k) (mNm t k (e - k))) := by
              obtain ⟨b1, b2, b3, b4⟩ := mTk_38 τ j 1 (nI k) (mNm t k (e - k))
              rw [hbeg, qX8_tokenize_38_136, m_see (d + 2) HM (by omega), zbI_some, m_isLetter (d + 2) τ hlt, zbI_some, hnd, if_neg (show ¬ false = true by decide), if_pos rfl, pk_sub (by omega), m_nameOf (d + 1) HM (by omega) (by omega) hL, zbI_some, m_token (d + 2) h4 (by omega), zbV_some, m_good _ _ _ j b1 (by omega), b2]
            have hbde : e < m → bd t e := fun hem _ => by
              rcases r4 with r4 | ⟨_, r5⟩
              · omega
              · have h9 := r3 (e - 1) (by omega) (by omega)
                rw [isLD h9, r5]; simp
            have hrun : ∀ q, k < q → q < e → isS t q = false := fun q q1 q2 => isS_inL (by omega) (r3 (q - 1) (by omega) (by omega)) (r3 q (by omega) q2)
            have hL2 := hL
            simp only [isL, decide_eq_true_eq] at hL2
            rw [cNm] at hcT
            by_cases h1 : e - k = 1 ∧ t k < 105
            · rw [if_pos h1] at hcT
              refine key e _ _ _ _ M' hke r2 hrun hcT hbg ⟨⟨rfl, nI_pos (by omega)⟩, Or.inr (Or.inr (Or.inl ⟨t k - 97, by omega, rfl, rfl, rfl, ?_⟩))⟩ (fun h => absurd h (by decide)) hbde (by omega)
              rw [mNm, if_pos h1.1, if_pos h1.2]
            · rw [if_neg h1] at hcT
              rcases word_pair t k (e - k) with ⟨p1, p2⟩ | ⟨p1, p2⟩
              · rw [if_pos p1] at hcT
                refine key e _ _ _ _ M' hke r2 hrun hcT hbg ⟨⟨rfl, nI_pos (by omega)⟩, Or.inr (Or.inl ⟨rfl, Or.inr ⟨rfl, ?_⟩⟩)⟩ (fun h => absurd h (by decide)) hbde (by omega)
                rw [mNm]
                by_cases h2 : e - k = 1
                · rw [if_pos h2, if_neg (fun h => h1 ⟨h2, h⟩)]
                · rw [if_neg h2, p2]
              · rw [if_neg p1] at hcT
                have hn1 : ¬ e - k = 1 := fun h => p1 (by rw [h]; rfl)
                refine key e _ _ _ _ M' hke r2 hrun hcT hbg ⟨⟨rfl, nI_pos (by omega)⟩, Or.inr (Or.inr (Or.inr (Or.inr (Or.inl ⟨rfl, rfl, ?_⟩))))⟩ (fun h => absurd h (by decide)) hbde (by omega)
                rw [mNm, if_neg hn1]
                exact p2
          | false =>
            rw [hD, hL, if_neg (show ¬ false = true by decide), if_neg (show ¬ false = true by decide)] at hbeg
            have hcT : cTok σ t m j k = cTk σ j (if isG (t k) then nI (t k) else 1) (nI k) 0 := by
              rw [cTok, hL, hD, if_neg (show ¬ false = true by decide), if_neg (show ¬ false = true by decide)]
            refine key (k + 1) _ _ _ _ (M2 - 1) (by omega) (by omega) (fun q q1 q2 => by omega) hcT hbeg ?_ ?_ (fun _ _ => ?_) (by omega)
            · cases hG : isG (t k) with
              | true =>
                refine ⟨⟨rfl, nI_pos (by omega)⟩, Or.inr (Or.inr (Or.inr (Or.inr (Or.inr ⟨t k, by omega, by omega, rfl, rfl, rfl⟩))))⟩
              | false => exact ⟨⟨rfl, nI_pos (by omega)⟩, Or.inr (Or.inl ⟨rfl, Or.inl rfl⟩)⟩
            · cases hG : isG (t k) with
              | true => intro h; exact absurd h (by decide)
              | false => intro _; rfl
            · rw [show k + 1 - 1 = k by omega, hL, hD]; simp
