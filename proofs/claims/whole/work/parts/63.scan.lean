def isG (c : Nat) : Bool := c == 59 || c == 61 || c == 43 || c == 45 || c == 42 || c == 60 || c == 40 || c == 41 || c == 63 || c == 91 || c == 93 || c == 124 || c == 44 || c == 64
set_option maxRecDepth 8000 in
theorem zix_G : ∀ c, c < 127 → (if zixF (nI c) (zstr 9) 0 < 0 then true else false) = !isG c := by decide +kernel
def cNum (t : Nat → Nat) : Nat → Nat → Int32 → Int32
  | 0, _, x => x
  | f + 1, q, x => cNum t f (q + 1) (x * 10 + (nI (t q) - 48))
theorem c_numLoop (d : Nat) {σ : zS} {t : Nat → Nat} {m : Nat} (H : TT σ t m) (p : Nat) : ∀ (f M q : Nat) (x : Int32), q ≤ m → m - q ≤ f → f < M → ∃ M', zexec zc_X6_addNumber zu_X6_addNumber (zM (d + 1)) M 5 [.inr (.inr 3), .inr (.inr 1), .inl (nI p), .inl (nI q), .inl x] σ = zexec zc_X6_addNumber zu_X6_addNumber (zM (d + 1)) M' 46 [.inr (.inr 3), .inl (nI p), .inl (nI (rE isD t m f q)), .inl (cNum t (rE isD t m f q - q) q x)] σ ∧ M ≤ M' + f + 1 := by
  intro f
  have hm := H.2.1
  induction f with
  | zero =>
    intro M q x hq hf hM
    obtain ⟨M, rfl⟩ : ∃ k, M = k + 1 := ⟨M - 1, by omega⟩
    obtain rfl : q = m := by omega
    refine ⟨M, ?_, by omega⟩
    rw [qX6_addNumber_3_1_5, c_length, zbI_some, H.1, if_neg (nI_nlt (Nat.le_refl _) (by omega)), rE, Nat.sub_self, cNum]
  | succ f ih =>
    intro M q x hq hf hM
    obtain ⟨M, rfl⟩ : ∃ k, M = k + 1 := ⟨M - 1, by omega⟩
    rw [qX6_addNumber_3_1_5, c_length, zbI_some, H.1, rE]
    by_cases hqm : q < m
    · have hc := (H.2.2 q hqm).2
      rw [if_pos (nI_lt hqm (by omega)), c_at d H hqm, zbI_some, c_isDigit d σ (by omega), zbI_some]
      cases hD : isD (t q) with
      | true =>
        rw [if_pos rfl, if_neg (by decide), c_at d H hqm, zbI_some, nI_1, if_pos ⟨hqm, rfl⟩]
        obtain ⟨M', e1, e2⟩ := ih M (q + 1) (x * 10 + (nI (t q) - 48)) (by omega) (by omega) (by omega)
        have hs := (rE_spec isD t m f (q + 1) (by omega) (by omega)).1
        refine ⟨M', ?_, by omega⟩
        rw [e1, show rE isD t m f (q + 1) - q = (rE isD t m f (q + 1) - (q + 1)) + 1 by omega, cNum]
      | false =>
        refine ⟨M, ?_, by omega⟩
        rw [if_neg (show ¬ false = true by decide), if_pos rfl, if_neg (show ¬ (q < m ∧ false = true) by simp), Nat.sub_self, cNum]
    · refine ⟨M, ?_, by omega⟩
      rw [if_neg (nI_nlt (by omega) (by omega)), if_neg (fun h => hqm h.1), Nat.sub_self, cNum]
theorem c_addNumber (d : Nat) {σ : zS} {t : Nat → Nat} {m p j : Nat} (H : TT σ t m) (hp : p < m) (h3 : σ 3 3 = nI j) (hj : j < 401) : zM (d + 2) mX6_addNumber [.inr (.inr 3), .inr (.inr 1), .inl (nI p)] σ = some (0, 0, cTk σ j (if 6 < rE isD t m (m - p) p - p then 1 else 3) (nI p) (cNum t (rE isD t m (m - p) p - p) p 0)) := by
  have hm := H.2.1
  rw [qX6_addNumber_3_1, qX6_addNumber_3_1_0]
  obtain ⟨M', e1, e2⟩ := c_numLoop d H p (m - p) 999999 p 0 (by omega) (by omega) (by omega)
  obtain ⟨M', rfl⟩ : ∃ k, M' = k + 1 := ⟨M' - 1, by omega⟩
  obtain ⟨s1, s2, _⟩ := rE_spec isD t m (m - p) p (by omega) (by omega)
  rw [e1, qX6_addNumber_3_1_46, pk_sub s1, c_tadd d h3 hj, c_tadd d h3 hj, zbV_some, zbV_some]
  by_cases h6 : 6 < rE isD t m (m - p) p - p
  · rw [if_pos h6, if_pos (show (6 : Int32) < nI (rE isD t m (m - p) p - p) from nI_lt (a := 6) h6 (by omega))]
  · rw [if_neg h6, if_neg (show ¬ (6 : Int32) < nI (rE isD t m (m - p) p - p) from nI_nlt (b := rE isD t m (m - p) p - p) (a := 6) (by omega) (by omega))]
def cNm (σ : zS) (t : Nat → Nat) (j p n : Nat) : zS := if n = 1 ∧ t p < 105 then cTk σ j 2 (nI p) (nI (t p - 97)) else if cWord t p n = -1 then cTk σ j 1 (nI p) (cWord t p n) else cTk σ j 4 (nI p) (cWord t p n)
theorem c_nameFin (d : Nat) {σ : zS} {t : Nat → Nat} {m j : Nat} (H : TT σ t m) {p e : Nat} (hp : p < e) (he : e ≤ m) (hL : isL (t p) = true) (h3 : σ 3 3 = nI j) (hj : j < 401) : (zbI (zM (d + 3) mX5_at [.inr (.inr 1), .inl (nI p)] σ) (fun r12 s12 => if (nI e - nI p) = 1 then (if (r12 - 97) < 8 then (zbV (zM (d + 3) mX6_add [.inr (.inr 3), .inl 2, .inl (nI p), .inl (r12 - 97)] s12) (fun s13 => some (0, 0, s13))) else (zbI (zM (d + 3) mX6_sortOfWord [.inr (.inr 1), .inl (nI p), .inl (nI e)] s12) (fun r14 s14 => if r14 = (-1) then (zbV (zM (d + 3) mX6_add [.inr (.inr 3), .inl 1, .inl (nI p), .inl r14] s14) (fun s15 => some (0, 0, s15))) else (zbV (zM (d + 3) mX6_add [.inr (.inr 3), .inl 4, .inl (nI p), .inl r14] s14) (fun s16 => some (0, 0, s16)))))) else (zbI (zM (d + 3) mX6_sortOfWord [.inr (.inr 1), .inl (nI p), .inl (nI e)] s12) (fun r17 s17 => if r17 = (-1) then (zbV (zM (d + 3) mX6_add [.inr (.inr 3), .inl 1, .inl (nI p), .inl r17] s17) (fun s18 => some (0, 0, s18))) else (zbV (zM (d + 3) mX6_add [.inr (.inr 3), .inl 4, .inl (nI p), .inl r17] s17) (fun s19 => some (0, 0, s19))))))) = some (0, 0, cNm σ t j p (e - p)) := by
  have hm := H.2.1
  have hcp := (H.2.2 p (by omega)).2
  have hL2 := hL
  simp only [isL, decide_eq_true_eq] at hL2
  have hsub : nI (t p) - 97 = nI (t p - 97) := by
    show nI (t p) - nI 97 = _
    exact pk_sub hL2.1
  rw [c_at (d + 2) H (by omega), zbI_some, pk_sub (by omega), c_sortOfWord d H hp he, zbI_some, hsub, cNm]
  simp only [c_tadd (d + 2) h3 hj, zbV_some]
  by_cases hn : e - p = 1
  · rw [if_pos (show nI (e - p) = 1 by rw [hn]; rfl)]
    by_cases h8 : t p < 105
    · rw [if_pos (show nI (t p - 97) < 8 from nI_lt (b := 8) (by omega) (by omega)), if_pos (show e - p = 1 ∧ t p < 105 from ⟨hn, h8⟩)]
    · rw [if_neg (show ¬ nI (t p - 97) < 8 from nI_nlt (b := 8) (by omega) (by omega)), if_neg (show ¬ (e - p = 1 ∧ t p < 105) from fun h => h8 h.2)]
      by_cases hw : cWord t p (e - p) = -1
      · rw [if_pos hw, if_pos hw]
      · rw [if_neg hw, if_neg hw]
  · rw [if_neg (show ¬ nI (e - p) = 1 by simp (disch := omega) only [lt_litR, lt_litL, eq_litR, eq_litL, lt_nn, eq_nn, lt_n0, z_cl, add_lit, eq_m1, eq_m1', m1_lt, false_or, or_false, if_pos, if_neg, zbI_some, zbV_some, wr_same, wr_cell, wr_slot, ne_eq, not_true_eq_false, not_false_eq_true, true_and, and_true, false_and, and_false, e10, e01, e00, if_true, if_false, Bool.false_eq_true, lit_ne, lit_lt, eq_self]; exact hn), if_neg (show ¬ (e - p = 1 ∧ t p < 105) from fun h => hn h.1)]
    by_cases hw : cWord t p (e - p) = -1
    · rw [if_pos hw, if_pos hw]
    · rw [if_neg hw, if_neg hw]
theorem c_nameLoop (d : Nat) {σ : zS} {t : Nat → Nat} {m j : Nat} (H : TT σ t m) (p : Nat) (hp : p < m) (hL : isL (t p) = true) (h3 : σ 3 3 = nI j) (hj : j < 401) : ∀ (f M q : Nat), p ≤ q → q ≤ m → m - q ≤ f → f < M → zexec zc_X6_addName zu_X6_addName (zM (d + 3)) M 2 [.inr (.inr 3), .inr (.inr 1), .inl (nI p), .inl (nI q)] σ = some (0, 0, cNm σ t j p (rE isL t m f q - p)) := by
  intro f
  have hm := H.2.1
  induction f with
  | zero =>
    intro M q h1 h2 hf hM
    obtain ⟨M, rfl⟩ : ∃ k, M = k + 1 := ⟨M - 1, by omega⟩
    obtain rfl : q = m := by omega
    rw [qX6_addName_3_1_2, c_length, zbI_some, H.1, if_neg (nI_nlt (Nat.le_refl _) (by omega)), rE]
    exact c_nameFin d H hp (Nat.le_refl _) hL h3 hj
  | succ f ih =>
    intro M q h1 h2 hf hM
    obtain ⟨M, rfl⟩ : ∃ k, M = k + 1 := ⟨M - 1, by omega⟩
    rw [qX6_addName_3_1_2, c_length, zbI_some, H.1, rE]
    by_cases hqm : q < m
    · have hc := (H.2.2 q hqm).2
      rw [if_pos (nI_lt hqm (by omega)), c_at (d + 2) H hqm, zbI_some, c_isLetter (d + 2) σ (by omega), zbI_some]
      cases hD : isL (t q) with
      | true =>
        rw [if_pos rfl, if_neg (by decide), nI_1, if_pos ⟨hqm, rfl⟩]
        exact ih M (q + 1) (by omega) (by omega) (by omega) (by omega)
      | false =>
        rw [if_neg (show ¬ false = true by decide), if_pos rfl, if_neg (show ¬ (q < m ∧ false = true) by simp)]
        have hpq : p < q := by
          by_cases h : p = q
          · subst h; rw [hL] at hD; exact absurd hD (by decide)
          · omega
        exact c_nameFin d H hpq h2 hL h3 hj
    · rw [if_neg (nI_nlt (by omega) (by omega)), if_neg (fun h => hqm h.1)]
      exact c_nameFin d H (by omega) h2 hL h3 hj
theorem c_addName (d : Nat) {σ : zS} {t : Nat → Nat} {m p j : Nat} (H : TT σ t m) (hp : p < m) (hL : isL (t p) = true) (h3 : σ 3 3 = nI j) (hj : j < 401) : zM (d + 4) mX6_addName [.inr (.inr 3), .inr (.inr 1), .inl (nI p)] σ = some (0, 0, cNm σ t j p (rE isL t m (m - p) p - p)) := by
  have hm := H.2.1
  rw [qX6_addName_3_1, qX6_addName_3_1_0]
  exact c_nameLoop d H p hp hL h3 hj (m - p) 999999 p (Nat.le_refl _) (by omega) (by omega) (by omega)
/-- the token that begins at p -/
def cTok (σ : zS) (t : Nat → Nat) (m j p : Nat) : zS :=
  if isL (t p) then cNm σ t j p (rE isL t m (m - p) p - p)
  else if isD (t p) then cTk σ j (if 6 < rE isD t m (m - p) p - p then 1 else 3) (nI p) (cNum t (rE isD t m (m - p) p - p) p 0)
  else cTk σ j (if isG (t p) then nI (t p) else 1) (nI p) 0
theorem c_addFrom (d : Nat) {σ : zS} {t : Nat → Nat} {m p j : Nat} (H : TT σ t m) (hp : p < m) (h3 : σ 3 3 = nI j) (hj : j < 401) : zM (d + 5) mX6_addFrom [.inr (.inr 3), .inr (.inr 1), .inl (nI p)] σ = some (0, 0, cTok σ t m j p) := by
  have hc := (H.2.2 p hp).2
  rw [qX6_addFrom_3_1, qX6_addFrom_3_1_0, c_at (d + 3) H hp, zbI_some, c_isLetter (d + 3) σ (by omega), zbI_some, cTok]
  cases hL : isL (t p) with
  | true => rw [if_pos rfl, if_pos rfl, if_neg (by decide), c_addName d H hp hL h3 hj, zbV_some]
  | false =>
    rw [if_neg (show ¬ false = true by decide), if_neg (show ¬ false = true by decide), if_pos rfl, c_isDigit (d + 3) σ (by omega), zbI_some]
    cases hD : isD (t p) with
    | true => rw [if_pos rfl, if_pos rfl, if_neg (by decide), c_addNumber (d + 2) H hp h3 hj, zbV_some]
    | false =>
      have hch : ((nI (t p)).toUInt32 % 65536).toInt32 = nI (t p) := by
        rw [pk_char, pk_tn (by omega), Nat.mod_eq_of_lt (by omega)]
      rw [if_neg (show ¬ false = true by decide), if_neg (show ¬ false = true by decide), if_pos rfl, hch, if_neg (show ¬ (nI (t p) < 0 ∨ 256 ≤ nI (t p)) from fun h => h.elim (nI_pos (by omega)) (nI_ge (a := t p) (b := 256) (by omega) (by omega)))]
      simp only [c_tadd (d + 3) h3 hj, zbV_some]
      have hz := zix_G (t p) (by omega)
      cases hG : isG (t p) with
      | true =>
        rw [hG] at hz
        rw [if_pos rfl]
        by_cases h : zixF (nI (t p)) (zstr 9) 0 < 0
        · rw [if_pos h] at hz; exact absurd hz (by decide)
        · rw [if_neg h]
      | false =>
        rw [hG] at hz
        rw [if_neg (show ¬ false = true by decide)]
        by_cases h : zixF (nI (t p)) (zstr 9) 0 < 0
        · rw [if_pos h]
        · rw [if_neg h] at hz; exact absurd hz (by decide)
theorem cTk_cell (σ : zS) (j : Nat) (k p v : Int32) {c : Nat} (h3 : c ≠ 3) (h4 : c ≠ 4) (h5 : c ≠ 5) (h6 : c ≠ 6) : cTk σ j k p v c = σ c := by
  rw [cTk]; simp (disch := omega) only [lt_litR, lt_litL, eq_litR, eq_litL, lt_nn, eq_nn, lt_n0, z_cl, add_lit, eq_m1, eq_m1', m1_lt, false_or, or_false, if_pos, if_neg, zbI_some, zbV_some, wr_same, wr_cell, wr_slot, ne_eq, not_true_eq_false, not_false_eq_true, true_and, and_true, false_and, and_false, e10, e01, e00, if_true, if_false, Bool.false_eq_true, lit_ne, lit_lt, eq_self]
/-- what a token leaves: those ahead of it, and the rest of the world -/
def tFr (σ σ' : zS) (j : Nat) : Prop := (∀ c, c ≠ 3 → c ≠ 4 → c ≠ 5 → c ≠ 6 → σ' c = σ c) ∧ (∀ i, i < j → σ' 4 i = σ 4 i ∧ σ' 5 i = σ 5 i ∧ σ' 6 i = σ 6 i) ∧ σ' 3 4 = σ 3 4
theorem tFr.rf {σ : zS} {j : Nat} : tFr σ σ j := ⟨fun _ _ _ _ _ => rfl, fun _ _ => ⟨rfl, rfl, rfl⟩, rfl⟩
theorem tFr.tr {a b c : zS} {i j : Nat} (h : tFr a b i) (h2 : tFr b c j) (hij : i ≤ j) : tFr a c i :=
  ⟨fun x x1 x2 x3 x4 => (h2.1 x x1 x2 x3 x4).trans (h.1 x x1 x2 x3 x4), fun k hk => by
    obtain ⟨a1, a2, a3⟩ := h2.2.1 k (by omega)
    obtain ⟨b1, b2, b3⟩ := h.2.1 k hk
    exact ⟨a1.trans b1, a2.trans b2, a3.trans b3⟩, h2.2.2.trans h.2.2⟩
theorem cTk_fr (σ : zS) (j : Nat) (k p v : Int32) : tFr σ (cTk σ j k p v) j ∧ cTk σ j k p v 3 3 = nI (j + 1) :=
  ⟨⟨fun c h3 h4 h5 h6 => cTk_cell σ j k p v h3 h4 h5 h6, fun i hi => by rw [cTk]; simp (disch := omega) only [lt_litR, lt_litL, eq_litR, eq_litL, lt_nn, eq_nn, lt_n0, z_cl, add_lit, eq_m1, eq_m1', m1_lt, false_or, or_false, if_pos, if_neg, zbI_some, zbV_some, wr_same, wr_cell, wr_slot, ne_eq, not_true_eq_false, not_false_eq_true, true_and, and_true, false_and, and_false, e10, e01, e00, if_true, if_false, Bool.false_eq_true, lit_ne, lit_lt, eq_self, and_self], by rw [cTk]; simp (disch := omega) only [lt_litR, lt_litL, eq_litR, eq_litL, lt_nn, eq_nn, lt_n0, z_cl, add_lit, eq_m1, eq_m1', m1_lt, false_or, or_false, if_pos, if_neg, zbI_some, zbV_some, wr_same, wr_cell, wr_slot, ne_eq, not_true_eq_false, not_false_eq_true, true_and, and_true, false_and, and_false, e10, e01, e00, if_true, if_false, Bool.false_eq_true, lit_ne, lit_lt, eq_self]⟩, by rw [cTk]; simp (disch := omega) only [lt_litR, lt_litL, eq_litR, eq_litL, lt_nn, eq_nn, lt_n0, z_cl, add_lit, eq_m1, eq_m1', m1_lt, false_or, or_false, if_pos, if_neg, zbI_some, zbV_some, wr_same, wr_cell, wr_slot, ne_eq, not_true_eq_false, not_false_eq_true, true_and, and_true, false_and, and_false, e10, e01, e00, if_true, if_false, Bool.false_eq_true, lit_ne, lit_lt, eq_self]⟩
theorem cTok_fr (σ : zS) (t : Nat → Nat) (m j p : Nat) : tFr σ (cTok σ t m j p) j ∧ cTok σ t m j p 3 3 = nI (j + 1) := by
  rw [cTok]
  split
  · rw [cNm]
    split
    · exact cTk_fr _ _ _ _ _
    · split <;> exact cTk_fr _ _ _ _ _
  · split <;> exact cTk_fr _ _ _ _ _
theorem TT.fr {σ σ' : zS} {t : Nat → Nat} {m j : Nat} (H : TT σ t m) (h : tFr σ σ' j) : TT σ' t m := by
  obtain ⟨a1, a2, a3⟩ := H
  refine ⟨by rw [h.1 1 (by omega) (by omega) (by omega) (by omega), a1], a2, fun i hi => by rw [h.1 2 (by omega) (by omega) (by omega) (by omega)]; exact a3 i hi⟩
/-- the rest of the scan, whatever it finds -/
theorem c_scanRest (d : Nat) {t : Nat → Nat} {m : Nat} : ∀ (f M k j : Nat) (σ : zS), TT σ t m → σ 3 3 = nI j → j ≤ k → k ≤ m → m - k ≤ f → f < M → ∃ σ' s, zexec zc_X6_scan zu_X6_scan (zM (d + 5)) M 12 [.inr (.inr 3), .inr (.inr 1), .inl (nI k)] σ = some (0, 0, σ') ∧ tFr σ σ' j ∧ σ' 3 3 = nI s ∧ j < s ∧ s ≤ 401 := by
  intro f
  induction f with
  | zero =>
    intro M k j σ H h3 hj hk hf hM
    obtain ⟨M, rfl⟩ : ∃ q, M = q + 1 := ⟨M - 1, by omega⟩
    have hm := H.2.1
    obtain rfl : k = m := by omega
    rw [qX6_scan_3_1_12, c_length, zbI_some, H.1, if_neg (nI_nlt (Nat.le_refl _) (by omega)), c_length, zbI_some, H.1, c_tadd (d + 4) h3 (by omega), zbV_some]
    obtain ⟨g1, g2⟩ := cTk_fr σ j 0 (nI k) 0
    exact ⟨_, j + 1, rfl, g1, g2, by omega, by omega⟩
  | succ f ih =>
    intro M k j σ H h3 hj hk hf hM
    obtain ⟨M, rfl⟩ : ∃ q, M = q + 1 := ⟨M - 1, by omega⟩
    have hm := H.2.1
    by_cases hkm : k = m
    · subst hkm
      rw [qX6_scan_3_1_12, c_length, zbI_some, H.1, if_neg (nI_nlt (Nat.le_refl _) (by omega)), c_length, zbI_some, H.1, c_tadd (d + 4) h3 (by omega), zbV_some]
      obtain ⟨g1, g2⟩ := cTk_fr σ j 0 (nI k) 0
      exact ⟨_, j + 1, rfl, g1, g2, by omega, by omega⟩
    · rw [qX6_scan_3_1_12, c_length, zbI_some, H.1, if_pos (nI_lt (show k < m by omega) (by omega)), c_isStart (d + 3) H (by omega), zbI_some, nI_1]
      cases isS t k with
      | false =>
        rw [if_neg (show ¬ false = true by decide), if_pos rfl]
        exact ih M (k + 1) j σ H h3 (by omega) (by omega) (by omega) (by omega)
      | true =>
        rw [if_pos rfl, if_neg (by decide), c_addFrom d H (by omega) h3 (by omega), zbV_some]
        obtain ⟨g1, g2⟩ := cTok_fr σ t m j k
        obtain ⟨σ', s, r1, r2, r3, r4, r5⟩ := ih M (k + 1) (j + 1) (cTok σ t m j k) (H.fr g1) g2 (by omega) (by omega) (by omega) (by omega)
        exact ⟨σ', s, r1, g1.tr r2 (by omega), r3, by omega, r5⟩
