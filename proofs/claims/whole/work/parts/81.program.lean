-- program on both sides
def cCp (X : zS) : zS := wr (wr (wr (wcp (wcp (wcp (wcp (wcp (wcp (wcp X 8 16 200) 9 17 200) 10 18 200) 11 19 200) 12 20 200) 13 21 400) 14 22 400) 15 7 (X 7 7)) 15 8 (X 7 8)) 15 9 (X 7 9)
theorem cCp_cell (X : zS) {c : Nat} (h : c < 15 ∨ 22 < c) : cCp X c = X c := by
  rw [cCp, wr_cell _ _ _ (by omega), wr_cell _ _ _ (by omega), wr_cell _ _ _ (by omega), wcp_cell _ _ (by omega), wcp_cell _ _ (by omega), wcp_cell _ _ (by omega), wcp_cell _ _ (by omega), wcp_cell _ _ (by omega), wcp_cell _ _ (by omega), wcp_cell _ _ (by omega)]
theorem cCp_15 (X : zS) : cCp X 15 7 = X 7 7 ∧ cCp X 15 8 = X 7 8 ∧ cCp X 15 9 = X 7 9 := by
  rw [cCp]; refine ⟨?_, ?_, ?_⟩ <;> simp (disch := omega) only [lt_litR, lt_litL, eq_litR, eq_litL, lt_nn, eq_nn, lt_n0, z_cl, add_lit, eq_m1, eq_m1', m1_lt, false_or, or_false, if_pos, if_neg, zbI_some, zbV_some, wr_same, wr_cell, wr_slot, ne_eq, not_true_eq_false, not_false_eq_true, true_and, and_true, false_and, and_false, e10, e01, e00, if_true, if_false, Bool.false_eq_true, lit_ne, lit_lt, eq_self]
theorem cCp_e (X : zS) {c q : Nat} (h : 8 ≤ c) (h2 : c ≤ 12) (hq : q < 200) : cCp X (c + 8) q = X c q := by
  rcases (show c = 8 ∨ c = 9 ∨ c = 10 ∨ c = 11 ∨ c = 12 by omega) with rfl | rfl | rfl | rfl | rfl <;> simp (disch := omega) only [cCp, wr_cell, wcp_cell, wcp_at, if_pos, if_true, ne_eq, not_false_eq_true, Nat.reduceAdd, Nat.reduceEqDiff, hq]
theorem cCp_i (X : zS) {q : Nat} (hq : q < 400) : cCp X 21 q = X 13 q ∧ cCp X 22 q = X 14 q := by
  constructor <;> simp (disch := omega) only [cCp, wr_cell, wcp_cell, wcp_at, if_pos, if_true, ne_eq, not_false_eq_true, Nat.reduceAdd, Nat.reduceEqDiff, hq]
theorem c_place (d : Nat) {σ : zS} {p s : Nat} (h4 : σ 3 4 = nI p) (h3 : σ 3 3 = nI s) (hp : p < s) (hs : s ≤ 401) : zM (d + 1) mX6_place [.inr (.inr 3)] σ = some (1, σ 5 p, σ) := by
  rw [qX6_place_3, qX6_place_3_0, h4, h3]
  simp (disch := omega) only [lt_litR, lt_litL, eq_litR, eq_litL, lt_nn, eq_nn, lt_n0, z_cl, add_lit, eq_m1, eq_m1', m1_lt, false_or, or_false, if_pos, if_neg, zbI_some, zbV_some, wr_same, wr_cell, wr_slot, ne_eq, not_true_eq_false, not_false_eq_true, true_and, and_true, false_and, and_false, e10, e01, e00, if_true, if_false, Bool.false_eq_true, lit_ne, lit_lt, eq_self]
theorem InvN.frameG {σ σ2 : zS} {n : Nat} (H : InvN σ n) (hc : ∀ c, (24 ≤ c ∧ c ≤ 29) ∨ (32 ≤ c ∧ c ≤ 33) ∨ (50 ≤ c ∧ c ≤ 53) → σ2 c = σ c) (h38 : ∀ k, (k = 20 ∨ (25 ≤ k ∧ k ≤ 29)) → σ2 38 k = σ 38 k) (h0 : σ2 0 11 = σ 0 11 ∧ σ2 0 12 = σ 0 12) (hT : σ2 1 1 = 0 ∧ σ2 38 2 = 0) (hf : σ2 0 10 = σ2 38 3) (hs : ∃ sd, sd < 2 ∧ σ2 38 10 = nI sd)
    (hp : HRel σ2 σ2 n → σ2 38 20 = nI n → kC σ2 0 = false → (σ2 0 9 = σ2 38 11 ∧ (σ2 0 9 = 0 ∨ (σ2 0 9 = 1 ∧ kPrM (Pc σ2) σ2 ∧ PRel (Pc σ2) σ2 ∧ CRs (Pc σ2) σ2 σ2 n)))) : InvN σ2 n := by
  obtain ⟨a1, ⟨a21, a22, a23⟩, ⟨a3, a4, a5⟩, ⟨b1, b2, b3, b4, b5⟩, _, _⟩ := H
  have hn := a3.2.1
  have hH : HRel σ2 σ2 n := a3.cong (by rw [hc 24 (by omega)]) (by rw [hc 24 (by omega)]) (fun i _ => by rw [hc 25 (by omega), hc 26 (by omega), hc 27 (by omega), hc 28 (by omega)]; exact ⟨rfl, rfl, rfl, rfl⟩) (fun i => by rw [hc 29 (by omega)]) (fun i _ => by rw [hc 50 (by omega), hc 51 (by omega), hc 52 (by omega)]; exact ⟨rfl, rfl, rfl⟩)
  have h20 : σ2 38 20 = nI n := by rw [h38 20 (by omega), a4]
  have hk : kC σ2 0 = false := by rw [← a5]; exact kC_cong (h38 20 (by omega)) (by rw [hc 50 (by omega)])
  exact ⟨⟨0, by omega, hT.1, hT.2, fun i hi => by omega⟩, ⟨hf, by rw [h0.1, h38 28 (by omega), a22], by rw [h0.2, h38 29 (by omega), a23]⟩, ⟨hH, h20, hk⟩, ⟨fun r hr => by rw [hc 33 (by omega), hc 53 (by omega), b1 r hr], by rw [hc 32 (by omega), h38 25 (by omega), b2], by rw [hc 32 (by omega), h38 26 (by omega), b3], by rw [hc 32 (by omega), h38 27 (by omega), b4], by rw [hc 32 (by omega)]; exact b5⟩, hp hH h20 hk, hs⟩
/-- the old program stands -/
theorem InvN.frameF {σ σ2 : zS} {n sd : Nat} (H : InvN σ n) (hsd : sd < 2) (h10 : σ 38 10 = nI sd) (hc : ∀ c, (15 ≤ c ∧ c ≤ 37) ∨ c = 43 ∨ (50 ≤ c ∧ c ≤ 54) → σ2 c = σ c) (h38 : ∀ k, (k = 10 ∨ k = 11 ∨ k = 20 ∨ (25 ≤ k ∧ k ≤ 29)) → σ2 38 k = σ 38 k) (h0 : σ2 0 9 = σ 0 9 ∧ σ2 0 11 = σ 0 11 ∧ σ2 0 12 = σ 0 12) (hT : σ2 1 1 = 0 ∧ σ2 38 2 = 0) (hf : σ2 0 10 = σ2 38 3) (hN : ∀ c n, 45 ≤ c → c ≤ 49 → n < 800 * (1 - sd) ∨ 800 * (1 - sd) + 800 ≤ n → σ2 c n = σ c n) : InvN σ2 n := by
  have H0 := H
  refine H0.frameG (fun c h => hc c (by omega)) (fun k hk => h38 k (by omega)) h0.2 hT hf ⟨sd, hsd, by rw [h38 10 (by omega), h10]⟩ (fun hH h20 hk => ?_)
  obtain ⟨a1, _, ⟨a3, a4, a5⟩, _, ⟨c1, c2⟩, _⟩ := H
  have hn := a3.2.1
  have hPc : Pc σ2 = Pc σ := Pc_cong (fun c c1 c2 => hc c (by omega))
  refine ⟨by rw [h0.1, h38 11 (by omega), c1], ?_⟩
  rw [h0.1, hPc]
  rcases c2 with h | ⟨h1, h2, h3, h4⟩
  · exact Or.inl h
  · have hR : PRel (Pc σ) σ2 := ⟨fun c x1 x2 => by rw [hc c (by omega), h3.1 c x1 x2], h3.2⟩
    refine Or.inr ⟨h1, h2.cong2 (fun sd' hs' c n x1 x2 x3 x4 => ?_) (fun sd' hs' => by rw [hc 43 (by omega)]) (h38 10 (by omega)), hR, ?_⟩
    · refine hN c n x1 x2 ?_
      by_cases hb : sd' < 2 ^ 31
      · have : sd' = sd := by
          rw [h10] at hs'
          have e1 := congrArg Int32.toNatClampNeg hs'
          rw [z_cl (by omega), z_cl hb] at e1
          exact e1.symm
        omega
      · omega
    · exact h4.keep h3.2.1 (prog_all h2.to) hR (fun k _ => by rw [hc 30 (by omega)]) (fun r _ => by rw [hc 31 (by omega)]) hH (Nat.le_refl _) a4 h20 (fun i _ => by rw [tEq, hc 50 (by omega), hc 51 (by omega), hc 52 (by omega)]; exact ⟨rfl, rfl, rfl⟩) (kC_false h20 hn (Nat.le_refl _) (by omega))
theorem mask_in (sd : Nat) (T : zS) {c n : Nat} (hc : 45 ≤ c) (hc2 : c ≤ 49) (h : 800 * sd ≤ n ∧ n < 800 * sd + 800) : mask sd T c n = T c n := by
  rw [mask, if_pos ⟨hc, hc2⟩]; exact if_pos h
theorem kPrM_new {σe τe σ2 : zS} {sd ne ni nn : Nat} {l : List Nat} (hsd : sd < 2) (hne : ne ≤ 200) (hni : ni ≤ 400) (hnn : nn ≤ 800) (L : LC σe τe 10 l (800 * (1 - sd)) (800 * (1 - sd) + nn) 0 ne 0 ni) (hE : ∀ c q, 8 ≤ c → c ≤ 12 → q < 200 → σ2 (c + 8) q = σe c q) (hI : ∀ q, q < 400 → σ2 21 q = σe 13 q ∧ σ2 22 q = σe 14 q) (h7 : σ2 15 7 = nI ne) (h8 : σ2 15 8 = nI ni) (hN : ∀ c, 45 ≤ c → c ≤ 49 → σ2 c = τe c) (h43 : σ2 43 (1 - sd) = hdOf l) (h10 : σ2 38 10 = nI (1 - sd)) : kPrM (Pc σ2) σ2 ∧ PRel (Pc σ2) σ2 := by
  have hz : pSz (Pc σ2) = ne := by rw [pSz, Pc_at _ (by omega) (by omega), h7, z_cl (by omega)]
  have m38 : mask (1 - sd) σ2 38 = σ2 38 := by rw [mask, if_neg (by omega)]
  have m43 : mask (1 - sd) σ2 43 = σ2 43 := by rw [mask, if_neg (by omega)]
  have hch := L.chain (lo2 := 800 * (1 - sd)) (hi2 := 800 * (1 - sd) + 800) (Nat.le_refl _) (by omega)
  refine ⟨⟨1 - sd, by omega, h10, by rw [hz]; exact hne, 11, 1 - sd, ni, l, Nat.le_refl _, by omega, by rw [m38, h10], ?_, ?_⟩, ⟨fun c c1 c2 => (Pc_at _ c1 c2).symm, by rw [hz]; exact hne, by rw [hz, Pc_at _ (by omega) (by omega), h7], ni, hni, by rw [Pc_at _ (by omega) (by omega), h8]⟩⟩
  · rw [m43, h43, hz]
    refine Chain_tr (fun n e e' i i' h => ⟨RepS_lt h, RepS_ile h⟩) (E0 := 0) (E1 := ne) (I0 := 0) (I1 := ni) (fun n e e' i i' g1 g2 g3 g4 g5 => ?_) (Nat.le_refl _) (Nat.le_refl _) (Nat.le_refl _) (Nat.le_refl _) hch
    have hop : ∀ m, ¬ mkT (800 * (1 - sd)) (800 * (1 - sd) + 800) (τe 45) m = 0 → mask (1 - sd) σ2 45 m = mkT (800 * (1 - sd)) (800 * (1 - sd) + 800) (τe 45) m ∧ mask (1 - sd) σ2 46 m = τe 46 m ∧ mask (1 - sd) σ2 47 m = τe 47 m ∧ mask (1 - sd) σ2 48 m = τe 48 m ∧ mask (1 - sd) σ2 49 m = τe 49 m := fun m hm => by
      have hr := mkT_in hm
      rw [mask_in _ _ (by omega) (by omega) hr, mask_in _ _ (by omega) (by omega) hr, mask_in _ _ (by omega) (by omega) hr, mask_in _ _ (by omega) (by omega) hr, mask_in _ _ (by omega) (by omega) hr, hN 45 (by omega) (by omega), hN 46 (by omega) (by omega), hN 47 (by omega) (by omega), hN 48 (by omega) (by omega), hN 49 (by omega) (by omega), mkT, if_pos hr]
      exact ⟨rfl, rfl, rfl, rfl, rfl⟩
    refine ⟨RepS_tr hop (fun q q1 q2 => ?_) (fun q q1 q2 => ?_) g5, (hop n (RepS_op g5)).2.2.2.2⟩
    · rw [Pc_at _ (by omega) (by omega), Pc_at _ (by omega) (by omega), Pc_at _ (by omega) (by omega), Pc_at _ (by omega) (by omega), Pc_at _ (by omega) (by omega)]
      exact ⟨hE 8 q (by omega) (by omega) (by omega), hE 9 q (by omega) (by omega) (by omega), hE 10 q (by omega) (by omega) (by omega), hE 11 q (by omega) (by omega) (by omega), hE 12 q (by omega) (by omega) (by omega)⟩
    · rw [Pc_at _ (by omega) (by omega), Pc_at _ (by omega) (by omega)]
      exact hI q (by omega)
  · exact ⟨by omega, Or.inr ⟨rfl, by rw [Pc_at _ (by omega) (by omega), h8]⟩⟩
theorem t_program (d : Nat) (hd : 400 ≤ d) {σ : zS} {n : Nat} (H : InvN σ n) : ∃ k v σ1 v2 σ2, zM (d + 7) mX7_program [.inr (.inr 0)] σ = some (k, v, σ1) ∧ zM (d + 7) mX8_program [.inr (.inr 38)] σ1 = some (1, v2, σ2) ∧ ((k = 1 ∧ σ2 38 0 = 0 ∧ v = v2) ∨ (k = 2 ∧ σ2 38 0 = 1)) ∧ InvN σ2 n := by
  have H0 := H
  obtain ⟨⟨m, m1, m2, m3, m4⟩, _, _, _, _, sd, hsd, h10⟩ := H
  have hT : TT σ (fun i => (σ 2 i).toNatClampNeg) m := ⟨m2, m1, fun i hi => by
    obtain ⟨c, q1, q2, q3, q4⟩ := m4 i hi
    simp only [q3]
    rw [z_cl (by omega)]; exact ⟨rfl, q1, q2⟩⟩
  have hMt : ∀ τ : zS, τ 38 2 = σ 38 2 → τ 39 = σ 39 → TM τ (fun i => (σ 2 i).toNatClampNeg) m := fun τ t1 t2 => ⟨by rw [t1, m3], m1, fun i hi => by
    obtain ⟨c, q1, q2, q3, q4⟩ := m4 i hi
    simp only [q3]
    rw [z_cl (by omega), t2]; exact ⟨q4, q1, q2⟩⟩
  obtain ⟨σs, τa, σe, τb, r, mm, s, a1, _, a3, _, _, ⟨w1, w2, _, _, _, _⟩, w7, w8, w9, w10, w11⟩ := t_parse d hd hT (hMt σ rfl rfl) hsd h10
  have hwp : zM (d + 6) mX5_wipe [.inr (.inr 1)] σs = some (0, 0, wr σs 1 1 0) := by rw [qX5_wipe_1, qX5_wipe_1_0]
  have hwd : ∀ X, zM (d + 5) mX1_wipe [.inr (.inr 7)] X = some (0, 0, wr (wr (wr X 7 7 0) 7 8 0) 7 9 0) := fun X => by rw [qX1_wipe_7, qX1_wipe_7_0]
  -- the second run, on the model's side
  have hB : ∀ σ1 : zS, (∀ c, 37 < c → σ1 c = σ c) → ∃ τs τe mm s, zM (d + 6) mX8_tokenize [.inr (.inr 38)] (wr σ1 38 3 (-1)) = some (0, 0, τs) ∧ zM (d + 6) mX8_readList [.inr (.inr 38)] (wr (wr (wr (wr (wr τs 38 2 0) 38 8 0) 38 9 0) 38 14 0) 44 (1 - sd) 0) = some (1, r, τe) ∧ τs 38 10 = nI sd ∧
      ((∀ c, c ≠ 38 → ¬ (40 ≤ c ∧ c ≤ 42) → ¬ (44 ≤ c ∧ c ≤ 49) → τe c = σ1 c) ∧ (∀ k, k ≠ 2 → k ≠ 3 → k ≠ 4 → k ≠ 8 → k ≠ 9 → k ≠ 14 → k ≠ 41 → k ≠ 42 → k ≠ 43 → τe 38 k = σ1 38 k) ∧ τe 38 2 = 0 ∧ (∀ c n, 45 ≤ c → c ≤ 49 → n < 800 * (1 - sd) ∨ 800 * (1 - sd) + 800 ≤ n → τe c n = σ1 c n)) ∧
      ((r = 0 ∧ ∃ pf, pf ≤ mm ∧ mm < s ∧ s ≤ 401 ∧ σe 3 3 = nI s ∧ ¬ σe 5 pf < 0 ∧ σe 3 4 = nI pf ∧ τe 38 3 = σe 5 pf) ∨ (r = 1 ∧ ∃ p ne ni nn nj nc l, ¬ σe 5 p < 0 ∧ PS mm s sd σe τe p 0 ne ni nn nj nc ∧ τe 38 41 = hdOf l ∧ LC σe τe 10 l (800 * (1 - sd)) (800 * (1 - sd) + nn) 0 ne 0 ni)) := by
    intro σ1 hc
    obtain ⟨σs', τs, σe', τe, r', mm', s', b1, b2, b3, b4, b5, ⟨_, _, v3, v4, v5, v6⟩, v7, v8, v9, v10, v11⟩ := t_parse d hd hT (hMt σ1 (by rw [hc 38 (by omega)]) (by rw [hc 39 (by omega)])) hsd (by rw [hc 38 (by omega), h10])
    rw [a1] at b1
    cases b1
    rw [a3] at b3
    cases b3
    refine ⟨τs, τe, mm', s', b2, b4, b5, ⟨v3, v4, v5, v6⟩, ?_⟩
    rcases v11 with ⟨g, pf, g1, g2, g3⟩ | ⟨g, p, ne, ni, nn, nj, nc, l, g1, g2⟩
    · exact Or.inl ⟨g, pf, g1, v9, v8, v7, v10 pf g1, g2, g3⟩
    · exact Or.inr ⟨g, p, ne, ni, nn, nj, nc, l, v10 p g1.1.le.1, g1, g2⟩
  have e1 : (1 : Int32) - nI sd = nI (1 - sd) := by
    show nI 1 - nI sd = _
    exact pk_sub (by omega)
  have hin2 : ¬ (nI (1 - sd) < 0 ∨ 2 ≤ 1 - sd) := nin (by omega) (by omega)
  have nm1 : ∀ v : Int32, ¬ v < 0 → ¬ v = -1 := fun v hv h => hv (by rw [h]; decide)
  have r10 : (0 : Int32) = 1 → False := by decide
  have hread : ∀ f, zM (d + 6) mX2_read [.inr (.inr 23)] (wr σs 1 1 0) = some (1, f, σe) → ¬ f = -1 → zM (d + 7) mX7_program [.inr (.inr 0)] σ = some (2, 0, wr σe 0 10 f) := fun f hf hn => by
    rw [qX7_program_0, qX7_program_0_0, a1, zbV_some, hwp, zbV_some, hf, zbI_some, if_neg hn]
  have hfin : ∀ f (τe τf : zS), ¬ f < 0 → zM (d + 6) mX2_read [.inr (.inr 23)] (wr σs 1 1 0) = some (1, f, σe) → (∀ c, c ≠ 38 → ¬ (40 ≤ c ∧ c ≤ 42) → ¬ (44 ≤ c ∧ c ≤ 49) → τe c = wr σe 0 10 f c) → (∀ k, k ≠ 2 → k ≠ 3 → k ≠ 4 → k ≠ 8 → k ≠ 9 → k ≠ 14 → k ≠ 41 → k ≠ 42 → k ≠ 43 → τe 38 k = wr σe 0 10 f 38 k) → τe 38 2 = 0 → (∀ c n, 45 ≤ c → c ≤ 49 → n < 800 * (1 - sd) ∨ 800 * (1 - sd) + 800 ≤ n → τe c n = wr σe 0 10 f c n) → (∀ c, c ≠ 38 → τf c = τe c) → (∀ k, k ≠ 0 → k ≠ 3 → τf 38 k = τe 38 k) → τf 38 0 = 1 → τf 38 3 = f → zM (d + 7) mX8_program [.inr (.inr 38)] (wr σe 0 10 f) = some (1, 0, τf) →
      ∃ k v σ1 v2 σ2, zM (d + 7) mX7_program [.inr (.inr 0)] σ = some (k, v, σ1) ∧ zM (d + 7) mX8_program [.inr (.inr 38)] σ1 = some (1, v2, σ2) ∧ ((k = 1 ∧ σ2 38 0 = 0 ∧ v = v2) ∨ (k = 2 ∧ σ2 38 0 = 1)) ∧ InvN σ2 n := by
    intro f τe τf hf hr v3 v4 v5 v6 u1 u2 u3 u4 hm
    refine ⟨2, 0, _, 0, τf, hread f hr (nm1 f hf), hm, Or.inr ⟨rfl, u3⟩, ?_⟩
    refine H0.frameF hsd h10 (fun c hc => ?_) (fun k hk => ?_) ⟨?_, ?_, ?_⟩ ⟨?_, ?_⟩ ?_ (fun c n c1 c2 hn => ?_)
    · rw [u1 c (by omega), v3 c (by omega) (by omega) (by omega), wr_cell _ _ _ (by omega), w1 c (by omega) (by omega)]
    · rw [u2 k (by omega) (by omega), v4 k (by omega) (by omega) (by omega) (by omega) (by omega) (by omega) (by omega) (by omega) (by omega), wr_cell _ _ _ (by omega), w1 38 (by omega) (by omega)]
    · rw [u1 0 (by omega), v3 0 (by omega) (by omega) (by omega), wr_slot _ _ _ (by omega), w1 0 (by omega) (by omega)]
    · rw [u1 0 (by omega), v3 0 (by omega) (by omega) (by omega), wr_slot _ _ _ (by omega), w1 0 (by omega) (by omega)]
    · rw [u1 0 (by omega), v3 0 (by omega) (by omega) (by omega), wr_slot _ _ _ (by omega), w1 0 (by omega) (by omega)]
    · rw [u1 1 (by omega), v3 1 (by omega) (by omega) (by omega), wr_cell _ _ _ (by omega), w2]
    · rw [u2 2 (by omega) (by omega), v5]
    · rw [u1 0 (by omega), v3 0 (by omega) (by omega) (by omega), wr_same, u4]
    · rw [u1 c (by omega), v6 c n c1 c2 hn, wr_cell _ _ _ (by omega), w1 c (by omega) (by omega)]
  have hcF : ∀ f c, 37 < c → wr σe 0 10 f c = σ c := fun f c hc => by rw [wr_cell _ _ _ (by omega), w1 c (by omega) (by omega)]
  rcases w11 with ⟨hr, pf, g1, g2, g3⟩ | ⟨hr, p, ne, ni, nn, nj, nc, l, P, g2, g3⟩
  · -- stopped within
    subst hr
    have hrd : zM (d + 6) mX2_read [.inr (.inr 23)] (wr σs 1 1 0) = some (1, σe 5 pf, σe) := by
      rw [qX2_read_23, qX2_read_23_0, hwd, zbV_some, a3, zbI_some, if_pos rfl, c_place (d + 4) g2 w7 (by omega) w8, zbI_some]
    obtain ⟨τs, τe, mm', s', b2, b4, b5, ⟨v3, v4, v5, v6⟩, v11⟩ := hB (wr σe 0 10 (σe 5 pf)) (hcF _)
    rcases v11 with ⟨_, pf', _, q2, q3, _, _, q4, q5⟩ | ⟨h, _⟩
    · have hpf : pf' = pf := by
        rw [g2] at q4
        have := congrArg Int32.toNatClampNeg q4
        rw [z_cl (by omega), z_cl (by omega)] at this
        exact this.symm
      rw [hpf] at q5
      refine hfin (σe 5 pf) τe (wr τe 38 0 1) (w10 pf g1) hrd v3 v4 v5 v6 (fun c hc => wr_cell _ _ _ hc) (fun k k1 _ => wr_slot _ _ _ k1) (by rw [wr_same]) (by rw [wr_slot _ _ _ (by omega), q5]) ?_
      rw [qX8_program_38, qX8_program_38_0, b2, zbV_some, b5, e1, z_cl (by omega), if_neg hin2, b4, zbI_some, if_pos rfl, m_raise (d + 5), zbI_some]
    · exact absurd h r10
  · subst hr
    have hle := P.1.le
    have p34 : σe 3 4 = nI p := P.1.2.2.2.2.2.2.2.2.1
    by_cases h0 : σe 4 p = 0
    · -- read to the end
      have hrd : zM (d + 6) mX2_read [.inr (.inr 23)] (wr σs 1 1 0) = some (1, -1, σe) := by
        rw [qX2_read_23, qX2_read_23_0, hwd, zbV_some, a3, zbI_some, if_neg n10, c_kind (d + 4) P.1, zbI_some, if_pos h0]
      have hcp : zM (d + 6) mX1_copyFrom [.inr (.inr 15), .inr (.inr 7)] (wr σe 0 10 (-1)) = some (0, 0, cCp (wr σe 0 10 (-1))) := by rw [qX1_copyFrom_15_7, qX1_copyFrom_15_7_0, cCp]
      have z1 : ∀ c, c < 15 ∨ 22 < c → c ≠ 0 → c ≠ 30 → c ≠ 31 → cRst (wr (cCp (wr σe 0 10 (-1))) 0 9 1) c = σe c := fun c h1 h2 h3 h4 => by rw [cRst_cell _ h3 h4, wr_cell _ _ _ h2, cCp_cell _ h1, wr_cell _ _ _ h2]
      have z2 : ∀ c, 15 ≤ c → c ≤ 22 → cRst (wr (cCp (wr σe 0 10 (-1))) 0 9 1) c = cCp (wr σe 0 10 (-1)) c := fun c h1 h2 => by rw [cRst_cell _ (by omega) (by omega), wr_cell _ _ _ (by omega)]
      have z3 : ∀ c, 0 < c → wr σe 0 10 (-1) c = σe c := fun c h => wr_cell _ _ _ (by omega)
      have z4 : cRst (wr (cCp (wr σe 0 10 (-1))) 0 9 1) 0 9 = 1 ∧ cRst (wr (cCp (wr σe 0 10 (-1))) 0 9 1) 0 10 = -1 ∧ cRst (wr (cCp (wr σe 0 10 (-1))) 0 9 1) 0 11 = σ 0 11 ∧ cRst (wr (cCp (wr σe 0 10 (-1))) 0 9 1) 0 12 = σ 0 12 := by
        rw [cRst_cell _ (by omega) (by omega), wr_same, wr_slot _ _ _ (by omega), wr_slot _ _ _ (by omega), wr_slot _ _ _ (by omega), cCp_cell _ (by omega), wr_same, wr_slot _ _ _ (by omega), wr_slot _ _ _ (by omega), w1 0 (by omega) (by omega)]
        exact ⟨rfl, rfl, rfl, rfl⟩
      have z5 := cCp_15 (wr σe 0 10 (-1))
      have z6 : ∀ k, 1 ≤ k → k ≤ 5 → cRst (wr (cCp (wr σe 0 10 (-1))) 0 9 1) 30 k = 0 := fun k h1 h2 => cRst_30 _ h1 h2
      have z7 : ∀ r, r < 8 → cRst (wr (cCp (wr σe 0 10 (-1))) 0 9 1) 31 r = 0 := fun r h => cRst_reg _ h
      have hcl : zM (d + 7) mX7_program [.inr (.inr 0)] σ = some (1, cRst (wr (cCp (wr σe 0 10 (-1))) 0 9 1) 15 7 - cRst (wr (cCp (wr σe 0 10 (-1))) 0 9 1) 15 9, cRst (wr (cCp (wr σe 0 10 (-1))) 0 9 1)) := by
        rw [qX7_program_0, qX7_program_0_0, a1, zbV_some, hwp, zbV_some, hrd, zbI_some, if_pos rfl, hcp, zbV_some, c_restart, zbV_some, qX1_statementCount_15, qX1_statementCount_15_0, zbI_some]
      rw [z3 7 (by omega)] at z5
      rw [← z2 15 (by omega) (by omega)] at z5
      have z8 : ∀ c q, 8 ≤ c → c ≤ 12 → q < 200 → cRst (wr (cCp (wr σe 0 10 (-1))) 0 9 1) (c + 8) q = σe c q := fun c q h1 h2 h3 => by rw [z2 (c + 8) (by omega) (by omega), cCp_e _ h1 h2 h3, z3 c (by omega)]
      have z9 : ∀ q, q < 400 → cRst (wr (cCp (wr σe 0 10 (-1))) 0 9 1) 21 q = σe 13 q ∧ cRst (wr (cCp (wr σe 0 10 (-1))) 0 9 1) 22 q = σe 14 q := fun q h => by rw [z2 21 (by omega) (by omega), z2 22 (by omega) (by omega), (cCp_i _ h).1, (cCp_i _ h).2, z3 13 (by omega), z3 14 (by omega)]; exact ⟨rfl, rfl⟩
      generalize cRst (wr (cCp (wr σe 0 10 (-1))) 0 9 1) = σ1 at *
      have hc1 : ∀ c, 37 < c → σ1 c = σ c := fun c hc => by rw [z1 c (by omega) (by omega) (by omega) (by omega), w1 c (by omega) (by omega)]
      obtain ⟨τs, τe, mm', s', b2, b4, b5, ⟨v3, v4, v5, v6⟩, v11⟩ := hB σ1 hc1
      rcases v11 with ⟨h, _⟩ | ⟨_, p', ne', ni', nn', nj', nc', l', _, P', y41, yL⟩
      · exact absurd h.symm r10
      have hle' := P'.1.le
      have hpp : p' = p := by
        have q4 := P'.1.2.2.2.2.2.2.2.2.1
        rw [p34] at q4
        have := congrArg Int32.toNatClampNeg q4
        rw [z_cl (by omega), z_cl (by omega)] at this
        exact this.symm
      subst hpp
      obtain ⟨P1, x7, x14, xjc, x2⟩ := P'
      have t8 : τe 38 8 = nI p' := P1.2.2.2.2.2.2.2.2.2.1
      have t3 : τe 38 3 = -1 := P1.2.2.2.2.2.2.2.2.2.2.2.2.2.2.2.2.2.2.2
      have c7 : σe 7 7 = nI ne' := P1.2.2.2.2.2.2.2.2.2.2.2.2.2.1
      have c8 : σe 7 8 = nI ni' := P1.2.2.2.2.2.2.2.2.2.2.2.2.2.2.2.1
      have t10 : τe 38 10 = nI sd := by rw [v4 10 (by omega) (by omega) (by omega) (by omega) (by omega) (by omega) (by omega) (by omega) (by omega), hc1 38 (by omega), h10]
      have hin : ¬ (nI p' < 0 ∨ 402 ≤ p') := nin (by omega) (by omega)
      have hval : σ1 15 7 - σ1 15 9 = τe 38 14 := by
        rw [z5.1, z5.2.2, c7, x7, x14, pk_sub (by omega), show ne' - nj' = nc' by omega]
      have hmd : zM (d + 7) mX8_program [.inr (.inr 38)] σ1 = some (1, τe 38 14, wr (wr (wr (wr τe 38 0 0) 43 (1 - sd) (τe 38 41)) 38 10 (nI (1 - sd))) 38 11 1) := by
        rw [qX8_program_38, qX8_program_38_0, b2, zbV_some, b5, e1, z_cl (by omega), if_neg hin2, b4, zbI_some, if_neg n10, t8, z_cl (by omega), if_neg hin, if_pos ((kind0 P1).mpr h0), t10, e1, z_cl (by omega), if_neg hin2]
      refine ⟨1, _, σ1, _, _, hcl, hmd, Or.inl ⟨rfl, by simp (disch := omega) only [lt_litR, lt_litL, eq_litR, eq_litL, lt_nn, eq_nn, lt_n0, z_cl, add_lit, eq_m1, eq_m1', m1_lt, false_or, or_false, if_pos, if_neg, zbI_some, zbV_some, wr_same, wr_cell, wr_slot, ne_eq, not_true_eq_false, not_false_eq_true, true_and, and_true, false_and, and_false, e10, e01, e00, if_true, if_false, Bool.false_eq_true, lit_ne, lit_lt, eq_self], hval⟩, ?_⟩
      have q1 : ∀ c, c ≠ 38 → c ≠ 43 → wr (wr (wr (wr τe 38 0 0) 43 (1 - sd) (τe 38 41)) 38 10 (nI (1 - sd))) 38 11 1 c = τe c := fun c h1 h2 => by simp (disch := omega) only [lt_litR, lt_litL, eq_litR, eq_litL, lt_nn, eq_nn, lt_n0, z_cl, add_lit, eq_m1, eq_m1', m1_lt, false_or, or_false, if_pos, if_neg, zbI_some, zbV_some, wr_same, wr_cell, wr_slot, ne_eq, not_true_eq_false, not_false_eq_true, true_and, and_true, false_and, and_false, e10, e01, e00, if_true, if_false, Bool.false_eq_true, lit_ne, lit_lt, eq_self]
      have q2 : ∀ k, k ≠ 0 → k ≠ 10 → k ≠ 11 → wr (wr (wr (wr τe 38 0 0) 43 (1 - sd) (τe 38 41)) 38 10 (nI (1 - sd))) 38 11 1 38 k = τe 38 k := fun k h1 h2 h3 => by simp (disch := omega) only [lt_litR, lt_litL, eq_litR, eq_litL, lt_nn, eq_nn, lt_n0, z_cl, add_lit, eq_m1, eq_m1', m1_lt, false_or, or_false, if_pos, if_neg, zbI_some, zbV_some, wr_same, wr_cell, wr_slot, ne_eq, not_true_eq_false, not_false_eq_true, true_and, and_true, false_and, and_false, e10, e01, e00, if_true, if_false, Bool.false_eq_true, lit_ne, lit_lt, eq_self]
      have q3 : wr (wr (wr (wr τe 38 0 0) 43 (1 - sd) (τe 38 41)) 38 10 (nI (1 - sd))) 38 11 1 38 10 = nI (1 - sd) := by simp (disch := omega) only [lt_litR, lt_litL, eq_litR, eq_litL, lt_nn, eq_nn, lt_n0, z_cl, add_lit, eq_m1, eq_m1', m1_lt, false_or, or_false, if_pos, if_neg, zbI_some, zbV_some, wr_same, wr_cell, wr_slot, ne_eq, not_true_eq_false, not_false_eq_true, true_and, and_true, false_and, and_false, e10, e01, e00, if_true, if_false, Bool.false_eq_true, lit_ne, lit_lt, eq_self]
      have q4 : wr (wr (wr (wr τe 38 0 0) 43 (1 - sd) (τe 38 41)) 38 10 (nI (1 - sd))) 38 11 1 38 11 = 1 := by simp (disch := omega) only [lt_litR, lt_litL, eq_litR, eq_litL, lt_nn, eq_nn, lt_n0, z_cl, add_lit, eq_m1, eq_m1', m1_lt, false_or, or_false, if_pos, if_neg, zbI_some, zbV_some, wr_same, wr_cell, wr_slot, ne_eq, not_true_eq_false, not_false_eq_true, true_and, and_true, false_and, and_false, e10, e01, e00, if_true, if_false, Bool.false_eq_true, lit_ne, lit_lt, eq_self]
      have q5 : wr (wr (wr (wr τe 38 0 0) 43 (1 - sd) (τe 38 41)) 38 10 (nI (1 - sd))) 38 11 1 43 (1 - sd) = hdOf l' := by rw [← y41]; simp (disch := omega) only [lt_litR, lt_litL, eq_litR, eq_litL, lt_nn, eq_nn, lt_n0, z_cl, add_lit, eq_m1, eq_m1', m1_lt, false_or, or_false, if_pos, if_neg, zbI_some, zbV_some, wr_same, wr_cell, wr_slot, ne_eq, not_true_eq_false, not_false_eq_true, true_and, and_true, false_and, and_false, e10, e01, e00, if_true, if_false, Bool.false_eq_true, lit_ne, lit_lt, eq_self]
      generalize wr (wr (wr (wr τe 38 0 0) 43 (1 - sd) (τe 38 41)) 38 10 (nI (1 - sd))) 38 11 1 = σ2 at *
      have qc : ∀ c, c < 38 → σ2 c = σ1 c := fun c hc => by rw [q1 c (by omega) (by omega), v3 c (by omega) (by omega) (by omega)]
      refine H0.frameG (fun c hc => ?_) (fun k hk => ?_) ⟨?_, ?_⟩ ⟨?_, ?_⟩ ?_ ⟨1 - sd, by omega, q3⟩ (fun hH h20 hk => ?_)
      · rw [q1 c (by omega) (by omega), v3 c (by omega) (by omega) (by omega), z1 c (by omega) (by omega) (by omega) (by omega), w1 c (by omega) (by omega)]
      · rw [q2 k (by omega) (by omega) (by omega), v4 k (by omega) (by omega) (by omega) (by omega) (by omega) (by omega) (by omega) (by omega) (by omega), hc1 38 (by omega)]
      · rw [qc 0 (by omega), z4.2.2.1]
      · rw [qc 0 (by omega), z4.2.2.2]
      · rw [qc 1 (by omega), z1 1 (by omega) (by omega) (by omega) (by omega), w2]
      · rw [q2 2 (by omega) (by omega) (by omega), v5]
      · rw [qc 0 (by omega), z4.2.1, q2 3 (by omega) (by omega) (by omega), t3]
      · refine ⟨by rw [qc 0 (by omega), z4.1, q4], Or.inr ⟨by rw [qc 0 (by omega), z4.1], ?_⟩⟩
        obtain ⟨k1, k2⟩ := kPrM_new (σe := σe) (τe := τe) (σ2 := σ2) hsd (by omega) (by omega) (by omega) yL (fun c q h1 h2 h3 => by rw [qc (c + 8) (by omega), z8 c q h1 h2 h3]) (fun q h => by rw [qc 21 (by omega), qc 22 (by omega)]; exact z9 q h) (by rw [qc 15 (by omega), z5.1, c7]) (by rw [qc 15 (by omega), z5.2.1, c8]) (fun c h1 h2 => q1 c (by omega) (by omega)) q5 q3
        exact ⟨k1, k2, CRs.fresh k2 (fun k h1 h2 => by rw [qc 30 (by omega), z6 k h1 h2]) (fun r h => by rw [qc 31 (by omega), z7 r h]) hH h20 hk⟩
    · -- a block's end at the top
      have hrd : zM (d + 6) mX2_read [.inr (.inr 23)] (wr σs 1 1 0) = some (1, σe 5 p, σe) := by
        rw [qX2_read_23, qX2_read_23_0, hwd, zbV_some, a3, zbI_some, if_neg n10, c_kind (d + 4) P.1, zbI_some, if_neg h0, c_place (d + 4) p34 w7 (by omega) w8, zbI_some]
      obtain ⟨τs, τe, mm', s', b2, b4, b5, ⟨v3, v4, v5, v6⟩, v11⟩ := hB (wr σe 0 10 (σe 5 p)) (hcF _)
      rcases v11 with ⟨h, _⟩ | ⟨_, p', ne', ni', nn', nj', nc', l', _, P', _, _⟩
      · exact absurd h.symm r10
      · have hle' := P'.1.le
        have hpp : p' = p := by
          have q4 := P'.1.2.2.2.2.2.2.2.2.1
          rw [p34] at q4
          have := congrArg Int32.toNatClampNeg q4
          rw [z_cl (by omega), z_cl (by omega)] at this
          exact this.symm
        subst hpp
        have t8 : τe 38 8 = nI p' := P'.1.2.2.2.2.2.2.2.2.2.1
        refine hfin (σe 5 p') τe (wr (wr τe 38 3 (σe 5 p')) 38 0 1) (w10 p' hle.1) hrd v3 v4 v5 v6 (fun c hc => by rw [wr_cell _ _ _ hc, wr_cell _ _ _ hc]) (fun k k1 k2 => by rw [wr_slot _ _ _ k1, wr_slot _ _ _ k2]) (by rw [wr_same]) (by rw [wr_slot _ _ _ (by omega), wr_same]) ?_
        have hin : ¬ (nI p' < 0 ∨ 402 ≤ p') := nin (by omega) (by omega)
        rw [qX8_program_38, qX8_program_38_0, b2, zbV_some, b5, e1, z_cl (by omega), if_neg hin2, b4, zbI_some, if_neg n10, t8, z_cl (by omega), if_neg hin, if_neg (fun h => h0 ((kind0 P'.1).mp h)), m_refuse (d + 5) P'.1, zbI_some, if_pos rfl, m_raise (d + 5), zbI_some]
