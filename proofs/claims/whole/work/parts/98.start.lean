-- where the law begins
def zS0 : zS := fun c => if c = 0 then (fun k => if k = 10 then -1 else if k = 12 then -1 else 0) else if c = 34 then (fun k => if k = 12 then -1 else 0) else if c = 38 then (fun k => if k = 3 then -1 else if k = 29 then -1 else 0) else fun _ => 0
theorem inv0 : InvN zS0 0 := by
  refine ⟨⟨0, by omega, rfl, rfl, fun i hi => absurd hi (by omega)⟩, ⟨rfl, rfl, rfl⟩, ⟨⟨rfl, by omega, fun i hi => absurd hi (by omega), fun i hi => absurd hi (by omega), fun i hi => absurd hi (by omega), rfl, fun k hk => absurd hk (by omega)⟩, rfl, ?_⟩, ⟨fun r hr => rfl, rfl, rfl, rfl, Or.inl rfl⟩, ⟨rfl, Or.inl rfl⟩, 0, by omega, rfl⟩
  decide +kernel
abbrev zFl : List Cond := flatC (Jvm.Cond.and given_1 narrow_1)
abbrev zTm (i : Nat) : Term := .string RX6 (zSI.getD i 0)
set_option maxRecDepth 100000 in
theorem zf_1 : ∀ i, i < 10 → Cond.exactly (zTm i) "java/lang/String" ∈ zFl := by decide +kernel
set_option maxRecDepth 100000 in
theorem zf_2 : ∀ i, i < 10 → Cond.eq (.field (zTm i) "java/lang/String" "coder" "B") (.int 0) ∈ zFl := by decide +kernel
set_option maxRecDepth 100000 in
theorem zf_3 : ∀ i, i < 10 → Cond.arrayOf (.field (zTm i) "java/lang/String" "value" "[B") .byte ∈ zFl := by decide +kernel
set_option maxRecDepth 100000 in
theorem zf_4 : ∀ i, i < 10 → Cond.eq (.length (.field (zTm i) "java/lang/String" "value" "[B")) (.int (Int32.ofNat (zlens.getD i 0))) ∈ zFl := by decide +kernel
set_option maxRecDepth 100000 in
theorem zf_5 : ∀ i, i < 10 → ∀ j, j < zlens.getD i 0 → Cond.eq (.elem (.field (zTm i) "java/lang/String" "value" "[B") (.int (Int32.ofNat j))) (.int ((zbyts.getD i []).getD j 0)) ∈ zFl := by decide +kernel
set_option maxRecDepth 100000 in
theorem zf_6 : ∀ i, i < 10 → ∀ j, j < 10 → i ≠ j → Cond.not (Cond.eq (zTm i) (zTm j)) ∈ zFl ∨ Cond.not (Cond.eq (zTm j) (zTm i)) ∈ zFl := by decide +kernel
set_option maxRecDepth 100000 in
theorem zf_7 : ∀ i, i < 10 → Cond.stringRef RX6 (zSI.getD i 0) (zstx i) ∈ lw_tbl := by decide +kernel
set_option maxRecDepth 100000 in
theorem zf_8 : ∀ i, i < 4 → Cond.exactly (.string RX7 (zTI.getD i 0)) "java/lang/String" ∈ zFl ∧ Cond.stringRef RX7 (zTI.getD i 0) (zttx i) ∈ lw_tbl := by decide +kernel
set_option maxRecDepth 100000 in
theorem zf_9 : (∀ w ∈ zNW, w ∈ lw_tbl ∧ w.onTables = true) ∧ (∀ w ∈ zNM, w ∈ lw_tbl ∧ w.onTables = true) ∧ (∀ w ∈ zDC, w ∈ lw_tbl) := by decide +kernel
set_option maxRecDepth 100000 in
theorem zf_10 : Cond.laysStatic "java/lang/String" "COMPACT_STRINGS" "Z" ∈ lw_tbl ∧ Cond.initialized "java/lang/String" ∈ lw_tbl ∧ Cond.eq (.static "java/lang/String" "COMPACT_STRINGS" "Z") (.int 1) ∈ zFl ∧ Cond.laysStatic "jdk/internal/util/Preconditions" "SIOOBE_FORMATTER" "Ljava/util/function/BiFunction;" ∈ lw_tbl ∧ Cond.initialized "jdk/internal/util/Preconditions" ∈ lw_tbl ∧ Cond.isRef (.static "jdk/internal/util/Preconditions" "SIOOBE_FORMATTER" "Ljava/util/function/BiFunction;") ∈ zFl ∧
    Cond.laysStatic Bundle.tN "UNASSIGNED_STACK" Bundle.steD ∈ lw_tbl ∧ Cond.initialized Bundle.tN ∈ lw_tbl ∧ Cond.isRef (.static Bundle.tN "UNASSIGNED_STACK" Bundle.steD) ∈ zFl ∧ Cond.laysStatic Bundle.tN "SUPPRESSED_SENTINEL" Bundle.listD ∈ lw_tbl ∧ Cond.isRef (.static Bundle.tN "SUPPRESSED_SENTINEL" Bundle.listD) ∈ zFl := by decide +kernel
theorem zget10 {α : Type} {l : List α} {i : Nat} {k d : α} (h : l[i]? = some k) : i < l.length ∧ l.getD i d = k := by
  refine ⟨(List.getElem?_eq_some_iff.mp h).1, ?_⟩
  rw [List.getD_eq_getElem?_getD, h]; rfl
theorem zvkS_cong {N : Nat} {len : List Nat} {byt : List (List Int32)} {adK adK' adV : Nat → Nat} {A : Nat → Prop} {U : State} {H : Heap} (he : ∀ i, i < N → adK' i = adK i) (h : vk_S N len byt adK adV A U H) : vk_S N len byt adK' adV A U H :=
  ⟨fun i hi => by rw [he i hi]; exact h.1 i hi, fun i j hi hj e => h.2 i j hi hj (by rw [← he i hi, ← he j hj]; exact e)⟩
theorem zstr_start {s : State} {b : Nat} (hgv : (Jvm.Cond.and given_1 narrow_1).before #[Value.ref b] s = true) (hts : ∀ w ∈ lw_tbl, w.before #[Value.ref b] s = true) :
    ∃ ad adV : Nat → Nat, vk_S 10 zlens zbyts ad adV (zLA s) s s.heap ∧ (∀ i k : Nat, zSI[i]? = some k → vk_R RX6 k (zstx i) (ad i) s) ∧ (∀ i k : Nat, zTI[i]? = some k → vk_R RX7 k (zttx i) (ad (1000 + i)) s) := by
  have hs := flat_of_before _ hgv
  have hA : ∀ a : Nat, a < s.heap.size → ¬ zLA s a := fun a h h2 => absurd h (Nat.not_lt.mpr h2)
  obtain ⟨ad, adV, hS, hE⟩ := vk_Sof (N := 10) (tm := zTm) (len := zlens) (byt := zbyts) (A := zLA s) (by decide +kernel) (fun i hi => hs _ (zf_1 i hi)) (fun i hi => hs _ (zf_2 i hi)) (fun i hi => hs _ (zf_3 i hi)) (fun i hi => hs _ (zf_4 i hi)) (fun i hi j hj => hs _ (zf_5 i hi j hj)) (fun i j hi hj hij => (zf_6 i hi j hj hij).imp (fun h => hs _ h) (fun h => hs _ h)) hA
  have hq : ∀ i : Nat, ∃ q : Nat, i < 4 → (Term.string RX7 (zTI.getD i 0)).eval #[Value.ref b] s none [] s = some (.ref q) := by
    intro i
    by_cases hi : i < 4
    · obtain ⟨q, c, cA, kA, q1, -⟩ := Cond.exactly_spec (args := #[Value.ref b]) (first := s) (o := none) (s := s) (idx := []) (t := .string RX7 (zTI.getD i 0)) (cls := "java/lang/String") (hs _ (zf_8 i hi).1)
      exact ⟨q, fun _ => q1⟩
    · exact ⟨0, fun h => absurd h hi⟩
  obtain ⟨at9, hat⟩ := Classical.axiomOfChoice hq
  refine ⟨fun i => if i < 1000 then ad i else at9 (i - 1000), adV, zvkS_cong (fun i hi => if_pos (by omega)) hS, fun i k hk => ?_, fun i k hk => ?_⟩
  · obtain ⟨h1, h2⟩ := zget10 (d := 0) hk
    have hi : i < 10 := h1
    have e9 : (if i < 1000 then ad i else at9 (i - 1000)) = ad i := if_pos (by omega)
    show vk_R RX6 k (zstx i) (if i < 1000 then ad i else at9 (i - 1000)) s
    rw [e9]
    refine vk_R.of (A := #[Value.ref b]) ?_ ?_
    · rw [← h2]; exact hts _ (zf_7 i hi)
    · rw [← h2]; exact hE i hi
  · obtain ⟨h1, h2⟩ := zget10 (d := 0) hk
    have hi : i < 4 := h1
    have e9 : (if 1000 + i < 1000 then ad (1000 + i) else at9 (1000 + i - 1000)) = at9 i := by rw [if_neg (by omega), show 1000 + i - 1000 = i by omega]
    show vk_R RX7 k (zttx i) (if 1000 + i < 1000 then ad (1000 + i) else at9 (1000 + i - 1000)) s
    rw [e9]
    refine vk_R.of (A := #[Value.ref b]) ?_ ?_
    · rw [← h2]; exact hts _ (zf_8 i hi).2
    · rw [← h2]; exact hat i hi
theorem zXT_start {s : State} {b : Nat} (hgv : (Jvm.Cond.and given_1 narrow_1).before #[Value.ref b] s = true) (hts : ∀ w ∈ lw_tbl, w.before #[Value.ref b] s = true) {a ad adV : Nat → Nat} (he : ∀ i, a (1000 + i) = ad i)
    (h1 : vk_S 10 zlens zbyts ad adV (zLA s) s s.heap) (h2 : ∀ i k : Nat, zSI[i]? = some k → vk_R RX6 k (zstx i) (ad i) s) (h3 : ∀ i k : Nat, zTI[i]? = some k → vk_R RX7 k (zttx i) (ad (1000 + i)) s) : zX a adV (zLA s) s s.heap ∧ zTX a (zLA s) s s.heap := by
  have hs := flat_of_before _ hgv
  have hA : ∀ a : Nat, a < s.heap.size → ¬ zLA s a := fun a h h2 => absurd h (Nat.not_lt.mpr h2)
  obtain ⟨w1, w2, w3⟩ := zf_9
  obtain ⟨v1, v2, v3, v4, v5, v6, v7, v8, v9, v10, v11⟩ := zf_10
  refine ⟨⟨fun w hw => va_Nw.of (w1 w hw).2 (hts w (w1 w hw).1), fun i k hk => by rw [he]; exact h2 i k hk, ?_, va_Zof (hts _ v1) (hts _ v2) (va_eqt (hs _ v3)) hA, va_Zqof (hts _ v4) (hts _ v5) (hs _ v6) hA⟩, vx_Zqof (hts _ v7) (hts _ v8) (hs _ v9) hA, vx_Zqof (hts _ v10) (hts _ v8) (hs _ v11) hA, fun i k hk => ?_, fun w hw => va_Nw.of (zDC_tab hw) (hts w (w3 w hw))⟩
  · have e1 : (fun i => a (1000 + i)) = ad := funext he
    rw [e1]; exact h1
  · have e2 : a (2000 + i) = ad (1000 + i) := by rw [← he, show 1000 + (1000 + i) = 2000 + i by omega]
    rw [e2]; exact h3 i k hk
