-- calls, copies, switches
theorem zcp_in : zin 795 (.methodLink RX1 43 arraycopyName) = true ∧ zin 953 (.methodLink RX3 32 arraycopyName) = true ∧ zin 796 (.static arraycopyName) = true ∧ zin 797 (.native arraycopyName) = true ∧ zin 96 (.initialized "java/lang/System") = true := by decide +kernel
theorem zcode_good (y : MethodName) (b : ByteArray) (n : Nat) (r : Option FieldType) : goodWord (.code y b n r) = true := rfl
theorem zGood {Ts : List Cond} (hTs : ∀ w ∈ zTB, w ∈ Ts) {i : Nat} {y : MethodName} {b : ByteArray} {n : Nat} {r : Option FieldType} (h : lw_tbl[i]? = some (.code y b n r)) : GoodIn Ts (zws y b n r) := by
  intro w hw
  have hc : Cond.code y b n r ∈ zTB := List.mem_filter.mpr ⟨List.mem_of_getElem? h, zcode_good y b n r⟩
  have hw2 : w ∈ zTB := by
    rcases List.mem_cons.mp hw with rfl | hw
    · exact hc
    · exact hw
  exact ⟨hTs w hw2, zTB_good hw2⟩
theorem zcats (a : Nat → Nat) (st : List zV) : ((st.map (zden a)).map fun v => v.category).sum = (st.map zcat).sum := by
  induction st with
  | nil => rfl
  | cons v r ih => simp only [List.map_cons, List.sum_cons, ih, zcat_den]
section
variable {p : Program} {l : Launch} {e : Env} {R : Room} {s : State} {m : MethodId} {args : Array Value} {below : List Frame} {meth : Method} {c : Code} {cells slots : Nat} {Q : State → Prop}
variable {a adV : Nat → Nat} {kI kC : ClassId} {dC : Nat → ClassId} {dI : Nat → Nat → Nat} {A : Nat → Prop} {own : String} {cc : ByteArray} {nL : Nat} {rt : Option FieldType} {Ts : List Cond} {out : zR} {call : zCall} {go : zGo}
theorem zs_inv (C0 : zCtx p s m args c own cc nL a adV kI kC dC dI A Ts) (hroom : cells ≤ R.cells ∧ slots ≤ R.slots) (hgo : zGS p l e R s m args below meth c cells slots Q a kI kC dC dI A nL go out)
    (hcall : ∀ mi as σ r, call mi as σ = some r → r.1 < 2 → zCon l a adV kI kC dC dI R mi as σ r) {pc nx x y z idx : Nat} {sw : List (Int32 × Nat)} {L : List (Nat × zV)} {st : List zV} {σ : zS} {ls : Array Slot} {H : Heap} {locs : List Loc}
    (hd : (decode cc pc = .ok (.invokevirtual idx, 3) ∧ ∃ k0 ci, sw = [(k0, ci)] ∧ 1 ≤ y ∧ zMLT[z]? = some (own, idx, x, 0, ci, y - 1)) ∨ (decode cc pc = .ok (.invokestatic idx, 3) ∧ sw = [] ∧ ∃ ci, zMLT[z]? = some (own, idx, x, 1, ci, y)))
    (hnx : zpc nx = pc + 3) (hs : zinv call go nx x y sw L st σ = some out ∨ zinvV call go nx x y sw L st σ = some out) (hl : lv_has ls nL (zLd a L)) (hP : va_P (dC, dI) vwCl (zWS a kI kC σ) H) (hS : va_S A s.heap H locs) : W p l e R s m args below meth c H locs cells slots Q (F0 m pc ls (st.map (zden a))) := by
  have C1 := C0
  obtain ⟨hx, hb, hml, hown, hts, hTs, hK, hX, hinj, hA⟩ := C0
  have hg : (¬ (st.length < y ∨ 8 < ((st.drop y).map zcat).sum) ∧ zrecv sw (st.take y).reverse = true) ∧ (zbI (call x (st.take y).reverse σ) (fun r σ' => go nx L (.inl r :: st.drop y) σ') = some out ∨ zbV (call x (st.take y).reverse σ) (fun σ' => go nx L (st.drop y) σ') = some out) := by
    simp only [zinv, zinvV] at hs
    by_cases h1 : st.length < y ∨ 8 < ((st.drop y).map zcat).sum
    · rw [if_pos h1, if_pos h1] at hs
      rcases hs with hs | hs <;> cases hs
    · rw [if_neg h1, if_neg h1] at hs
      by_cases h2 : zrecv sw (st.take y).reverse = true
      · rw [if_pos h2, if_pos h2] at hs
        exact ⟨⟨h1, h2⟩, hs⟩
      · rw [if_neg h2, if_neg h2] at hs
        rcases hs with hs | hs <;> cases hs
  obtain ⟨⟨hlen, hrecv⟩, hs⟩ := hg
  have hlen1 : y ≤ st.length := by omega
  have hcat : ((st.drop y).map zcat).sum ≤ 8 := by omega
  -- the answer
  have hans : ∃ r : zR, call x (st.take y).reverse σ = some r ∧ r.1 < 2 ∧ ∀ (H1 : Heap) (locs1 : List Loc), va_P (dC, dI) vwCl (zWS a kI kC r.2.2) H1 → va_S A s.heap H1 locs1 → W p l e R s m args below meth c H1 locs1 cells slots Q (F0 m (pc + 3) ls ((zrv r).toList ++ (st.drop y).map (zden a))) := by
    rcases hs with hs | hs
    · simp only [zbI] at hs
      split at hs
      · next v0 σ' hc =>
        refine ⟨_, hc, Nat.lt_succ_self 1, fun H1 locs1 hP1 hS1 => ?_⟩
        have k1 := hgo _ _ _ _ _ _ _ hs hl hP1 hS1
        rw [hnx] at k1
        exact k1
      · cases hs
    · simp only [zbV] at hs
      split at hs
      · next v0 σ' hc =>
        refine ⟨_, hc, Nat.zero_lt_succ 1, fun H1 locs1 hP1 hS1 => ?_⟩
        have k1 := hgo _ _ _ _ _ _ _ hs hl hP1 hS1
        rw [hnx] at k1
        exact k1
      · cases hs
  obtain ⟨r, hc, hr2, kk⟩ := hans
  have hcon := hcall _ _ _ _ hc hr2
  have hst : st.map (zden a) = (st.take y).map (zden a) ++ (st.drop y).map (zden a) := by rw [← List.map_append, List.take_append_drop]
  rcases hd with ⟨hd, k0, ci, rfl, hy1, hz⟩ | ⟨hd, rfl, ci, hz⟩
  · obtain ⟨C, yn, nl, rt', tab, cut, i, hmt, hycls, ⟨T, N, hcl⟩, hw1, hw2, hpar, hw3⟩ := zml_spec hz
    rw [if_pos rfl] at hw3
    obtain ⟨C', y', n', rt2, tab', cut', i', b, he, hcode, hplain, hy2, hy3, hn20, -⟩ := zmt_spec (zk_all _ (List.mem_of_getElem? hmt))
    cases he
    obtain ⟨rm, hrc, hrs, hrf, hrl, hM⟩ := hcon _ _ _ _ _ _ _ b hmt hcode
    -- the receiver
    cases hrev : (st.take y).reverse with
    | nil => rw [hrev] at hrecv; simp [zrecv] at hrecv
    | cons v0 tl =>
      rw [hrev] at hrecv hM
      rcases v0 with v0 | v0 | j
      · simp [zrecv] at hrecv
      · simp [zrecv] at hrecv
      · have hrecv : zcls j ci = true := hrecv
        obtain ⟨fl, hi⟩ := zcls_spec hrecv
        have he := zWS_get (a := a) (kI := kI) (kC := kC) (σ := σ) hi
        have htk : st.take y = tl.reverse ++ [.inr (.inr j)] := by
          have := congrArg List.reverse hrev
          simpa using this
        have hn : (tl.map (zden a)).length = y - 1 := by
          have h1 := congrArg List.length hrev
          simp at h1
          simp
          omega
        have hcw : CallW R s args own C idx yn b nl rt' (zws yn b nl rt') rm 0 0 (y - 1) :=
          ⟨callB_of (y - 1) hts (zGood hTs hcode) rfl hrc hrs (by rw [hy2]; exact hts _ (hTs _ hw2)) (hts _ (hTs _ hw1)) ⟨hy3.1, hy3.2, hpar⟩ ⟨hrf, hrl⟩, hts _ (hTs _ hw3.1), hts _ (hTs _ hw3.2)⟩
        have hrun := va_runV (cells := cells) (slots := slots) (below := below) (meth := meth) (locs := locs) (e := e) (l := l) (As := tl.map (zden a)) (rest := (st.drop y).map (zden a)) (b := a j) (g := F0 m pc ls (st.map (zden a))) (H := H) ⟨hx, hb, hml, hown, hts⟩ hM hcw
          ⟨zblind, va_recv hK hP hcl he, fun U hU hW => ⟨rfl, zPre_at hK hX hA hP hS hU hW⟩⟩ rfl hn hl.1 (by show st.map (zden a) = _; rw [hst, htk]; simp [zden]) (lv_room (by rw [zcats]; exact hcat)) hd ⟨hroom.1, hroom.2⟩
        exact zback hrun hA hS kk
  · obtain ⟨C, yn, nl, rt', tab, cut, i, hmt, hycls, ⟨T, N, hcl⟩, hw1, hw2, hpar, hw3⟩ := zml_spec hz
    rw [if_neg (by decide)] at hw3
    obtain ⟨C', y', n', rt2, tab', cut', i', b, he, hcode, hplain, hy2, hy3, hn20, -⟩ := zmt_spec (zk_all _ (List.mem_of_getElem? hmt))
    cases he
    obtain ⟨rm, hrc, hrs, hrf, hrl, hM⟩ := hcon _ _ _ _ _ _ _ b hmt hcode
    have hn : (((st.take y).reverse).map (zden a)).length = y := by simp; omega
    have hcw : CallB R s args own idx yn b nl rt' (zws yn b nl rt') rm 0 0 y ∧ (Cond.static yn).before args s = true :=
      ⟨callB_of y hts (zGood hTs hcode) rfl hrc hrs (by rw [hy2]; exact hts _ (hTs _ hw2)) (hts _ (hTs _ hw1)) ⟨hy3.1, hy3.2, hpar⟩ ⟨hrf, hrl⟩, hts _ (hTs _ hw3.1)⟩
    have hrun := va_runS (cells := cells) (slots := slots) (below := below) (meth := meth) (locs := locs) (e := e) (l := l) (As := ((st.take y).reverse).map (zden a)) (rest := (st.drop y).map (zden a)) (g := F0 m pc ls (st.map (zden a))) (H := H) ⟨hx, hb, hml, hown, hts⟩ hM hcw
      ⟨zblind, fun U hU hW => ⟨rfl, zPre_at hK hX hA hP hS hU hW⟩⟩ rfl hn hl.1 (by show st.map (zden a) = _; rw [hst]; simp) (lv_room (by rw [zcats]; exact hcat)) hd ⟨hroom.1, hroom.2⟩
    exact zback hrun hA hS kk
theorem zs_copy (C0 : zCtx p s m args c own cc nL a adV kI kC dC dI A Ts) (hR : 1 ≤ R.frames ∧ 40 ≤ R.locals) (hgo : zGS p l e R s m args below meth c cells slots Q a kI kC dC dI A nL go out)
    {pc nx idx : Nat} {L : List (Nat × zV)} {st : List zV} {σ : zS} {ls : Array Slot} {H : Heap} {locs : List Loc}
    (hd : decode cc pc = .ok (.invokestatic idx, 3)) (hw : (own = RX1 ∧ idx = 43) ∨ (own = RX3 ∧ idx = 32))
    (hnx : zpc nx = pc + 3) (hs : zcopy go nx L st σ = some out) (hl : lv_has ls nL (zLd a L)) (hP : va_P (dC, dI) vwCl (zWS a kI kC σ) H) (hS : va_S A s.heap H locs) : W p l e R s m args below meth c H locs cells slots Q (F0 m pc ls (st.map (zden a))) := by
  obtain ⟨hx, hb, hml, hown, hts, hTs, hK, hX, hinj, hA⟩ := C0
  obtain ⟨z1, z2, z3, z4, z5⟩ := zcp_in
  have hlink : (Cond.methodLink own idx arraycopyName).before args s = true := by
    rcases hw with ⟨rfl, rfl⟩ | ⟨rfl, rfl⟩
    · exact hts _ (hTs _ (zin_mem z1))
    · exact hts _ (hTs _ (zin_mem z2))
  simp only [zcopy] at hs
  split at hs
  · next n dp d sp j r =>
    split at hs
    · next n0 n1 h0 h1 =>
      split at hs
      · cases hs
      · next hcond =>
        simp only [not_or] at hcond
        obtain ⟨g1, g2, g3, g4, g5, g6⟩ := hcond
        have hi0 := zarr_spec h0
        have hi1 := zarr_spec h1
        have he0 := zWS_get (a := a) (kI := kI) (kC := kC) (σ := σ) hi0
        have he1 := zWS_get (a := a) (kI := kI) (kC := kC) (σ := σ) hi1
        have hD : va_D A (zWS a kI kC σ) := zD hinj (fun j h => hA _ ⟨j, h, rfl⟩) σ
        refine va_copyi (D := (dC, dI)) (cl := vwCl) (rest := r.map (zden a)) hx hb (hml.trans hl.1.symm) hown hlink (hts _ (hTs _ (zin_mem z4))) (hts _ (hTs _ (zin_mem z3))) (hts _ (hTs _ (zin_mem z5))) hK hP hD hS j d 0 0 he0 he1 rfl rfl rfl g1 g2 g3 (by omega) (by omega) (fun _ _ => rfl) hR.1 ?_ hd ?_
        · rw [zcats]
          have : nativeFrameWords "java/lang/System" "arraycopy" 5 = 7 := by decide
          rw [this]
          omega
        · intro H1 locs1 hP1 _ hS1
          have e1 := zWS_set (a := a) (kI := kI) (kC := kC) (σ := σ) (f := va_cpy (σ j) (σ d) sp.toNatClampNeg dp.toNatClampNeg n.toNatClampNeg) hi1
          have hP2 : va_P (dC, dI) vwCl ((zWS a kI kC σ).set d (a d, zcell a kI kC (va_cpy (σ j) (σ d) sp.toNatClampNeg dp.toNatClampNeg n.toNatClampNeg) (.inr (0, n1)))) H1 := hP1
          rw [e1] at hP2
          have k1 := hgo _ _ _ _ _ _ _ hs hl hP2 hS1
          rw [hnx] at k1
          exact k1
    · cases hs
  · cases hs
/-- a switch: by a row of it, or by none -/
theorem zsw_spec {α : Type} {v : Int32} {k : Nat → Option α} {d : Nat} {o : α} : ∀ {sw : List (Int32 × Nat)}, zsw v k d sw = some o → (∃ (j : Nat) (q : Int32 × Nat), sw[j]? = some q ∧ v = q.1 ∧ k q.2 = some o ∧ ∀ i q', i < j → sw[i]? = some q' → v ≠ q'.1) ∨ ((∀ q ∈ sw, v ≠ q.1) ∧ k d = some o) := by
  intro sw
  induction sw with
  | nil => intro h; exact Or.inr ⟨fun q hq => (by cases hq), h⟩
  | cons q r ih =>
    intro h
    obtain ⟨x, t⟩ := q
    simp only [zsw] at h
    split at h
    · next e => exact Or.inl ⟨0, (x, t), rfl, e, h, fun i q' hi => absurd hi (Nat.not_lt_zero i)⟩
    · next e =>
      rcases ih h with ⟨j, q, h1, h2, h3, h4⟩ | ⟨h1, h2⟩
      · refine Or.inl ⟨j + 1, q, by simpa using h1, h2, h3, fun i q' hi hq => ?_⟩
        cases i with
        | zero => simp at hq; subst hq; exact e
        | succ i => exact h4 i q' (by omega) (by simpa using hq)
      · refine Or.inr ⟨fun q hq => ?_, h2⟩
        rcases List.mem_cons.mp hq with rfl | hq
        · exact e
        · exact h1 q hq
end
