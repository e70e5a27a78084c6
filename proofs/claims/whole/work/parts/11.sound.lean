-- the small machine is sound: instruction, segment, method
theorem zc_long : zin 1165 (.constantLong RX8 71 255) = true := by decide +kernel
section
variable {p : Program} {l : Launch} {e : Env} {R : Room} {s : State} {m : MethodId} {args : Array Value} {below : List Frame} {meth : Method} {c : Code} {cells slots : Nat} {Q : State → Prop}
variable {a adV : Nat → Nat} {kI kC : ClassId} {dC : Nat → ClassId} {dI : Nat → Nat → Nat} {A : Nat → Prop} {own : String} {cc : ByteArray} {nL : Nat} {rt : Option FieldType} {Ts : List Cond} {out : zR} {call : zCall} {go : zGo}
/-- an answer is given -/
def zRet (p : Program) (l : Launch) (e : Env) (R : Room) (s : State) (m : MethodId) (args : Array Value) (below : List Frame) (meth : Method) (c : Code) (cells slots : Nat) (Q : State → Prop) (a : Nat → Nat) (kI kC : ClassId) (dC : Nat → ClassId) (dI : Nat → Nat → Nat) (A : Nat → Prop) (cc : ByteArray) (rt : Option FieldType) (nL : Nat) (out : zR) : Prop :=
  (∀ pc ls H locs v σ, decode cc pc = .ok (.ireturn, 1) → out = (1, v, σ) → (rt = some .int ∨ (rt = some .boolean ∧ (v = 0 ∨ v = 1))) → va_P (dC, dI) vwCl (zWS a kI kC σ) H → va_S A s.heap H locs → W p l e R s m args below meth c H locs cells slots Q (F0 m pc ls [.int v])) ∧
  (∀ pc ls H locs σ, decode cc pc = .ok (.return_, 1) → out = (0, 0, σ) → rt = none → va_P (dC, dI) vwCl (zWS a kI kC σ) H → va_S A s.heap H locs → W p l e R s m args below meth c H locs cells slots Q (F0 m pc ls [])) ∧
  (∀ pc idx len ls H locs σ, decode cc pc = .ok (.new idx, len) → out = (2, 0, σ) → ls.size = nL → va_P (dC, dI) vwCl (zWS a kI kC σ) H → va_S A s.heap H locs → W p l e R s m args below meth c H locs cells slots Q (F0 m pc ls []))
/-- String's own methods, called on the constants -/
def zStr (p : Program) (l : Launch) (e : Env) (R : Room) (s : State) (m : MethodId) (args : Array Value) (below : List Frame) (meth : Method) (c : Code) (cells slots : Nat) (Q : State → Prop) (a : Nat → Nat) (kI kC : ClassId) (dC : Nat → ClassId) (dI : Nat → Nat → Nat) (A : Nat → Prop) (cc : ByteArray) (nL : Nat) (own : String) (out : zR) : Prop :=
  ∀ (go : zGo) pc idx nx x L st σ ls H locs, zGS p l e R s m args below meth c cells slots Q a kI kC dC dI A nL go out → decode cc pc = .ok (.invokevirtual idx, 3) → own = RX6 → (x, idx) ∈ zSC → zpc nx = pc + 3 → zscall go nx x L st σ = some out → lv_has ls nL (zLd a L) → va_P (dC, dI) vwCl (zWS a kI kC σ) H → va_S A s.heap H locs →
    W p l e R s m args below meth c H locs cells slots Q (F0 m pc ls (st.map (zden a)))
theorem znlt {a b : Int32} (h : ¬ a < b) : b ≤ a := Int32.not_lt.mp h
theorem znle {a b : Int32} (h : b ≤ a) : ¬ a < b := Int32.not_lt.mpr h
theorem zs_if (C0 : zCtx p s m args c own cc nL a adV kI kC dC dI A Ts) (hgo : zGS p l e R s m args below meth c cells slots Q a kI kC dC dI A nL go out) {pc nx x o : Nat} {cd : ClassFile.Cond} {off : Int} {y z : Nat} {k : Int32} {sw : List (Int32 × Nat)} {L : List (Nat × zV)} {st : List zV} {σ : zS} {ls : Array Slot} {H : Heap} {locs : List Loc}
    (hd : decode cc pc = .ok (.ifCond cd off, 3)) (ho : o = 32 + (zcn cd).1) (hnx : zpc (if (zcn cd).2 then x else nx) = pc + 3) (ht : (pc : Int) + off = (zpc (if (zcn cd).2 then nx else x) : Int)) (hs : zstep call go (o, nx, x, y, z, k, sw) L st σ = some out)
    (hl : lv_has ls nL (zLd a L)) (hP : va_P (dC, dI) vwCl (zWS a kI kC σ) H) (hS : va_S A s.heap H locs) : W p l e R s m args below meth c H locs cells slots Q (F0 m pc ls (st.map (zden a))) := by
  obtain ⟨hx, hb, hml, hown, hts, hTs, hK, hX, hinj, hA⟩ := C0
  subst ho
  have kG : ∀ {t r}, go t L r σ = some out → W p l e R s m args below meth c H locs cells slots Q (F0 m (zpc t) ls (r.map (zden a))) := fun h => hgo _ _ _ _ _ _ _ h hl hP hS
  cases cd
  · simp only [zcn, Nat.reduceAdd, if_true, if_false, Bool.false_eq_true] at hnx ht hs
    simp only [zstep] at hs
    split at hs
    · exact lv_if_eq hx hb hd ht (fun h => kG (by simpa [h] using hs)) (fun h => by rw [← hnx]; exact kG (by simpa [h] using hs))
    · cases hs
  · simp only [zcn, Nat.reduceAdd, if_true, if_false, Bool.false_eq_true] at hnx ht hs
    simp only [zstep] at hs
    split at hs
    · exact lv_if_ne hx hb hd ht (fun h => kG (by simpa [h] using hs)) (fun h => by rw [← hnx]; exact kG (by simpa [h] using hs))
    · cases hs
  · simp only [zcn, Nat.reduceAdd, if_true, if_false, Bool.false_eq_true] at hnx ht hs
    simp only [zstep] at hs
    split at hs
    · exact lv_if_lt hx hb hd ht (fun h => kG (by simpa [h] using hs)) (fun h => by rw [← hnx]; exact kG (by simpa [h] using hs))
    · cases hs
  · simp only [zcn, Nat.reduceAdd, if_true, if_false, Bool.false_eq_true] at hnx ht hs
    simp only [zstep] at hs
    split at hs
    · exact lv_if_ge hx hb hd ht (fun h => kG (by simpa [znle h] using hs)) (fun h => by rw [← hnx]; exact kG (by simpa [Int32.not_le.mp h] using hs))
    · cases hs
  · simp only [zcn, Nat.reduceAdd, if_true, if_false, Bool.false_eq_true] at hnx ht hs
    simp only [zstep] at hs
    split at hs
    · exact lv_if_gt hx hb hd ht (fun h => kG (by simpa [h] using hs)) (fun h => by rw [← hnx]; exact kG (by simpa [h] using hs))
    · cases hs
  · simp only [zcn, Nat.reduceAdd, if_true, if_false, Bool.false_eq_true] at hnx ht hs
    simp only [zstep] at hs
    split at hs
    · exact lv_if_le hx hb hd ht (fun h => kG (by simpa [znle h] using hs)) (fun h => by rw [← hnx]; exact kG (by simpa [Int32.not_le.mp h] using hs))
    · cases hs
theorem zs_icmp (C0 : zCtx p s m args c own cc nL a adV kI kC dC dI A Ts) (hgo : zGS p l e R s m args below meth c cells slots Q a kI kC dC dI A nL go out) {pc nx x o : Nat} {cd : ClassFile.Cond} {off : Int} {y z : Nat} {k : Int32} {sw : List (Int32 × Nat)} {L : List (Nat × zV)} {st : List zV} {σ : zS} {ls : Array Slot} {H : Heap} {locs : List Loc}
    (hd : decode cc pc = .ok (.if_icmp cd off, 3)) (ho : o = 35 + (zcn cd).1) (hnx : zpc (if (zcn cd).2 then x else nx) = pc + 3) (ht : (pc : Int) + off = (zpc (if (zcn cd).2 then nx else x) : Int)) (hs : zstep call go (o, nx, x, y, z, k, sw) L st σ = some out)
    (hl : lv_has ls nL (zLd a L)) (hP : va_P (dC, dI) vwCl (zWS a kI kC σ) H) (hS : va_S A s.heap H locs) : W p l e R s m args below meth c H locs cells slots Q (F0 m pc ls (st.map (zden a))) := by
  obtain ⟨hx, hb, hml, hown, hts, hTs, hK, hX, hinj, hA⟩ := C0
  subst ho
  have kG : ∀ {t r}, go t L r σ = some out → W p l e R s m args below meth c H locs cells slots Q (F0 m (zpc t) ls (r.map (zden a))) := fun h => hgo _ _ _ _ _ _ _ h hl hP hS
  cases cd
  · simp only [zcn, Nat.reduceAdd, if_true, if_false, Bool.false_eq_true] at hnx ht hs
    simp only [zstep] at hs
    split at hs
    · exact lv_icmp_eq hx hb hd ht (fun h => kG (by simpa [h] using hs)) (fun h => by rw [← hnx]; exact kG (by simpa [h] using hs))
    · cases hs
  · simp only [zcn, Nat.reduceAdd, if_true, if_false, Bool.false_eq_true] at hnx ht hs
    simp only [zstep] at hs
    split at hs
    · exact lv_icmp_ne hx hb hd ht (fun h => kG (by simpa [h] using hs)) (fun h => by rw [← hnx]; exact kG (by simpa [h] using hs))
    · cases hs
  · simp only [zcn, Nat.reduceAdd, if_true, if_false, Bool.false_eq_true] at hnx ht hs
    simp only [zstep] at hs
    split at hs
    · exact lv_icmp_lt hx hb hd ht (fun h => kG (by simpa [h] using hs)) (fun h => by rw [← hnx]; exact kG (by simpa [h] using hs))
    · cases hs
  · simp only [zcn, Nat.reduceAdd, if_true, if_false, Bool.false_eq_true] at hnx ht hs
    simp only [zstep] at hs
    split at hs
    · exact lv_icmp_ge hx hb hd ht (fun h => kG (by simpa [znle h] using hs)) (fun h => by rw [← hnx]; exact kG (by simpa [Int32.not_le.mp h] using hs))
    · cases hs
  · simp only [zcn, Nat.reduceAdd, if_true, if_false, Bool.false_eq_true] at hnx ht hs
    simp only [zstep] at hs
    split at hs
    · exact lv_icmp_gt hx hb hd ht (fun h => kG (by simpa [h] using hs)) (fun h => by rw [← hnx]; exact kG (by simpa [h] using hs))
    · cases hs
  · simp only [zcn, Nat.reduceAdd, if_true, if_false, Bool.false_eq_true] at hnx ht hs
    simp only [zstep] at hs
    split at hs
    · exact lv_icmp_le hx hb hd ht (fun h => kG (by simpa [znle h] using hs)) (fun h => by rw [← hnx]; exact kG (by simpa [Int32.not_le.mp h] using hs))
    · cases hs
theorem z_ofInt {n : Int} (h1 : -1000 < n) (h2 : n < 1000) : (Int32.ofInt n).toInt = n := by
  rw [Int32.toInt_ofInt]
  simp only [Int32.size] 
  rw [Int.bmod_def]
  omega
theorem z_toInt_inj {x y : Int32} (h : x.toInt = y.toInt) : x = y := Int32.toInt_inj.mp h
theorem zs_table (C0 : zCtx p s m args c own cc nL a adV kI kC dC dI A Ts) (hgo : zGS p l e R s m args below meth c cells slots Q a kI kC dC dI A nL go out) {pc x len : Nat} {d lo hi : Int} {offs : Array Int} {sw : List (Int32 × Nat)} {v : Int32} {L : List (Nat × zV)} {r : List zV} {σ : zS} {ls : Array Slot} {H : Heap} {locs : List Loc}
    (hd : decode cc pc = .ok (.tableswitch d lo hi offs, len)) (h1 : (pc : Int) + d = (zpc x : Int)) (h2 : hi = lo + sw.length - 1) (h3 : sw.length = offs.size) (h4 : -1000 < lo) (h5 : hi < 1000)
    (h6 : (List.range sw.length).all (fun j => match sw[j]?, offs[j]? with
          | some q, some off => q.1 == Int32.ofInt (lo + j) && decide ((pc : Int) + off = (zpc q.2 : Int))
          | _, _ => false) = true)
    (hs : zsw v (fun t => go t L r σ) x sw = some out)
    (hl : lv_has ls nL (zLd a L)) (hP : va_P (dC, dI) vwCl (zWS a kI kC σ) H) (hS : va_S A s.heap H locs) : W p l e R s m args below meth c H locs cells slots Q (F0 m pc ls (.int v :: r.map (zden a))) := by
  obtain ⟨hx, hb, hml, hown, hts, hTs, hK, hX, hinj, hA⟩ := C0
  have hrow : ∀ j, j < sw.length → ∃ q off, sw[j]? = some q ∧ offs[j]? = some off ∧ q.1 = Int32.ofInt (lo + j) ∧ (pc : Int) + off = (zpc q.2 : Int) := by
    intro j hj
    have h7 := List.all_eq_true.mp h6 j (List.mem_range.mpr hj)
    split at h7
    · next q off hq ho =>
      simp only [Bool.and_eq_true, beq_iff_eq, decide_eq_true_eq] at h7
      exact ⟨q, off, hq, ho, h7.1, h7.2⟩
    · cases h7
  rcases zsw_spec hs with ⟨j, q, g1, g2, g3, -⟩ | ⟨g1, g2⟩
  · have hj := (List.getElem?_eq_some_iff.mp g1).1
    obtain ⟨q', off, e1, e2, e3, e4⟩ := hrow j hj
    rw [g1] at e1; cases e1
    have hv : v.toInt = lo + j := by rw [g2, e3]; exact z_ofInt (by omega) (by omega)
    refine lv_tableIn hx hb hd (by omega) (by omega) (off := off) ?_ e4 (hgo _ _ _ _ _ _ _ g3 hl hP hS)
    have : (v.toInt - lo).toNat = j := by omega
    rw [this]; exact e2
  · refine lv_tableOut hx hb hd ?_ h1 (hgo _ _ _ _ _ _ _ g2 hl hP hS)
    by_cases ho : v.toInt < lo ∨ hi < v.toInt
    · exact ho
    · exfalso
      have hj : (v.toInt - lo).toNat < sw.length := by omega
      obtain ⟨q', off, e1, e2, e3, e4⟩ := hrow _ hj
      refine g1 q' (List.mem_of_getElem? e1) (z_toInt_inj ?_)
      rw [e3, z_ofInt (by omega) (by omega)]
      omega
theorem zs_lookup (C0 : zCtx p s m args c own cc nL a adV kI kC dC dI A Ts) (hgo : zGS p l e R s m args below meth c cells slots Q a kI kC dC dI A nL go out) {pc x len : Nat} {d : Int} {ps : Array (Int × Int)} {sw : List (Int32 × Nat)} {v : Int32} {L : List (Nat × zV)} {r : List zV} {σ : zS} {ls : Array Slot} {H : Heap} {locs : List Loc}
    (hd : decode cc pc = .ok (.lookupswitch d ps, len)) (h1 : (pc : Int) + d = (zpc x : Int)) (h2 : (ps.toList.zip (ps.toList.drop 1)).all (fun (a, next) => a.1 < next.1) = true) (h3 : sw.length = ps.size)
    (h6 : (List.range sw.length).all (fun j => match sw[j]?, ps[j]? with
          | some q, some r => q.1 == Int32.ofInt r.1 && decide (-1000 < r.1) && decide (r.1 < 1000) && decide ((pc : Int) + r.2 = (zpc q.2 : Int))
          | _, _ => false) = true)
    (hs : zsw v (fun t => go t L r σ) x sw = some out)
    (hl : lv_has ls nL (zLd a L)) (hP : va_P (dC, dI) vwCl (zWS a kI kC σ) H) (hS : va_S A s.heap H locs) : W p l e R s m args below meth c H locs cells slots Q (F0 m pc ls (.int v :: r.map (zden a))) := by
  obtain ⟨hx, hb, hml, hown, hts, hTs, hK, hX, hinj, hA⟩ := C0
  have hrow : ∀ j, j < sw.length → ∃ q pr, sw[j]? = some q ∧ ps.toList[j]? = some pr ∧ q.1.toInt = pr.1 ∧ (pc : Int) + pr.2 = (zpc q.2 : Int) := by
    intro j hj
    have h7 := List.all_eq_true.mp h6 j (List.mem_range.mpr hj)
    split at h7
    · next q off hq ho =>
      simp only [Bool.and_eq_true, beq_iff_eq, decide_eq_true_eq] at h7
      refine ⟨q, off, hq, by rw [Array.getElem?_toList]; exact ho, ?_, h7.2⟩
      rw [h7.1.1.1]; exact z_ofInt h7.1.1.2 h7.1.2
    · cases h7
  have hlen : ps.toList.length = sw.length := by rw [Array.length_toList]; exact h3.symm
  -- the offset of the list is that of the rows
  have key : ∀ (n : Nat) (sw' : List (Int32 × Nat)) (pl : List (Int × Int)), sw'.length = n → pl.length = n → (∀ j, j < n → ∃ q pr, sw'[j]? = some q ∧ pl[j]? = some pr ∧ q.1.toInt = pr.1 ∧ (pc : Int) + pr.2 = (zpc q.2 : Int)) →
      zsw v (fun t => go t L r σ) x sw' = some out → ∃ t : Nat, (pc : Int) + Op.lookupswitch.offset pl d v.toInt = (zpc t : Int) ∧ go t L r σ = some out := by
    intro n
    induction n with
    | zero =>
      intro sw' pl e1 e2 _ hz
      cases sw' with
      | nil => cases pl with
        | nil => exact ⟨x, h1, hz⟩
        | cons _ _ => cases e2
      | cons _ _ => cases e1
    | succ n ih =>
      intro sw' pl e1 e2 hr hz
      cases sw' with
      | nil => cases e1
      | cons q0 sw' => cases pl with
        | nil => cases e2
        | cons p0 pl =>
          obtain ⟨q, pr, f1, f2, f3, f4⟩ := hr 0 (by omega)
          simp at f1 f2
          subst f1; subst f2
          obtain ⟨qx, qt⟩ := q0
          obtain ⟨pa, po⟩ := p0
          simp only [zsw] at hz
          rw [Op.lookupswitch.offset_cons]
          by_cases hv : v = qx
          · rw [if_pos hv] at hz
            rw [if_pos (by rw [hv]; exact f3.symm)]
            exact ⟨qt, f4, hz⟩
          · rw [if_neg hv] at hz
            rw [if_neg (fun h => hv (z_toInt_inj (by rw [← h]; exact f3.symm)))]
            refine ih sw' pl (by simpa using e1) (by simpa using e2) (fun j hj => ?_) hz
            obtain ⟨q', pr', k1, k2, k3, k4⟩ := hr (j + 1) (by omega)
            exact ⟨q', pr', by simpa using k1, by simpa using k2, k3, k4⟩
  obtain ⟨t, ht, hgt⟩ := key sw.length sw ps.toList rfl hlen hrow hs
  exact lv_lookup hx hb hd h2 rfl ht (hgo _ _ _ _ _ _ _ hgt hl hP hS)
end
