-- one instruction: what the small machine does, the machine does
section
variable {p : Program} {l : Launch} {e : Env} {R : Room} {s : State} {m : MethodId} {args : Array Value} {below : List Frame} {meth : Method} {c : Code} {cells slots : Nat} {Q : State → Prop}
variable {a adV : Nat → Nat} {kI kC : ClassId} {dC : Nat → ClassId} {dI : Nat → Nat → Nat} {A : Nat → Prop} {own : String} {cc : ByteArray} {nL : Nat} {rt : Option FieldType} {Ts : List Cond} {out : zR} {call : zCall} {go : zGo}
/-- where a method runs -/
def zCtx (p : Program) (s : State) (m : MethodId) (args : Array Value) (c : Code) (own : String) (cc : ByteArray) (nL : Nat) (a adV : Nat → Nat) (kI kC : ClassId) (dC : Nat → ClassId) (dI : Nat → Nat → Nat) (A : Nat → Prop) (Ts : List Cond) : Prop :=
  p.tables.exec = Jvm.exec ∧ c.code = cc ∧ c.maxLocals = nL ∧ s.vm.findClass own = some m.cls ∧ (∀ w ∈ Ts, w.before args s = true) ∧ (∀ w ∈ zTB, w ∈ Ts) ∧ va_K (dC, dI) vwCl (ztys kI kC) s ∧ zX a adV A s s.heap ∧
    (∀ i j, i < zIMG.length → j < zIMG.length → a i = a j → i = j) ∧ (∀ q, zA a q → A q)
/-- what is known of what follows -/
def zGS (p : Program) (l : Launch) (e : Env) (R : Room) (s : State) (m : MethodId) (args : Array Value) (below : List Frame) (meth : Method) (c : Code) (cells slots : Nat) (Q : State → Prop) (a : Nat → Nat) (kI kC : ClassId) (dC : Nat → ClassId) (dI : Nat → Nat → Nat) (A : Nat → Prop) (nL : Nat) (go : zGo) (out : zR) : Prop :=
  ∀ pc L st σ ls H locs, go pc L st σ = some out → lv_has ls nL (zLd a L) → va_P (dC, dI) vwCl (zWS a kI kC σ) H → va_S A s.heap H locs → W p l e R s m args below meth c H locs cells slots Q (F0 m (zpc pc) ls (st.map (zden a)))
theorem zarr_spec {j ty n : Nat} (h : zarr j ty = some n) : zIMG[j]? = some (.inr (ty, n)) := by
  simp only [zarr] at h
  split at h
  · next t n' hi =>
    split at h
    · next e => cases h; subst e; exact hi
    · cases h
  · cases h
theorem zwr_spec {j ci k : Nat} (h : zwr j ci k = true) : ∃ fl, zIMG[j]? = some (.inl (ci, fl)) ∧ fl[k]? = some none := by
  simp only [zwr] at h
  split at h
  · next cj fl hi =>
    simp only [Bool.and_eq_true, beq_iff_eq] at h
    obtain ⟨rfl, h2⟩ := h
    exact ⟨fl, hi, h2⟩
  · cases h
theorem zcls_spec {j ci : Nat} (h : zcls j ci = true) : ∃ fl, zIMG[j]? = some (.inl (ci, fl)) := by
  simp only [zcls] at h
  split at h
  · next cj fl hi => simp only [beq_iff_eq] at h; subst h; exact ⟨fl, hi⟩
  · cases h
theorem zfld_spec {σ : zS} {j ci k : Nat} {v : zV} (h : zfld σ j ci k = some v) : ∃ fl, zIMG[j]? = some (.inl (ci, fl)) ∧ ((fl[k]? = some none ∧ v = .inl (σ j k)) ∨ ∃ t, fl[k]? = some (some t) ∧ v = .inr (.inr t)) := by
  simp only [zfld] at h
  split at h
  · next cj fl hi =>
    split at h
    · next e =>
      subst e
      refine ⟨fl, hi, ?_⟩
      split at h
      · next hk => cases h; exact Or.inl ⟨hk, rfl⟩
      · next t hk => cases h; exact Or.inr ⟨t, hk, rfl⟩
      · cases h
    · cases h
  · cases h
theorem zfld_val {σ : zS} {j k : Nat} {v : zV} {fl : List (Option Nat)} (h : (fl[k]? = some none ∧ v = .inl (σ j k)) ∨ ∃ t, fl[k]? = some (some t) ∧ v = .inr (.inr t)) : (zflds a (σ j) 0 fl)[k]? = some (zden a v) := by
  rcases h with ⟨h1, rfl⟩ | ⟨t, h1, rfl⟩
  · rw [zflds_int fl 0 k h1, Nat.zero_add]; rfl
  · rw [zflds_ref fl 0 k h1]; rfl
theorem znarrow_bool {v : Int32} (h : v = 0 ∨ v = 1) : narrow .boolean (.int v) = .int v ∧ fits .boolean (.int v) = true := by
  rcases h with rfl | rfl <;> exact ⟨by decide, by decide⟩
theorem zs_get (C0 : zCtx p s m args c own cc nL a adV kI kC dC dI A Ts) (hgo : zGS p l e R s m args below meth c cells slots Q a kI kC dC dI A nL go out) {pc nx x y z idx : Nat} {L : List (Nat × zV)} {st : List zV} {σ : zS} {ls : Array Slot} {H : Heap} {locs : List Loc} {n : Nat}
    (hd : decode cc pc = .ok (.getfield idx, 3)) (hnx : zpc nx = pc + 3) (hf : zFLT[z]? = some (own, idx, x, y, n))
    (hs : (match st with
      | .inr (.inr j) :: r => match zfld σ j x y with
        | some v => go nx L (v :: r) σ
        | none => none
      | _ => none) = some out) (hl : lv_has ls nL (zLd a L)) (hP : va_P (dC, dI) vwCl (zWS a kI kC σ) H) (hS : va_S A s.heap H locs) : W p l e R s m args below meth c H locs cells slots Q (F0 m pc ls (st.map (zden a))) := by
  obtain ⟨hx, hb, hml, hown, hts, hTs, hK, hX, hinj, hA⟩ := C0
  split at hs
  · next j r =>
    split at hs
    · next v hv =>
      obtain ⟨fl, hi, hval⟩ := zfld_spec hv
      obtain ⟨q, hq, hk, hw⟩ := zfl_spec hf
      have k1 := hgo _ _ _ _ _ _ _ hs hl hP hS
      rw [hnx] at k1
      have hin := fun w h => hTs w (zcl_in x q hq w h)
      have he := zWS_get (a := a) (kI := kI) (kC := kC) (σ := σ) hi
      split at hw
      · exact va_get (D := (dC, dI)) (cl := vwCl) (C := q.1) (T := q.2.1) (N := q.2.2) hx hb hts hin hown hK hP j he hq y hk (hts _ (hTs _ hw)) (fun _ h => h) (zfld_val hval) hd k1
      · exact va_getN (D := (dC, dI)) (cl := vwCl) (C := q.1) (T := q.2.1) (N := q.2.2) (host := RX7) hx hb hts hin hown hK hP j he hq y hk (va_Nw.use rfl (hX.1 _ hw)) (fun _ h => h) (zfld_val hval) hd k1
    · cases hs
  · cases hs
theorem zs_put (C0 : zCtx p s m args c own cc nL a adV kI kC dC dI A Ts) (hgo : zGS p l e R s m args below meth c cells slots Q a kI kC dC dI A nL go out) {pc nx x y z idx j : Nat} {v : Int32} {L : List (Nat × zV)} {r : List zV} {σ : zS} {ls : Array Slot} {H : Heap} {locs : List Loc} {n : Nat}
    (hd : decode cc pc = .ok (.putfield idx, 3)) (hnx : zpc nx = pc + 3) (hf : zFLT[z]? = some (own, idx, x, y, n)) (hnf : narrow (zty x y) (.int v) = .int v ∧ fits (zty x y) (.int v) = true) (hfin : (match vwCl[x]? with
        | some q => (q.2.1 y).2.2.2 == false
        | none => false) = true) (hwr : zwr j x y = true)
    (hs : go nx L r (zset σ j (upd (σ j) y v)) = some out) (hl : lv_has ls nL (zLd a L)) (hP : va_P (dC, dI) vwCl (zWS a kI kC σ) H) (hS : va_S A s.heap H locs) : W p l e R s m args below meth c H locs cells slots Q (F0 m pc ls (.int v :: .ref (a j) :: r.map (zden a))) := by
  obtain ⟨hx, hb, hml, hown, hts, hTs, hK, hX, hinj, hA⟩ := C0
  obtain ⟨fl, hi, hfl⟩ := zwr_spec hwr
  obtain ⟨q, hq, hk, hw⟩ := zfl_spec hf
  rw [hq] at hfin
  have hfin : (q.2.1 y).2.2.2 = false := by simpa using hfin
  have hD : va_D A (zWS a kI kC σ) := zD hinj (fun j h => hA _ ⟨j, h, rfl⟩) σ
  obtain ⟨ht1, ht2⟩ := zcl_ty x q hq
  have hin := fun w h => hTs w (zcl_in x q hq w h)
  have he := zWS_get (a := a) (kI := kI) (kC := kC) (σ := σ) hi
  obtain ⟨hn1, hn2⟩ := hnf
  have key : ∀ (H1 : Heap) (locs1 : List Loc), va_P (dC, dI) vwCl ((zWS a kI kC σ).set j (a j, .inr (x, (zflds a (σ j) 0 fl).set y (.int v)))) H1 → va_D A ((zWS a kI kC σ).set j (a j, .inr (x, (zflds a (σ j) 0 fl).set y (.int v)))) → va_S A s.heap H1 locs1 → W p l e R s m args below meth c H1 locs1 cells slots Q (F0 m (pc + 3) ls (r.map (zden a))) := by
    intro H1 locs1 hP1 _ hS1
    rw [zflds_set fl 0 y hfl, Nat.zero_add] at hP1
    have e1 : (zWS a kI kC σ).set j (a j, .inr (x, zflds a (upd (σ j) y v) 0 fl)) = zWS a kI kC (zset σ j (upd (σ j) y v)) := zWS_set hi
    rw [e1] at hP1
    have k1 := hgo _ _ _ _ _ _ _ hs hl hP1 hS1
    rw [hnx] at k1
    exact k1
  have hlen : y < (zflds a (σ j) 0 fl).length := by
    rw [zlen_flds]; exact (List.getElem?_eq_some_iff.mp hfl).1
  split at hw
  · exact va_put (D := (dC, dI)) (cl := vwCl) (C := q.1) (T := q.2.1) (N := q.2.2) (ty := zty x y) hx hb hts hin (zty x) ht1 ht2 hown hK hP hD hS j he hq y hk (hts _ (hTs _ hw)) (fun _ h => h) hfin (ht1 y hk) hn1 hn2 hlen hd key
  · exact va_putN (D := (dC, dI)) (cl := vwCl) (C := q.1) (T := q.2.1) (N := q.2.2) (ty := zty x y) (host := RX7) hx hb hts hin (zty x) ht1 ht2 hown hK hP hD hS j he hq y hk (va_Nw.use rfl (hX.1 _ hw)) (fun _ h => h) hfin (ht1 y hk) hn1 hn2 hlen hd key
theorem zs_ald (C0 : zCtx p s m args c own cc nL a adV kI kC dC dI A Ts) (hgo : zGS p l e R s m args below meth c cells slots Q a kI kC dC dI A nL go out) {pc nx y : Nat} {L : List (Nat × zV)} {st : List zV} {σ : zS} {ls : Array Slot} {H : Heap} {locs : List Loc}
    (hd : (y = 0 ∧ decode cc pc = .ok (.iaload, 1)) ∨ (y = 1 ∧ decode cc pc = .ok (.caload, 1))) (hnx : zpc nx = pc + 1)
    (hs : (match st with
      | .inl i :: .inr (.inr j) :: r => match zarr j y with
        | some n => if i < 0 ∨ n ≤ i.toNatClampNeg then none else go nx L (.inl (σ j i.toNatClampNeg) :: r) σ
        | none => none
      | _ => none) = some out) (hl : lv_has ls nL (zLd a L)) (hP : va_P (dC, dI) vwCl (zWS a kI kC σ) H) (hS : va_S A s.heap H locs) : W p l e R s m args below meth c H locs cells slots Q (F0 m pc ls (st.map (zden a))) := by
  obtain ⟨hx, hb, hml, hown, hts, hTs, hK, hX, hinj, hA⟩ := C0
  split at hs
  · next i j r =>
    split at hs
    · next n hn =>
      split at hs
      · cases hs
      · next hin =>
        have hi := zarr_spec hn
        have he := zWS_get (a := a) (kI := kI) (kC := kC) (σ := σ) hi
        have k1 := hgo _ _ _ _ _ _ _ hs hl hP hS
        rw [hnx] at k1
        rcases hd with ⟨rfl, hd⟩ | ⟨rfl, hd⟩
        · exact va_iald (D := (dC, dI)) (cl := vwCl) hx hb hK hP j 0 he rfl hin hd k1
        · exact va_cald (D := (dC, dI)) (cl := vwCl) hx hb hK hP j 1 he rfl hin hd k1
    · cases hs
  · cases hs
theorem zs_ast (C0 : zCtx p s m args c own cc nL a adV kI kC dC dI A Ts) (hgo : zGS p l e R s m args below meth c cells slots Q a kI kC dC dI A nL go out) {pc nx y : Nat} {L : List (Nat × zV)} {st : List zV} {σ : zS} {ls : Array Slot} {H : Heap} {locs : List Loc}
    (hd : (y = 0 ∧ decode cc pc = .ok (.iastore, 1)) ∨ (y = 1 ∧ decode cc pc = .ok (.castore, 1))) (hnx : zpc nx = pc + 1)
    (hs : (match st with
      | .inl v :: .inl i :: .inr (.inr j) :: r => match zarr j y with
        | some n => if i < 0 ∨ n ≤ i.toNatClampNeg then none else go nx L r (zset σ j (upd (σ j) i.toNatClampNeg (if y = 1 then vp_nar .char v else v)))
        | none => none
      | _ => none) = some out) (hl : lv_has ls nL (zLd a L)) (hP : va_P (dC, dI) vwCl (zWS a kI kC σ) H) (hS : va_S A s.heap H locs) : W p l e R s m args below meth c H locs cells slots Q (F0 m pc ls (st.map (zden a))) := by
  obtain ⟨hx, hb, hml, hown, hts, hTs, hK, hX, hinj, hA⟩ := C0
  split at hs
  · next v i j r =>
    split at hs
    · next n hn =>
      split at hs
      · cases hs
      · next hin =>
        have hi := zarr_spec hn
        have he := zWS_get (a := a) (kI := kI) (kC := kC) (σ := σ) hi
        have hD : va_D A (zWS a kI kC σ) := zD hinj (fun j h => hA _ ⟨j, h, rfl⟩) σ
        have key : ∀ (f : Nat → Int32), go nx L r (zset σ j f) = some out → ∀ (H1 : Heap) (locs1 : List Loc), va_P (dC, dI) vwCl ((zWS a kI kC σ).set j (a j, zcell a kI kC f (.inr (y, n)))) H1 → va_S A s.heap H1 locs1 → W p l e R s m args below meth c H1 locs1 cells slots Q (F0 m (pc + 1) ls (r.map (zden a))) := by
          intro f hs H1 locs1 hP1 hS1
          rw [zWS_set hi] at hP1
          have k1 := hgo _ _ _ _ _ _ _ hs hl hP1 hS1
          rw [hnx] at k1
          exact k1
        rcases hd with ⟨rfl, hd⟩ | ⟨rfl, hd⟩
        · exact va_iast (D := (dC, dI)) (cl := vwCl) hx hb hK hP hD hS j 0 he rfl hin hd (fun H1 locs1 hP1 _ hS1 => key _ hs H1 locs1 hP1 hS1)
        · exact va_cast (D := (dC, dI)) (cl := vwCl) hx hb hK hP hD hS j 1 he rfl hin hd (fun H1 locs1 hP1 _ hS1 => key _ hs H1 locs1 hP1 hS1)
    · cases hs
  · cases hs
end
