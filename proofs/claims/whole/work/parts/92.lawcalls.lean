-- the law's calls and reads
def zLA (s : State) : Nat → Prop := fun q => s.heap.size ≤ q
/-- what stands around the law's loop -/
def zLx (p : Program) (s : State) (m : MethodId) (c : Code) (b L : Nat) (xs : Nat → Int32) (a adV : Nat → Nat) (kI kC kL : ClassId) (dC : Nat → ClassId) (dI : Nat → Nat → Nat) (ao : Nat) : Prop :=
  p.tables.exec = Jvm.exec ∧ c.code = code ∧ c.maxLocals = 7 ∧ s.vm.findClass RL = some m.cls ∧ (∀ w ∈ zTB, w.before #[Value.ref b] s = true) ∧ va_K (dC, dI) vwCl (ztys kI kC) s ∧ va_K (dC, dI) vwCl [(kL, .long)] s ∧ zX a adV (zLA s) s s.heap ∧ zTX a (zLA s) s s.heap ∧
  (∀ i j, i < zIMG.length → j < zIMG.length → a i = a j → i = j) ∧ (∀ q, zA a q → zLA s q) ∧ ¬ zA a ao ∧ zLA s ao ∧ va_X b L xs s s.heap ∧ b < s.heap.size
section
variable {p : Program} {l : Launch} {e : Env} {s : State} {m : MethodId} {below : List Frame} {meth : Method} {c : Code} {b L : Nat} {xs : Nat → Int32} {H : Heap} {locs : List Loc} {cells slots : Nat} {Q : State → Prop}
variable {a adV : Nat → Nat} {kI kC kL : ClassId} {dC : Nat → ClassId} {dI : Nat → Nat → Nat} {ao : Nat} {f : Nat → Int64} {σ : zS} {ls : Array Slot} {rest : List Value} {pc : Nat}
theorem zO_kept {D : va_G} {H1 : Heap} (hO : va_P D vwCl (zO9 ao kL f) H) (hk : H1[ao]? = H[ao]?) : va_P D vwCl (zO9 ao kL f) H1 := hO.kept (fun k x hx => by
  cases k with
  | zero => cases hx; exact hk
  | succ k => cases hx)
/-- a method of the class, or of the reference, called by the law -/
theorem zLcall (C0 : zLx p s m c b L xs a adV kI kC kL dC dI ao) {mi j ci idx : Nat} {as : List zV} {fl : List (Option Nat)} {r : zR} {T : u_T} {N : Nat} {C : String} {y : MethodName} {n : Nat} {rt : Option FieldType} {tab : List (Nat × zO)} {cut : List (Nat × List Nat)} {i : Nat} {bc : ByteArray} {st : List Value}
    (hM : zM 1000 mi (.inr (.inr j) :: as) σ = some r) (hr2 : r.1 < 2) (hmt : zMT[mi]? = some ((C, y, n, rt, tab, cut), i)) (hcode : lw_tbl[i]? = some (.code y bc n rt)) (hi : zIMG[j]? = some (.inl (ci, fl))) (hcl : vwCl[ci]? = some (C, T, N))
    (w1 : Cond.methodLink RL idx y ∈ zTB) (w2 : Cond.instanceMethod y ∈ zTB) (w3 : Cond.selects C y y ∈ zTB) (w4 : Cond.initialized y.cls ∈ zTB) (hpar : y.cls ≠ "java/lang/invoke/MethodHandle" ∧ y.cls ≠ "java/lang/invoke/VarHandle" ∧ (parseMethodDescriptor y.desc).map (fun d => d.parameters.length) = some as.length)
    (hd : decode code pc = .ok (.invokevirtual idx, 3)) (hst : st = (as.map (zden a)).reverse ++ .ref (a j) :: rest) (hrest : (rest.map fun v => v.category).sum ≤ 8) (hls : ls.size = 7) (hroom : cells ≤ 601024 ∧ slots ≤ 7293034)
    (hP : va_P (dC, dI) vwCl (zWS a kI kC σ) H) (hO : va_P (dC, dI) vwCl (zO9 ao kL f) H) (hS : va_S (zLA s) s.heap H locs)
    (kk : ∀ (H1 : Heap) (locs1 : List Loc), va_P (dC, dI) vwCl (zWS a kI kC r.2.2) H1 → va_P (dC, dI) vwCl (zO9 ao kL f) H1 → va_S (zLA s) s.heap H1 locs1 → W p l e room_1 s m #[Value.ref b] below meth c H1 locs1 cells slots Q (F0 m (pc + 3) ls ((zrv r).toList ++ rest))) :
    W p l e room_1 s m #[Value.ref b] below meth c H locs cells slots Q (F0 m pc ls st) := by
  obtain ⟨hx, hb, hml, hown, htb, hK, hKL, hX, hT, hinj, hA, hao, hAo, hXs, hbl⟩ := C0
  obtain ⟨rm, hrc, hrs, hrf, hrl, hMet⟩ := zM_sound l a adV kI kC dC dI hinj (zStr_all l a adV kI kC dC dI) 1000 mi _ σ r hM hr2 room_1 (Nat.le_of_ble_eq_true rfl) (Nat.le_of_ble_eq_true rfl) C y n rt tab cut i bc hmt hcode
  have he := zWS_get (a := a) (kI := kI) (kC := kC) (σ := σ) hi
  have hcw : CallW room_1 s #[Value.ref b] RL C idx y bc n rt (zws y bc n rt) rm 0 0 as.length :=
    ⟨callB_of as.length htb (zGood (fun _ h => h) hcode) rfl hrc hrs (htb _ w4) (htb _ w1) hpar ⟨hrf, hrl⟩, htb _ w2, htb _ w3⟩
  have hlt : ao < H.size := (hO 0 _ rfl).lt
  subst hst
  have hrun := va_runV (cells := cells) (slots := slots) (below := below) (meth := meth) (locs := locs) (e := e) (l := l) (As := as.map (zden a)) (rest := rest) (b := a j) (g := F0 m pc ls ((as.map (zden a)).reverse ++ .ref (a j) :: rest)) (H := H) ⟨hx, hb, hml, hown, htb⟩ hMet hcw
    ⟨zblind, va_recv hK hP hcl he, fun U hU hW => ⟨rfl, zPre_at hK hX hA hP hS hU hW⟩⟩ rfl (by simp) hls rfl (lv_room hrest) hd ⟨hroom.1, hroom.2⟩
  intro T' hT' X
  obtain ⟨v, st₀, t, T1, L1, h0, X', hL, e1, e2, ⟨hv, hp, hz, hk⟩, stp⟩ := hrun T' hT' X
  cases hv
  rw [h0] at hz hk
  obtain ⟨t2, a1, b1⟩ := kk T1.heap (locs ++ L1) (by rw [e1]; exact hp) (zO_kept hO (by rw [e1]; exact hk ao hlt hao))
    ⟨Nat.le_trans hS.1 (by rw [e1]; exact hz), fun q h1 h2 => by rw [e1, hk q (Nat.lt_of_lt_of_le h1 hS.1) (fun z => h2 (hA q z))]; exact hS.2.1 q h1 h2, fun q hq => by
      rcases List.mem_append.mp hq with h | h
      · exact hS.2.2 q h
      · exact hA _ (hL q h)⟩ T1 rfl X'
  exact ⟨t2, stp t2 a1, b1⟩
/-- one of the law's own methods that catch -/
theorem zLwrap (C0 : zLx p s m c b L xs a adV kI kC kL dC dI ao) {idx i n np : Nat} {y : MethodName} {bc : ByteArray} {hh : List (Nat × Nat × Nat × Nat)} {As st : List Value} {r : zR}
    (hMet : Met l y (.codeWith y bc n (some .int) hh :: zTB) { frames := 1100, cells := 1, slots := 6, locals := 42000 } (va_Pc As (zPw a adV kI kC kL dC dI ao f σ)) (zQw a kI kC kL dC dI ao f r) 1 6 (fun q => zA a q ∨ q = ao))
    (w0 : Cond.codeWith y bc n (some .int) hh ∈ zTB) (w1 : Cond.methodLink RL idx y ∈ zTB) (w2 : Cond.static y ∈ zTB) (w4 : Cond.initialized y.cls ∈ zTB) (hn20 : n ≤ 20) (hpar : y.cls ≠ "java/lang/invoke/MethodHandle" ∧ y.cls ≠ "java/lang/invoke/VarHandle" ∧ (parseMethodDescriptor y.desc).map (fun d => d.parameters.length) = some np) (hnp : As.length = np)
    (hd : decode code pc = .ok (.invokestatic idx, 3)) (hst : st = As.reverse ++ rest) (hrest : (rest.map fun v => v.category).sum ≤ 8) (hls : ls.size = 7) (hroom : cells + 1 ≤ 601024 ∧ slots + 6 ≤ 7293034)
    (hP : va_P (dC, dI) vwCl (zWS a kI kC σ) H) (hO : va_P (dC, dI) vwCl (zO9 ao kL f) H) (hS : va_S (zLA s) s.heap H locs)
    (kk : ∀ (H1 : Heap) (locs1 : List Loc), va_P (dC, dI) vwCl (zWS a kI kC r.2.2) H1 → va_P (dC, dI) vwCl (zO9 ao kL (if r.1 = 2 then f else vp_updL f 0 r.2.1.toInt64)) H1 → va_S (zLA s) s.heap H1 locs1 → W p l e room_1 s m #[Value.ref b] below meth c H1 locs1 (cells + 1) (slots + 6) Q (F0 m (pc + 3) ls (.int (if r.1 = 2 then 1 else 0) :: rest))) :
    W p l e room_1 s m #[Value.ref b] below meth c H locs cells slots Q (F0 m pc ls st) := by
  obtain ⟨hx, hb, hml, hown, htb, hK, hKL, hX, hT, hinj, hA, hao, hAo, hXs, hbl⟩ := C0
  have hG : GoodIn zTB (.codeWith y bc n (some .int) hh :: zTB) := fun w hw => by
    rcases List.mem_cons.mp hw with rfl | hw
    · exact ⟨w0, zTB_good w0⟩
    · exact ⟨hw, zTB_good hw⟩
  have hcw : vx_CSW room_1 s #[Value.ref b] RL idx y bc n (some .int) hh (.codeWith y bc n (some .int) hh :: zTB) { frames := 1100, cells := 1, slots := 6, locals := 42000 } 1 6 np :=
    ⟨⟨rfl, rfl, Nat.le_of_ble_eq_true rfl, by show 8 + (n + 11) + 42000 ≤ 84000; omega, pay_in htb hG, List.mem_cons_self⟩, htb _ w0, htb _ w4, ⟨hpar.1, hpar.2.1⟩, fun sig h => by
      have h2 := hpar.2.2
      rw [h] at h2
      exact (Option.some.inj h2).symm, htb _ w1, htb _ w2⟩
  subst hst
  have hA2 : ∀ q, (zA a q ∨ q = ao) → zLA s q := fun q h => h.elim (hA q) (fun h => by rw [h]; exact hAo)
  have hrun := vx_runSW (cells := cells) (slots := slots) (below := below) (meth := meth) (locs := locs) (e := e) (l := l) (As := As) (rest := rest) (g := F0 m pc ls (As.reverse ++ rest)) (H := H) ⟨hx, hb, hml, hown, htb⟩ hMet hcw
    ⟨zblindW, fun U hU hW => ⟨rfl, ⟨zPre_at hK hX hA hP hS hU hW, by rw [hU]; exact hT.moved hW hS.2.1 hA⟩, va_K.moved hW.alike hKL, by rw [hU]; exact hO⟩⟩ rfl hnp hls rfl (lv_room hrest) hd ⟨hroom.1, hroom.2⟩
  intro T' hT' X
  obtain ⟨v, st₀, t, T1, L1, h0, X', hL, e1, e2, ⟨hv, hp, ho, hz, hk⟩, stp⟩ := hrun T' hT' X
  cases hv
  rw [h0] at hz hk
  obtain ⟨t2, a1, b1⟩ := kk T1.heap (locs ++ L1) (by rw [e1]; exact hp) (by rw [e1]; exact ho)
    ⟨Nat.le_trans hS.1 (by rw [e1]; exact hz), fun q h1 h2 => by rw [e1, hk q (Nat.lt_of_lt_of_le h1 hS.1) (fun z => h2 (hA2 q z))]; exact hS.2.1 q h1 h2, fun q hq => by
      rcases List.mem_append.mp hq with h | h
      · exact hS.2.2 q h
      · exact hA2 _ (hL q h)⟩ T1 rfl X'
  exact ⟨t2, stp t2 a1, b1⟩
/-- an int of the script -/
theorem zLrd (C0 : zLx p s m c b L xs a adV kI kC kL dC dI ao) (j k : Nat) {n9 : Int} {v9 : Int32} (hL : L ≤ 2048) (hlt : 4 * j + k < L) {lv : List (Nat × Value)} {p0 p4 : Nat} (hl : lv_has ls 7 lv) (h0 : lv[p0]? = some (0, .ref b)) (h4 : lv[p4]? = some (4, .int (nI (4 * j))))
    (d0 : decode code pc = .ok (.aload_n 0, 1)) (d1 : decode code (pc + 1) = .ok (.iload 4, 2)) (d3 : decode code (pc + 3) = .ok (.iconst n9, 1)) (d4 : decode code (pc + 4) = .ok (.iadd, 1)) (d5 : decode code (pc + 5) = .ok (.iaload, 1)) (hv : Int32.ofInt n9 = v9) (hk : v9 = nI k)
    (hS : va_S (zLA s) s.heap H locs) (kk : W p l e room_1 s m #[Value.ref b] below meth c H locs cells slots Q (F0 m (pc + 6) ls (.int (xs (4 * j + k)) :: rest))) : W p l e room_1 s m #[Value.ref b] below meth c H locs cells slots Q (F0 m pc ls rest) := by
  obtain ⟨hx, hb, hml, hown, htb, hK, hKL, hX, hT, hinj, hA, hao, hAo, hXs, hbl⟩ := C0
  refine lv_aload_n hx hb d0 rfl (lv_at hl p0 h0) ?_
  refine lv_iload hx hb d1 (lv_at hl p4 h4) ?_
  refine lv_iconst (v := v9) hx hb d3 hv ?_
  refine lv_iadd hx hb d4 ?_
  rw [hk, nI_add]
  refine va_sld hx hb hXs hbl (Nat.not_le.mpr hbl) hS (vp_in_nI hlt (by omega)) d5 ?_
  rw [nI_clamp (by omega)]
  exact kk
end
