-- the law's own methods that catch
/-- the cell that answers are laid into -/
def zO9 (ao : Nat) (kL : ClassId) (f : Nat → Int64) : va_W := [(ao, .inl (kL, 1, .inr (.inl f)))]
theorem zP_cons {D : va_G} {cl : List vw_C} {x : Nat × va_E} {ws : va_W} {H : Heap} (h1 : va_P D cl [x] H) (h2 : va_P D cl ws H) : va_P D cl (x :: ws) H := by
  intro k q hk
  cases k with
  | zero => exact h1 0 q hk
  | succ k => exact h2 k q hk
theorem zP_tail {D : va_G} {cl : List vw_C} {x : Nat × va_E} {ws : va_W} {H : Heap} (h : va_P D cl (x :: ws) H) : va_P D cl [x] H ∧ va_P D cl ws H := by
  refine ⟨fun k q hk => ?_, fun k q hk => h (k + 1) q hk⟩
  cases k with
  | zero => exact h 0 q hk
  | succ k => cases hk
theorem zDO {a : Nat → Nat} {kI kC : ClassId} {A : Nat → Prop} (hinj : ∀ i j, i < zIMG.length → j < zIMG.length → a i = a j → i = j) (hA : ∀ q, zA a q → A q) {ao : Nat} (hao : ¬ zA a ao) (hAo : A ao) (e : va_E) (σ : zS) : va_D A ((ao, e) :: zWS a kI kC σ) := by
  have hD := zD (kI := kI) (kC := kC) (A := A) hinj (fun j h => hA _ ⟨j, h, rfl⟩) σ
  have key : ∀ (k : Nat) (q : Nat × va_E), (zWS a kI kC σ)[k]? = some q → zA a q.1 := fun k q hq => by
    obtain ⟨x, hx, rfl⟩ := zWS_some hq
    exact ⟨k, (List.getElem?_eq_some_iff.mp hx).1, rfl⟩
  refine ⟨fun i j p q hp hq he => ?_, fun k q hq => ?_⟩
  · cases i with
    | zero =>
      cases j with
      | zero => rfl
      | succ j => cases hp; exact absurd (by have h9 := key j q hq; rw [← he] at h9; exact h9) hao
    | succ i =>
      cases j with
      | zero => cases hq; exact absurd (by have h9 := key i p hp; rw [he] at h9; exact h9) hao
      | succ j => rw [hD.1 i j p q hp hq he]
  · cases k with
    | zero => cases hq; exact hAo
    | succ k => exact hD.2 k q hq
/-- where such a method has returned -/
def zQw (a : Nat → Nat) (kI kC kL : ClassId) (dC : Nat → ClassId) (dI : Nat → Nat → Nat) (ao : Nat) (f : Nat → Int64) (r : zR) : Array Value → State → Outcome → State → Prop := fun _ st o t =>
  o = .returned (some (.int (if r.1 = 2 then 1 else 0))) ∧ va_P (dC, dI) vwCl (zWS a kI kC r.2.2) t.heap ∧ va_P (dC, dI) vwCl (zO9 ao kL (if r.1 = 2 then f else vp_updL f 0 r.2.1.toInt64)) t.heap ∧ va_F (fun q => zA a q ∨ q = ao) st t
/-- where it begins -/
def zPw (a adV : Nat → Nat) (kI kC kL : ClassId) (dC : Nat → ClassId) (dI : Nat → Nat → Nat) (ao : Nat) (f : Nat → Int64) (σ : zS) (U : State) : Prop :=
  (zPre a adV kI kC dC dI σ U ∧ zTX a (zA a) U U.heap) ∧ va_K (dC, dI) vwCl [(kL, .long)] U ∧ va_P (dC, dI) vwCl (zO9 ao kL f) U.heap
theorem zblindW {a adV : Nat → Nat} {kI kC kL : ClassId} {dC : Nat → ClassId} {dI : Nat → Nat → Nat} {ao : Nat} {f : Nat → Int64} {σ : zS} {av : List Value} : FrameBlind (va_Pc av (zPw a adV kI kC kL dC dI ao f σ)) := by
  intro A U g mk h
  obtain ⟨h1, h2, h3, h4⟩ := h
  obtain ⟨-, h2⟩ := zblindX (av := av) A U g mk ⟨h1, h2⟩
  exact ⟨h1, h2, va_K.moved (u := U) (U := U.calling g mk A) (Vm.Alike.refl U.vm) h3, h4⟩
theorem dL_program_0 : decode cL_program 0 = .ok (.aload_n 1, 1) := by decide +kernel
theorem dL_program_1 : decode cL_program 1 = .ok (.iconst 0, 1) := by decide +kernel
theorem dL_program_2 : decode cL_program 2 = .ok (.aload_n 0, 1) := by decide +kernel
theorem dL_program_3 : decode cL_program 3 = .ok (.invokevirtual 7, 3) := by decide +kernel
theorem dL_program_6 : decode cL_program 6 = .ok (.i2l, 1) := by decide +kernel
theorem dL_program_7 : decode cL_program 7 = .ok (.lastore, 1) := by decide +kernel
theorem dL_program_8 : decode cL_program 8 = .ok (.goto 6, 3) := by decide +kernel
theorem dL_program_11 : decode cL_program 11 = .ok (.astore_n 2, 1) := by decide +kernel
theorem dL_program_12 : decode cL_program 12 = .ok (.iconst 1, 1) := by decide +kernel
theorem dL_program_13 : decode cL_program 13 = .ok (.ireturn, 1) := by decide +kernel
theorem dL_program_14 : decode cL_program 14 = .ok (.iconst 0, 1) := by decide +kernel
theorem dL_program_15 : decode cL_program 15 = .ok (.ireturn, 1) := by decide +kernel
set_option maxRecDepth 100000 in
theorem kwL_program : zin 431 (.methodLink RL 7 yX7_program) = true ∧ zin 432 (.instanceMethod yX7_program) = true ∧ zin 433 (.selects RX7 yX7_program yX7_program) = true ∧ zin 77 (.initialized RX7) = true ∧ zin 430 (.classLink RL 13 "java/lang/IllegalArgumentException") = true := by decide +kernel
set_option maxRecDepth 100000 in
theorem zcX7_program : lw_tbl[434]? = some (.code yX7_program cX7_program 1 (some .int)) := rfl
set_option maxHeartbeats 4000000 in
set_option maxRecDepth 100000 in
theorem cL_program_ok (l : Launch) (hst : l.stackTraces = false) (a adV : Nat → Nat) (kI kC kL : ClassId) (dC : Nat → ClassId) (dI : Nat → Nat → Nat) (hinj : ∀ i j, i < zIMG.length → j < zIMG.length → a i = a j → i = j) (ao : Nat) (f : Nat → Int64) (hao : ¬ zA a ao) {σ : zS} {r : zR} (hM : zM 1000 mX7_program [.inr (.inr 0)] σ = some r) :
    Met l yL_program (.codeWith yL_program cL_program 3 (some .int) [(0, 8, 11, 13)] :: zTB) { frames := 1100, cells := 1, slots := 6, locals := 42000 } (va_Pc [.ref (a 0), .ref ao] (zPw a adV kI kC kL dC dI ao f σ)) (zQw a kI kC kL dC dI ao f r) 1 6 (fun q => zA a q ∨ q = ao) := by
  refine va_MetW (cc := cL_program) (maxL := 3) (ret := some .int) (hh := [(0, 8, 11, 13)]) (by decide) rfl ?_
  intro p e s m args below meth c s₁ B hml hv
  obtain ⟨rfl, ⟨⟨hP, hK, hX⟩, hT⟩, hKL, hO⟩ := hv
  have hx := B.exec
  have hb := B.bytes
  have hr := B.returns
  have hts := atoms_spec (ws := (.codeWith yL_program cL_program 3 (some .int) [(0, 8, 11, 13)] :: zTB)) B.pre
  have htb : ∀ w ∈ zTB, w.before ([.ref (a 0), .ref ao] : List Value).toArray s = true := fun w h => hts w (List.mem_cons_of_mem _ h)
  have hown : s.vm.findClass RL = some m.cls := findClass_of_methodNamed B.named
  have hlocks := B.notSynchronized
  have htab : c.exceptionTable.toList = [⟨0, 8, 11, 13⟩] := vx_table (x := yL_program) B (hts _ List.mem_cons_self)
  obtain ⟨w0, w1, w2, w3, w4⟩ := kwL_program
  have hA : ∀ q, zA a q → (fun q => zA a q ∨ q = ao) q := fun q h => Or.inl h
  have hS : va_S (fun q => zA a q ∨ q = ao) s.heap s.heap [] := va_S.rf
  have hS0 : va_S (zA a) s.heap s.heap [] := va_S.rf
  have hlt : ao < s.heap.size := (hO 0 _ rfl).lt
  have hl := lv_entry ([.ref (a 0), .ref ao]) (n := 3) (Nat.le_of_ble_eq_true rfl)
  rw [lg_entry_eq]
  generalize (lg_sl ([.ref (a 0), .ref ao]) ++ List.replicate (3 - (lg_sl ([.ref (a 0), .ref ao])).length) Slot.unset).toArray = ls at hl ⊢
  have hl : lv_has ls 3 [(0, .ref (a 0)), (1, .ref ao)] := hl
  refine lv_aload_n hx hb dL_program_0 rfl (lv_at hl 1 rfl) ?_
  refine lv_iconst (v := 0) hx hb dL_program_1 (by decide) ?_
  refine lv_aload_n hx hb dL_program_2 rfl (lv_at hl 0 rfl) ?_
  have hcw : CallW (headSpec (.codeWith yL_program cL_program 3 (some .int) [(0, 8, 11, 13)] :: zTB) { frames := 1100, cells := 1, slots := 6, locals := 42000 }).room s ([.ref (a 0), .ref ao] : List Value).toArray RL RX7 7 yX7_program cX7_program 1 (some .int) (zws yX7_program cX7_program 1 (some .int)) { frames := 999 + 12, cells := 1, slots := 6, locals := 40 * 999 + 400 } 1 6 0 :=
    ⟨callB_of 0 htb (zGood (fun _ h => h) zcX7_program) rfl rfl rfl (htb _ (zin_mem w3)) (htb _ (zin_mem w0)) (by decide +kernel) ⟨Nat.le_of_ble_eq_true rfl, Nat.le_of_ble_eq_true rfl⟩, htb _ (zin_mem w1), htb _ (zin_mem w2)⟩
  have he0 := zWS_get (a := a) (kI := kI) (kC := kC) (σ := σ) (j := 0) rfl
  refine zbackX (A := fun q => zA a q ∨ q = ao) (vx_runV (As := []) (rest := [.int 0, .ref ao]) (b := a 0) ⟨hx, hb, hml, hown, htb⟩ (zMX_sound l a adV kI kC dC dI hinj (cls := "java/lang/IllegalArgumentException") (d := 999) hM zat_X7_program zcX7_program (zThr_program l hst a 1)) hcw ⟨zblindX, va_recv hK hP (ci := 7) rfl he0, fun U hU hW => ⟨rfl, zPre_at hK hX (fun _ h => h) hP hS0 hU hW, by rw [hU]; exact hT.moved hW hS0.2.1 (fun _ h => h)⟩⟩ rfl rfl hl.1 rfl (lv_room (Nat.le_of_ble_eq_true rfl)) dL_program_3 ⟨Nat.le_of_ble_eq_true rfl, Nat.le_of_ble_eq_true rfl⟩) hA hS (fun q9 ce H1 locs1 hr2 hP1 hS1 hk1 hce hcv hcl => ?_) (fun H1 locs1 h1 hP1 hS1 hk1 => ?_)
  · have hO1 : va_P (dC, dI) vwCl (zO9 ao kL f) H1 := hO.kept (fun k x hx => by
      cases k with
      | zero => cases hx; exact hk1 ao hlt hao
      | succ k => cases hx)
    refine zcatch (name := "java/lang/IllegalArgumentException") hown ⟨0, 8, 11, 13⟩ htab (by decide) (by decide) (htb _ (zin_mem w4)) (va_Nw.use rfl (hT.2.2.2 _ (List.mem_of_getElem? (i := 0) rfl))) hce hcv hcl ?_
    refine lv_astore_n (lv' := [(2, .ref q9), (0, .ref (a 0)), (1, .ref ao)]) hx hb dL_program_11 rfl hl (by decide) rfl (fun ls hl => ?_)
    refine lv_iconst (v := 1) hx hb dL_program_12 (by decide) ?_
    refine W.widen (k := 1) (n := 6) (Nat.le_of_ble_eq_true rfl) (Nat.le_of_ble_eq_true rfl) ?_
    exact W.iret (v := 1) hx hb hr (fun t ht hW => ⟨by rw [if_pos hr2], by rw [ht]; exact hP1, by rw [ht, if_pos hr2]; exact hO1, hS1.F ht⟩) hS1.2.2 dL_program_13
  · have hO1 : va_P (dC, dI) vwCl (zO9 ao kL f) H1 := hO.kept (fun k x hx => by
      cases k with
      | zero => cases hx; exact hk1 ao hlt hao
      | succ k => cases hx)
    have hn2 : ¬ r.1 = 2 := by rw [h1]; decide
    have e0 : zrv r = some (.int r.2.1) := by rw [zrv, if_neg (by rw [h1]; decide)]
    rw [e0]
    refine lv_i2l (v := r.2.1.toInt64) hx hb dL_program_6 rfl ?_
    have hPj : va_P (dC, dI) vwCl ((ao, .inl (kL, 1, .inr (.inl f))) :: zWS a kI kC r.2.2) H1 := zP_cons hO1 hP1
    have hDj := zDO (kI := kI) (kC := kC) (A := fun q => zA a q ∨ q = ao) hinj hA hao (Or.inr rfl) (.inl (kL, 1, .inr (.inl f))) r.2.2
    refine va_last hx hb hKL hPj hDj hS1 0 0 rfl rfl (vp_in_nI (n := 0) (by decide) (by decide)) dL_program_7 (fun H2 locs2 hP2 hD2 hS2 => ?_)
    have hP2 : va_P (dC, dI) vwCl ((ao, .inl (kL, 1, .inr (.inl (vp_updL f 0 r.2.1.toInt64)))) :: zWS a kI kC r.2.2) H2 := hP2
    refine lv_goto (tgt := 14) hx hb dL_program_8 (by decide) ?_
    refine lv_iconst (v := 0) hx hb dL_program_14 (by decide) ?_
    refine W.widen (k := 1) (n := 6) (Nat.le_of_ble_eq_true rfl) (Nat.le_of_ble_eq_true rfl) ?_
    exact W.iret (v := 0) hx hb hr (fun t ht hW => ⟨by rw [if_neg hn2], by rw [ht]; exact (zP_tail hP2).2, by rw [ht, if_neg hn2]; exact (zP_tail hP2).1, hS2.F ht⟩) hS2.2.2 dL_program_15
theorem dL_decide_0 : decode cL_decide 0 = .ok (.aload_n 2, 1) := by decide +kernel
theorem dL_decide_1 : decode cL_decide 1 = .ok (.iconst 0, 1) := by decide +kernel
theorem dL_decide_2 : decode cL_decide 2 = .ok (.aload_n 0, 1) := by decide +kernel
theorem dL_decide_3 : decode cL_decide 3 = .ok (.iload_n 1, 1) := by decide +kernel
theorem dL_decide_4 : decode cL_decide 4 = .ok (.invokevirtual 15, 3) := by decide +kernel
theorem dL_decide_7 : decode cL_decide 7 = .ok (.i2l, 1) := by decide +kernel
theorem dL_decide_8 : decode cL_decide 8 = .ok (.lastore, 1) := by decide +kernel
theorem dL_decide_9 : decode cL_decide 9 = .ok (.goto 6, 3) := by decide +kernel
theorem dL_decide_12 : decode cL_decide 12 = .ok (.astore_n 3, 1) := by decide +kernel
theorem dL_decide_13 : decode cL_decide 13 = .ok (.iconst 1, 1) := by decide +kernel
theorem dL_decide_14 : decode cL_decide 14 = .ok (.ireturn, 1) := by decide +kernel
theorem dL_decide_15 : decode cL_decide 15 = .ok (.iconst 0, 1) := by decide +kernel
theorem dL_decide_16 : decode cL_decide 16 = .ok (.ireturn, 1) := by decide +kernel
set_option maxRecDepth 100000 in
theorem kwL_decide : zin 806 (.methodLink RL 15 yX7_decide) = true ∧ zin 807 (.instanceMethod yX7_decide) = true ∧ zin 808 (.selects RX7 yX7_decide yX7_decide) = true ∧ zin 77 (.initialized RX7) = true ∧ zin 805 (.classLink RL 19 "java/lang/IllegalStateException") = true := by decide +kernel
set_option maxRecDepth 100000 in
theorem zcX7_decide : lw_tbl[809]? = some (.code yX7_decide cX7_decide 3 (some .int)) := rfl
set_option maxHeartbeats 4000000 in
set_option maxRecDepth 100000 in
theorem cL_decide_ok (l : Launch) (hst : l.stackTraces = false) (a adV : Nat → Nat) (kI kC kL : ClassId) (dC : Nat → ClassId) (dI : Nat → Nat → Nat) (hinj : ∀ i j, i < zIMG.length → j < zIMG.length → a i = a j → i = j) (ao : Nat) (f : Nat → Int64) (hao : ¬ zA a ao) {σ : zS} {r : zR} {x1 : Int32} (hM : zM 1000 mX7_decide [.inr (.inr 0), .inl x1] σ = some r) :
    Met l yL_decide (.codeWith yL_decide cL_decide 4 (some .int) [(0, 9, 12, 19)] :: zTB) { frames := 1100, cells := 1, slots := 6, locals := 42000 } (va_Pc [.ref (a 0), .int x1, .ref ao] (zPw a adV kI kC kL dC dI ao f σ)) (zQw a kI kC kL dC dI ao f r) 1 6 (fun q => zA a q ∨ q = ao) := by
  refine va_MetW (cc := cL_decide) (maxL := 4) (ret := some .int) (hh := [(0, 9, 12, 19)]) (by decide) rfl ?_
  intro p e s m args below meth c s₁ B hml hv
  obtain ⟨rfl, ⟨⟨hP, hK, hX⟩, hT⟩, hKL, hO⟩ := hv
  have hx := B.exec
  have hb := B.bytes
  have hr := B.returns
  have hts := atoms_spec (ws := (.codeWith yL_decide cL_decide 4 (some .int) [(0, 9, 12, 19)] :: zTB)) B.pre
  have htb : ∀ w ∈ zTB, w.before ([.ref (a 0), .int x1, .ref ao] : List Value).toArray s = true := fun w h => hts w (List.mem_cons_of_mem _ h)
  have hown : s.vm.findClass RL = some m.cls := findClass_of_methodNamed B.named
  have hlocks := B.notSynchronized
  have htab : c.exceptionTable.toList = [⟨0, 9, 12, 19⟩] := vx_table (x := yL_decide) B (hts _ List.mem_cons_self)
  obtain ⟨w0, w1, w2, w3, w4⟩ := kwL_decide
  have hA : ∀ q, zA a q → (fun q => zA a q ∨ q = ao) q := fun q h => Or.inl h
  have hS : va_S (fun q => zA a q ∨ q = ao) s.heap s.heap [] := va_S.rf
  have hS0 : va_S (zA a) s.heap s.heap [] := va_S.rf
  have hlt : ao < s.heap.size := (hO 0 _ rfl).lt
  have hl := lv_entry ([.ref (a 0), .int x1, .ref ao]) (n := 4) (Nat.le_of_ble_eq_true rfl)
  rw [lg_entry_eq]
  generalize (lg_sl ([.ref (a 0), .int x1, .ref ao]) ++ List.replicate (4 - (lg_sl ([.ref (a 0), .int x1, .ref ao])).length) Slot.unset).toArray = ls at hl ⊢
  have hl : lv_has ls 4 [(0, .ref (a 0)), (1, .int x1), (2, .ref ao)] := hl
  refine lv_aload_n hx hb dL_decide_0 rfl (lv_at hl 2 rfl) ?_
  refine lv_iconst (v := 0) hx hb dL_decide_1 (by decide) ?_
  refine lv_aload_n hx hb dL_decide_2 rfl (lv_at hl 0 rfl) ?_
  refine lv_iload_n hx hb dL_decide_3 rfl (lv_at hl 1 rfl) ?_
  have hcw : CallW (headSpec (.codeWith yL_decide cL_decide 4 (some .int) [(0, 9, 12, 19)] :: zTB) { frames := 1100, cells := 1, slots := 6, locals := 42000 }).room s ([.ref (a 0), .int x1, .ref ao] : List Value).toArray RL RX7 15 yX7_decide cX7_decide 3 (some .int) (zws yX7_decide cX7_decide 3 (some .int)) { frames := 999 + 12, cells := 1, slots := 6, locals := 40 * 999 + 400 } 1 6 1 :=
    ⟨callB_of 1 htb (zGood (fun _ h => h) zcX7_decide) rfl rfl rfl (htb _ (zin_mem w3)) (htb _ (zin_mem w0)) (by decide +kernel) ⟨Nat.le_of_ble_eq_true rfl, Nat.le_of_ble_eq_true rfl⟩, htb _ (zin_mem w1), htb _ (zin_mem w2)⟩
  have he0 := zWS_get (a := a) (kI := kI) (kC := kC) (σ := σ) (j := 0) rfl
  refine zbackX (A := fun q => zA a q ∨ q = ao) (vx_runV (As := [.int x1]) (rest := [.int 0, .ref ao]) (b := a 0) ⟨hx, hb, hml, hown, htb⟩ (zMX_sound l a adV kI kC dC dI hinj (cls := "java/lang/IllegalStateException") (d := 999) hM zat_X7_decide zcX7_decide (zThr_decide l hst a 3)) hcw ⟨zblindX, va_recv hK hP (ci := 7) rfl he0, fun U hU hW => ⟨rfl, zPre_at hK hX (fun _ h => h) hP hS0 hU hW, by rw [hU]; exact hT.moved hW hS0.2.1 (fun _ h => h)⟩⟩ rfl rfl hl.1 rfl (lv_room (Nat.le_of_ble_eq_true rfl)) dL_decide_4 ⟨Nat.le_of_ble_eq_true rfl, Nat.le_of_ble_eq_true rfl⟩) hA hS (fun q9 ce H1 locs1 hr2 hP1 hS1 hk1 hce hcv hcl => ?_) (fun H1 locs1 h1 hP1 hS1 hk1 => ?_)
  · have hO1 : va_P (dC, dI) vwCl (zO9 ao kL f) H1 := hO.kept (fun k x hx => by
      cases k with
      | zero => cases hx; exact hk1 ao hlt hao
      | succ k => cases hx)
    refine zcatch (name := "java/lang/IllegalStateException") hown ⟨0, 9, 12, 19⟩ htab (by decide) (by decide) (htb _ (zin_mem w4)) (va_Nw.use rfl (hT.2.2.2 _ (List.mem_of_getElem? (i := 1) rfl))) hce hcv hcl ?_
    refine lv_astore_n (lv' := [(3, .ref q9), (0, .ref (a 0)), (1, .int x1), (2, .ref ao)]) hx hb dL_decide_12 rfl hl (by decide) rfl (fun ls hl => ?_)
    refine lv_iconst (v := 1) hx hb dL_decide_13 (by decide) ?_
    refine W.widen (k := 1) (n := 6) (Nat.le_of_ble_eq_true rfl) (Nat.le_of_ble_eq_true rfl) ?_
    exact W.iret (v := 1) hx hb hr (fun t ht hW => ⟨by rw [if_pos hr2], by rw [ht]; exact hP1, by rw [ht, if_pos hr2]; exact hO1, hS1.F ht⟩) hS1.2.2 dL_decide_14
  · have hO1 : va_P (dC, dI) vwCl (zO9 ao kL f) H1 := hO.kept (fun k x hx => by
      cases k with
      | zero => cases hx; exact hk1 ao hlt hao
      | succ k => cases hx)
    have hn2 : ¬ r.1 = 2 := by rw [h1]; decide
    have e0 : zrv r = some (.int r.2.1) := by rw [zrv, if_neg (by rw [h1]; decide)]
    rw [e0]
    refine lv_i2l (v := r.2.1.toInt64) hx hb dL_decide_7 rfl ?_
    have hPj : va_P (dC, dI) vwCl ((ao, .inl (kL, 1, .inr (.inl f))) :: zWS a kI kC r.2.2) H1 := zP_cons hO1 hP1
    have hDj := zDO (kI := kI) (kC := kC) (A := fun q => zA a q ∨ q = ao) hinj hA hao (Or.inr rfl) (.inl (kL, 1, .inr (.inl f))) r.2.2
    refine va_last hx hb hKL hPj hDj hS1 0 0 rfl rfl (vp_in_nI (n := 0) (by decide) (by decide)) dL_decide_8 (fun H2 locs2 hP2 hD2 hS2 => ?_)
    have hP2 : va_P (dC, dI) vwCl ((ao, .inl (kL, 1, .inr (.inl (vp_updL f 0 r.2.1.toInt64)))) :: zWS a kI kC r.2.2) H2 := hP2
    refine lv_goto (tgt := 15) hx hb dL_decide_9 (by decide) ?_
    refine lv_iconst (v := 0) hx hb dL_decide_15 (by decide) ?_
    refine W.widen (k := 1) (n := 6) (Nat.le_of_ble_eq_true rfl) (Nat.le_of_ble_eq_true rfl) ?_
    exact W.iret (v := 0) hx hb hr (fun t ht hW => ⟨by rw [if_neg hn2], by rw [ht]; exact (zP_tail hP2).2, by rw [ht, if_neg hn2]; exact (zP_tail hP2).1, hS2.F ht⟩) hS2.2.2 dL_decide_16
theorem dL_event_0 : decode cL_event 0 = .ok (.aload_n 3, 1) := by decide +kernel
theorem dL_event_1 : decode cL_event 1 = .ok (.iconst 0, 1) := by decide +kernel
theorem dL_event_2 : decode cL_event 2 = .ok (.aload_n 0, 1) := by decide +kernel
theorem dL_event_3 : decode cL_event 3 = .ok (.iload_n 1, 1) := by decide +kernel
theorem dL_event_4 : decode cL_event 4 = .ok (.iload_n 2, 1) := by decide +kernel
theorem dL_event_5 : decode cL_event 5 = .ok (.invokevirtual 21, 3) := by decide +kernel
theorem dL_event_8 : decode cL_event 8 = .ok (.i2l, 1) := by decide +kernel
theorem dL_event_9 : decode cL_event 9 = .ok (.lastore, 1) := by decide +kernel
theorem dL_event_10 : decode cL_event 10 = .ok (.goto 7, 3) := by decide +kernel
theorem dL_event_13 : decode cL_event 13 = .ok (.astore 4, 2) := by decide +kernel
theorem dL_event_15 : decode cL_event 15 = .ok (.iconst 1, 1) := by decide +kernel
theorem dL_event_16 : decode cL_event 16 = .ok (.ireturn, 1) := by decide +kernel
theorem dL_event_17 : decode cL_event 17 = .ok (.iconst 0, 1) := by decide +kernel
theorem dL_event_18 : decode cL_event 18 = .ok (.ireturn, 1) := by decide +kernel
set_option maxRecDepth 100000 in
theorem kwL_event : zin 979 (.methodLink RL 21 yX7_event) = true ∧ zin 980 (.instanceMethod yX7_event) = true ∧ zin 981 (.selects RX7 yX7_event yX7_event) = true ∧ zin 77 (.initialized RX7) = true ∧ zin 978 (.classLink RL 25 "java/util/NoSuchElementException") = true := by decide +kernel
set_option maxRecDepth 100000 in
theorem zcX7_event : lw_tbl[982]? = some (.code yX7_event cX7_event 3 (some .int)) := rfl
set_option maxHeartbeats 4000000 in
set_option maxRecDepth 100000 in
theorem cL_event_ok (l : Launch) (hst : l.stackTraces = false) (a adV : Nat → Nat) (kI kC kL : ClassId) (dC : Nat → ClassId) (dI : Nat → Nat → Nat) (hinj : ∀ i j, i < zIMG.length → j < zIMG.length → a i = a j → i = j) (ao : Nat) (f : Nat → Int64) (hao : ¬ zA a ao) {σ : zS} {r : zR} {x1 : Int32} {x2 : Int32} (hM : zM 1000 mX7_event [.inr (.inr 0), .inl x1, .inl x2] σ = some r) :
    Met l yL_event (.codeWith yL_event cL_event 5 (some .int) [(0, 10, 13, 25)] :: zTB) { frames := 1100, cells := 1, slots := 6, locals := 42000 } (va_Pc [.ref (a 0), .int x1, .int x2, .ref ao] (zPw a adV kI kC kL dC dI ao f σ)) (zQw a kI kC kL dC dI ao f r) 1 6 (fun q => zA a q ∨ q = ao) := by
  refine va_MetW (cc := cL_event) (maxL := 5) (ret := some .int) (hh := [(0, 10, 13, 25)]) (by decide) rfl ?_
  intro p e s m args below meth c s₁ B hml hv
  obtain ⟨rfl, ⟨⟨hP, hK, hX⟩, hT⟩, hKL, hO⟩ := hv
  have hx := B.exec
  have hb := B.bytes
  have hr := B.returns
  have hts := atoms_spec (ws := (.codeWith yL_event cL_event 5 (some .int) [(0, 10, 13, 25)] :: zTB)) B.pre
  have htb : ∀ w ∈ zTB, w.before ([.ref (a 0), .int x1, .int x2, .ref ao] : List Value).toArray s = true := fun w h => hts w (List.mem_cons_of_mem _ h)
  have hown : s.vm.findClass RL = some m.cls := findClass_of_methodNamed B.named
  have hlocks := B.notSynchronized
  have htab : c.exceptionTable.toList = [⟨0, 10, 13, 25⟩] := vx_table (x := yL_event) B (hts _ List.mem_cons_self)
  obtain ⟨w0, w1, w2, w3, w4⟩ := kwL_event
  have hA : ∀ q, zA a q → (fun q => zA a q ∨ q = ao) q := fun q h => Or.inl h
  have hS : va_S (fun q => zA a q ∨ q = ao) s.heap s.heap [] := va_S.rf
  have hS0 : va_S (zA a) s.heap s.heap [] := va_S.rf
  have hlt : ao < s.heap.size := (hO 0 _ rfl).lt
  have hl := lv_entry ([.ref (a 0), .int x1, .int x2, .ref ao]) (n := 5) (Nat.le_of_ble_eq_true rfl)
  rw [lg_entry_eq]
  generalize (lg_sl ([.ref (a 0), .int x1, .int x2, .ref ao]) ++ List.replicate (5 - (lg_sl ([.ref (a 0), .int x1, .int x2, .ref ao])).length) Slot.unset).toArray = ls at hl ⊢
  have hl : lv_has ls 5 [(0, .ref (a 0)), (1, .int x1), (2, .int x2), (3, .ref ao)] := hl
  refine lv_aload_n hx hb dL_event_0 rfl (lv_at hl 3 rfl) ?_
  refine lv_iconst (v := 0) hx hb dL_event_1 (by decide) ?_
  refine lv_aload_n hx hb dL_event_2 rfl (lv_at hl 0 rfl) ?_
  refine lv_iload_n hx hb dL_event_3 rfl (lv_at hl 1 rfl) ?_
  refine lv_iload_n hx hb dL_event_4 rfl (lv_at hl 2 rfl) ?_
  have hcw : CallW (headSpec (.codeWith yL_event cL_event 5 (some .int) [(0, 10, 13, 25)] :: zTB) { frames := 1100, cells := 1, slots := 6, locals := 42000 }).room s ([.ref (a 0), .int x1, .int x2, .ref ao] : List Value).toArray RL RX7 21 yX7_event cX7_event 3 (some .int) (zws yX7_event cX7_event 3 (some .int)) { frames := 999 + 12, cells := 1, slots := 6, locals := 40 * 999 + 400 } 1 6 2 :=
    ⟨callB_of 2 htb (zGood (fun _ h => h) zcX7_event) rfl rfl rfl (htb _ (zin_mem w3)) (htb _ (zin_mem w0)) (by decide +kernel) ⟨Nat.le_of_ble_eq_true rfl, Nat.le_of_ble_eq_true rfl⟩, htb _ (zin_mem w1), htb _ (zin_mem w2)⟩
  have he0 := zWS_get (a := a) (kI := kI) (kC := kC) (σ := σ) (j := 0) rfl
  refine zbackX (A := fun q => zA a q ∨ q = ao) (vx_runV (As := [.int x1, .int x2]) (rest := [.int 0, .ref ao]) (b := a 0) ⟨hx, hb, hml, hown, htb⟩ (zMX_sound l a adV kI kC dC dI hinj (cls := "java/util/NoSuchElementException") (d := 999) hM zat_X7_event zcX7_event (zThr_event l hst a 3)) hcw ⟨zblindX, va_recv hK hP (ci := 7) rfl he0, fun U hU hW => ⟨rfl, zPre_at hK hX (fun _ h => h) hP hS0 hU hW, by rw [hU]; exact hT.moved hW hS0.2.1 (fun _ h => h)⟩⟩ rfl rfl hl.1 rfl (lv_room (Nat.le_of_ble_eq_true rfl)) dL_event_5 ⟨Nat.le_of_ble_eq_true rfl, Nat.le_of_ble_eq_true rfl⟩) hA hS (fun q9 ce H1 locs1 hr2 hP1 hS1 hk1 hce hcv hcl => ?_) (fun H1 locs1 h1 hP1 hS1 hk1 => ?_)
  · have hO1 : va_P (dC, dI) vwCl (zO9 ao kL f) H1 := hO.kept (fun k x hx => by
      cases k with
      | zero => cases hx; exact hk1 ao hlt hao
      | succ k => cases hx)
    refine zcatch (name := "java/util/NoSuchElementException") hown ⟨0, 10, 13, 25⟩ htab (by decide) (by decide) (htb _ (zin_mem w4)) (va_Nw.use rfl (hT.2.2.2 _ (List.mem_of_getElem? (i := 2) rfl))) hce hcv hcl ?_
    refine lv_astore (lv' := [(4, .ref q9), (0, .ref (a 0)), (1, .int x1), (2, .int x2), (3, .ref ao)]) hx hb dL_event_13 hl (by decide) rfl (fun ls hl => ?_)
    refine lv_iconst (v := 1) hx hb dL_event_15 (by decide) ?_
    refine W.widen (k := 1) (n := 6) (Nat.le_of_ble_eq_true rfl) (Nat.le_of_ble_eq_true rfl) ?_
    exact W.iret (v := 1) hx hb hr (fun t ht hW => ⟨by rw [if_pos hr2], by rw [ht]; exact hP1, by rw [ht, if_pos hr2]; exact hO1, hS1.F ht⟩) hS1.2.2 dL_event_16
  · have hO1 : va_P (dC, dI) vwCl (zO9 ao kL f) H1 := hO.kept (fun k x hx => by
      cases k with
      | zero => cases hx; exact hk1 ao hlt hao
      | succ k => cases hx)
    have hn2 : ¬ r.1 = 2 := by rw [h1]; decide
    have e0 : zrv r = some (.int r.2.1) := by rw [zrv, if_neg (by rw [h1]; decide)]
    rw [e0]
    refine lv_i2l (v := r.2.1.toInt64) hx hb dL_event_8 rfl ?_
    have hPj : va_P (dC, dI) vwCl ((ao, .inl (kL, 1, .inr (.inl f))) :: zWS a kI kC r.2.2) H1 := zP_cons hO1 hP1
    have hDj := zDO (kI := kI) (kC := kC) (A := fun q => zA a q ∨ q = ao) hinj hA hao (Or.inr rfl) (.inl (kL, 1, .inr (.inl f))) r.2.2
    refine va_last hx hb hKL hPj hDj hS1 0 0 rfl rfl (vp_in_nI (n := 0) (by decide) (by decide)) dL_event_9 (fun H2 locs2 hP2 hD2 hS2 => ?_)
    have hP2 : va_P (dC, dI) vwCl ((ao, .inl (kL, 1, .inr (.inl (vp_updL f 0 r.2.1.toInt64)))) :: zWS a kI kC r.2.2) H2 := hP2
    refine lv_goto (tgt := 17) hx hb dL_event_10 (by decide) ?_
    refine lv_iconst (v := 0) hx hb dL_event_17 (by decide) ?_
    refine W.widen (k := 1) (n := 6) (Nat.le_of_ble_eq_true rfl) (Nat.le_of_ble_eq_true rfl) ?_
    exact W.iret (v := 0) hx hb hr (fun t ht hW => ⟨by rw [if_neg hn2], by rw [ht]; exact (zP_tail hP2).2, by rw [ht, if_neg hn2]; exact (zP_tail hP2).1, hS2.F ht⟩) hS2.2.2 dL_event_18
theorem dL_register_0 : decode cL_register 0 = .ok (.aload_n 2, 1) := by decide +kernel
theorem dL_register_1 : decode cL_register 1 = .ok (.iconst 0, 1) := by decide +kernel
theorem dL_register_2 : decode cL_register 2 = .ok (.aload_n 0, 1) := by decide +kernel
theorem dL_register_3 : decode cL_register 3 = .ok (.iload_n 1, 1) := by decide +kernel
theorem dL_register_4 : decode cL_register 4 = .ok (.invokevirtual 27, 3) := by decide +kernel
theorem dL_register_7 : decode cL_register 7 = .ok (.i2l, 1) := by decide +kernel
theorem dL_register_8 : decode cL_register 8 = .ok (.lastore, 1) := by decide +kernel
theorem dL_register_9 : decode cL_register 9 = .ok (.goto 6, 3) := by decide +kernel
theorem dL_register_12 : decode cL_register 12 = .ok (.astore_n 3, 1) := by decide +kernel
theorem dL_register_13 : decode cL_register 13 = .ok (.iconst 1, 1) := by decide +kernel
theorem dL_register_14 : decode cL_register 14 = .ok (.ireturn, 1) := by decide +kernel
theorem dL_register_15 : decode cL_register 15 = .ok (.iconst 0, 1) := by decide +kernel
theorem dL_register_16 : decode cL_register 16 = .ok (.ireturn, 1) := by decide +kernel
set_option maxRecDepth 100000 in
theorem kwL_register : zin 1009 (.methodLink RL 27 yX7_register) = true ∧ zin 1010 (.instanceMethod yX7_register) = true ∧ zin 1011 (.selects RX7 yX7_register yX7_register) = true ∧ zin 77 (.initialized RX7) = true ∧ zin 978 (.classLink RL 25 "java/util/NoSuchElementException") = true := by decide +kernel
set_option maxRecDepth 100000 in
theorem zcX7_register : lw_tbl[1012]? = some (.code yX7_register cX7_register 2 (some .int)) := rfl
set_option maxHeartbeats 4000000 in
set_option maxRecDepth 100000 in
theorem cL_register_ok (l : Launch) (hst : l.stackTraces = false) (a adV : Nat → Nat) (kI kC kL : ClassId) (dC : Nat → ClassId) (dI : Nat → Nat → Nat) (hinj : ∀ i j, i < zIMG.length → j < zIMG.length → a i = a j → i = j) (ao : Nat) (f : Nat → Int64) (hao : ¬ zA a ao) {σ : zS} {r : zR} {x1 : Int32} (hM : zM 1000 mX7_register [.inr (.inr 0), .inl x1] σ = some r) :
    Met l yL_register (.codeWith yL_register cL_register 4 (some .int) [(0, 9, 12, 25)] :: zTB) { frames := 1100, cells := 1, slots := 6, locals := 42000 } (va_Pc [.ref (a 0), .int x1, .ref ao] (zPw a adV kI kC kL dC dI ao f σ)) (zQw a kI kC kL dC dI ao f r) 1 6 (fun q => zA a q ∨ q = ao) := by
  refine va_MetW (cc := cL_register) (maxL := 4) (ret := some .int) (hh := [(0, 9, 12, 25)]) (by decide) rfl ?_
  intro p e s m args below meth c s₁ B hml hv
  obtain ⟨rfl, ⟨⟨hP, hK, hX⟩, hT⟩, hKL, hO⟩ := hv
  have hx := B.exec
  have hb := B.bytes
  have hr := B.returns
  have hts := atoms_spec (ws := (.codeWith yL_register cL_register 4 (some .int) [(0, 9, 12, 25)] :: zTB)) B.pre
  have htb : ∀ w ∈ zTB, w.before ([.ref (a 0), .int x1, .ref ao] : List Value).toArray s = true := fun w h => hts w (List.mem_cons_of_mem _ h)
  have hown : s.vm.findClass RL = some m.cls := findClass_of_methodNamed B.named
  have hlocks := B.notSynchronized
  have htab : c.exceptionTable.toList = [⟨0, 9, 12, 25⟩] := vx_table (x := yL_register) B (hts _ List.mem_cons_self)
  obtain ⟨w0, w1, w2, w3, w4⟩ := kwL_register
  have hA : ∀ q, zA a q → (fun q => zA a q ∨ q = ao) q := fun q h => Or.inl h
  have hS : va_S (fun q => zA a q ∨ q = ao) s.heap s.heap [] := va_S.rf
  have hS0 : va_S (zA a) s.heap s.heap [] := va_S.rf
  have hlt : ao < s.heap.size := (hO 0 _ rfl).lt
  have hl := lv_entry ([.ref (a 0), .int x1, .ref ao]) (n := 4) (Nat.le_of_ble_eq_true rfl)
  rw [lg_entry_eq]
  generalize (lg_sl ([.ref (a 0), .int x1, .ref ao]) ++ List.replicate (4 - (lg_sl ([.ref (a 0), .int x1, .ref ao])).length) Slot.unset).toArray = ls at hl ⊢
  have hl : lv_has ls 4 [(0, .ref (a 0)), (1, .int x1), (2, .ref ao)] := hl
  refine lv_aload_n hx hb dL_register_0 rfl (lv_at hl 2 rfl) ?_
  refine lv_iconst (v := 0) hx hb dL_register_1 (by decide) ?_
  refine lv_aload_n hx hb dL_register_2 rfl (lv_at hl 0 rfl) ?_
  refine lv_iload_n hx hb dL_register_3 rfl (lv_at hl 1 rfl) ?_
  have hcw : CallW (headSpec (.codeWith yL_register cL_register 4 (some .int) [(0, 9, 12, 25)] :: zTB) { frames := 1100, cells := 1, slots := 6, locals := 42000 }).room s ([.ref (a 0), .int x1, .ref ao] : List Value).toArray RL RX7 27 yX7_register cX7_register 2 (some .int) (zws yX7_register cX7_register 2 (some .int)) { frames := 999 + 12, cells := 1, slots := 6, locals := 40 * 999 + 400 } 1 6 1 :=
    ⟨callB_of 1 htb (zGood (fun _ h => h) zcX7_register) rfl rfl rfl (htb _ (zin_mem w3)) (htb _ (zin_mem w0)) (by decide +kernel) ⟨Nat.le_of_ble_eq_true rfl, Nat.le_of_ble_eq_true rfl⟩, htb _ (zin_mem w1), htb _ (zin_mem w2)⟩
  have he0 := zWS_get (a := a) (kI := kI) (kC := kC) (σ := σ) (j := 0) rfl
  refine zbackX (A := fun q => zA a q ∨ q = ao) (vx_runV (As := [.int x1]) (rest := [.int 0, .ref ao]) (b := a 0) ⟨hx, hb, hml, hown, htb⟩ (zMX_sound l a adV kI kC dC dI hinj (cls := "java/util/NoSuchElementException") (d := 999) hM zat_X7_register zcX7_register (zThr_register l hst a 2)) hcw ⟨zblindX, va_recv hK hP (ci := 7) rfl he0, fun U hU hW => ⟨rfl, zPre_at hK hX (fun _ h => h) hP hS0 hU hW, by rw [hU]; exact hT.moved hW hS0.2.1 (fun _ h => h)⟩⟩ rfl rfl hl.1 rfl (lv_room (Nat.le_of_ble_eq_true rfl)) dL_register_4 ⟨Nat.le_of_ble_eq_true rfl, Nat.le_of_ble_eq_true rfl⟩) hA hS (fun q9 ce H1 locs1 hr2 hP1 hS1 hk1 hce hcv hcl => ?_) (fun H1 locs1 h1 hP1 hS1 hk1 => ?_)
  · have hO1 : va_P (dC, dI) vwCl (zO9 ao kL f) H1 := hO.kept (fun k x hx => by
      cases k with
      | zero => cases hx; exact hk1 ao hlt hao
      | succ k => cases hx)
    refine zcatch (name := "java/util/NoSuchElementException") hown ⟨0, 9, 12, 25⟩ htab (by decide) (by decide) (htb _ (zin_mem w4)) (va_Nw.use rfl (hT.2.2.2 _ (List.mem_of_getElem? (i := 2) rfl))) hce hcv hcl ?_
    refine lv_astore_n (lv' := [(3, .ref q9), (0, .ref (a 0)), (1, .int x1), (2, .ref ao)]) hx hb dL_register_12 rfl hl (by decide) rfl (fun ls hl => ?_)
    refine lv_iconst (v := 1) hx hb dL_register_13 (by decide) ?_
    refine W.widen (k := 1) (n := 6) (Nat.le_of_ble_eq_true rfl) (Nat.le_of_ble_eq_true rfl) ?_
    exact W.iret (v := 1) hx hb hr (fun t ht hW => ⟨by rw [if_pos hr2], by rw [ht]; exact hP1, by rw [ht, if_pos hr2]; exact hO1, hS1.F ht⟩) hS1.2.2 dL_register_14
  · have hO1 : va_P (dC, dI) vwCl (zO9 ao kL f) H1 := hO.kept (fun k x hx => by
      cases k with
      | zero => cases hx; exact hk1 ao hlt hao
      | succ k => cases hx)
    have hn2 : ¬ r.1 = 2 := by rw [h1]; decide
    have e0 : zrv r = some (.int r.2.1) := by rw [zrv, if_neg (by rw [h1]; decide)]
    rw [e0]
    refine lv_i2l (v := r.2.1.toInt64) hx hb dL_register_7 rfl ?_
    have hPj : va_P (dC, dI) vwCl ((ao, .inl (kL, 1, .inr (.inl f))) :: zWS a kI kC r.2.2) H1 := zP_cons hO1 hP1
    have hDj := zDO (kI := kI) (kC := kC) (A := fun q => zA a q ∨ q = ao) hinj hA hao (Or.inr rfl) (.inl (kL, 1, .inr (.inl f))) r.2.2
    refine va_last hx hb hKL hPj hDj hS1 0 0 rfl rfl (vp_in_nI (n := 0) (by decide) (by decide)) dL_register_8 (fun H2 locs2 hP2 hD2 hS2 => ?_)
    have hP2 : va_P (dC, dI) vwCl ((ao, .inl (kL, 1, .inr (.inl (vp_updL f 0 r.2.1.toInt64)))) :: zWS a kI kC r.2.2) H2 := hP2
    refine lv_goto (tgt := 15) hx hb dL_register_9 (by decide) ?_
    refine lv_iconst (v := 0) hx hb dL_register_15 (by decide) ?_
    refine W.widen (k := 1) (n := 6) (Nat.le_of_ble_eq_true rfl) (Nat.le_of_ble_eq_true rfl) ?_
    exact W.iret (v := 0) hx hb hr (fun t ht hW => ⟨by rw [if_neg hn2], by rw [ht]; exact (zP_tail hP2).2, by rw [ht, if_neg hn2]; exact (zP_tail hP2).1, hS2.F ht⟩) hS2.2.2 dL_register_16
