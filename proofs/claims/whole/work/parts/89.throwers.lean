-- the four methods that throw
def zTI : List Nat := [99, 129, 146, 158]
def zttx (i : Nat) : String := match i with
  | 0 => "the tape has a fault"
  | 1 => "the decision is refused"
  | 2 => "there is no such event"
  | _ => "there is no such register"
def zDC : List Cond := [.castable "java/lang/IllegalArgumentException" "java/lang/IllegalArgumentException", .castable "java/lang/IllegalStateException" "java/lang/IllegalStateException", .castable "java/util/NoSuchElementException" "java/util/NoSuchElementException", .declares (Bundle.initS "java/lang/RuntimeException"), .declares (Bundle.initS "java/lang/Exception"), .declares (Bundle.initS "java/lang/Throwable")]
/-- what a throw needs -/
def zTX (a : Nat → Nat) (A : Nat → Prop) (U : State) (H : Heap) : Prop :=
  vx_Zq Bundle.tN "UNASSIGNED_STACK" Bundle.steD A U H ∧ vx_Zq Bundle.tN "SUPPRESSED_SENTINEL" Bundle.listD A U H ∧ (∀ i k : Nat, zTI[i]? = some k → vk_R RX7 k (zttx i) (a (2000 + i)) U) ∧ ∀ w ∈ zDC, va_Nw w U
theorem zDC_warm {s U : State} (hW : s.WarmedH U.vm) (h : ∀ w ∈ zDC, va_Nw w s) : ∀ w ∈ zDC, va_Nw w U := by
  intro w hw
  have h1 := h w hw
  simp only [zDC, List.mem_cons, List.not_mem_nil, or_false] at hw
  rcases hw with rfl | rfl | rfl | rfl | rfl | rfl <;> first | exact va_Nw.warmC hW h1 | exact va_Nw.warmD hW h1
theorem zDC_tab {w : Cond} (hw : w ∈ zDC) : w.onTables = true := by
  simp only [zDC, List.mem_cons, List.not_mem_nil, or_false] at hw
  rcases hw with rfl | rfl | rfl | rfl | rfl | rfl <;> rfl
theorem zTX.moved {a : Nat → Nat} {A B : Nat → Prop} {s U : State} {H H1 : Heap} (hW : s.WarmedH U.vm) (hq : ∀ q : Nat, q < H.size → ¬ A q → H1[q]? = H[q]?) (hAB : ∀ q, B q → A q) (h : zTX a A s H) : zTX a B U H1 :=
  ⟨((h.1.moved hW.alike).kept hq).narrow hAB, ((h.2.1.moved hW.alike).kept hq).narrow hAB, fun i k hk => (h.2.2.1 i k hk).warm hW, zDC_warm hW h.2.2.2⟩
theorem zTX.blind {a : Nat → Nat} {A : Nat → Prop} {U V : State} {H : Heap} (hv : V.vm = U.vm) (h : zTX a A U H) : zTX a A V H :=
  ⟨h.1.moved (by rw [hv]; exact Vm.Alike.refl _), h.2.1.moved (by rw [hv]; exact Vm.Alike.refl _), fun i k hk => (h.2.2.1 i k hk).same hv, fun w hw => va_Nw.same (zDC_tab hw) hv.symm (h.2.2.2 w hw)⟩
theorem zover {code : ByteArray} {pc : Nat} (h : code.size ≤ pc) {r : Instr × Nat} (hd : decode code pc = .ok r) : False := by
  have h1 : ∀ (α : Type) (F : Nat → Decoder α), ∃ z, (Bind.bind (Reader.u1 : Decoder Nat) F : Decoder α).runAt code pc = .error z := by
    intro α F
    refine ⟨HasTruncated.truncated pc, ?_⟩
    simp [Reader.runAt, Reader.u1, ReaderT.run, StateT.run, bind, ReaderT.bind, StateT.bind, Except.bind, MonadReader.read, readThe, MonadReaderOf.read, ReaderT.read, get, getThe, MonadStateOf.get, StateT.get, Pure.pure, ReaderT.pure, StateT.pure, Except.pure, liftM, monadLift, MonadLift.monadLift, show ¬ pc < code.size by omega, throw, throwThe, MonadExceptOf.throw, StateT.lift]
  obtain ⟨z, h2⟩ : ∃ z, (Decoder.instr pc).runAt code pc = .error z := by
    unfold Decoder.instr
    exact h1 _ _
  unfold decode at hd
  rw [h2] at hd
  cases hd
/-- the worlds lie in a heap that has only grown -/
theorem zP_up {D : va_G} {cl : List vw_C} {ws : va_W} {H H1 : Heap} (h : va_P D cl ws H) (hk : ∀ q : Nat, q < H.size → H1[q]? = H[q]?) : va_P D cl ws H1 := h.kept (fun k x hx => hk x.1 ((h k x hx).lt))
def zXC (a : Nat → Nat) (kI kC : ClassId) (dC : Nat → ClassId) (dI : Nat → Nat → Nat) (cls : String) (r : zR) : String → State → State → Prop := fun E st t =>
  E = cls ∧ r.1 = 2 ∧ va_P (dC, dI) vwCl (zWS a kI kC r.2.2) t.heap ∧ va_F (zA a) st t
/-- the throw of a method, wherever its exception is made -/
def zThr (l : Launch) (a : Nat → Nat) (cls : String) (b : ByteArray) (n : Nat) : Prop :=
  ∀ (p : Program) (e : Env) (R : Room) (s : State) (m : MethodId) (args : Array Value) (below : List Frame) (meth : Method) (c : Code) (H : Heap) (locs : List Loc) (ls : Array Slot) (pc idx len : Nat) (Qc : Array Value → State → Outcome → State → Prop) (XC : String → State → State → Prop),
    p.tables.exec = Jvm.exec → c.code = b → c.maxLocals = n → s.vm.findClass RX7 = some m.cls → (∀ w ∈ zTB, w.before args s = true) → zTX a (zA a) s s.heap → (∀ x ∈ c.exceptionTable.toList, False) → 12 ≤ R.frames → 400 ≤ R.locals → 1 ≤ R.cells → 6 ≤ R.slots → meth.locks = false → decode b pc = .ok (.new idx, len) → ls.size = n → va_S (zA a) s.heap H locs →
    (∀ t : State, s.vm.Alike t.vm → H.size ≤ t.heap.size → (∀ q : Nat, q < H.size → t.heap[q]? = H[q]?) → XC cls s t) → W p l e R s m args below meth c H locs 0 0 (vx_MQ below Qc XC args s 1 6 (zA a)) (F0 m pc ls [])
theorem zsix13_2 : decode prog_22_method_4_code 0 = .ok (.aload_n 0, 1) ∧ decode prog_22_method_4_code 1 = .ok (.aload_n 1, 1) ∧ decode prog_22_method_4_code 2 = .ok (.invokespecial 13, 3) ∧ decode prog_22_method_4_code 5 = .ok (.return_, 1) := by decide +kernel
set_option maxRecDepth 100000 in
theorem zd_program : cX7_program.size = 78 ∧ (∀ pc, pc < 78 → (match decode cX7_program pc with | .ok (.new _, _) => pc == 37 | _ => true) = true) ∧ decode cX7_program 37 = .ok (.new 97, 3) ∧ decode cX7_program 40 = .ok (.dup, 1) ∧ decode cX7_program 41 = .ok (.ldc 99, 2) ∧ decode cX7_program 43 = .ok (.invokespecial 101, 3) ∧ decode cX7_program 46 = .ok (.athrow, 1) := by decide +kernel
set_option maxRecDepth 100000 in
theorem zin_program : ((Cond.classLink RX7 97 "java/lang/IllegalArgumentException" :: Cond.initialized "java/lang/IllegalArgumentException" :: (zAt RX7 101 "java/lang/IllegalArgumentException" 7 Bundle.six "java/lang/RuntimeException" ["java/lang/Exception"]).filter vx_no).all (fun w => ((decide (w ∈ lw_tbl) && goodWord w) || decide (w ∈ zDC)) && vx_ot w)) = true := by decide +kernel
theorem zThr_program (l : Launch) (hl : l.stackTraces = false) (a : Nat → Nat) (n : Nat) : zThr l a "java/lang/IllegalArgumentException" cX7_program n := by
  intro p e R s m args below meth c H locs ls pc idx len Qc XC hx hb hml hown htb hT htab h1 h2 h3 h4 hlocks hd hsz hS hxc
  obtain ⟨z1, z2, z3, z4, z5, z6, z7⟩ := zd_program
  have hpc : pc = 37 := by
    rcases Nat.lt_or_ge pc 78 with h | h
    · have h9 := z2 pc h
      rw [hd] at h9
      simpa using h9
    · exact (zover (by rw [z1]; exact h) hd).elim
  subst hpc
  have hin : ∀ w ∈ Cond.classLink RX7 97 "java/lang/IllegalArgumentException" :: Cond.initialized "java/lang/IllegalArgumentException" :: (zAt RX7 101 "java/lang/IllegalArgumentException" 7 Bundle.six "java/lang/RuntimeException" ["java/lang/Exception"]).filter vx_no, w.before args s = true ∧ vx_ot w = true := fun w hw => by
    have h9 := List.all_eq_true.mp zin_program w hw
    simp only [Bool.and_eq_true, Bool.or_eq_true, decide_eq_true_eq] at h9
    refine ⟨?_, h9.2⟩
    rcases h9.1 with h9 | h9
    · exact htb w (List.mem_filter.mpr h9)
    · exact va_Nw.use (zDC_tab h9) (hT.2.2.2 w h9)
  exact zthrow (pc := 37) (ik := 97) (is := 99) (ic := 101) (i1 := 7) (names := ["java/lang/Exception"]) (text := zttx 0) (sa := a (2000 + 0)) hx hb hl hown (by decide +kernel) (by decide +kernel) (by decide +kernel) Bundle.six_0 Bundle.six_1 Bundle.six_2 Bundle.six_5 (fun w h => (hin w h).1) (fun w h => (hin w h).2) (hT.2.2.1 0 99 rfl) hT.1 hT.2.1 hS (hsz.trans hml.symm) z3 z4 z5 z6 z7 (fun x hx => (htab x hx).elim) (Nat.lt_of_lt_of_le (by decide) h1) (Nat.le_trans (by decide) h2) (by omega) (by omega) hlocks hxc hS.2.2 (Nat.le_refl _) (Nat.le_refl _)
set_option maxRecDepth 100000 in
theorem zd_decide : cX7_decide.size = 112 ∧ (∀ pc, pc < 112 → (match decode cX7_decide pc with | .ok (.new _, _) => pc == 79 | _ => true) = true) ∧ decode cX7_decide 79 = .ok (.new 127, 3) ∧ decode cX7_decide 82 = .ok (.dup, 1) ∧ decode cX7_decide 83 = .ok (.ldc 129, 2) ∧ decode cX7_decide 85 = .ok (.invokespecial 131, 3) ∧ decode cX7_decide 88 = .ok (.athrow, 1) := by decide +kernel
set_option maxRecDepth 100000 in
theorem zin_decide : ((Cond.classLink RX7 127 "java/lang/IllegalStateException" :: Cond.initialized "java/lang/IllegalStateException" :: (zAt RX7 131 "java/lang/IllegalStateException" 7 Bundle.six "java/lang/RuntimeException" ["java/lang/Exception"]).filter vx_no).all (fun w => ((decide (w ∈ lw_tbl) && goodWord w) || decide (w ∈ zDC)) && vx_ot w)) = true := by decide +kernel
theorem zThr_decide (l : Launch) (hl : l.stackTraces = false) (a : Nat → Nat) (n : Nat) : zThr l a "java/lang/IllegalStateException" cX7_decide n := by
  intro p e R s m args below meth c H locs ls pc idx len Qc XC hx hb hml hown htb hT htab h1 h2 h3 h4 hlocks hd hsz hS hxc
  obtain ⟨z1, z2, z3, z4, z5, z6, z7⟩ := zd_decide
  have hpc : pc = 79 := by
    rcases Nat.lt_or_ge pc 112 with h | h
    · have h9 := z2 pc h
      rw [hd] at h9
      simpa using h9
    · exact (zover (by rw [z1]; exact h) hd).elim
  subst hpc
  have hin : ∀ w ∈ Cond.classLink RX7 127 "java/lang/IllegalStateException" :: Cond.initialized "java/lang/IllegalStateException" :: (zAt RX7 131 "java/lang/IllegalStateException" 7 Bundle.six "java/lang/RuntimeException" ["java/lang/Exception"]).filter vx_no, w.before args s = true ∧ vx_ot w = true := fun w hw => by
    have h9 := List.all_eq_true.mp zin_decide w hw
    simp only [Bool.and_eq_true, Bool.or_eq_true, decide_eq_true_eq] at h9
    refine ⟨?_, h9.2⟩
    rcases h9.1 with h9 | h9
    · exact htb w (List.mem_filter.mpr h9)
    · exact va_Nw.use (zDC_tab h9) (hT.2.2.2 w h9)
  exact zthrow (pc := 79) (ik := 127) (is := 129) (ic := 131) (i1 := 7) (names := ["java/lang/Exception"]) (text := zttx 1) (sa := a (2000 + 1)) hx hb hl hown (by decide +kernel) (by decide +kernel) (by decide +kernel) Bundle.six_0 Bundle.six_1 Bundle.six_2 Bundle.six_5 (fun w h => (hin w h).1) (fun w h => (hin w h).2) (hT.2.2.1 1 129 rfl) hT.1 hT.2.1 hS (hsz.trans hml.symm) z3 z4 z5 z6 z7 (fun x hx => (htab x hx).elim) (Nat.lt_of_lt_of_le (by decide) h1) (Nat.le_trans (by decide) h2) (by omega) (by omega) hlocks hxc hS.2.2 (Nat.le_refl _) (Nat.le_refl _)
set_option maxRecDepth 100000 in
theorem zd_event : cX7_event.size = 68 ∧ (∀ pc, pc < 68 → (match decode cX7_event pc with | .ok (.new _, _) => pc == 20 | _ => true) = true) ∧ decode cX7_event 20 = .ok (.new 144, 3) ∧ decode cX7_event 23 = .ok (.dup, 1) ∧ decode cX7_event 24 = .ok (.ldc 146, 2) ∧ decode cX7_event 26 = .ok (.invokespecial 148, 3) ∧ decode cX7_event 29 = .ok (.athrow, 1) := by decide +kernel
set_option maxRecDepth 100000 in
theorem zin_event : ((Cond.classLink RX7 144 "java/util/NoSuchElementException" :: Cond.initialized "java/util/NoSuchElementException" :: (zAt RX7 148 "java/util/NoSuchElementException" 13 prog_22_method_4_code "java/lang/RuntimeException" ["java/lang/Exception"]).filter vx_no).all (fun w => ((decide (w ∈ lw_tbl) && goodWord w) || decide (w ∈ zDC)) && vx_ot w)) = true := by decide +kernel
theorem zThr_event (l : Launch) (hl : l.stackTraces = false) (a : Nat → Nat) (n : Nat) : zThr l a "java/util/NoSuchElementException" cX7_event n := by
  intro p e R s m args below meth c H locs ls pc idx len Qc XC hx hb hml hown htb hT htab h1 h2 h3 h4 hlocks hd hsz hS hxc
  obtain ⟨z1, z2, z3, z4, z5, z6, z7⟩ := zd_event
  have hpc : pc = 20 := by
    rcases Nat.lt_or_ge pc 68 with h | h
    · have h9 := z2 pc h
      rw [hd] at h9
      simpa using h9
    · exact (zover (by rw [z1]; exact h) hd).elim
  subst hpc
  have hin : ∀ w ∈ Cond.classLink RX7 144 "java/util/NoSuchElementException" :: Cond.initialized "java/util/NoSuchElementException" :: (zAt RX7 148 "java/util/NoSuchElementException" 13 prog_22_method_4_code "java/lang/RuntimeException" ["java/lang/Exception"]).filter vx_no, w.before args s = true ∧ vx_ot w = true := fun w hw => by
    have h9 := List.all_eq_true.mp zin_event w hw
    simp only [Bool.and_eq_true, Bool.or_eq_true, decide_eq_true_eq] at h9
    refine ⟨?_, h9.2⟩
    rcases h9.1 with h9 | h9
    · exact htb w (List.mem_filter.mpr h9)
    · exact va_Nw.use (zDC_tab h9) (hT.2.2.2 w h9)
  exact zthrow (pc := 20) (ik := 144) (is := 146) (ic := 148) (i1 := 13) (names := ["java/lang/Exception"]) (text := zttx 2) (sa := a (2000 + 2)) hx hb hl hown (by decide +kernel) (by decide +kernel) (by decide +kernel) zsix13_2.1 zsix13_2.2.1 zsix13_2.2.2.1 zsix13_2.2.2.2 (fun w h => (hin w h).1) (fun w h => (hin w h).2) (hT.2.2.1 2 146 rfl) hT.1 hT.2.1 hS (hsz.trans hml.symm) z3 z4 z5 z6 z7 (fun x hx => (htab x hx).elim) (Nat.lt_of_lt_of_le (by decide) h1) (Nat.le_trans (by decide) h2) (by omega) (by omega) hlocks hxc hS.2.2 (Nat.le_refl _) (Nat.le_refl _)
set_option maxRecDepth 100000 in
theorem zd_register : cX7_register.size = 29 ∧ (∀ pc, pc < 29 → (match decode cX7_register pc with | .ok (.new _, _) => pc == 10 | _ => true) = true) ∧ decode cX7_register 10 = .ok (.new 144, 3) ∧ decode cX7_register 13 = .ok (.dup, 1) ∧ decode cX7_register 14 = .ok (.ldc 158, 2) ∧ decode cX7_register 16 = .ok (.invokespecial 148, 3) ∧ decode cX7_register 19 = .ok (.athrow, 1) := by decide +kernel
set_option maxRecDepth 100000 in
theorem zin_register : ((Cond.classLink RX7 144 "java/util/NoSuchElementException" :: Cond.initialized "java/util/NoSuchElementException" :: (zAt RX7 148 "java/util/NoSuchElementException" 13 prog_22_method_4_code "java/lang/RuntimeException" ["java/lang/Exception"]).filter vx_no).all (fun w => ((decide (w ∈ lw_tbl) && goodWord w) || decide (w ∈ zDC)) && vx_ot w)) = true := by decide +kernel
theorem zThr_register (l : Launch) (hl : l.stackTraces = false) (a : Nat → Nat) (n : Nat) : zThr l a "java/util/NoSuchElementException" cX7_register n := by
  intro p e R s m args below meth c H locs ls pc idx len Qc XC hx hb hml hown htb hT htab h1 h2 h3 h4 hlocks hd hsz hS hxc
  obtain ⟨z1, z2, z3, z4, z5, z6, z7⟩ := zd_register
  have hpc : pc = 10 := by
    rcases Nat.lt_or_ge pc 29 with h | h
    · have h9 := z2 pc h
      rw [hd] at h9
      simpa using h9
    · exact (zover (by rw [z1]; exact h) hd).elim
  subst hpc
  have hin : ∀ w ∈ Cond.classLink RX7 144 "java/util/NoSuchElementException" :: Cond.initialized "java/util/NoSuchElementException" :: (zAt RX7 148 "java/util/NoSuchElementException" 13 prog_22_method_4_code "java/lang/RuntimeException" ["java/lang/Exception"]).filter vx_no, w.before args s = true ∧ vx_ot w = true := fun w hw => by
    have h9 := List.all_eq_true.mp zin_register w hw
    simp only [Bool.and_eq_true, Bool.or_eq_true, decide_eq_true_eq] at h9
    refine ⟨?_, h9.2⟩
    rcases h9.1 with h9 | h9
    · exact htb w (List.mem_filter.mpr h9)
    · exact va_Nw.use (zDC_tab h9) (hT.2.2.2 w h9)
  exact zthrow (pc := 10) (ik := 144) (is := 158) (ic := 148) (i1 := 13) (names := ["java/lang/Exception"]) (text := zttx 3) (sa := a (2000 + 3)) hx hb hl hown (by decide +kernel) (by decide +kernel) (by decide +kernel) zsix13_2.1 zsix13_2.2.1 zsix13_2.2.2.1 zsix13_2.2.2.2 (fun w h => (hin w h).1) (fun w h => (hin w h).2) (hT.2.2.1 3 158 rfl) hT.1 hT.2.1 hS (hsz.trans hml.symm) z3 z4 z5 z6 z7 (fun x hx => (htab x hx).elim) (Nat.lt_of_lt_of_le (by decide) h1) (Nat.le_trans (by decide) h2) (by omega) (by omega) hlocks hxc hS.2.2 (Nat.le_refl _) (Nat.le_refl _)
