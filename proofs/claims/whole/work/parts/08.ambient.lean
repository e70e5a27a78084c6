-- what stands around the image: nest mates' links, String constants
def zstx (i : Nat) : String := match i with
  | 0 => "act"
  | 1 => "timer"
  | 2 => "any"
  | 3 => "ended"
  | 4 => "sig"
  | 5 => "now"
  | 6 => "patch"
  | 7 => "stop"
  | 8 => "wait"
  | _ => ";=+-*<()?[]|,@"
def zlens : List Nat := [3, 5, 3, 5, 3, 3, 5, 4, 4, 14]
def zbyts : List (List Int32) := [zstr 0, zstr 1, zstr 2, zstr 3, zstr 4, zstr 5, zstr 6, zstr 7, zstr 8, zstr 9]
def zX (a adV : Nat → Nat) (A : Nat → Prop) (U : State) (H : Heap) : Prop :=
  (∀ w ∈ zNW, va_Nw w U) ∧ (∀ i k : Nat, zSI[i]? = some k → vk_R RX6 k (zstx i) (a (1000 + i)) U) ∧ vk_S 10 zlens zbyts (fun i => a (1000 + i)) adV A U H ∧
  va_Z "java/lang/String" "COMPACT_STRINGS" "Z" (.int 1) A U H ∧ va_Zq "jdk/internal/util/Preconditions" "SIOOBE_FORMATTER" "Ljava/util/function/BiFunction;" A U H
theorem zNW_warm {s U : State} (hW : s.WarmedH U.vm) (h : ∀ w ∈ zNW, va_Nw w s) : ∀ w ∈ zNW, va_Nw w U := by
  intro w hw
  have h1 := h w hw
  simp only [zNW, List.mem_cons, List.not_mem_nil, or_false] at hw
  rcases hw with rfl | rfl | rfl | rfl | rfl | rfl | rfl | rfl | rfl <;> exact va_Nw.warmF hW h1
theorem zX.moved {a adV : Nat → Nat} {A B : Nat → Prop} {s U : State} {H H1 : Heap} (hW : s.WarmedH U.vm) (hq : ∀ q : Nat, q < H.size → ¬ A q → H1[q]? = H[q]?) (hAB : ∀ q, B q → A q) (h : zX a adV A s H) : zX a adV B U H1 :=
  ⟨zNW_warm hW h.1, fun i k hk => (h.2.1 i k hk).warm hW, ((h.2.2.1.moved hW.alike).kept hq).narrow hAB, ((h.2.2.2.1.moved hW.alike).kept hq).narrow hAB, ((h.2.2.2.2.moved hW.alike).kept hq).narrow hAB⟩
theorem zX.blind {a adV : Nat → Nat} {A : Nat → Prop} {U V : State} {H : Heap} (hv : V.vm = U.vm) (h : zX a adV A U H) : zX a adV A V H := by
  refine ⟨fun w hw => ?_, fun i k hk => (h.2.1 i k hk).same hv, h.2.2.1.moved (by rw [hv]; exact Vm.Alike.refl _), h.2.2.2.1.moved (by rw [hv]; exact Vm.Alike.refl _), h.2.2.2.2.moved (by rw [hv]; exact Vm.Alike.refl _)⟩
  have h1 := h.1 w hw
  simp only [zNW, List.mem_cons, List.not_mem_nil, or_false] at hw
  rcases hw with rfl | rfl | rfl | rfl | rfl | rfl | rfl | rfl | rfl <;> exact va_Nw.same rfl hv.symm h1
/-- what holds where a method of the image begins -/
def zPre (a adV : Nat → Nat) (kI kC : ClassId) (dC : Nat → ClassId) (dI : Nat → Nat → Nat) (σ : zS) (U : State) : Prop :=
  va_P (dC, dI) vwCl (zWS a kI kC σ) U.heap ∧ va_K (dC, dI) vwCl (ztys kI kC) U ∧ zX a adV (zA a) U U.heap
def zrv (r : zR) : Option Value := if r.1 = 0 then none else some (.int r.2.1)
/-- where it has returned -/
def zQc (a : Nat → Nat) (kI kC : ClassId) (dC : Nat → ClassId) (dI : Nat → Nat → Nat) (r : zR) : Array Value → State → Outcome → State → Prop := fun _ st o t =>
  o = .returned (zrv r) ∧ va_P (dC, dI) vwCl (zWS a kI kC r.2.2) t.heap ∧ va_F (zA a) st t
/-- a method's contract: on σ it gives r -/
def zCon (l : Launch) (a adV : Nat → Nat) (kI kC : ClassId) (dC : Nat → ClassId) (dI : Nat → Nat → Nat) (R : Room) (mi : Nat) (as : List zV) (σ : zS) (r : zR) : Prop :=
  ∀ (C : String) (y : MethodName) (n : Nat) (rt : Option FieldType) (tab : List (Nat × zO)) (cut : List (Nat × List Nat)) (i : Nat) (b : ByteArray), zMT[mi]? = some ((C, y, n, rt, tab, cut), i) → lw_tbl[i]? = some (.code y b n rt) →
    ∃ rm : Room, rm.cells = 0 ∧ rm.slots = 0 ∧ rm.frames + 1 ≤ R.frames ∧ 8 + (n + 11) + rm.locals ≤ R.locals ∧
      Met l y (zws y b n rt) rm (va_Pc (as.map (zden a)) (zPre a adV kI kC dC dI σ)) (zQc a kI kC dC dI r) 0 0 (zA a)
section
variable {p : Program} {l : Launch} {e : Env} {R : Room} {s : State} {m : MethodId} {args : Array Value} {below : List Frame} {meth : Method} {c : Code} {H : Heap} {locs : List Loc} {cells slots : Nat} {Q : State → Prop}
theorem zblind {a adV : Nat → Nat} {kI kC : ClassId} {dC : Nat → ClassId} {dI : Nat → Nat → Nat} {σ : zS} {av : List Value} : FrameBlind (va_Pc av (zPre a adV kI kC dC dI σ)) := by
  intro A U g mk h
  obtain ⟨h1, h2, h3, h4⟩ := h
  exact ⟨h1, h2, va_K.moved (u := U) (U := U.calling g mk A) (Vm.Alike.refl U.vm) h3, zX.blind (U := U) rfl h4⟩
theorem zPre_at {a adV : Nat → Nat} {kI kC : ClassId} {dC : Nat → ClassId} {dI : Nat → Nat → Nat} {σ : zS} {A : Nat → Prop} (hK : va_K (dC, dI) vwCl (ztys kI kC) s) (hX : zX a adV A s s.heap) (hA : ∀ q, zA a q → A q)
    (hP : va_P (dC, dI) vwCl (zWS a kI kC σ) H) (hS : va_S A s.heap H locs) {U : State} (hU : U.heap = H) (hW : s.WarmedH U.vm) : zPre a adV kI kC dC dI σ U :=
  ⟨by rw [hU]; exact hP, va_K.moved hW.alike hK, by rw [hU]; exact hX.moved hW hS.2.1 hA⟩
/-- a call has come back -/
theorem zback {a : Nat → Nat} {kI kC : ClassId} {dC : Nat → ClassId} {dI : Nat → Nat → Nat} {r : zR} {A : Nat → Prop} {aa : Array Value} {pc : Nat} {ls : Array Slot} {st0 rest : List Value}
    (hr : va_Run p l e R s m args below meth c H locs cells slots 0 0 (F0 m pc ls st0) rest (zQc a kI kC dC dI r aa) (zA a)) (hA : ∀ q, zA a q → A q) (hS : va_S A s.heap H locs)
    (kk : ∀ (H1 : Heap) (locs1 : List Loc), va_P (dC, dI) vwCl (zWS a kI kC r.2.2) H1 → va_S A s.heap H1 locs1 → W p l e R s m args below meth c H1 locs1 cells slots Q (F0 m (pc + 3) ls ((zrv r).toList ++ rest))) : W p l e R s m args below meth c H locs cells slots Q (F0 m pc ls st0) := by
  intro T hT X
  obtain ⟨v, st₀, t, T', L, h0, X', hL, e1, e2, ⟨hv, hp, hz, hk⟩, st⟩ := hr T hT X
  cases hv
  rw [h0] at hz hk
  obtain ⟨t2, a1, b1⟩ := kk T'.heap (locs ++ L) (by rw [e1]; exact hp)
    ⟨Nat.le_trans hS.1 (by rw [e1]; exact hz), fun q h1 h2 => by rw [e1, hk q (Nat.lt_of_lt_of_le h1 hS.1) (fun z => h2 (hA q z))]; exact hS.2.1 q h1 h2, fun q hq => by
      rcases List.mem_append.mp hq with h | h
      · exact hS.2.2 q h
      · exact hA _ (hL q h)⟩ T' rfl X'
  exact ⟨t2, st t2 a1, b1⟩
end
