-- segments, bodies, methods
theorem zcut_all : zMT.all (fun e => e.1.2.2.2.2.2.all (fun q => decide (q.1 < 10000))) = true := by decide +kernel
section
variable {p : Program} {l : Launch} {e : Env} {R : Room} {s : State} {m : MethodId} {args : Array Value} {below : List Frame} {meth : Method} {c : Code} {cells slots : Nat} {Q : State → Prop}
variable {a adV : Nat → Nat} {kI kC : ClassId} {dC : Nat → ClassId} {dI : Nat → Nat → Nat} {A : Nat → Prop} {own : String} {cc : ByteArray} {nL : Nat} {rt : Option FieldType} {Ts : List Cond} {out : zR} {call : zCall}
theorem zseg_sound (C0 : zCtx p s m args c own cc nL a adV kI kC dC dI A Ts) (hroom : cells ≤ R.cells ∧ slots ≤ R.slots) (hR : 1 ≤ R.frames ∧ 40 ≤ R.locals)
    (hcall : ∀ mi as σ r, call mi as σ = some r → r.1 < 2 → zCon l a adV kI kC dC dI R mi as σ r) (hret : zRet p l e R s m args below meth c cells slots Q a kI kC dC dI A cc rt nL out) (hstr : zStr p l e R s m args below meth c cells slots Q a kI kC dC dI A cc nL own out)
    {tab : List (Nat × zO)} {cut : List (Nat × List Nat)} (htab : ∀ q ∈ tab, q.1 < 10000 ∧ ∃ j len, decode cc q.1 = .ok (j, len) ∧ zok own rt nL q.1 j len q.2 = true) {kont : Nat → List zV → zS → Option zR}
    (hk : ∀ t ix vs σ ls H locs, kont t vs σ = some out → zlook cut t = some ix → ix.length = vs.length → lv_has ls nL (zLd a (ix.zip vs)) → va_P (dC, dI) vwCl (zWS a kI kC σ) H → va_S A s.heap H locs → W p l e R s m args below meth c H locs cells slots Q (F0 m t ls [])) :
    ∀ f, zGS p l e R s m args below meth c cells slots Q a kI kC dC dI A nL (zseg tab cut call kont f) out := by
  intro f
  induction f with
  | zero => intro pc L st σ ls H locs hs; cases hs
  | succ f ih =>
    intro pc L st σ ls H locs hs hl hP hS
    simp only [zseg] at hs
    by_cases h : 10000 ≤ pc
    · rw [if_pos h] at hs
      have e1 : zpc pc = pc - 10000 := by rw [zpc, if_pos h]
      rw [e1]
      split at hs
      · next ix hix =>
        split at hs
        · next vs hvs =>
          obtain ⟨h1, h2⟩ := zpick_ls hl hvs
          exact hk _ _ _ _ _ _ _ hs hix h2 h1 hP hS
        · cases hs
      · cases hs
    · rw [if_neg h] at hs
      have e1 : zpc pc = pc := by rw [zpc, if_neg h]
      rw [e1]
      split at hs
      · cases hs
      · next op hop =>
        obtain ⟨-, j, len, hd, hok⟩ := htab _ (zlook_mem hop)
        exact zstep_sound C0 hroom hR ih hcall hret hstr hd hok hs hl hP hS
theorem zexec_sound (C0 : zCtx p s m args c own cc nL a adV kI kC dC dI A Ts) (hroom : cells ≤ R.cells ∧ slots ≤ R.slots) (hR : 1 ≤ R.frames ∧ 40 ≤ R.locals)
    (hcall : ∀ mi as σ r, call mi as σ = some r → r.1 < 2 → zCon l a adV kI kC dC dI R mi as σ r) (hret : zRet p l e R s m args below meth c cells slots Q a kI kC dC dI A cc rt nL out) (hstr : zStr p l e R s m args below meth c cells slots Q a kI kC dC dI A cc nL own out)
    {tab : List (Nat × zO)} {cut : List (Nat × List Nat)} (htab : ∀ q ∈ tab, q.1 < 10000 ∧ ∃ j len, decode cc q.1 = .ok (j, len) ∧ zok own rt nL q.1 j len q.2 = true) (hcut : ∀ q ∈ cut, q.1 < 10000) :
    ∀ n pc ix vs σ ls H locs, zexec tab cut call n pc vs σ = some out → zlook cut pc = some ix → ix.length = vs.length → lv_has ls nL (zLd a (ix.zip vs)) → va_P (dC, dI) vwCl (zWS a kI kC σ) H → va_S A s.heap H locs → W p l e R s m args below meth c H locs cells slots Q (F0 m pc ls []) := by
  intro n
  induction n with
  | zero => intro pc ix vs σ ls H locs hs; cases hs
  | succ n ih =>
    intro pc ix vs σ ls H locs hs hix hlen hl hP hS
    simp only [zexec, hix, hlen, if_true] at hs
    have hpc : pc < 10000 := hcut _ (zlook_mem hix)
    have k1 := zseg_sound C0 hroom hR hcall hret hstr htab (cut := cut) (fun t ix vs σ ls H locs h1 h2 h3 h4 h5 h6 => ih t ix vs σ ls H locs h1 h2 h3 h4 h5 h6) 400 pc _ [] σ ls H locs hs hl hP hS
    rw [show zpc pc = pc by rw [zpc, if_neg (by omega)]] at k1
    exact k1
end
/-- the room of a method that may call d deep -/
def zrm (d : Nat) : Room := { frames := d + 12, cells := 0, slots := 0, locals := 40 * d + 400 }
/-- String's own methods on the constants, wherever the tokens call them -/
def zStrAll (l : Launch) (a adV : Nat → Nat) (kI kC : ClassId) (dC : Nat → ClassId) (dI : Nat → Nat → Nat) : Prop :=
  ∀ (p : Program) (e : Env) (R : Room) (s : State) (m : MethodId) (args : Array Value) (below : List Frame) (meth : Method) (c : Code) (cells slots : Nat) (Q : State → Prop) (A : Nat → Prop) (cc : ByteArray) (nL : Nat) (Ts : List Cond) (out : zR),
    zCtx p s m args c RX6 cc nL a adV kI kC dC dI A Ts → cells ≤ R.cells ∧ slots ≤ R.slots → 12 ≤ R.frames ∧ 400 ≤ R.locals → zStr p l e R s m args below meth c cells slots Q a kI kC dC dI A cc nL RX6 out
theorem zStr_any {p : Program} {l : Launch} {e : Env} {R : Room} {s : State} {m : MethodId} {args : Array Value} {below : List Frame} {meth : Method} {c : Code} {cells slots : Nat} {Q : State → Prop} {a adV : Nat → Nat} {kI kC : ClassId} {dC : Nat → ClassId} {dI : Nat → Nat → Nat} {A : Nat → Prop} {own : String} {cc : ByteArray} {nL : Nat} {Ts : List Cond} {out : zR}
    (H0 : zStrAll l a adV kI kC dC dI) (C0 : zCtx p s m args c own cc nL a adV kI kC dC dI A Ts) (hroom : cells ≤ R.cells ∧ slots ≤ R.slots) (hR : 12 ≤ R.frames ∧ 400 ≤ R.locals) : zStr p l e R s m args below meth c cells slots Q a kI kC dC dI A cc nL own out := by
  by_cases h : own = RX6
  · subst h
    exact H0 p e R s m args below meth c cells slots Q A cc nL Ts out C0 hroom hR
  · intro go pc idx nx x L st σ ls H locs _ _ h2
    exact absurd h2 h
theorem zplaces_args (a : Nat → Nat) : ∀ (as : List zV) (k : Nat), lv_args k (as.map (zden a)) = zLd a ((zplaces k as).zip as) := by
  intro as
  induction as with
  | nil => intro k; rfl
  | cons v r ih =>
    intro k
    simp only [List.map_cons, lv_args, zplaces, List.zip_cons_cons, zLd, zcat_den]
    rw [ih]
    rfl
theorem zwords_sl (a : Nat → Nat) : ∀ (as : List zV), (lg_sl (as.map (zden a))).length = zwords as := by
  intro as
  induction as with
  | nil => rfl
  | cons v r ih =>
    simp only [List.map_cons, lg_sl, List.flatMap_cons, List.length_append, zwords] at ih ⊢
    rw [ih]
    congr 1
    rcases v with x | x | x <;> rfl
