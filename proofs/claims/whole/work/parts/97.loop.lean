-- the law: its end, its loop
def R_law : String := "ReplayDeskLaw"
def lw_P (b : Addr) (xs : List Int32) (args : Array Value) (s : State) : Prop := args = #[.ref b] ∧ s.IntsAt b xs ∧ xs.length ≤ 2048 ∧ (Jvm.Cond.and given_1 narrow_1).before args s = true
def lw_Q (_ : Array Value) (s : State) (o : Outcome) (t : State) : Prop := o = .returned (some (.int 1)) ∧ Framed s o t [] 601024 7293034
def lw_Z (below : List Frame) (a : Array Value) (s : State) : State → Prop := fun t => ∃ o, t.status = .running ∧ Ended t below o ∧ lw_Q a s o t
theorem lw_ret {p : Program} {l : Launch} {e : Env} {s : State} {m : MethodId} {below : List Frame} {meth : Method} {c : Code} {b : Nat} (hx : p.tables.exec = Jvm.exec) (hb : c.code = code) (hr : meth.sig.returnType = ret) (hlocks : meth.locks = false) {pc : Nat} {H : Heap} {ls : Array Slot} (hdg : decode code pc = .ok (.ireturn, 1)) : W p l e room_1 s m #[Value.ref b] below meth c H [] 601024 7293034 (lw_Z below #[Value.ref b] s) (F0 m pc ls [.int 1]) := by
  intro T hT X
  obtain ⟨fs, hret, hrun, hended, hW, hframe⟩ := X.leave (v := some (.int 1)) (hlocks := hlocks) (fun h => by rw [hr] at h; cases h)
  have hmeth' : T.vm.method? m = some meth := X.method'
  refine ⟨T.setFrames fs, ?_, .returned (some (.int 1)), hrun, hended, rfl, ⟨_, rfl⟩, hW, hframe⟩
  jvm_step X.here [X.here.top, hx, hb, hdg, hmeth', hr, ret, narrow_b1]
  (try refine ⟨rfl, ?_⟩); (try refine ⟨rfl, ?_⟩)
  first | (intro acts; rw [hret _ acts rfl rfl rfl]) | rw [hret _ _ rfl rfl rfl]
  exact Steps.refl _
def lw_At (p : Program) (s : State) (m : MethodId) (meth : Method) (c : Code) (b L : Nat) (xs : Nat → Int32) : Prop :=
  p.tables.exec = Jvm.exec ∧ c.code = code ∧ meth.sig.returnType = ret ∧ c.maxLocals = 7 ∧ s.vm.findClass R_law = some m.cls ∧ (∀ w ∈ lw_tbl, w.before #[Value.ref b] s = true) ∧ va_X b L xs s s.heap ∧ b < s.heap.size ∧ meth.locks = false ∧ (Jvm.Cond.and given_1 narrow_1).before #[Value.ref b] s = true
theorem zhead {L j : Nat} (hL : L ≤ 2048) (hj : j ≤ 512) (h : ¬ (Int32.ofNat L - 4 < nI (4 * j))) : 4 * j + 4 ≤ L := by
  rcases Nat.lt_or_ge L 4 with h4 | h4
  · exfalso
    apply h
    have h9 : ∀ L, L < 4 → Int32.ofNat L - 4 < 0 := by decide +kernel
    exact Int32.lt_of_lt_of_le (h9 L h4) (nI_pos' (by omega))
  · have e1 : Int32.ofNat L - 4 = nI (L - 4) := pk_sub (a := L) (b := 4) h4
    rw [e1] at h
    rcases Nat.lt_or_ge (L - 4) (4 * j) with h9 | h9
    · exact absurd (nI_lt h9 (by omega)) h
    · omega
section
variable {p : Program} {l : Launch} {e : Env} {s : State} {m : MethodId} {below : List Frame} {meth : Method} {c : Code} {b L : Nat} {xs : Nat → Int32}
variable {a adV : Nat → Nat} {kI kC kL : ClassId} {dC : Nat → ClassId} {dI : Nat → Nat → Nat} {ao : Nat}
theorem law_head (hL : L ≤ 2048) (C0 : zLx p s m c b L xs a adV kI kC kL dC dI ao) (hr : meth.sig.returnType = ret) (hlocks : meth.locks = false) {j : Nat} (hj : j ≤ 512) {H : Heap} {locs : List Loc} {ls : Array Slot} (hS : va_S (zLA s) s.heap H locs) (hl : lv_has ls 7 (zLv b a ao j))
    (kk : 4 * j + 4 ≤ L → W p l e room_1 s m #[Value.ref b] below meth c H locs (56 + j) (16616 + 6 * j) (lw_Z below #[Value.ref b] s) (F0 m 32 ls [])) : W p l e room_1 s m #[Value.ref b] below meth c H locs (56 + j) (16616 + 6 * j) (lw_Z below #[Value.ref b] s) (F0 m 23 ls []) := by
  obtain ⟨hx, hb, hml, hown, htb, hK, hKL, hX, hT, hinj, hA, hao, hAo, hXs, hbl⟩ := id C0
  refine lv_iload hx hb dL_law_23 (lv_at hl 4 rfl) ?_
  refine lv_aload_n hx hb dL_law_25 rfl (lv_at hl 0 rfl) ?_
  refine va_slen hx hb hXs hbl (Nat.not_le.mpr hbl) hS dL_law_26 ?_
  refine lv_iconst (v := 4) hx hb dL_law_27 (by decide) ?_
  refine lv_isub hx hb dL_law_28 ?_
  refine lv_icmp_gt (tgt := 534) hx hb dL_law_29 (by decide) (fun _ => ?_) (fun h => kk (zhead hL hj h))
  refine lv_iconst (v := 1) hx hb dL_law_534 (by decide) ?_
  refine va_forget hS.2.2 ?_
  refine W.widen (k := 601024) (n := 7293034) (by omega) (by omega) ?_
  exact lw_ret hx hb hr hlocks dL_law_535
set_option maxHeartbeats 4000000 in
set_option maxRecDepth 100000 in
theorem law_loop (hst : l.stackTraces = false) (hL : L ≤ 2048) (C0 : zLx p s m c b L xs a adV kI kC kL dC dI ao) (hr : meth.sig.returnType = ret) (hlocks : meth.locks = false) :
    ∀ k j, j + k = 512 → ∀ (σ : zS) (n : Nat) (f : Nat → Int64) (H : Heap) (locs : List Loc) (ls : Array Slot), InvN σ n → va_P (dC, dI) vwCl (zWS a kI kC σ) H → va_P (dC, dI) vwCl (zO9 ao kL f) H → va_S (zLA s) s.heap H locs → lv_has ls 7 (zLv b a ao j) →
      W p l e room_1 s m #[Value.ref b] below meth c H locs (56 + j) (16616 + 6 * j) (lw_Z below #[Value.ref b] s) (F0 m 23 ls []) := by
  intro k
  induction k with
  | zero =>
    intro j hj σ n f H locs ls HI hP hO hS hl
    exact law_head hL C0 hr hlocks (by omega) hS hl (fun h => absurd h (by omega))
  | succ k ih =>
    intro j hj σ n f H locs ls HI hP hO hS hl
    refine law_head hL C0 hr hlocks (by omega) hS hl (fun hlt => ?_)
    obtain ⟨hx, hb, hml, hown, htb, hK, hKL, hX, hT, hinj, hA, hao, hAo, hXs, hbl⟩ := id C0
    have next : ∀ (σ' : zS) (n' : Nat) (f' : Nat → Int64) (H' : Heap) (locs' : List Loc) (ls' : Array Slot), InvN σ' n' → va_P (dC, dI) vwCl (zWS a kI kC σ') H' → va_P (dC, dI) vwCl (zO9 ao kL f') H' → va_S (zLA s) s.heap H' locs' → lv_has ls' 7 (zLv b a ao j) → W p l e room_1 s m #[Value.ref b] below meth c H' locs' (56 + j + 1) (16616 + 6 * j + 6) (lw_Z below #[Value.ref b] s) (F0 m 528 ls' []) := by
      intro σ' n' f' H' locs' ls' HI' hP' hO' hS' hl'
      refine lv_iinc (v := nI (4 * (j + 1))) (lv' := [(4, .int (nI (4 * (j + 1)))), (0, .ref b), (1, .ref (a 0)), (2, .ref (a 38)), (3, .ref ao)]) hx hb dL_law_528 hl' (k := 4) rfl (show nI (4 * j) + nI 4 = nI (4 * (j + 1)) from nI_add _ _) (by decide) rfl (fun ls hl => ?_)
      refine lv_goto (tgt := 23) hx hb dL_law_531 (by decide) ?_
      refine W.widen (k := 56 + (j + 1)) (n := 16616 + 6 * (j + 1)) (by omega) (by omega) ?_
      exact ih (j + 1) (by omega) σ' n' f' H' locs' ls HI' hP' hO' hS' (lv_sub hl [1, 2, 3, 4, 0] rfl)
    have hroom : 56 + j + 1 ≤ 601024 ∧ 16616 + 6 * j + 6 ≤ 7293034 := ⟨by omega, by omega⟩
    refine lv_aload_n hx hb dL_law_32 rfl (lv_at hl 0 rfl) ?_
    refine lv_iload hx hb dL_law_33 (lv_at hl 4 rfl) ?_
    refine va_sld hx hb hXs hbl (Nat.not_le.mpr hbl) hS (vp_in_nI (by omega) (by omega)) dL_law_35 ?_
    refine lv_bipush (v := 15) hx hb dL_law_36 (by decide) ?_
    refine lv_iand hx hb dL_law_38 ?_
    obtain ⟨q, hq, eq⟩ := pk_andE (xs (nI (4 * j)).toNatClampNeg) (m := 15) 4 (by decide)
    rw [eq]
    have hq16 : q < 16 := hq
    rcases (show q = 0 ∨ q = 1 ∨ q = 2 ∨ q = 3 ∨ q = 4 ∨ q = 5 ∨ q = 6 ∨ q = 7 ∨ q = 8 ∨ q = 9 ∨ q = 10 ∨ q = 11 ∨ 12 ≤ q by omega) with rfl | rfl | rfl | rfl | rfl | rfl | rfl | rfl | rfl | rfl | rfl | rfl | hq12
    · refine lv_tableIn (off := 61) (tgt := 100) hx hb dL_law_39 (by decide +kernel) (by decide +kernel) (by decide +kernel) (by decide) ?_
      exact lc_0 hL C0 hlt hroom HI hP hO hS hl next
    · refine lv_tableIn (off := 130) (tgt := 169) hx hb dL_law_39 (by decide +kernel) (by decide +kernel) (by decide +kernel) (by decide) ?_
      exact lc_1 hst hL C0 hlt hroom HI hP hO hS hl next
    · refine lv_tableIn (off := 174) (tgt := 213) hx hb dL_law_39 (by decide +kernel) (by decide +kernel) (by decide +kernel) (by decide) ?_
      exact lc_2 hL C0 hlt hroom HI hP hO hS hl next
    · refine lv_tableIn (off := 187) (tgt := 226) hx hb dL_law_39 (by decide +kernel) (by decide +kernel) (by decide +kernel) (by decide) ?_
      exact lc_3 hst hL C0 hlt hroom HI hP hO hS hl next
    · refine lv_tableIn (off := 243) (tgt := 282) hx hb dL_law_39 (by decide +kernel) (by decide +kernel) (by decide +kernel) (by decide) ?_
      exact lc_4 hL C0 hlt hroom HI hP hO hS hl next
    · refine lv_tableIn (off := 256) (tgt := 295) hx hb dL_law_39 (by decide +kernel) (by decide +kernel) (by decide +kernel) (by decide) ?_
      exact lc_5 hL C0 hlt hroom HI hP hO hS hl next
    · refine lv_tableIn (off := 269) (tgt := 308) hx hb dL_law_39 (by decide +kernel) (by decide +kernel) (by decide +kernel) (by decide) ?_
      exact lc_6 hL C0 hlt hroom HI hP hO hS hl next
    · refine lv_tableIn (off := 318) (tgt := 357) hx hb dL_law_39 (by decide +kernel) (by decide +kernel) (by decide +kernel) (by decide) ?_
      exact lc_7 hL C0 hlt hroom HI hP hO hS hl next
    · refine lv_tableIn (off := 329) (tgt := 368) hx hb dL_law_39 (by decide +kernel) (by decide +kernel) (by decide +kernel) (by decide) ?_
      exact lc_8 hL C0 hlt hroom HI hP hO hS hl next
    · refine lv_tableIn (off := 340) (tgt := 379) hx hb dL_law_39 (by decide +kernel) (by decide +kernel) (by decide +kernel) (by decide) ?_
      exact lc_9 hst hL C0 hlt hroom HI hP hO hS hl next
    · refine lv_tableIn (off := 408) (tgt := 447) hx hb dL_law_39 (by decide +kernel) (by decide +kernel) (by decide +kernel) (by decide) ?_
      exact lc_10 hst hL C0 hlt hroom HI hP hO hS hl next
    · refine lv_tableIn (off := 464) (tgt := 503) hx hb dL_law_39 (by decide +kernel) (by decide +kernel) (by decide +kernel) (by decide) ?_
      exact lc_11 hL C0 hlt hroom HI hP hO hS hl next
    · refine lv_tableOut (tgt := 528) hx hb dL_law_39 (Or.inr (by rw [nI_toInt (by omega)]; omega)) (by decide) ?_
      refine W.widen (k := 56 + j + 1) (n := 16616 + 6 * j + 6) (by omega) (by omega) ?_
      exact next _ _ _ _ _ _ HI hP hO hS hl
end
