-- a method that may throw, as the small machine says
def zQx (a : Nat → Nat) (kI kC : ClassId) (dC : Nat → ClassId) (dI : Nat → Nat → Nat) (r : zR) : Array Value → State → Outcome → State → Prop := fun aa st o t => r.1 = 1 ∧ zQc a kI kC dC dI r aa st o t
theorem zMX_sound (l : Launch) (a adV : Nat → Nat) (kI kC : ClassId) (dC : Nat → ClassId) (dI : Nat → Nat → Nat) (hinj : ∀ i j, i < zIMG.length → j < zIMG.length → a i = a j → i = j)
    {cls : String} {d mi : Nat} {as : List zV} {σ : zS} {r : zR} (hM : zM (d + 1) mi as σ = some r) {y : MethodName} {n : Nat} {tab : List (Nat × zO)} {cut : List (Nat × List Nat)} {i : Nat} {b : ByteArray} (hmt : zMT[mi]? = some ((RX7, y, n, some .int, tab, cut), i)) (hcode : lw_tbl[i]? = some (.code y b n (some .int)))
    (hth : zThr l a cls b n) : vx_Met l y (zws y b n (some .int)) { frames := d + 12, cells := 1, slots := 6, locals := 40 * d + 400 } (va_Pc (as.map (zden a)) (fun U => zPre a adV kI kC dC dI σ U ∧ zTX a (zA a) U U.heap)) (zQx a kI kC dC dI r) (zXC a kI kC dC dI cls r) 1 6 (zA a) := by
  have hstr := zStr_all l a adV kI kC dC dI
  simp only [zM, hmt] at hM
  split at hM
  case isFalse => cases hM
  next hpl =>
  obtain ⟨C', y', n', rt2, tab', cut', i', b', he, hcode', hplain, hy2, hy3, hn20, htab⟩ := zmt_spec (zk_all _ (List.mem_of_getElem? hmt))
  cases he
  rw [hcode] at hcode'
  cases hcode'
  have hcut : ∀ q ∈ cut, q.1 < 10000 := by
    have h1 := List.all_eq_true.mp zcut_all _ (List.mem_of_getElem? hmt)
    intro q hq
    exact of_decide_eq_true (List.all_eq_true.mp h1 q hq)
  refine vx_ofW (cc := b) (maxL := n) (ret := some .int) hplain rfl ?_
  intro p e s m args below meth c s₁ B hml htb0 hv
  obtain ⟨rfl, ⟨hP, hK, hX⟩, hT⟩ := hv
  have hx := B.exec
  have hb := B.bytes
  have hr := B.returns
  have hts := atoms_spec (ws := zws y b n (some .int)) B.pre
  have hown : s.vm.findClass RX7 = some m.cls := by rw [← hy2]; exact findClass_of_methodNamed B.named
  have hlocks := B.notSynchronized
  have C0 : zCtx p s m (as.map (zden a)).toArray c RX7 b n a adV kI kC dC dI (zA a) (zws y b n (some .int)) := ⟨hx, hb, hml, hown, hts, fun w h => List.mem_cons_of_mem _ h, hK, hX, hinj, fun _ h => h⟩
  have e1 : (headSpec (zws y b n (some .int)) { frames := d + 12, cells := 1, slots := 6, locals := 40 * d + 400 }).room = { frames := d + 12, cells := 1, slots := 6, locals := 40 * d + 400 } := rfl
  rw [e1]
  generalize hR : ({ frames := d + 12, cells := 1, slots := 6, locals := 40 * d + 400 } : Room) = R
  have hRf : R.frames = d + 12 := by rw [← hR]
  have hRl : R.locals = 40 * d + 400 := by rw [← hR]
  have hRc : R.cells = 1 := by rw [← hR]
  have hRs : R.slots = 6 := by rw [← hR]
  have hret : zRet p l e R s m (as.map (zden a)).toArray below meth c 0 0 (vx_MQ below (zQx a kI kC dC dI r) (zXC a kI kC dC dI cls r) (as.map (zden a)).toArray s 1 6 (zA a)) a kI kC dC dI (zA a) b (some .int) n r := by
    refine ⟨fun pc ls H locs v σ' hd ho hrt hP hS => ?_, fun pc ls H locs σ' hd ho hrt hP hS => ?_, fun pc idx len ls H locs σ' hd ho hsz hP hS => ?_⟩
    · subst ho
      refine vx_ret (W.widen (k := 1) (n := 6) (by omega) (by omega) ?_)
      exact W.iret (v := v) hx hb (by rw [hr]) (fun t ht hW => ⟨rfl, rfl, by rw [ht]; exact hP, hS.F ht⟩) hS.2.2 hd
    · cases hrt
    · subst ho
      exact hth p e R s m _ below meth c H locs ls pc idx len _ _ hx hb hml hown (fun w h => hts w (List.mem_cons_of_mem _ h)) hT htb0 (by rw [hRf]; exact (zroom3 d).2) (by rw [hRl]; exact (zroom4 d).2) (by rw [hRc]; exact Nat.le_refl _) (by rw [hRs]; exact Nat.le_refl _) hlocks hd hsz hS
        (fun t hvm hz hk => ⟨rfl, rfl, zP_up hP hk, Nat.le_trans hS.1 hz, fun q h1 h2 => by rw [hk q (Nat.lt_of_lt_of_le h1 hS.1)]; exact hS.2.1 q h1 h2⟩)
  have hl := lv_entry (as.map (zden a)) (n := n) (by rw [zwords_sl]; exact hpl.2)
  rw [lg_entry_eq]
  generalize (lg_sl (as.map (zden a)) ++ List.replicate (n - (lg_sl (as.map (zden a))).length) Slot.unset).toArray = ls at hl ⊢
  rw [zplaces_args] at hl
  have hlen : (zplaces 0 as).length = as.length := by
    have : ∀ (k : Nat) (v : List zV), (zplaces k v).length = v.length := by
      intro k v
      induction v generalizing k with
      | nil => rfl
      | cons x r ih => simp [zplaces, ih]
    exact this 0 as
  exact zexec_sound (R := R) (cells := 0) (slots := 0) C0 ⟨Nat.zero_le _, Nat.zero_le _⟩ ⟨by rw [hRf]; exact (zroom3 d).1, by rw [hRl]; exact (zroom4 d).1⟩
    (fun mi as σ r h h2 => zM_sound l a adV kI kC dC dI hinj hstr d mi as σ r h h2 R (by rw [hRf]; exact Nat.le_refl _) (by rw [hRl]; exact Nat.le_refl _)) hret (zStr_any hstr C0 ⟨Nat.zero_le _, Nat.zero_le _⟩ ⟨by rw [hRf]; exact (zroom3 d).2, by rw [hRl]; exact (zroom4 d).2⟩) htab hcut zFUEL 0 _ as σ ls s.heap [] hM hpl.1 hlen hl hP va_S.rf
section
variable {p : Program} {l : Launch} {e : Env} {R : Room} {s : State} {m : MethodId} {args : Array Value} {below : List Frame} {meth : Method} {c : Code} {H : Heap} {locs : List Loc} {cells slots : Nat} {Q : State → Prop}
theorem zblindX {a adV : Nat → Nat} {kI kC : ClassId} {dC : Nat → ClassId} {dI : Nat → Nat → Nat} {σ : zS} {av : List Value} : FrameBlind (va_Pc av (fun U => zPre a adV kI kC dC dI σ U ∧ zTX a (zA a) U U.heap)) := by
  intro A U g mk h
  obtain ⟨h1, ⟨h2, h3, h4⟩, h5⟩ := h
  exact ⟨h1, ⟨h2, va_K.moved (u := U) (U := U.calling g mk A) (Vm.Alike.refl U.vm) h3, zX.blind (U := U) rfl h4⟩, zTX.blind (U := U) rfl h5⟩
/-- a call that may throw has come back -/
theorem zbackX {a : Nat → Nat} {kI kC : ClassId} {dC : Nat → ClassId} {dI : Nat → Nat → Nat} {r : zR} {cls : String} {A : Nat → Prop} {aa : Array Value} {pc : Nat} {ls : Array Slot} {st0 rest : List Value}
    (hr : vx_Run p l e R s m args below meth c H locs cells slots 1 6 (F0 m pc ls st0) rest (zQx a kI kC dC dI r aa) (zXC a kI kC dC dI cls r) (zA a)) (hA : ∀ q, zA a q → A q) (hS : va_S A s.heap H locs)
    (kx : ∀ (q9 : Addr) (ce : Cell) (H1 : Heap) (locs1 : List Loc), r.1 = 2 → va_P (dC, dI) vwCl (zWS a kI kC r.2.2) H1 → va_S A s.heap H1 locs1 → (∀ q : Nat, q < H.size → ¬ zA a q → H1[q]? = H[q]?) → H1[q9]? = some ce → ce.vm = .none → s.vm.findClass cls = some ce.cls → vx_W p l e R s m args below meth c H1 locs1 (cells + 1) (slots + 6) Q (F0 m pc ls rest) q9)
    (kk : ∀ (H1 : Heap) (locs1 : List Loc), r.1 = 1 → va_P (dC, dI) vwCl (zWS a kI kC r.2.2) H1 → va_S A s.heap H1 locs1 → (∀ q : Nat, q < H.size → ¬ zA a q → H1[q]? = H[q]?) → W p l e R s m args below meth c H1 locs1 (cells + 1) (slots + 6) Q (F0 m (pc + 3) ls ((zrv r).toList ++ rest))) : W p l e R s m args below meth c H locs cells slots Q (F0 m pc ls st0) := by
  intro T hT X
  rcases hr T hT X with ⟨v, st₀, t, T', L, h0, X', hL, e1, e2, ⟨hr1, hv, hp, hF⟩, st⟩ | ⟨q, st₀, t, T', L, E, ce, h0, X', hL, e1, e2, ⟨rfl, hr2, hp, hF⟩, hce, hcv, hcl, st⟩
  · cases hv
    obtain ⟨-, k2, k3⟩ := vx_keep h0 e1 hS (fun q _ h => hA q h) (fun q h => hA q h) hL hF
    obtain ⟨t2, a1, b1⟩ := kk T'.heap (locs ++ L) hr1 (by rw [e1]; exact hp) k3 k2 T' rfl X'
    exact ⟨t2, st t2 a1, b1⟩
  · obtain ⟨-, k2, k3⟩ := vx_keep h0 e1 hS (fun q _ h => hA q h) (fun q h => hA q h) hL hF
    obtain ⟨t2, a1, b1⟩ := kx q ce T'.heap (locs ++ L) hr2 (by rw [e1]; exact hp) k3 k2 (by rw [e1]; exact hce) hcv hcl T' rfl X'
    exact ⟨t2, st.trans a1, b1⟩
end
