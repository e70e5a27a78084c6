-- a method of the image does what the small machine says
set_option maxRecDepth 20000 in
theorem zroom1 {d n L : Nat} (h : 40 * (d + 1) + 400 ≤ L) (hn : n ≤ 20) : 8 + (n + 11) + (40 * d + 400) ≤ L := by omega
theorem zroom2 {d F : Nat} (h : d + 1 + 12 ≤ F) : d + 12 + 1 ≤ F := by omega
theorem zroom3 (d : Nat) : 1 ≤ d + 12 ∧ 12 ≤ d + 12 := by omega
theorem zroom4 (d : Nat) : 40 ≤ 40 * d + 400 ∧ 400 ≤ 40 * d + 400 := by omega
theorem zM_sound (l : Launch) (a adV : Nat → Nat) (kI kC : ClassId) (dC : Nat → ClassId) (dI : Nat → Nat → Nat) (hinj : ∀ i j, i < zIMG.length → j < zIMG.length → a i = a j → i = j) (hstr : zStrAll l a adV kI kC dC dI) :
    ∀ d mi as σ r, zM d mi as σ = some r → r.1 < 2 → ∀ R : Room, (zrm d).frames ≤ R.frames → (zrm d).locals ≤ R.locals → zCon l a adV kI kC dC dI R mi as σ r := by
  intro d
  induction d with
  | zero => intro mi as σ r h; cases h
  | succ d ih =>
    intro mi as σ r h hr2 R hRf hRl C y n rt tab cut i b hmt hcode
    simp only [zM, hmt] at h
    split at h
    case isFalse => cases h
    next hpl =>
    obtain ⟨C', y', n', rt2, tab', cut', i', b', he, hcode', hplain, hy2, hy3, hn20, htab⟩ := zmt_spec (zk_all _ (List.mem_of_getElem? hmt))
    cases he
    rw [hcode] at hcode'
    cases hcode'
    have hcut : ∀ q ∈ cut, q.1 < 10000 := by
      have h1 := List.all_eq_true.mp zcut_all _ (List.mem_of_getElem? hmt)
      intro q hq
      exact of_decide_eq_true (List.all_eq_true.mp h1 q hq)
    have hRf' : d + 1 + 12 ≤ R.frames := hRf
    have e0 : (zrm (d + 1)).locals = 40 * (d + 1) + 400 := rfl
    rw [e0] at hRl
    have e1 : (zrm d).frames = d + 12 := rfl
    have e2 : (zrm d).locals = 40 * d + 400 := rfl
    refine ⟨zrm d, rfl, rfl, by rw [e1]; exact zroom2 hRf', by rw [e2]; exact zroom1 hRl hn20, ?_⟩
    refine Met.ofW (cc := b) (maxL := n) (ret := rt) hplain rfl ?_
    intro p e s m args below meth c s₁ B hml hv
    obtain ⟨rfl, hP, hK, hX⟩ := hv
    have hx := B.exec
    have hb := B.bytes
    have hr := B.returns
    have hts := atoms_spec (ws := zws y b n rt) B.pre
    have hown : s.vm.findClass C = some m.cls := by rw [← hy2]; exact findClass_of_methodNamed B.named
    have hlocks := B.notSynchronized
    have C0 : zCtx p s m (as.map (zden a)).toArray c C b n a adV kI kC dC dI (zA a) (zws y b n rt) := ⟨hx, hb, hml, hown, hts, fun w h => List.mem_cons_of_mem _ h, hK, hX, hinj, fun _ h => h⟩
    have hret : zRet p l e (headSpec (zws y b n rt) (zrm d)).room s m (as.map (zden a)).toArray below meth c 0 0 (MQ below (zQc a kI kC dC dI r) (as.map (zden a)).toArray s 0 0 (zA a)) a kI kC dC dI (zA a) b rt n r := by
      refine ⟨fun pc ls H locs v σ' hd ho hrt hP hS => ?_, fun pc ls H locs σ' hd ho hrt hP hS => ?_, fun pc idx len ls H locs σ' hd ho => ?_⟩
      · subst ho
        rcases hrt with hrt | ⟨hrt, hv⟩
        · exact W.iret (v := v) hx hb (by rw [hr, hrt]) (fun t ht hW => ⟨rfl, by rw [ht]; exact hP, hS.F ht⟩) hS.2.2 hd
        · exact W.zret (v := v) (ty := .boolean) hx hb (by rw [hr, hrt]) (znarrow_bool hv).1 (fun t ht hW => ⟨rfl, by rw [ht]; exact hP, hS.F ht⟩) hS.2.2 hd
      · subst ho
        exact W.vret hx hb (by rw [hr, hrt]) (fun t ht hW => ⟨rfl, by rw [ht]; exact hP, hS.F ht⟩) hS.2.2 hd
      · subst ho; exact absurd hr2 (Nat.lt_irrefl 2)
    have hl := lv_entry (as.map (zden a)) (n := n) (by rw [zwords_sl]; exact hpl.2)
    rw [lg_entry_eq]
    generalize (lg_sl (as.map (zden a)) ++ List.replicate (n - (lg_sl (as.map (zden a))).length) Slot.unset).toArray = ls at hl ⊢
    rw [zplaces_args] at hl
    have hlen : (zplaces 0 as).length = as.length := by
      have : ∀ (k : Nat) (v : List zV), (zplaces k v).length = v.length := by
        intro k v
        induction v generalizing k with
        | nil => rfl
        | cons x r ih => simp [zplaces, ih]
      exact this 0 as
    exact zexec_sound (R := (headSpec (zws y b n rt) (zrm d)).room) (cells := 0) (slots := 0) C0 ⟨Nat.zero_le _, Nat.zero_le _⟩ ⟨(zroom3 d).1, (zroom4 d).1⟩
      (fun mi as σ r h h2 => ih mi as σ r h h2 _ (Nat.le_refl _) (Nat.le_refl _)) hret (zStr_any hstr C0 ⟨Nat.zero_le _, Nat.zero_le _⟩ ⟨(zroom3 d).2, (zroom4 d).2⟩) htab hcut zFUEL 0 _ as σ ls s.heap [] h hpl.1 hlen hl hP va_S.rf
