-- every instruction of the image, then segments, methods
section
variable {p : Program} {l : Launch} {e : Env} {R : Room} {s : State} {m : MethodId} {args : Array Value} {below : List Frame} {meth : Method} {c : Code} {cells slots : Nat} {Q : State → Prop}
variable {a adV : Nat → Nat} {kI kC : ClassId} {dC : Nat → ClassId} {dI : Nat → Nat → Nat} {A : Nat → Prop} {own : String} {cc : ByteArray} {nL : Nat} {rt : Option FieldType} {Ts : List Cond} {out : zR} {call : zCall} {go : zGo}
set_option maxHeartbeats 4000000 in
theorem zstep_sound (C0 : zCtx p s m args c own cc nL a adV kI kC dC dI A Ts) (hroom : cells ≤ R.cells ∧ slots ≤ R.slots) (hR : 1 ≤ R.frames ∧ 40 ≤ R.locals) (hgo : zGS p l e R s m args below meth c cells slots Q a kI kC dC dI A nL go out)
    (hcall : ∀ mi as σ r, call mi as σ = some r → r.1 < 2 → zCon l a adV kI kC dC dI R mi as σ r) (hret : zRet p l e R s m args below meth c cells slots Q a kI kC dC dI A cc rt nL out) (hstr : zStr p l e R s m args below meth c cells slots Q a kI kC dC dI A cc nL own out)
    {pc len : Nat} {i : Instr} {op : zO} {L : List (Nat × zV)} {st : List zV} {σ : zS} {ls : Array Slot} {H : Heap} {locs : List Loc} (hd : decode cc pc = .ok (i, len)) (hok : zok own rt nL pc i len op = true)
    (hs : zstep call go op L st σ = some out) (hl : lv_has ls nL (zLd a L)) (hP : va_P (dC, dI) vwCl (zWS a kI kC σ) H) (hS : va_S A s.heap H locs) : W p l e R s m args below meth c H locs cells slots Q (F0 m pc ls (st.map (zden a))) := by
  have C1 := C0
  obtain ⟨hx, hb, hml, hown, hts, hTs, hK, hX, hinj, hA⟩ := C1
  obtain ⟨o, nx, x, y, z, k, sw⟩ := op
  have kk : ∀ {L' st' σ' n'}, go nx L' st' σ' = some out → zpc nx = n' → lv_has ls nL (zLd a L') → va_P (dC, dI) vwCl (zWS a kI kC σ') H → W p l e R s m args below meth c H locs cells slots Q (F0 m n' ls (st'.map (zden a))) := fun h hn hl hP => by rw [← hn]; exact hgo _ _ _ _ _ _ _ h hl hP hS
  simp only [zok] at hok
  split at hok <;> try simp only [Bool.and_eq_true, beq_iff_eq, decide_eq_true_eq, Bool.or_eq_true] at hok
  · obtain ⟨⟨⟨rfl, rfl⟩, h1⟩, rfl⟩ := hok
    exact lv_iconst hx hb hd rfl (kk hs h1 hl hP)
  · obtain ⟨⟨⟨rfl, rfl⟩, h1⟩, rfl⟩ := hok
    exact lv_bipush hx hb hd rfl (kk hs h1 hl hP)
  · obtain ⟨⟨⟨rfl, rfl⟩, h1⟩, rfl⟩ := hok
    exact lv_sipush hx hb hd rfl (kk hs h1 hl hP)
  · obtain ⟨⟨⟨rfl, rfl⟩, h1⟩, rfl⟩ := hok
    simp only [zstep] at hs
    split at hs
    · next v hv => exact lv_iload_n hx hb hd rfl (zget_ls hl hv) (kk hs h1 hl hP)
    · cases hs
  · obtain ⟨⟨⟨rfl, rfl⟩, h1⟩, rfl⟩ := hok
    simp only [zstep] at hs
    split at hs
    · next v hv => exact lv_iload hx hb hd (zget_ls hl hv) (kk hs h1 hl hP)
    · cases hs
  · obtain ⟨⟨⟨rfl, rfl⟩, h1⟩, rfl⟩ := hok
    simp only [zstep] at hs
    split at hs
    · next v hv => exact lv_aload_n hx hb hd rfl (zget_ls hl hv) (kk hs h1 hl hP)
    · cases hs
  · obtain ⟨⟨⟨rfl, rfl⟩, h1⟩, rfl⟩ := hok
    simp only [zstep] at hs
    split at hs
    · next v hv => exact lv_aload hx hb hd (zget_ls hl hv) (kk hs h1 hl hP)
    · cases hs
  · obtain ⟨⟨⟨rfl, rfl⟩, h1⟩, rfl⟩ := hok
    simp only [zstep] at hs
    split at hs
    · next v hv => exact lv_lload_n hx hb hd rfl (zget_ls hl hv) (kk hs h1 hl hP)
    · cases hs
  · obtain ⟨⟨⟨⟨rfl, rfl⟩, h1⟩, rfl⟩, hn⟩ := hok
    simp only [zstep] at hs
    split at hs
    · next v r => exact lv_istore_n hx hb hd rfl hl hn (zLd_put a L _ (.inl v)).symm (fun ls' hl' => by rw [← h1]; exact hgo _ _ _ _ _ _ _ hs hl' hP hS)
    · cases hs
  · obtain ⟨⟨⟨⟨rfl, rfl⟩, h1⟩, rfl⟩, hn⟩ := hok
    simp only [zstep] at hs
    split at hs
    · next v r => exact lv_istore hx hb hd hl hn (zLd_put a L _ (.inl v)).symm (fun ls' hl' => by rw [← h1]; exact hgo _ _ _ _ _ _ _ hs hl' hP hS)
    · cases hs
  · obtain ⟨⟨⟨⟨rfl, rfl⟩, h1⟩, rfl⟩, rfl⟩ := hok
    simp only [zstep] at hs
    split at hs
    · next v hv =>
      have hmem : (x, Value.int v) ∈ zLd a L := List.mem_map.mpr ⟨_, zget_mem hv, rfl⟩
      obtain ⟨k0, hk0⟩ := List.mem_iff_getElem?.mp hmem
      have hlt : x < nL := by rw [← hl.1]; exact (Array.getElem?_eq_some_iff.mp (zget_ls hl hv)).1
      exact lv_iinc hx hb hd hl hk0 rfl hlt (zLd_put a L _ (.inl _)).symm (fun ls' hl' => by rw [← h1]; exact hgo _ _ _ _ _ _ _ hs hl' hP hS)
    · cases hs
  · obtain ⟨⟨⟨rfl, rfl⟩, rfl⟩, h1⟩ := hok
    simp only [zstep] at hs
    split at hs
    · exact lv_iadd hx hb hd (kk hs h1 hl hP)
    · cases hs
  · obtain ⟨⟨⟨rfl, rfl⟩, rfl⟩, h1⟩ := hok
    simp only [zstep] at hs
    split at hs
    · exact lv_isub hx hb hd (kk hs h1 hl hP)
    · cases hs
  · obtain ⟨⟨⟨rfl, rfl⟩, rfl⟩, h1⟩ := hok
    simp only [zstep] at hs
    split at hs
    · exact lv_imul hx hb hd (kk hs h1 hl hP)
    · cases hs
  · obtain ⟨⟨⟨rfl, rfl⟩, rfl⟩, h1⟩ := hok
    simp only [zstep] at hs
    split at hs
    · exact lv_iand hx hb hd (kk hs h1 hl hP)
    · cases hs
  · obtain ⟨⟨⟨rfl, rfl⟩, rfl⟩, h1⟩ := hok
    simp only [zstep] at hs
    split at hs
    · exact lv_ior hx hb hd (kk hs h1 hl hP)
    · cases hs
  · obtain ⟨⟨⟨rfl, rfl⟩, rfl⟩, h1⟩ := hok
    simp only [zstep] at hs
    split at hs
    · exact lv_ishl hx hb hd (kk hs h1 hl hP)
    · cases hs
  · obtain ⟨⟨⟨rfl, rfl⟩, rfl⟩, h1⟩ := hok
    simp only [zstep] at hs
    split at hs
    · exact lv_ineg hx hb hd (kk hs h1 hl hP)
    · cases hs
  · obtain ⟨⟨⟨rfl, rfl⟩, rfl⟩, h1⟩ := hok
    simp only [zstep] at hs
    split at hs
    · exact lv_i2c hx hb hd rfl (kk hs h1 hl hP)
    · cases hs
  · obtain ⟨⟨⟨rfl, rfl⟩, rfl⟩, h1⟩ := hok
    simp only [zstep] at hs
    split at hs
    all_goals first | omega | exact lv_lshr hx hb hd rfl (kk hs h1 hl hP) | cases hs
  · obtain ⟨⟨⟨rfl, rfl⟩, rfl⟩, h1⟩ := hok
    simp only [zstep] at hs
    split at hs
    all_goals first | omega | exact lv_lushr hx hb hd rfl (kk hs h1 hl hP) | cases hs
  · obtain ⟨⟨⟨rfl, rfl⟩, rfl⟩, h1⟩ := hok
    simp only [zstep] at hs
    split at hs
    all_goals first | omega | exact lv_land hx hb hd (kk hs h1 hl hP) | cases hs
  · obtain ⟨⟨⟨rfl, rfl⟩, rfl⟩, h1⟩ := hok
    simp only [zstep] at hs
    split at hs
    all_goals first | omega | exact lv_l2i hx hb hd rfl (kk hs h1 hl hP) | cases hs
  · obtain ⟨⟨⟨h0, rfl⟩, h1⟩, h2⟩ := hok
    exact zs_if C0 hgo hd h0 h1 h2 hs hl hP hS
  · obtain ⟨⟨⟨h0, rfl⟩, h1⟩, h2⟩ := hok
    exact zs_icmp C0 hgo hd h0 h1 h2 hs hl hP hS
  · obtain ⟨⟨rfl, rfl⟩, h1⟩ := hok
    simp only [zstep] at hs
    exact lv_goto hx hb hd h1 (hgo _ _ _ _ _ _ _ hs hl hP hS)
  · obtain ⟨⟨⟨⟨⟨⟨⟨rfl, rfl⟩, h1⟩, h2⟩, h3⟩, h4⟩, h5⟩, h6⟩ := hok
    simp only [zstep] at hs
    split at hs
    · exact zs_table C0 hgo hd h1 h2 h3 h4 h5 h6 hs hl hP hS
    · cases hs
  · obtain ⟨⟨⟨⟨⟨rfl, rfl⟩, h1⟩, h2⟩, h3⟩, h6⟩ := hok
    simp only [zstep] at hs
    split at hs
    · exact zs_lookup C0 hgo hd h1 h2 h3 h6 hs hl hP hS
    · cases hs
  · obtain ⟨⟨⟨rfl, rfl⟩, h1⟩, h2⟩ := hok
    simp only [zstep] at hs
    rcases h2 with h2 | h2
    · exact zs_get C0 hgo hd h1 h2 hs hl hP hS
    · exact zs_get C0 hgo hd h1 h2 hs hl hP hS
  · obtain ⟨⟨⟨⟨h0, rfl⟩, h1⟩, h2⟩, h4⟩ := hok
    rcases h0 with ⟨rfl, h0⟩ | ⟨rfl, h0⟩
    · simp only [zstep] at hs
      split at hs
      · next v j r =>
        split at hs
        · next hwr =>
          have h3 : narrow (zty x y) (.int v) = .int v ∧ fits (zty x y) (.int v) = true := by rw [h0]; exact ⟨rfl, rfl⟩
          rcases h2 with h2 | h2
          · exact zs_put C0 hgo hd h1 h2 h3 h4 hwr hs hl hP hS
          · exact zs_put C0 hgo hd h1 h2 h3 h4 hwr hs hl hP hS
        · cases hs
      · cases hs
    · simp only [zstep] at hs
      split at hs
      · next v j r =>
        split at hs
        · next hwr =>
          split at hs
          · next hv =>
            have h3 : narrow (zty x y) (.int v) = .int v ∧ fits (zty x y) (.int v) = true := by rw [h0]; exact znarrow_bool hv
            rcases h2 with h2 | h2
            · exact zs_put C0 hgo hd h1 h2 h3 h4 hwr hs hl hP hS
            · exact zs_put C0 hgo hd h1 h2 h3 h4 hwr hs hl hP hS
          · cases hs
        · cases hs
      · cases hs
  · obtain ⟨⟨⟨rfl, rfl⟩, rfl⟩, h1⟩ := hok
    simp only [zstep] at hs
    exact zs_ald C0 hgo (Or.inl ⟨rfl, hd⟩) h1 hs hl hP hS
  · obtain ⟨⟨⟨rfl, rfl⟩, rfl⟩, h1⟩ := hok
    simp only [zstep] at hs
    exact zs_ald C0 hgo (Or.inr ⟨rfl, hd⟩) h1 hs hl hP hS
  · obtain ⟨⟨⟨rfl, rfl⟩, rfl⟩, h1⟩ := hok
    simp only [zstep] at hs
    exact zs_ast C0 hgo (Or.inl ⟨rfl, hd⟩) h1 hs hl hP hS
  · obtain ⟨⟨⟨rfl, rfl⟩, rfl⟩, h1⟩ := hok
    simp only [zstep] at hs
    exact zs_ast C0 hgo (Or.inr ⟨rfl, hd⟩) h1 hs hl hP hS
  · obtain ⟨⟨rfl, h1⟩, h2⟩ := hok
    rcases h2 with ⟨ho, h2⟩ | ⟨⟨rfl, h2⟩, h3⟩
    · have hs2 : zinv call go nx x y sw L st σ = some out ∨ zinvV call go nx x y sw L st σ = some out := by
        rcases ho with rfl | rfl
        · exact Or.inl hs
        · exact Or.inr hs
      split at h2
      · next k0 ci =>
        simp only [Bool.and_eq_true, beq_iff_eq, decide_eq_true_eq] at h2
        exact zs_inv C0 hroom hgo hcall (Or.inl ⟨hd, k0, ci, rfl, h2.1, h2.2⟩) h1 hs2 hl hP hS
      · cases h2
    · simp only [zstep] at hs
      exact hstr go _ _ _ _ _ _ _ _ _ _ hgo hd h2 (by simpa using h3) h1 hs hl hP hS
  · obtain ⟨⟨rfl, h1⟩, h2⟩ := hok
    rcases h2 with ⟨⟨ho, h2⟩, h3⟩ | ⟨rfl, h2⟩
    · have hs2 : zinv call go nx x y sw L st σ = some out ∨ zinvV call go nx x y sw L st σ = some out := by
        rcases ho with rfl | rfl
        · exact Or.inl hs
        · exact Or.inr hs
      have hsw : sw = [] := by simpa using h2
      split at h3
      · next w i' m' s' ci n hz =>
        simp only [Bool.and_eq_true, beq_iff_eq] at h3
        obtain ⟨⟨⟨⟨rfl, rfl⟩, rfl⟩, rfl⟩, rfl⟩ := h3
        exact zs_inv C0 hroom hgo hcall (Or.inr ⟨hd, hsw, ci, hz⟩) h1 hs2 hl hP hS
      · cases h3
    · simp only [zstep] at hs
      exact zs_copy C0 hR hgo hd h2 h1 hs hl hP hS
  · obtain ⟨⟨rfl, rfl⟩, h1⟩ := hok
    simp only [zstep] at hs
    split at hs
    · next v =>
      rcases h1 with ⟨rfl, h1⟩ | ⟨rfl, h1⟩
      · rw [if_neg (by decide)] at hs
        cases hs
        exact hret.1 _ _ _ _ _ _ hd rfl (Or.inl h1) hP hS
      · rw [if_pos rfl] at hs
        split at hs
        · next hv => cases hs; exact hret.1 _ _ _ _ _ _ hd rfl (Or.inr ⟨h1, hv⟩) hP hS
        · cases hs
    · cases hs
  · obtain ⟨⟨rfl, rfl⟩, h1⟩ := hok
    simp only [zstep] at hs
    split at hs
    · cases hs; exact hret.2.1 _ _ _ _ _ hd rfl h1 hP hS
    · cases hs
  · obtain ⟨⟨rfl, rfl⟩, h1⟩ := hok
    simp only [zstep] at hs
    split at hs
    · next v r =>
      split at hs
      · next hc => exact lv_dup hx hb hd ((zcat_den a v).trans hc) (kk hs h1 hl hP)
      · cases hs
    · cases hs
  · obtain ⟨⟨rfl, rfl⟩, h1⟩ := hok
    simp only [zstep] at hs
    split at hs
    · next v r =>
      split at hs
      · next hc => exact lv_pop hx hb hd ((zcat_den a v).trans hc) (kk hs h1 hl hP)
      · cases hs
    · cases hs
  · obtain ⟨⟨rfl, rfl⟩, h1⟩ := hok
    simp only [zstep] at hs
    split at hs
    · next v w r =>
      split at hs
      · next hc => exact lv_dup2_11 hx hb hd ((zcat_den a v).trans hc.1) ((zcat_den a w).trans hc.2) (kk hs h1 hl hP)
      · cases hs
    · cases hs
  · obtain ⟨⟨rfl, rfl⟩, h1⟩ := hok
    simp only [zstep] at hs
    split at hs
    · next j r =>
      split at hs
      · next n hn =>
        exact va_alen (D := (dC, dI)) (cl := vwCl) hx hb hK hP j 0 (zWS_get (zarr_spec hn)) (ty := .int) rfl rfl hd (kk hs h1 hl hP)
      · cases hs
    · cases hs
  · obtain ⟨⟨⟨⟨⟨rfl, rfl⟩, h1⟩, rfl⟩, rfl⟩, rfl⟩ := hok
    simp only [zstep] at hs
    exact lv_ldc2 hx hb hown (hts _ (hTs _ (zin_mem zc_long))) hd (kk hs h1 hl hP)
  · obtain ⟨⟨⟨⟨rfl, rfl⟩, h1⟩, rfl⟩, h2⟩ := hok
    simp only [zstep] at hs
    split at hs
    · next hy =>
      rcases h2 with rfl | ⟨rfl, h2⟩
      · exact absurd hy (by decide)
      · exact va_ldcS hx hb hown (hX.2.1 y x h2) hd (kk hs h1 hl hP)
    · cases hs
  · subst hok
    simp only [zstep] at hs
    split at hs
    · cases hs; exact hret.2.2 _ _ _ _ _ _ _ hd rfl hl.1 hP hS
    · cases hs
  · cases hok
end
