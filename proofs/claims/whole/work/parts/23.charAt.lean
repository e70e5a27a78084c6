-- String.charAt on the constants
theorem zj_w2 : zin 501 (.methodLink RJ0 1059 yJ3_checkIndex_8e157) = true ∧ zin 502 (.static yJ3_checkIndex_8e157) = true ∧ zin 88 (.initialized RJ3) = true ∧ zin 499 (.fieldLink RJ0 1053 RJ3 "SIOOBE_FORMATTER" "Ljava/util/function/BiFunction;") = true ∧ zin 496 (.methodLink RJ1 9 yJ0_checkIndex_df160) = true ∧ zin 497 (.static yJ0_checkIndex_df160) = true ∧ zin 493 (.methodLink RJ0 495 yJ1_charAt_3b067) = true ∧ zin 494 (.static yJ1_charAt_3b067) = true ∧ zin 87 (.initialized RJ1) = true := by decide +kernel
set_option maxRecDepth 100000 in
theorem zcJ_ci3 : lw_tbl[503]? = some (.code yJ3_checkIndex_8e157 cJ3_checkIndex_8e157 3 (some .int)) := rfl
set_option maxRecDepth 100000 in
theorem zcJ_ci0 : lw_tbl[498]? = some (.code yJ0_checkIndex_df160 cJ0_checkIndex_df160 2 none) := rfl
set_option maxRecDepth 100000 in
theorem zcJ_ca1 : lw_tbl[495]? = some (.code yJ1_charAt_3b067 cJ1_charAt_3b067 2 (some .char)) := rfl
set_option maxRecDepth 100000 in
theorem zcJ_lat : lw_tbl[492]? = some (.code yJ0_isLatin1_aae02 cJ0_isLatin1_aae02 1 (some .boolean)) := rfl
theorem cJ_ci3n (l : Launch) {k n : Int32} (h1 : ¬ k < 0) (h2 : k < n) : Met l yJ3_checkIndex_8e157 (zws yJ3_checkIndex_8e157 cJ3_checkIndex_8e157 3 (some .int)) { frames := 1, cells := 0, slots := 0, locals := 20 } (va_Pc [.int k, .int n, .null] (fun _ => True)) (QcRead k) 0 0 (fun _ => False) := by
  refine Met.ofW (cc := cJ3_checkIndex_8e157) (maxL := 3) (ret := some .int) (by decide) rfl ?_
  intro p e s m args below meth c s₁ B hml hv
  obtain ⟨rfl, -⟩ := hv
  have hx := B.exec
  have hb := B.bytes
  have hr := B.returns
  have hts := atoms_spec (ws := zws yJ3_checkIndex_8e157 cJ3_checkIndex_8e157 3 (some .int)) B.pre
  have htb : ∀ w ∈ zTB, w.before ([.int k, .int n, .null] : List Value).toArray s = true := fun w h => hts w (List.mem_cons_of_mem _ h)
  have hown : s.vm.findClass RJ3 = some m.cls := findClass_of_methodNamed B.named
  have hlocks := B.notSynchronized
  have hS : va_S (fun _ => False) s.heap s.heap [] := va_S.rf
  have hl := lv_entry ([.int k, .int n, .null]) (n := 3) (Nat.le_of_ble_eq_true rfl)
  rw [lg_entry_eq]
  generalize (lg_sl ([.int k, .int n, .null]) ++ List.replicate (3 - (lg_sl ([.int k, .int n, .null])).length) Slot.unset).toArray = ls at hl ⊢
  have hl : lv_has ls 3 [(0, .int k), (1, .int n), (2, .null)] := hl
  refine lv_iload_n hx hb dJ3_checkIndex_8e157_0 rfl (lv_at hl 0 rfl) ?_
  refine lv_if_lt (tgt := 9) hx hb dJ3_checkIndex_8e157_1 (by decide) (fun h => absurd h h1) (fun _ => ?_)
  refine lv_iload_n hx hb dJ3_checkIndex_8e157_4 rfl (lv_at hl 0 rfl) ?_
  refine lv_iload_n hx hb dJ3_checkIndex_8e157_5 rfl (lv_at hl 1 rfl) ?_
  refine lv_icmp_lt (tgt := 16) hx hb dJ3_checkIndex_8e157_6 (by decide) (fun _ => ?_) (fun h => absurd h2 h)
  refine lv_iload_n hx hb dJ3_checkIndex_8e157_16 rfl (lv_at hl 0 rfl) ?_
  exact W.iret hx hb hr (fun t ht hW => ⟨rfl, ht⟩) hS.2.2 dJ3_checkIndex_8e157_17
theorem cJ_ci3r (l : Launch) (q : Nat) {k n : Int32} (h1 : ¬ k < 0) (h2 : k < n) : Met l yJ3_checkIndex_8e157 (zws yJ3_checkIndex_8e157 cJ3_checkIndex_8e157 3 (some .int)) { frames := 1, cells := 0, slots := 0, locals := 20 } (va_Pc [.int k, .int n, .ref q] (fun _ => True)) (QcRead k) 0 0 (fun _ => False) := by
  refine Met.ofW (cc := cJ3_checkIndex_8e157) (maxL := 3) (ret := some .int) (by decide) rfl ?_
  intro p e s m args below meth c s₁ B hml hv
  obtain ⟨rfl, -⟩ := hv
  have hx := B.exec
  have hb := B.bytes
  have hr := B.returns
  have hts := atoms_spec (ws := zws yJ3_checkIndex_8e157 cJ3_checkIndex_8e157 3 (some .int)) B.pre
  have htb : ∀ w ∈ zTB, w.before ([.int k, .int n, .ref q] : List Value).toArray s = true := fun w h => hts w (List.mem_cons_of_mem _ h)
  have hown : s.vm.findClass RJ3 = some m.cls := findClass_of_methodNamed B.named
  have hlocks := B.notSynchronized
  have hS : va_S (fun _ => False) s.heap s.heap [] := va_S.rf
  have hl := lv_entry ([.int k, .int n, .ref q]) (n := 3) (Nat.le_of_ble_eq_true rfl)
  rw [lg_entry_eq]
  generalize (lg_sl ([.int k, .int n, .ref q]) ++ List.replicate (3 - (lg_sl ([.int k, .int n, .ref q])).length) Slot.unset).toArray = ls at hl ⊢
  have hl : lv_has ls 3 [(0, .int k), (1, .int n), (2, .ref q)] := hl
  refine lv_iload_n hx hb dJ3_checkIndex_8e157_0 rfl (lv_at hl 0 rfl) ?_
  refine lv_if_lt (tgt := 9) hx hb dJ3_checkIndex_8e157_1 (by decide) (fun h => absurd h h1) (fun _ => ?_)
  refine lv_iload_n hx hb dJ3_checkIndex_8e157_4 rfl (lv_at hl 0 rfl) ?_
  refine lv_iload_n hx hb dJ3_checkIndex_8e157_5 rfl (lv_at hl 1 rfl) ?_
  refine lv_icmp_lt (tgt := 16) hx hb dJ3_checkIndex_8e157_6 (by decide) (fun _ => ?_) (fun h => absurd h2 h)
  refine lv_iload_n hx hb dJ3_checkIndex_8e157_16 rfl (lv_at hl 0 rfl) ?_
  exact W.iret hx hb hr (fun t ht hW => ⟨rfl, ht⟩) hS.2.2 dJ3_checkIndex_8e157_17
theorem cJ_ci0 (l : Launch) (a adV : Nat → Nat) {k n : Int32} (h1 : ¬ k < 0) (h2 : k < n) : Met l yJ0_checkIndex_df160 (zws yJ0_checkIndex_df160 cJ0_checkIndex_df160 2 none) { frames := 3, cells := 0, slots := 0, locals := 80 } (va_Pc [.int k, .int n] (zJ a adV)) (va_Sv (fun _ => True)) 0 0 (fun _ => False) := by
  refine Met.ofW (cc := cJ0_checkIndex_df160) (maxL := 2) (ret := none) (by decide) rfl ?_
  intro p e s m args below meth c s₁ B hml hv
  obtain ⟨rfl, hJ⟩ := hv
  have hx := B.exec
  have hb := B.bytes
  have hr := B.returns
  have hts := atoms_spec (ws := zws yJ0_checkIndex_df160 cJ0_checkIndex_df160 2 (none)) B.pre
  have htb : ∀ w ∈ zTB, w.before ([.int k, .int n] : List Value).toArray s = true := fun w h => hts w (List.mem_cons_of_mem _ h)
  have hown : s.vm.findClass RJ0 = some m.cls := findClass_of_methodNamed B.named
  have hlocks := B.notSynchronized
  have hS : va_S (fun _ => False) s.heap s.heap [] := va_S.rf
  have hl := lv_entry ([.int k, .int n]) (n := 2) (Nat.le_of_ble_eq_true rfl)
  rw [lg_entry_eq]
  generalize (lg_sl ([.int k, .int n]) ++ List.replicate (2 - (lg_sl ([.int k, .int n])).length) Slot.unset).toArray = ls at hl ⊢
  have hl : lv_has ls 2 [(0, .int k), (1, .int n)] := hl
  obtain ⟨hE, hZ, hQ⟩ := id hJ
  obtain ⟨w1, w2, w3, w4, w5, w6, w7, w8, w9⟩ := zj_w2
  refine lv_iload_n hx hb dJ0_checkIndex_df160_0 rfl (lv_at hl 0 rfl) ?_
  refine lv_iload_n hx hb dJ0_checkIndex_df160_1 rfl (lv_at hl 1 rfl) ?_
  have hcw : CallB (headSpec (zws yJ0_checkIndex_df160 cJ0_checkIndex_df160 2 none) { frames := 3, cells := 0, slots := 0, locals := 80 }).room s ([.int k, .int n] : List Value).toArray RJ0 1059 yJ3_checkIndex_8e157 cJ3_checkIndex_8e157 3 (some .int) (zws yJ3_checkIndex_8e157 cJ3_checkIndex_8e157 3 (some .int)) { frames := 1, cells := 0, slots := 0, locals := 20 } 0 0 3 ∧ (Cond.static yJ3_checkIndex_8e157).before ([.int k, .int n] : List Value).toArray s = true :=
    ⟨callB_of 3 htb (zGood (fun _ h => h) zcJ_ci3) rfl rfl rfl (htb _ (zin_mem w3)) (htb _ (zin_mem w1)) (by decide +kernel) (by decide), htb _ (zin_mem w2)⟩
  have hend : ∀ z : Int32, W p l e (headSpec (zws yJ0_checkIndex_df160 cJ0_checkIndex_df160 2 none) { frames := 3, cells := 0, slots := 0, locals := 80 }).room s m ([.int k, .int n] : List Value).toArray below meth c s.heap [] 0 0 (MQ below (va_Sv (fun _ => True)) ([.int k, .int n] : List Value).toArray s 0 0 (fun _ => False)) (F0 m 8 ls [.int z]) := by
    intro z
    refine lv_pop hx hb dJ0_checkIndex_df160_8 rfl ?_
    exact W.vret hx hb hr (fun t ht hW => ⟨rfl, trivial, ht⟩) hS.2.2 dJ0_checkIndex_df160_9
  rcases hQ with hQ | ⟨q, hQ⟩
  · refine va_gets hx hb hQ hS hown (htb _ (zin_mem w4)) (fun _ h => h) dJ0_checkIndex_df160_2 ?_
    exact W.callR (W.runS (As := [.int k, .int n, .null]) (rest := []) ⟨hx, hb, hml, hown, htb⟩ (cJ_ci3n l h1 h2) hcw ⟨fun _ _ _ _ h => h, fun U hU hW => ⟨rfl, trivial⟩⟩ rfl rfl hl.1 rfl (lv_room (Nat.le_of_ble_eq_true rfl)) dJ0_checkIndex_df160_5 ⟨Nat.le_refl _, Nat.le_refl _⟩) (hend k)
  · refine va_gets hx hb hQ hS hown (htb _ (zin_mem w4)) (fun _ h => h) dJ0_checkIndex_df160_2 ?_
    exact W.callR (W.runS (As := [.int k, .int n, .ref q]) (rest := []) ⟨hx, hb, hml, hown, htb⟩ (cJ_ci3r l q h1 h2) hcw ⟨fun _ _ _ _ h => h, fun U hU hW => ⟨rfl, trivial⟩⟩ rfl rfl hl.1 rfl (lv_room (Nat.le_of_ble_eq_true rfl)) dJ0_checkIndex_df160_5 ⟨Nat.le_refl _, Nat.le_refl _⟩) (hend k)
