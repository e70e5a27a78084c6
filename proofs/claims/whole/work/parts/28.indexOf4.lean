-- String.indexOf
theorem zj_w4 : zin 540 (.methodLink RJ0 633 yJ0_indexOf_7cf53) = true ∧ zin 541 (.instanceMethod yJ0_indexOf_7cf53) = true ∧ zin 542 (.selects RJ0 yJ0_indexOf_7cf53 yJ0_indexOf_7cf53) = true ∧ zin 544 (.methodLink RJ0 505 yJ0_length_8abf5) = true ∧ zin 476 (.instanceMethod yJ0_length_8abf5) = true ∧ zin 477 (.selects RJ0 yJ0_length_8abf5 yJ0_length_8abf5) = true ∧ zin 545 (.methodLink RJ0 637 yJ1_indexOf_4cfef) = true ∧ zin 546 (.static yJ1_indexOf_4cfef) = true := by decide +kernel
set_option maxRecDepth 100000 in
theorem zcJ_ix2 : lw_tbl[543]? = some (.code yJ0_indexOf_7cf53 cJ0_indexOf_7cf53 3 (some .int)) := rfl
set_option maxRecDepth 100000 in
theorem zcJ_len : lw_tbl[478]? = some (.code yJ0_length_8abf5 cJ0_length_8abf5 1 (some .int)) := rfl
set_option maxRecDepth 100000 in
theorem zcJ_ix1 : lw_tbl[547]? = some (.code yJ1_indexOf_4cfef cJ1_indexOf_4cfef 4 (some .int)) := rfl
theorem cJ_ix2 (l : Launch) (a adV : Nat → Nat) {i n : Nat} (hi : i < 10) (hn : n < 256) : Met l yJ0_indexOf_7cf53 (zws yJ0_indexOf_7cf53 cJ0_indexOf_7cf53 3 (some .int)) { frames := 5, cells := 0, slots := 0, locals := 150 } (va_Pc [.ref (a (1000 + i)), .int (nI n), .int 0] (zJ a adV)) (QcRead (zixF (nI n) (zstr i) 0)) 0 0 (fun _ => False) := by
  refine Met.ofW (cc := cJ0_indexOf_7cf53) (maxL := 3) (ret := some .int) (by decide) rfl ?_
  intro p e s m args below meth c s₁ B hml hv
  obtain ⟨rfl, hJ⟩ := hv
  obtain ⟨hE, hZ, hQ⟩ := id hJ
  have hx := B.exec
  have hb := B.bytes
  have hr := B.returns
  have hts := atoms_spec (ws := zws yJ0_indexOf_7cf53 cJ0_indexOf_7cf53 3 (some .int)) B.pre
  have htb : ∀ w ∈ zTB, w.before ([.ref (a (1000 + i)), .int (nI n), .int 0] : List Value).toArray s = true := fun w h => hts w (List.mem_cons_of_mem _ h)
  have hown : s.vm.findClass RJ0 = some m.cls := findClass_of_methodNamed B.named
  have hlocks := B.notSynchronized
  have hS : va_S (fun _ => False) s.heap s.heap [] := va_S.rf
  obtain ⟨w1, w2, w3, w4, w5, w6, w7, w8⟩ := zj_w4
  obtain ⟨-, -, -, -, -, -, -, -, u9⟩ := zj_w2
  obtain ⟨v1, v2, v3, v4, v5, v6, v7, v8, v9, v10⟩ := zj_w
  have hl := lv_entry ([.ref (a (1000 + i)), .int (nI n), .int 0]) (n := 3) (Nat.le_of_ble_eq_true rfl)
  rw [lg_entry_eq]
  generalize (lg_sl ([.ref (a (1000 + i)), .int (nI n), .int 0]) ++ List.replicate (3 - (lg_sl ([.ref (a (1000 + i)), .int (nI n), .int 0])).length) Slot.unset).toArray = ls at hl ⊢
  have hl : lv_has ls 3 [(0, .ref (a (1000 + i))), (1, .int (nI n)), (2, .int 0)] := hl
  refine lv_aload_n hx hb dJ0_indexOf_7cf53_0 rfl (lv_at hl 0 rfl) ?_
  have hcw : CallW (headSpec (zws yJ0_indexOf_7cf53 cJ0_indexOf_7cf53 3 (some .int)) { frames := 5, cells := 0, slots := 0, locals := 150 }).room s ([.ref (a (1000 + i)), .int (nI n), .int 0] : List Value).toArray RJ0 RJ0 492 yJ0_isLatin1_aae02 cJ0_isLatin1_aae02 1 (some .boolean) (zws yJ0_isLatin1_aae02 cJ0_isLatin1_aae02 1 (some .boolean)) { frames := 1, cells := 0, slots := 0, locals := 20 } 0 0 0 :=
    ⟨callB_of 0 htb (zGood (fun _ h => h) zcJ_lat) rfl rfl rfl (htb _ (zin_mem v10)) (htb _ (zin_mem v7)) (by decide +kernel) (by decide), htb _ (zin_mem v8), htb _ (zin_mem v9)⟩
  refine W.callR (W.runV (As := []) (rest := []) (b := a (1000 + i)) ⟨hx, hb, hml, hown, htb⟩ (cJ_isLatin1 l a adV hi) hcw ⟨zJ.blind, vk_recv (adK := fun i => a (1000 + i)) (i := i) hE hi hS, fun U hU hW => ⟨rfl, hJ.moved hW hU⟩⟩ rfl rfl hl.1 rfl (lv_room (Nat.le_of_ble_eq_true rfl)) dJ0_indexOf_7cf53_1 ⟨Nat.le_refl _, Nat.le_refl _⟩) ?_
  refine W.eq (g2 := F0 m 4 ls [.int 1]) rfl ?_
  refine lv_if_eq (tgt := 23) hx hb dJ0_indexOf_7cf53_4 (by decide) (fun h => absurd h (by decide)) (fun _ => ?_)
  refine lv_aload_n hx hb dJ0_indexOf_7cf53_7 rfl (lv_at hl 0 rfl) ?_
  refine vk_getf hx hb (hE.1 i hi).2.2.1 hS hown (htb _ (zin_mem v3)) (fun _ h => h) dJ0_indexOf_7cf53_8 ?_
  refine lv_iload_n hx hb dJ0_indexOf_7cf53_11 rfl (lv_at hl 1 rfl) ?_
  refine lv_iload_n hx hb dJ0_indexOf_7cf53_12 rfl (lv_at hl 2 rfl) ?_
  refine lv_aload_n hx hb dJ0_indexOf_7cf53_13 rfl (lv_at hl 0 rfl) ?_
  have hcw1 : CallW (headSpec (zws yJ0_indexOf_7cf53 cJ0_indexOf_7cf53 3 (some .int)) { frames := 5, cells := 0, slots := 0, locals := 150 }).room s ([.ref (a (1000 + i)), .int (nI n), .int 0] : List Value).toArray RJ0 RJ0 505 yJ0_length_8abf5 cJ0_length_8abf5 1 (some .int) (zws yJ0_length_8abf5 cJ0_length_8abf5 1 (some .int)) { frames := 3, cells := 0, slots := 0, locals := 60 } 0 0 0 :=
    ⟨callB_of 0 htb (zGood (fun _ h => h) zcJ_len) rfl rfl rfl (htb _ (zin_mem v10)) (htb _ (zin_mem w4)) (by decide +kernel) (by decide), htb _ (zin_mem w5), htb _ (zin_mem w6)⟩
  refine W.callR (W.runV (As := []) (rest := [.int 0, .int (nI n), .ref (adV i)]) (b := a (1000 + i)) ⟨hx, hb, hml, hown, htb⟩ (cJ_length l a adV hi) hcw1 ⟨zJ.blind, vk_recv (adK := fun i => a (1000 + i)) (i := i) hE hi hS, fun U hU hW => ⟨rfl, hJ.moved hW hU⟩⟩ rfl rfl hl.1 rfl (lv_room (Nat.le_of_ble_eq_true rfl)) dJ0_indexOf_7cf53_14 ⟨Nat.le_refl _, Nat.le_refl _⟩) ?_
  refine W.eq (g2 := F0 m 17 ls [.int (Int32.ofNat (zlens.getD i 0)), .int 0, .int (nI n), .ref (adV i)]) rfl ?_
  have hcw2 : CallB (headSpec (zws yJ0_indexOf_7cf53 cJ0_indexOf_7cf53 3 (some .int)) { frames := 5, cells := 0, slots := 0, locals := 150 }).room s ([.ref (a (1000 + i)), .int (nI n), .int 0] : List Value).toArray RJ0 637 yJ1_indexOf_4cfef cJ1_indexOf_4cfef 4 (some .int) (zws yJ1_indexOf_4cfef cJ1_indexOf_4cfef 4 (some .int)) { frames := 3, cells := 0, slots := 0, locals := 80 } 0 0 4 ∧ (Cond.static yJ1_indexOf_4cfef).before ([.ref (a (1000 + i)), .int (nI n), .int 0] : List Value).toArray s = true :=
    ⟨callB_of 4 htb (zGood (fun _ h => h) zcJ_ix1) rfl rfl rfl (htb _ (zin_mem u9)) (htb _ (zin_mem w7)) (by decide +kernel) (by decide), htb _ (zin_mem w8)⟩
  refine W.callR (W.runS (As := [.ref (adV i), .int (nI n), .int 0, .int (Int32.ofNat (zlens.getD i 0))]) (rest := []) ⟨hx, hb, hml, hown, htb⟩ (cJ_ix1 l a adV hi hn) hcw2 ⟨zJ.blind, fun U hU hW => ⟨rfl, hJ.moved hW hU⟩⟩ rfl rfl hl.1 rfl (lv_room (Nat.le_of_ble_eq_true rfl)) dJ0_indexOf_7cf53_17 ⟨Nat.le_refl _, Nat.le_refl _⟩) ?_
  refine W.eq (g2 := F0 m 20 ls [.int (zixF (nI n) (zstr i) 0)]) rfl ?_
  refine lv_goto (tgt := 36) hx hb dJ0_indexOf_7cf53_20 (by decide) ?_
  exact W.iret hx hb hr (fun t ht hW => ⟨rfl, ht⟩) hS.2.2 dJ0_indexOf_7cf53_36
theorem cJ_indexOf (l : Launch) (a adV : Nat → Nat) {i n : Nat} (hi : i < 10) (hn : n < 256) : Met l yJ0_indexOf_0f7a4 (zws yJ0_indexOf_0f7a4 cJ0_indexOf_0f7a4 2 (some .int)) { frames := 7, cells := 0, slots := 0, locals := 200 } (va_Pc [.ref (a (1000 + i)), .int (nI n)] (zJ a adV)) (QcRead (zixF (nI n) (zstr i) 0)) 0 0 (fun _ => False) := by
  refine Met.ofW (cc := cJ0_indexOf_0f7a4) (maxL := 2) (ret := some .int) (by decide) rfl ?_
  intro p e s m args below meth c s₁ B hml hv
  obtain ⟨rfl, hJ⟩ := hv
  obtain ⟨hE, hZ, hQ⟩ := id hJ
  have hx := B.exec
  have hb := B.bytes
  have hr := B.returns
  have hts := atoms_spec (ws := zws yJ0_indexOf_0f7a4 cJ0_indexOf_0f7a4 2 (some .int)) B.pre
  have htb : ∀ w ∈ zTB, w.before ([.ref (a (1000 + i)), .int (nI n)] : List Value).toArray s = true := fun w h => hts w (List.mem_cons_of_mem _ h)
  have hown : s.vm.findClass RJ0 = some m.cls := findClass_of_methodNamed B.named
  have hlocks := B.notSynchronized
  have hS : va_S (fun _ => False) s.heap s.heap [] := va_S.rf
  obtain ⟨w1, w2, w3, w4, w5, w6, w7, w8⟩ := zj_w4
  obtain ⟨-, -, -, -, -, -, -, -, u9⟩ := zj_w2
  obtain ⟨v1, v2, v3, v4, v5, v6, v7, v8, v9, v10⟩ := zj_w
  have hl := lv_entry ([.ref (a (1000 + i)), .int (nI n)]) (n := 2) (Nat.le_of_ble_eq_true rfl)
  rw [lg_entry_eq]
  generalize (lg_sl ([.ref (a (1000 + i)), .int (nI n)]) ++ List.replicate (2 - (lg_sl ([.ref (a (1000 + i)), .int (nI n)])).length) Slot.unset).toArray = ls at hl ⊢
  have hl : lv_has ls 2 [(0, .ref (a (1000 + i))), (1, .int (nI n))] := hl
  refine lv_aload_n hx hb dJ0_indexOf_0f7a4_0 rfl (lv_at hl 0 rfl) ?_
  refine lv_iload_n hx hb dJ0_indexOf_0f7a4_1 rfl (lv_at hl 1 rfl) ?_
  refine lv_iconst (v := 0) hx hb dJ0_indexOf_0f7a4_2 (by decide) ?_
  have hcw : CallW (headSpec (zws yJ0_indexOf_0f7a4 cJ0_indexOf_0f7a4 2 (some .int)) { frames := 7, cells := 0, slots := 0, locals := 200 }).room s ([.ref (a (1000 + i)), .int (nI n)] : List Value).toArray RJ0 RJ0 633 yJ0_indexOf_7cf53 cJ0_indexOf_7cf53 3 (some .int) (zws yJ0_indexOf_7cf53 cJ0_indexOf_7cf53 3 (some .int)) { frames := 5, cells := 0, slots := 0, locals := 150 } 0 0 2 :=
    ⟨callB_of 2 htb (zGood (fun _ h => h) zcJ_ix2) rfl rfl rfl (htb _ (zin_mem v10)) (htb _ (zin_mem w1)) (by decide +kernel) (by decide), htb _ (zin_mem w2), htb _ (zin_mem w3)⟩
  refine W.callR (W.runV (As := [.int (nI n), .int 0]) (rest := []) (b := a (1000 + i)) ⟨hx, hb, hml, hown, htb⟩ (cJ_ix2 l a adV hi hn) hcw ⟨zJ.blind, vk_recv (adK := fun i => a (1000 + i)) (i := i) hE hi hS, fun U hU hW => ⟨rfl, hJ.moved hW hU⟩⟩ rfl rfl hl.1 rfl (lv_room (Nat.le_of_ble_eq_true rfl)) dJ0_indexOf_0f7a4_3 ⟨Nat.le_refl _, Nat.le_refl _⟩) ?_
  refine W.eq (g2 := F0 m 6 ls [.int (zixF (nI n) (zstr i) 0)]) rfl ?_
  exact W.iret hx hb hr (fun t ht hW => ⟨rfl, ht⟩) hS.2.2 dJ0_indexOf_0f7a4_6
