-- String.charAt on the constants
theorem zch : ∀ i, i < 10 → zlens.getD i 0 < 2 ^ 31 ∧ ∀ k, k < zlens.getD i 0 → (((zbyts.getD i []).getD k 0 &&& 255).toUInt32 % 65536).toInt32 = (zstr i).getD k 0 ∧ narrow .char (.int ((zstr i).getD k 0)) = .int ((zstr i).getD k 0) := by decide +kernel
theorem cJ_ca1 (l : Launch) (a adV : Nat → Nat) {i k : Nat} (hi : i < 10) (hk : k < zlens.getD i 0) : Met l yJ1_charAt_3b067 (zws yJ1_charAt_3b067 cJ1_charAt_3b067 2 (some .char)) { frames := 5, cells := 0, slots := 0, locals := 140 } (va_Pc [.ref (adV i), .int (nI k)] (zJ a adV)) (QcRead ((zstr i).getD k 0)) 0 0 (fun _ => False) := by
  refine Met.ofW (cc := cJ1_charAt_3b067) (maxL := 2) (ret := some .char) (by decide) rfl ?_
  intro p e s m args below meth c s₁ B hml hv
  obtain ⟨rfl, hJ⟩ := hv
  have hx := B.exec
  have hb := B.bytes
  have hr := B.returns
  have hts := atoms_spec (ws := zws yJ1_charAt_3b067 cJ1_charAt_3b067 2 (some .char)) B.pre
  have htb : ∀ w ∈ zTB, w.before ([.ref (adV i), .int (nI k)] : List Value).toArray s = true := fun w h => hts w (List.mem_cons_of_mem _ h)
  have hown : s.vm.findClass RJ1 = some m.cls := findClass_of_methodNamed B.named
  have hlocks := B.notSynchronized
  have hS : va_S (fun _ => False) s.heap s.heap [] := va_S.rf
  have hl := lv_entry ([.ref (adV i), .int (nI k)]) (n := 2) (Nat.le_of_ble_eq_true rfl)
  rw [lg_entry_eq]
  generalize (lg_sl ([.ref (adV i), .int (nI k)]) ++ List.replicate (2 - (lg_sl ([.ref (adV i), .int (nI k)])).length) Slot.unset).toArray = ls at hl ⊢
  have hl : lv_has ls 2 [(0, .ref (adV i)), (1, .int (nI k))] := hl
  obtain ⟨hE, hZ, hQ⟩ := id hJ
  obtain ⟨w1, w2, w3, w4, w5, w6, w7, w8, w9⟩ := zj_w2
  obtain ⟨v1, v2, v3, v4, v5, v6, v7, v8, v9, v10⟩ := zj_w
  obtain ⟨hlen, hch⟩ := zch i hi
  obtain ⟨hc1, hc2⟩ := hch k hk
  have hk31 : k < 2 ^ 31 := by omega
  refine lv_iload_n hx hb dJ1_charAt_3b067_0 rfl (lv_at hl 1 rfl) ?_
  refine lv_aload_n hx hb dJ1_charAt_3b067_1 rfl (lv_at hl 0 rfl) ?_
  refine va_tlen hx hb (hE.1 i hi).2.2.2 hS rfl dJ1_charAt_3b067_2 ?_
  have hcw : CallB (headSpec (zws yJ1_charAt_3b067 cJ1_charAt_3b067 2 (some .char)) { frames := 5, cells := 0, slots := 0, locals := 140 }).room s ([.ref (adV i), .int (nI k)] : List Value).toArray RJ1 9 yJ0_checkIndex_df160 cJ0_checkIndex_df160 2 none (zws yJ0_checkIndex_df160 cJ0_checkIndex_df160 2 none) { frames := 3, cells := 0, slots := 0, locals := 80 } 0 0 2 ∧ (Cond.static yJ0_checkIndex_df160).before ([.ref (adV i), .int (nI k)] : List Value).toArray s = true :=
    ⟨callB_of 2 htb (zGood (fun _ h => h) zcJ_ci0) rfl rfl rfl (htb _ (zin_mem v10)) (htb _ (zin_mem w5)) (by decide +kernel) (by decide), htb _ (zin_mem w6)⟩
  refine va_csv (W.runS (As := [.int (nI k), .int (Int32.ofNat (zlens.getD i 0))]) (rest := []) ⟨hx, hb, hml, hown, htb⟩ (cJ_ci0 l a adV (nI_pos hk31) (nI_lt hk hlen)) hcw ⟨zJ.blind, fun U hU hW => ⟨rfl, hJ.moved hW hU⟩⟩ rfl rfl hl.1 rfl (lv_room (Nat.le_of_ble_eq_true rfl)) dJ1_charAt_3b067_3 ⟨Nat.le_refl _, Nat.le_refl _⟩) (fun _ => ?_)
  refine lv_aload_n hx hb dJ1_charAt_3b067_6 rfl (lv_at hl 0 rfl) ?_
  refine lv_iload_n hx hb dJ1_charAt_3b067_7 rfl (lv_at hl 1 rfl) ?_
  refine va_tb hx hb (hE.1 i hi).2.2.2 hS (vp_in_nI hk hlen) (v := .int ((zbyts.getD i []).getD k 0)) (by rw [nI_clamp hk31]) dJ1_charAt_3b067_8 ?_
  refine lv_sipush (v := 255) hx hb dJ1_charAt_3b067_9 (by decide) ?_
  refine lv_iand hx hb dJ1_charAt_3b067_12 ?_
  refine lv_i2c hx hb dJ1_charAt_3b067_13 hc1 ?_
  exact W.zret (ty := .char) hx hb hr hc2 (fun t ht hW => ⟨rfl, ht⟩) hS.2.2 dJ1_charAt_3b067_14
theorem cJ_charAt (l : Launch) (a adV : Nat → Nat) {i k : Nat} (hi : i < 10) (hk : k < zlens.getD i 0) : Met l yJ0_charAt_5068e (zws yJ0_charAt_5068e cJ0_charAt_5068e 2 (some .char)) { frames := 7, cells := 0, slots := 0, locals := 200 } (va_Pc [.ref (a (1000 + i)), .int (nI k)] (zJ a adV)) (QcRead ((zstr i).getD k 0)) 0 0 (fun _ => False) := by
  refine Met.ofW (cc := cJ0_charAt_5068e) (maxL := 2) (ret := some .char) (by decide) rfl ?_
  intro p e s m args below meth c s₁ B hml hv
  obtain ⟨rfl, hJ⟩ := hv
  have hx := B.exec
  have hb := B.bytes
  have hr := B.returns
  have hts := atoms_spec (ws := zws yJ0_charAt_5068e cJ0_charAt_5068e 2 (some .char)) B.pre
  have htb : ∀ w ∈ zTB, w.before ([.ref (a (1000 + i)), .int (nI k)] : List Value).toArray s = true := fun w h => hts w (List.mem_cons_of_mem _ h)
  have hown : s.vm.findClass RJ0 = some m.cls := findClass_of_methodNamed B.named
  have hlocks := B.notSynchronized
  have hS : va_S (fun _ => False) s.heap s.heap [] := va_S.rf
  have hl := lv_entry ([.ref (a (1000 + i)), .int (nI k)]) (n := 2) (Nat.le_of_ble_eq_true rfl)
  rw [lg_entry_eq]
  generalize (lg_sl ([.ref (a (1000 + i)), .int (nI k)]) ++ List.replicate (2 - (lg_sl ([.ref (a (1000 + i)), .int (nI k)])).length) Slot.unset).toArray = ls at hl ⊢
  have hl : lv_has ls 2 [(0, .ref (a (1000 + i))), (1, .int (nI k))] := hl
  obtain ⟨hE, hZ, hQ⟩ := id hJ
  obtain ⟨w1, w2, w3, w4, w5, w6, w7, w8, w9⟩ := zj_w2
  obtain ⟨v1, v2, v3, v4, v5, v6, v7, v8, v9, v10⟩ := zj_w
  obtain ⟨hlen, hch⟩ := zch i hi
  obtain ⟨hc1, hc2⟩ := hch k hk
  refine lv_aload_n hx hb dJ0_charAt_5068e_0 rfl (lv_at hl 0 rfl) ?_
  have hcw : CallW (headSpec (zws yJ0_charAt_5068e cJ0_charAt_5068e 2 (some .char)) { frames := 7, cells := 0, slots := 0, locals := 200 }).room s ([.ref (a (1000 + i)), .int (nI k)] : List Value).toArray RJ0 RJ0 492 yJ0_isLatin1_aae02 cJ0_isLatin1_aae02 1 (some .boolean) (zws yJ0_isLatin1_aae02 cJ0_isLatin1_aae02 1 (some .boolean)) { frames := 1, cells := 0, slots := 0, locals := 20 } 0 0 0 :=
    ⟨callB_of 0 htb (zGood (fun _ h => h) zcJ_lat) rfl rfl rfl (htb _ (zin_mem v10)) (htb _ (zin_mem v7)) (by decide +kernel) (by decide), htb _ (zin_mem v8), htb _ (zin_mem v9)⟩
  refine W.callR (W.runV (As := []) (rest := []) (b := a (1000 + i)) ⟨hx, hb, hml, hown, htb⟩ (cJ_isLatin1 l a adV hi) hcw ⟨zJ.blind, vk_recv (adK := fun i => a (1000 + i)) (i := i) hE hi hS, fun U hU hW => ⟨rfl, hJ.moved hW hU⟩⟩ rfl rfl hl.1 rfl (lv_room (Nat.le_of_ble_eq_true rfl)) dJ0_charAt_5068e_1 ⟨Nat.le_refl _, Nat.le_refl _⟩) ?_
  refine W.eq (g2 := F0 m 4 ls [.int 1]) rfl ?_
  refine lv_if_eq (tgt := 16) hx hb dJ0_charAt_5068e_4 (by decide) (fun h => absurd h (by decide)) (fun _ => ?_)
  refine lv_aload_n hx hb dJ0_charAt_5068e_7 rfl (lv_at hl 0 rfl) ?_
  refine vk_getf hx hb (hE.1 i hi).2.2.1 hS hown (htb _ (zin_mem v3)) (fun _ h => h) dJ0_charAt_5068e_8 ?_
  refine lv_iload_n hx hb dJ0_charAt_5068e_11 rfl (lv_at hl 1 rfl) ?_
  have hcw2 : CallB (headSpec (zws yJ0_charAt_5068e cJ0_charAt_5068e 2 (some .char)) { frames := 7, cells := 0, slots := 0, locals := 200 }).room s ([.ref (a (1000 + i)), .int (nI k)] : List Value).toArray RJ0 495 yJ1_charAt_3b067 cJ1_charAt_3b067 2 (some .char) (zws yJ1_charAt_3b067 cJ1_charAt_3b067 2 (some .char)) { frames := 5, cells := 0, slots := 0, locals := 140 } 0 0 2 ∧ (Cond.static yJ1_charAt_3b067).before ([.ref (a (1000 + i)), .int (nI k)] : List Value).toArray s = true :=
    ⟨callB_of 2 htb (zGood (fun _ h => h) zcJ_ca1) rfl rfl rfl (htb _ (zin_mem w9)) (htb _ (zin_mem w7)) (by decide +kernel) (by decide), htb _ (zin_mem w8)⟩
  refine W.callR (W.runS (As := [.ref (adV i), .int (nI k)]) (rest := []) ⟨hx, hb, hml, hown, htb⟩ (cJ_ca1 l a adV hi hk) hcw2 ⟨zJ.blind, fun U hU hW => ⟨rfl, hJ.moved hW hU⟩⟩ rfl rfl hl.1 rfl (lv_room (Nat.le_of_ble_eq_true rfl)) dJ0_charAt_5068e_12 ⟨Nat.le_refl _, Nat.le_refl _⟩) ?_
  refine W.eq (g2 := F0 m 15 ls [.int ((zstr i).getD k 0)]) rfl ?_
  exact W.zret (ty := .char) hx hb hr hc2 (fun t ht hW => ⟨rfl, ht⟩) hS.2.2 dJ0_charAt_5068e_15
