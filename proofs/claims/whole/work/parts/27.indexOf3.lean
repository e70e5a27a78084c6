-- StringLatin1.indexOf
theorem zj_w3 : zin 551 (.methodLink RJ1 92 Lib.Math.max.name) = true ∧ zin 552 (.static Lib.Math.max.name) = true ∧ zin 90 (.initialized "java/lang/Math") = true ∧ zin 553 (.code Lib.Math.max.name Lib.Math.max.code 2 (some .int)) = true ∧ zin 554 (.methodLink RJ1 38 Lib.Math.min.name) = true ∧ zin 555 (.static Lib.Math.min.name) = true ∧ zin 556 (.code Lib.Math.min.name Lib.Math.min.code 2 (some .int)) = true ∧ zin 548 (.methodLink RJ1 88 yJ1_canEncode_9a6ad) = true ∧ zin 549 (.static yJ1_canEncode_9a6ad) = true ∧ zin 557 (.methodLink RJ1 95 yJ1_indexOfChar_4cfef) = true ∧ zin 558 (.static yJ1_indexOfChar_4cfef) = true := by decide +kernel
set_option maxRecDepth 100000 in
theorem zcJ_can : lw_tbl[550]? = some (.code yJ1_canEncode_9a6ad cJ1_canEncode_9a6ad 1 (some .boolean)) := rfl
set_option maxRecDepth 100000 in
theorem zcJ_ixc : lw_tbl[559]? = some (.code yJ1_indexOfChar_4cfef cJ1_indexOfChar_4cfef 6 (some .int)) := rfl
theorem cJ_ix1 (l : Launch) (a adV : Nat → Nat) {i n : Nat} (hi : i < 10) (hn : n < 256) : Met l yJ1_indexOf_4cfef (zws yJ1_indexOf_4cfef cJ1_indexOf_4cfef 4 (some .int)) { frames := 3, cells := 0, slots := 0, locals := 80 } (va_Pc [.ref (adV i), .int (nI n), .int 0, .int (Int32.ofNat (zlens.getD i 0))] (zJ a adV)) (QcRead (zixF (nI n) (zstr i) 0)) 0 0 (fun _ => False) := by
  refine Met.ofW (cc := cJ1_indexOf_4cfef) (maxL := 4) (ret := some .int) (by decide) rfl ?_
  intro p e s m args below meth c s₁ B hml hv
  obtain ⟨rfl, hJ⟩ := hv
  obtain ⟨hE, hZ, hQ⟩ := id hJ
  have hx := B.exec
  have hb := B.bytes
  have hr := B.returns
  have hts := atoms_spec (ws := zws yJ1_indexOf_4cfef cJ1_indexOf_4cfef 4 (some .int)) B.pre
  have htb : ∀ w ∈ zTB, w.before ([.ref (adV i), .int (nI n), .int 0, .int (Int32.ofNat (zlens.getD i 0))] : List Value).toArray s = true := fun w h => hts w (List.mem_cons_of_mem _ h)
  have hown : s.vm.findClass RJ1 = some m.cls := findClass_of_methodNamed B.named
  have hlocks := B.notSynchronized
  have hS : va_S (fun _ => False) s.heap s.heap [] := va_S.rf
  obtain ⟨w1, w2, w3, w4, w5, w6, w7, w8, w9, w10, w11⟩ := zj_w3
  obtain ⟨-, -, -, -, -, -, -, -, v9⟩ := zj_w2
  have hl := lv_entry ([.ref (adV i), .int (nI n), .int 0, .int (Int32.ofNat (zlens.getD i 0))]) (n := 4) (Nat.le_of_ble_eq_true rfl)
  rw [lg_entry_eq]
  generalize (lg_sl ([.ref (adV i), .int (nI n), .int 0, .int (Int32.ofNat (zlens.getD i 0))]) ++ List.replicate (4 - (lg_sl ([.ref (adV i), .int (nI n), .int 0, .int (Int32.ofNat (zlens.getD i 0))])).length) Slot.unset).toArray = ls at hl ⊢
  have hl : lv_has ls 4 [(0, .ref (adV i)), (1, .int (nI n)), (2, .int 0), (3, .int (Int32.ofNat (zlens.getD i 0)))] := hl
  have hpos : (0 : Int32) < Int32.ofNat (zlens.getD i 0) := by
    have : ∀ i, i < 10 → (0 : Int32) < Int32.ofNat (zlens.getD i 0) := by decide +kernel
    exact this i hi
  have hv256 : nI n < 256 := by
    have : ∀ n, n < 256 → nI n < 256 := by decide +kernel
    exact this n hn
  refine lv_iload_n hx hb dJ1_indexOf_4cfef_0 rfl (lv_at hl 1 rfl) ?_
  have hcw : CallB (headSpec (zws yJ1_indexOf_4cfef cJ1_indexOf_4cfef 4 (some .int)) { frames := 3, cells := 0, slots := 0, locals := 80 }).room s ([.ref (adV i), .int (nI n), .int 0, .int (Int32.ofNat (zlens.getD i 0))] : List Value).toArray RJ1 88 yJ1_canEncode_9a6ad cJ1_canEncode_9a6ad 1 (some .boolean) (zws yJ1_canEncode_9a6ad cJ1_canEncode_9a6ad 1 (some .boolean)) { frames := 1, cells := 0, slots := 0, locals := 20 } 0 0 1 ∧ (Cond.static yJ1_canEncode_9a6ad).before ([.ref (adV i), .int (nI n), .int 0, .int (Int32.ofNat (zlens.getD i 0))] : List Value).toArray s = true :=
    ⟨callB_of 1 htb (zGood (fun _ h => h) zcJ_can) rfl rfl rfl (htb _ (zin_mem v9)) (htb _ (zin_mem w8)) (by decide +kernel) (by decide), htb _ (zin_mem w9)⟩
  refine W.callR (W.runS (As := [.int (nI n)]) (rest := []) ⟨hx, hb, hml, hown, htb⟩ (cJ_can l (nI_pos (by omega)) hv256) hcw ⟨fun _ _ _ _ h => h, fun U hU hW => ⟨rfl, trivial⟩⟩ rfl rfl hl.1 rfl (lv_room (Nat.le_of_ble_eq_true rfl)) dJ1_indexOf_4cfef_1 ⟨Nat.le_refl _, Nat.le_refl _⟩) ?_
  refine W.eq (g2 := F0 m 4 ls [.int 1]) rfl ?_
  refine lv_if_ne (tgt := 9) hx hb dJ1_indexOf_4cfef_4 (by decide) (fun _ => ?_) (fun h => absurd h (by decide))
  refine lv_iload_n hx hb dJ1_indexOf_4cfef_9 rfl (lv_at hl 2 rfl) ?_
  refine lv_iconst (v := 0) hx hb dJ1_indexOf_4cfef_10 (by decide) ?_
  refine va_mmax hx hb (hml.trans hl.1.symm) hown (htb _ (zin_mem w1)) (htb _ (zin_mem w2)) (htb _ (zin_mem w3)) (htb _ (zin_mem w4)) (Nat.le_of_ble_eq_true rfl) (Nat.le_of_ble_eq_true rfl) (Nat.zero_le _) (Nat.zero_le _) dJ1_indexOf_4cfef_11 ?_
  rw [if_neg (by decide)]
  refine lv_istore_n (lv' := [(2, .int 0), (0, .ref (adV i)), (1, .int (nI n)), (3, .int (Int32.ofNat (zlens.getD i 0)))]) hx hb dJ1_indexOf_4cfef_14 rfl hl (by decide) rfl (fun ls hl => ?_)
  refine lv_iload_n hx hb dJ1_indexOf_4cfef_15 rfl (lv_at hl 3 rfl) ?_
  refine lv_aload_n hx hb dJ1_indexOf_4cfef_16 rfl (lv_at hl 1 rfl) ?_
  refine va_tlen hx hb (hE.1 i hi).2.2.2 hS rfl dJ1_indexOf_4cfef_17 ?_
  refine va_mmin hx hb (hml.trans hl.1.symm) hown (htb _ (zin_mem w5)) (htb _ (zin_mem w6)) (htb _ (zin_mem w3)) (htb _ (zin_mem w7)) (Nat.le_of_ble_eq_true rfl) (Nat.le_of_ble_eq_true rfl) (Nat.zero_le _) (Nat.zero_le _) dJ1_indexOf_4cfef_18 ?_
  rw [ite_self]
  refine lv_istore_n (lv' := [(3, .int (Int32.ofNat (zlens.getD i 0))), (2, .int 0), (0, .ref (adV i)), (1, .int (nI n))]) hx hb dJ1_indexOf_4cfef_21 rfl hl (by decide) rfl (fun ls hl => ?_)
  refine lv_iload_n hx hb dJ1_indexOf_4cfef_22 rfl (lv_at hl 1 rfl) ?_
  refine lv_iload_n hx hb dJ1_indexOf_4cfef_23 rfl (lv_at hl 0 rfl) ?_
  refine lv_icmp_lt (tgt := 29) hx hb dJ1_indexOf_4cfef_24 (by decide) (fun _ => ?_) (fun h => absurd hpos h)
  refine lv_aload_n hx hb dJ1_indexOf_4cfef_29 rfl (lv_at hl 2 rfl) ?_
  refine lv_iload_n hx hb dJ1_indexOf_4cfef_30 rfl (lv_at hl 3 rfl) ?_
  refine lv_iload_n hx hb dJ1_indexOf_4cfef_31 rfl (lv_at hl 1 rfl) ?_
  refine lv_iload_n hx hb dJ1_indexOf_4cfef_32 rfl (lv_at hl 0 rfl) ?_
  have hcw2 : CallB (headSpec (zws yJ1_indexOf_4cfef cJ1_indexOf_4cfef 4 (some .int)) { frames := 3, cells := 0, slots := 0, locals := 80 }).room s ([.ref (adV i), .int (nI n), .int 0, .int (Int32.ofNat (zlens.getD i 0))] : List Value).toArray RJ1 95 yJ1_indexOfChar_4cfef cJ1_indexOfChar_4cfef 6 (some .int) (zws yJ1_indexOfChar_4cfef cJ1_indexOfChar_4cfef 6 (some .int)) { frames := 1, cells := 0, slots := 0, locals := 20 } 0 0 4 ∧ (Cond.static yJ1_indexOfChar_4cfef).before ([.ref (adV i), .int (nI n), .int 0, .int (Int32.ofNat (zlens.getD i 0))] : List Value).toArray s = true :=
    ⟨callB_of 4 htb (zGood (fun _ h => h) zcJ_ixc) rfl rfl rfl (htb _ (zin_mem v9)) (htb _ (zin_mem w10)) (by decide +kernel) (by decide), htb _ (zin_mem w11)⟩
  refine W.callR (W.runS (As := [.ref (adV i), .int (nI n), .int 0, .int (Int32.ofNat (zlens.getD i 0))]) (rest := []) ⟨hx, hb, hml, hown, htb⟩ (cJ_ixc l a adV hi hn) hcw2 ⟨zJ.blind, fun U hU hW => ⟨rfl, hJ.moved hW hU⟩⟩ rfl rfl hl.1 rfl (lv_room (Nat.le_of_ble_eq_true rfl)) dJ1_indexOf_4cfef_33 ⟨Nat.le_refl _, Nat.le_refl _⟩) ?_
  refine W.eq (g2 := F0 m 36 ls [.int (zixF (nI n) (zstr i) 0)]) rfl ?_
  exact W.iret hx hb hr (fun t ht hW => ⟨rfl, ht⟩) hS.2.2 dJ1_indexOf_4cfef_36
