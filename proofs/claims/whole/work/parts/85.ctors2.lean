-- constructors, 2
theorem dX6_init_0 : decode cX6_init 0 = .ok (.aload_n 0, 1) := by decide +kernel
theorem dX6_init_1 : decode cX6_init 1 = .ok (.invokespecial 3, 3) := by decide +kernel
theorem dX6_init_4 : decode cX6_init 4 = .ok (.aload_n 0, 1) := by decide +kernel
theorem dX6_init_5 : decode cX6_init 5 = .ok (.sipush 401, 3) := by decide +kernel
theorem dX6_init_8 : decode cX6_init 8 = .ok (.newarray .int, 2) := by decide +kernel
theorem dX6_init_10 : decode cX6_init 10 = .ok (.putfield 9, 3) := by decide +kernel
theorem dX6_init_13 : decode cX6_init 13 = .ok (.aload_n 0, 1) := by decide +kernel
theorem dX6_init_14 : decode cX6_init 14 = .ok (.sipush 401, 3) := by decide +kernel
theorem dX6_init_17 : decode cX6_init 17 = .ok (.newarray .int, 2) := by decide +kernel
theorem dX6_init_19 : decode cX6_init 19 = .ok (.putfield 15, 3) := by decide +kernel
theorem dX6_init_22 : decode cX6_init 22 = .ok (.aload_n 0, 1) := by decide +kernel
theorem dX6_init_23 : decode cX6_init 23 = .ok (.sipush 401, 3) := by decide +kernel
theorem dX6_init_26 : decode cX6_init 26 = .ok (.newarray .int, 2) := by decide +kernel
theorem dX6_init_28 : decode cX6_init 28 = .ok (.putfield 18, 3) := by decide +kernel
theorem dX6_init_31 : decode cX6_init 31 = .ok (.aload_n 0, 1) := by decide +kernel
theorem dX6_init_32 : decode cX6_init 32 = .ok (.iconst 0, 1) := by decide +kernel
theorem dX6_init_33 : decode cX6_init 33 = .ok (.putfield 21, 3) := by decide +kernel
theorem dX6_init_36 : decode cX6_init 36 = .ok (.aload_n 0, 1) := by decide +kernel
theorem dX6_init_37 : decode cX6_init 37 = .ok (.iconst 0, 1) := by decide +kernel
theorem dX6_init_38 : decode cX6_init 38 = .ok (.putfield 25, 3) := by decide +kernel
theorem dX6_init_41 : decode cX6_init 41 = .ok (.return_, 1) := by decide +kernel
set_option maxRecDepth 100000 in
theorem kwX6_init : zin 126 (.methodLink RX6 3 objectInit) = true ∧ zin 105 (.instanceMethod objectInit) = true ∧ zin 106 (.code objectInit ⟨#[0xb1]⟩ 1 none) = true ∧ zin 143 (.arrayClass .int) = true ∧ zin 127 (.fieldLink RX6 9 "ReplayDesk$Tokens" "kinds" "[I") = true ∧ zin 128 (.fieldLink RX6 15 "ReplayDesk$Tokens" "places" "[I") = true ∧ zin 129 (.fieldLink RX6 18 "ReplayDesk$Tokens" "values" "[I") = true ∧ zin 130 (.fieldLink RX6 21 "ReplayDesk$Tokens" "size" "I") = true ∧ zin 131 (.fieldLink RX6 25 "ReplayDesk$Tokens" "next" "I") = true := by decide +kernel
set_option maxRecDepth 100000 in
theorem zcX6_init : lw_tbl[125]? = some (.code yX6_init cX6_init 1 none) := rfl
def fwX6 (kI kC : ClassId) (h0 : Nat) (u : Nat → Nat) : va_W := [(h0, .inr (6, [.ref (u 0), .ref (u 1), .ref (u 2), .int 0, .int 0])), (u 0, .inl (kI, 401, .inl fun _ => 0)), (u 1, .inl (kI, 401, .inl fun _ => 0)), (u 2, .inl (kI, 401, .inl fun _ => 0))]
set_option maxHeartbeats 4000000 in
set_option maxRecDepth 100000 in
theorem cX6_init_ok (l : Launch) (kI kC : ClassId) (dC : Nat → ClassId) (dI : Nat → Nat → Nat) (h0 sz : Nat) : Met l yX6_init (zws yX6_init cX6_init 1 none) { frames := 1, cells := 3, slots := 1203, locals := 12 } (va_Pc [.ref h0] (fun U => U.heap.size = sz ∧ va_P (dC, dI) vwCl [(h0, .inr (6, [.null, .null, .null, .int 0, .int 0]))] U.heap ∧ va_K (dC, dI) vwCl (ztys kI kC) U ∧ va_D (fun _ => True) [(h0, .inr (6, [.null, .null, .null, .int 0, .int 0]))])) (va_Qv (fun _ : Nat → Nat => True) (fun u t => va_P (dC, dI) vwCl (fwX6 kI kC h0 u) t.heap ∧ va_D (va_A [(h0, .inr (6, [.null, .null, .null, .int 0, .int 0]))] sz) (fwX6 kI kC h0 u)) (va_A [(h0, .inr (6, [.null, .null, .null, .int 0, .int 0]))] sz)) 3 1203 (va_A [(h0, .inr (6, [.null, .null, .null, .int 0, .int 0]))] sz) := by
  refine Met.ofW (cc := cX6_init) (maxL := 1) (ret := none) (by decide) rfl ?_
  intro p e s m args below meth c s₁ B hml hv
  obtain ⟨rfl, hsz, hP, hK, hD0⟩ := hv
  have hx := B.exec
  have hb := B.bytes
  have hr := B.returns
  have hts := atoms_spec (ws := zws yX6_init cX6_init 1 none) B.pre
  have htb : ∀ w ∈ zTB, w.before ([.ref h0] : List Value).toArray s = true := fun w h => hts w (List.mem_cons_of_mem _ h)
  have hown : s.vm.findClass RX6 = some m.cls := findClass_of_methodNamed B.named
  have hlocks := B.notSynchronized
  have hin : meth.name = "<init>" := (name_of_methodNamed B.named B.method).1
  subst hsz
  have hD := hD0.self (sz := s.heap.size)
  generalize hAe : va_A [(h0, .inr (6, [.null, .null, .null, .int 0, .int 0]))] s.heap.size = A at hD ⊢
  have hA : ∀ q : Nat, s.heap.size ≤ q → A q := fun q h => by rw [← hAe]; exact Or.inr h
  have hS : va_S A s.heap s.heap [] := va_S.rf
  obtain ⟨w0, w1, w2, w3, w4, w5, w6, w7, w8⟩ := kwX6_init
  have hl := lv_entry ([.ref h0]) (n := 1) (Nat.le_of_ble_eq_true rfl)
  rw [lg_entry_eq]
  generalize (lg_sl ([.ref h0]) ++ List.replicate (1 - (lg_sl ([.ref h0])).length) Slot.unset).toArray = ls at hl ⊢
  have hl : lv_has ls 1 [(0, .ref h0)] := hl
  refine lv_aload_n hx hb dX6_init_0 rfl (lv_at hl 0 rfl) ?_
  refine W.objInit hx hb hown (htb _ (zin_mem w0)) (htb _ (zin_mem w1)) (htb _ (zin_mem w2)) rfl (by rw [hml]; exact hl.1) rfl dX6_init_1 (Nat.le_of_ble_eq_true rfl) (Nat.le_of_ble_eq_true rfl) ?_
  refine W.eq (g2 := F0 m 4 ls []) rfl ?_
  refine lv_aload_n hx hb dX6_init_4 rfl (lv_at hl 0 rfl) ?_
  refine lv_sipush (v := 401) hx hb dX6_init_5 (by decide) ?_
  refine zc_newi (N9 := 401) hx hb (htb _ (zin_mem w3)) hK hP hD hS hA (by decide) rfl (Nat.le_of_ble_eq_true rfl) (Nat.le_of_ble_eq_true rfl) (Nat.le_of_ble_eq_true rfl) dX6_init_8 (fun q8 H hP hD hS => ?_)
  have hP : va_P (dC, dI) vwCl [(h0, .inr (6, [.null, .null, .null, .int 0, .int 0])), (q8, .inl (kI, 401, .inl fun _ => 0))] H := hP
  have hD : va_D A [(h0, .inr (6, [.null, .null, .null, .int 0, .int 0])), (q8, .inl (kI, 401, .inl fun _ => 0))] := hD
  refine W.widen (k := 1) (n := 401) (Nat.le_of_ble_eq_true rfl) (Nat.le_of_ble_eq_true rfl) ?_
  refine va_putF (D := (dC, dI)) (ci := 6) (v := .ref q8) (ty := .array .int) (C := RX6) (T := TX6) (N := 5) hx hb htb (zcl_in 6 _ rfl) tyX6 tyX6_ok nmX6 hown hK hP hD hS 0 rfl rfl 0 (by decide) (htb _ (zin_mem w4)) (fun _ h9 => h9) rfl hin rfl (by decide +kernel) rfl rfl (Nat.le_of_ble_eq_true rfl) dX6_init_10 (fun H locs hP hD hS => ?_)
  have hP : va_P (dC, dI) vwCl [(h0, .inr (6, [.ref q8, .null, .null, .int 0, .int 0])), (q8, .inl (kI, 401, .inl fun _ => 0))] H := hP
  have hD : va_D A [(h0, .inr (6, [.ref q8, .null, .null, .int 0, .int 0])), (q8, .inl (kI, 401, .inl fun _ => 0))] := hD
  refine lv_aload_n hx hb dX6_init_13 rfl (lv_at hl 0 rfl) ?_
  refine lv_sipush (v := 401) hx hb dX6_init_14 (by decide) ?_
  refine zc_newi (N9 := 401) hx hb (htb _ (zin_mem w3)) hK hP hD hS hA (by decide) rfl (Nat.le_of_ble_eq_true rfl) (Nat.le_of_ble_eq_true rfl) (Nat.le_of_ble_eq_true rfl) dX6_init_17 (fun q17 H hP hD hS => ?_)
  have hP : va_P (dC, dI) vwCl [(h0, .inr (6, [.ref q8, .null, .null, .int 0, .int 0])), (q8, .inl (kI, 401, .inl fun _ => 0)), (q17, .inl (kI, 401, .inl fun _ => 0))] H := hP
  have hD : va_D A [(h0, .inr (6, [.ref q8, .null, .null, .int 0, .int 0])), (q8, .inl (kI, 401, .inl fun _ => 0)), (q17, .inl (kI, 401, .inl fun _ => 0))] := hD
  refine W.widen (k := 2) (n := 802) (Nat.le_of_ble_eq_true rfl) (Nat.le_of_ble_eq_true rfl) ?_
  refine va_putF (D := (dC, dI)) (ci := 6) (v := .ref q17) (ty := .array .int) (C := RX6) (T := TX6) (N := 5) hx hb htb (zcl_in 6 _ rfl) tyX6 tyX6_ok nmX6 hown hK hP hD hS 0 rfl rfl 1 (by decide) (htb _ (zin_mem w5)) (fun _ h9 => h9) rfl hin rfl (by decide +kernel) rfl rfl (Nat.le_of_ble_eq_true rfl) dX6_init_19 (fun H locs hP hD hS => ?_)
  have hP : va_P (dC, dI) vwCl [(h0, .inr (6, [.ref q8, .ref q17, .null, .int 0, .int 0])), (q8, .inl (kI, 401, .inl fun _ => 0)), (q17, .inl (kI, 401, .inl fun _ => 0))] H := hP
  have hD : va_D A [(h0, .inr (6, [.ref q8, .ref q17, .null, .int 0, .int 0])), (q8, .inl (kI, 401, .inl fun _ => 0)), (q17, .inl (kI, 401, .inl fun _ => 0))] := hD
  refine lv_aload_n hx hb dX6_init_22 rfl (lv_at hl 0 rfl) ?_
  refine lv_sipush (v := 401) hx hb dX6_init_23 (by decide) ?_
  refine zc_newi (N9 := 401) hx hb (htb _ (zin_mem w3)) hK hP hD hS hA (by decide) rfl (Nat.le_of_ble_eq_true rfl) (Nat.le_of_ble_eq_true rfl) (Nat.le_of_ble_eq_true rfl) dX6_init_26 (fun q26 H hP hD hS => ?_)
  have hP : va_P (dC, dI) vwCl [(h0, .inr (6, [.ref q8, .ref q17, .null, .int 0, .int 0])), (q8, .inl (kI, 401, .inl fun _ => 0)), (q17, .inl (kI, 401, .inl fun _ => 0)), (q26, .inl (kI, 401, .inl fun _ => 0))] H := hP
  have hD : va_D A [(h0, .inr (6, [.ref q8, .ref q17, .null, .int 0, .int 0])), (q8, .inl (kI, 401, .inl fun _ => 0)), (q17, .inl (kI, 401, .inl fun _ => 0)), (q26, .inl (kI, 401, .inl fun _ => 0))] := hD
  refine W.widen (k := 3) (n := 1203) (Nat.le_of_ble_eq_true rfl) (Nat.le_of_ble_eq_true rfl) ?_
  refine va_putF (D := (dC, dI)) (ci := 6) (v := .ref q26) (ty := .array .int) (C := RX6) (T := TX6) (N := 5) hx hb htb (zcl_in 6 _ rfl) tyX6 tyX6_ok nmX6 hown hK hP hD hS 0 rfl rfl 2 (by decide) (htb _ (zin_mem w6)) (fun _ h9 => h9) rfl hin rfl (by decide +kernel) rfl rfl (Nat.le_of_ble_eq_true rfl) dX6_init_28 (fun H locs hP hD hS => ?_)
  have hP : va_P (dC, dI) vwCl [(h0, .inr (6, [.ref q8, .ref q17, .ref q26, .int 0, .int 0])), (q8, .inl (kI, 401, .inl fun _ => 0)), (q17, .inl (kI, 401, .inl fun _ => 0)), (q26, .inl (kI, 401, .inl fun _ => 0))] H := hP
  have hD : va_D A [(h0, .inr (6, [.ref q8, .ref q17, .ref q26, .int 0, .int 0])), (q8, .inl (kI, 401, .inl fun _ => 0)), (q17, .inl (kI, 401, .inl fun _ => 0)), (q26, .inl (kI, 401, .inl fun _ => 0))] := hD
  refine lv_aload_n hx hb dX6_init_31 rfl (lv_at hl 0 rfl) ?_
  refine lv_iconst (v := 0) hx hb dX6_init_32 (by decide) ?_
  refine va_put (D := (dC, dI)) (ci := 6) (v := .int 0) (ty := .int) (C := RX6) (T := TX6) (N := 5) hx hb htb (zcl_in 6 _ rfl) tyX6 tyX6_ok nmX6 hown hK hP hD hS 0 rfl rfl 3 (by decide) (htb _ (zin_mem w7)) (fun _ h9 => h9) rfl (by decide +kernel) rfl rfl (Nat.le_of_ble_eq_true rfl) dX6_init_33 (fun H locs hP hD hS => ?_)
  have hP : va_P (dC, dI) vwCl [(h0, .inr (6, [.ref q8, .ref q17, .ref q26, .int 0, .int 0])), (q8, .inl (kI, 401, .inl fun _ => 0)), (q17, .inl (kI, 401, .inl fun _ => 0)), (q26, .inl (kI, 401, .inl fun _ => 0))] H := hP
  have hD : va_D A [(h0, .inr (6, [.ref q8, .ref q17, .ref q26, .int 0, .int 0])), (q8, .inl (kI, 401, .inl fun _ => 0)), (q17, .inl (kI, 401, .inl fun _ => 0)), (q26, .inl (kI, 401, .inl fun _ => 0))] := hD
  refine lv_aload_n hx hb dX6_init_36 rfl (lv_at hl 0 rfl) ?_
  refine lv_iconst (v := 0) hx hb dX6_init_37 (by decide) ?_
  refine va_put (D := (dC, dI)) (ci := 6) (v := .int 0) (ty := .int) (C := RX6) (T := TX6) (N := 5) hx hb htb (zcl_in 6 _ rfl) tyX6 tyX6_ok nmX6 hown hK hP hD hS 0 rfl rfl 4 (by decide) (htb _ (zin_mem w8)) (fun _ h9 => h9) rfl (by decide +kernel) rfl rfl (Nat.le_of_ble_eq_true rfl) dX6_init_38 (fun H locs hP hD hS => ?_)
  have hP : va_P (dC, dI) vwCl [(h0, .inr (6, [.ref q8, .ref q17, .ref q26, .int 0, .int 0])), (q8, .inl (kI, 401, .inl fun _ => 0)), (q17, .inl (kI, 401, .inl fun _ => 0)), (q26, .inl (kI, 401, .inl fun _ => 0))] H := hP
  have hD : va_D A [(h0, .inr (6, [.ref q8, .ref q17, .ref q26, .int 0, .int 0])), (q8, .inl (kI, 401, .inl fun _ => 0)), (q17, .inl (kI, 401, .inl fun _ => 0)), (q26, .inl (kI, 401, .inl fun _ => 0))] := hD
  exact W.vret hx hb hr (fun t ht hW => ⟨⟨(fun k => [q8, q17, q26].getD k 0), rfl, trivial, by rw [ht]; exact hP, hD⟩, hS.F ht⟩) hS.2.2 dX6_init_41
theorem dX1_init_0 : decode cX1_init 0 = .ok (.aload_n 0, 1) := by decide +kernel
theorem dX1_init_1 : decode cX1_init 1 = .ok (.invokespecial 3, 3) := by decide +kernel
theorem dX1_init_4 : decode cX1_init 4 = .ok (.aload_n 0, 1) := by decide +kernel
theorem dX1_init_5 : decode cX1_init 5 = .ok (.sipush 200, 3) := by decide +kernel
theorem dX1_init_8 : decode cX1_init 8 = .ok (.newarray .int, 2) := by decide +kernel
theorem dX1_init_10 : decode cX1_init 10 = .ok (.putfield 9, 3) := by decide +kernel
theorem dX1_init_13 : decode cX1_init 13 = .ok (.aload_n 0, 1) := by decide +kernel
theorem dX1_init_14 : decode cX1_init 14 = .ok (.sipush 200, 3) := by decide +kernel
theorem dX1_init_17 : decode cX1_init 17 = .ok (.newarray .int, 2) := by decide +kernel
theorem dX1_init_19 : decode cX1_init 19 = .ok (.putfield 15, 3) := by decide +kernel
theorem dX1_init_22 : decode cX1_init 22 = .ok (.aload_n 0, 1) := by decide +kernel
theorem dX1_init_23 : decode cX1_init 23 = .ok (.sipush 200, 3) := by decide +kernel
theorem dX1_init_26 : decode cX1_init 26 = .ok (.newarray .int, 2) := by decide +kernel
theorem dX1_init_28 : decode cX1_init 28 = .ok (.putfield 18, 3) := by decide +kernel
theorem dX1_init_31 : decode cX1_init 31 = .ok (.aload_n 0, 1) := by decide +kernel
theorem dX1_init_32 : decode cX1_init 32 = .ok (.sipush 200, 3) := by decide +kernel
theorem dX1_init_35 : decode cX1_init 35 = .ok (.newarray .int, 2) := by decide +kernel
theorem dX1_init_37 : decode cX1_init 37 = .ok (.putfield 21, 3) := by decide +kernel
theorem dX1_init_40 : decode cX1_init 40 = .ok (.aload_n 0, 1) := by decide +kernel
theorem dX1_init_41 : decode cX1_init 41 = .ok (.sipush 200, 3) := by decide +kernel
theorem dX1_init_44 : decode cX1_init 44 = .ok (.newarray .int, 2) := by decide +kernel
theorem dX1_init_46 : decode cX1_init 46 = .ok (.putfield 24, 3) := by decide +kernel
theorem dX1_init_49 : decode cX1_init 49 = .ok (.aload_n 0, 1) := by decide +kernel
theorem dX1_init_50 : decode cX1_init 50 = .ok (.sipush 400, 3) := by decide +kernel
theorem dX1_init_53 : decode cX1_init 53 = .ok (.newarray .int, 2) := by decide +kernel
theorem dX1_init_55 : decode cX1_init 55 = .ok (.putfield 27, 3) := by decide +kernel
theorem dX1_init_58 : decode cX1_init 58 = .ok (.aload_n 0, 1) := by decide +kernel
theorem dX1_init_59 : decode cX1_init 59 = .ok (.sipush 400, 3) := by decide +kernel
theorem dX1_init_62 : decode cX1_init 62 = .ok (.newarray .int, 2) := by decide +kernel
theorem dX1_init_64 : decode cX1_init 64 = .ok (.putfield 30, 3) := by decide +kernel
theorem dX1_init_67 : decode cX1_init 67 = .ok (.aload_n 0, 1) := by decide +kernel
theorem dX1_init_68 : decode cX1_init 68 = .ok (.iconst 0, 1) := by decide +kernel
theorem dX1_init_69 : decode cX1_init 69 = .ok (.putfield 33, 3) := by decide +kernel
theorem dX1_init_72 : decode cX1_init 72 = .ok (.aload_n 0, 1) := by decide +kernel
theorem dX1_init_73 : decode cX1_init 73 = .ok (.iconst 0, 1) := by decide +kernel
theorem dX1_init_74 : decode cX1_init 74 = .ok (.putfield 37, 3) := by decide +kernel
theorem dX1_init_77 : decode cX1_init 77 = .ok (.aload_n 0, 1) := by decide +kernel
theorem dX1_init_78 : decode cX1_init 78 = .ok (.iconst 0, 1) := by decide +kernel
theorem dX1_init_79 : decode cX1_init 79 = .ok (.putfield 40, 3) := by decide +kernel
theorem dX1_init_82 : decode cX1_init 82 = .ok (.return_, 1) := by decide +kernel
set_option maxRecDepth 100000 in
theorem kwX1_init : zin 149 (.methodLink RX1 3 objectInit) = true ∧ zin 105 (.instanceMethod objectInit) = true ∧ zin 106 (.code objectInit ⟨#[0xb1]⟩ 1 none) = true ∧ zin 143 (.arrayClass .int) = true ∧ zin 150 (.fieldLink RX1 9 "ReplayDesk$Program" "sorts" "[I") = true ∧ zin 151 (.fieldLink RX1 15 "ReplayDesk$Program" "targets" "[I") = true ∧ zin 152 (.fieldLink RX1 18 "ReplayDesk$Program" "firsts" "[I") = true ∧ zin 153 (.fieldLink RX1 21 "ReplayDesk$Program" "seconds" "[I") = true ∧ zin 154 (.fieldLink RX1 24 "ReplayDesk$Program" "itemsFrom" "[I") = true ∧ zin 155 (.fieldLink RX1 27 "ReplayDesk$Program" "itemSorts" "[I") = true ∧ zin 156 (.fieldLink RX1 30 "ReplayDesk$Program" "itemValues" "[I") = true ∧ zin 157 (.fieldLink RX1 33 "ReplayDesk$Program" "size" "I") = true ∧ zin 158 (.fieldLink RX1 37 "ReplayDesk$Program" "items" "I") = true ∧ zin 159 (.fieldLink RX1 40 "ReplayDesk$Program" "jumps" "I") = true := by decide +kernel
set_option maxRecDepth 100000 in
theorem zcX1_init : lw_tbl[148]? = some (.code yX1_init cX1_init 1 none) := rfl
def fwX1 (kI kC : ClassId) (h0 : Nat) (u : Nat → Nat) : va_W := [(h0, .inr (1, [.ref (u 0), .ref (u 1), .ref (u 2), .ref (u 3), .ref (u 4), .ref (u 5), .ref (u 6), .int 0, .int 0, .int 0])), (u 0, .inl (kI, 200, .inl fun _ => 0)), (u 1, .inl (kI, 200, .inl fun _ => 0)), (u 2, .inl (kI, 200, .inl fun _ => 0)), (u 3, .inl (kI, 200, .inl fun _ => 0)), (u 4, .inl (kI, 200, .inl fun _ => 0)), (u 5, .inl (kI, 400, .inl fun _ => 0)), (u 6, .inl (kI, 400, .inl fun _ => 0))]
set_option maxHeartbeats 4000000 in
set_option maxRecDepth 100000 in
theorem cX1_init_ok (l : Launch) (kI kC : ClassId) (dC : Nat → ClassId) (dI : Nat → Nat → Nat) (h0 sz : Nat) : Met l yX1_init (zws yX1_init cX1_init 1 none) { frames := 1, cells := 7, slots := 1800, locals := 12 } (va_Pc [.ref h0] (fun U => U.heap.size = sz ∧ va_P (dC, dI) vwCl [(h0, .inr (1, [.null, .null, .null, .null, .null, .null, .null, .int 0, .int 0, .int 0]))] U.heap ∧ va_K (dC, dI) vwCl (ztys kI kC) U ∧ va_D (fun _ => True) [(h0, .inr (1, [.null, .null, .null, .null, .null, .null, .null, .int 0, .int 0, .int 0]))])) (va_Qv (fun _ : Nat → Nat => True) (fun u t => va_P (dC, dI) vwCl (fwX1 kI kC h0 u) t.heap ∧ va_D (va_A [(h0, .inr (1, [.null, .null, .null, .null, .null, .null, .null, .int 0, .int 0, .int 0]))] sz) (fwX1 kI kC h0 u)) (va_A [(h0, .inr (1, [.null, .null, .null, .null, .null, .null, .null, .int 0, .int 0, .int 0]))] sz)) 7 1800 (va_A [(h0, .inr (1, [.null, .null, .null, .null, .null, .null, .null, .int 0, .int 0, .int 0]))] sz) := by
  refine Met.ofW (cc := cX1_init) (maxL := 1) (ret := none) (by decide) rfl ?_
  intro p e s m args below meth c s₁ B hml hv
  obtain ⟨rfl, hsz, hP, hK, hD0⟩ := hv
  have hx := B.exec
  have hb := B.bytes
  have hr := B.returns
  have hts := atoms_spec (ws := zws yX1_init cX1_init 1 none) B.pre
  have htb : ∀ w ∈ zTB, w.before ([.ref h0] : List Value).toArray s = true := fun w h => hts w (List.mem_cons_of_mem _ h)
  have hown : s.vm.findClass RX1 = some m.cls := findClass_of_methodNamed B.named
  have hlocks := B.notSynchronized
  have hin : meth.name = "<init>" := (name_of_methodNamed B.named B.method).1
  subst hsz
  have hD := hD0.self (sz := s.heap.size)
  generalize hAe : va_A [(h0, .inr (1, [.null, .null, .null, .null, .null, .null, .null, .int 0, .int 0, .int 0]))] s.heap.size = A at hD ⊢
  have hA : ∀ q : Nat, s.heap.size ≤ q → A q := fun q h => by rw [← hAe]; exact Or.inr h
  have hS : va_S A s.heap s.heap [] := va_S.rf
  obtain ⟨w0, w1, w2, w3, w4, w5, w6, w7, w8, w9, w10, w11, w12, w13⟩ := kwX1_init
  have hl := lv_entry ([.ref h0]) (n := 1) (Nat.le_of_ble_eq_true rfl)
  rw [lg_entry_eq]
  generalize (lg_sl ([.ref h0]) ++ List.replicate (1 - (lg_sl ([.ref h0])).length) Slot.unset).toArray = ls at hl ⊢
  have hl : lv_has ls 1 [(0, .ref h0)] := hl
  refine lv_aload_n hx hb dX1_init_0 rfl (lv_at hl 0 rfl) ?_
  refine W.objInit hx hb hown (htb _ (zin_mem w0)) (htb _ (zin_mem w1)) (htb _ (zin_mem w2)) rfl (by rw [hml]; exact hl.1) rfl dX1_init_1 (Nat.le_of_ble_eq_true rfl) (Nat.le_of_ble_eq_true rfl) ?_
  refine W.eq (g2 := F0 m 4 ls []) rfl ?_
  refine lv_aload_n hx hb dX1_init_4 rfl (lv_at hl 0 rfl) ?_
  refine lv_sipush (v := 200) hx hb dX1_init_5 (by decide) ?_
  refine zc_newi (N9 := 200) hx hb (htb _ (zin_mem w3)) hK hP hD hS hA (by decide) rfl (Nat.le_of_ble_eq_true rfl) (Nat.le_of_ble_eq_true rfl) (Nat.le_of_ble_eq_true rfl) dX1_init_8 (fun q8 H hP hD hS => ?_)
  have hP : va_P (dC, dI) vwCl [(h0, .inr (1, [.null, .null, .null, .null, .null, .null, .null, .int 0, .int 0, .int 0])), (q8, .inl (kI, 200, .inl fun _ => 0))] H := hP
  have hD : va_D A [(h0, .inr (1, [.null, .null, .null, .null, .null, .null, .null, .int 0, .int 0, .int 0])), (q8, .inl (kI, 200, .inl fun _ => 0))] := hD
  refine W.widen (k := 1) (n := 200) (Nat.le_of_ble_eq_true rfl) (Nat.le_of_ble_eq_true rfl) ?_
  refine va_putF (D := (dC, dI)) (ci := 1) (v := .ref q8) (ty := .array .int) (C := RX1) (T := TX1) (N := 10) hx hb htb (zcl_in 1 _ rfl) tyX1 tyX1_ok nmX1 hown hK hP hD hS 0 rfl rfl 0 (by decide) (htb _ (zin_mem w4)) (fun _ h9 => h9) rfl hin rfl (by decide +kernel) rfl rfl (Nat.le_of_ble_eq_true rfl) dX1_init_10 (fun H locs hP hD hS => ?_)
  have hP : va_P (dC, dI) vwCl [(h0, .inr (1, [.ref q8, .null, .null, .null, .null, .null, .null, .int 0, .int 0, .int 0])), (q8, .inl (kI, 200, .inl fun _ => 0))] H := hP
  have hD : va_D A [(h0, .inr (1, [.ref q8, .null, .null, .null, .null, .null, .null, .int 0, .int 0, .int 0])), (q8, .inl (kI, 200, .inl fun _ => 0))] := hD
  refine lv_aload_n hx hb dX1_init_13 rfl (lv_at hl 0 rfl) ?_
  refine lv_sipush (v := 200) hx hb dX1_init_14 (by decide) ?_
  refine zc_newi (N9 := 200) hx hb (htb _ (zin_mem w3)) hK hP hD hS hA (by decide) rfl (Nat.le_of_ble_eq_true rfl) (Nat.le_of_ble_eq_true rfl) (Nat.le_of_ble_eq_true rfl) dX1_init_17 (fun q17 H hP hD hS => ?_)
  have hP : va_P (dC, dI) vwCl [(h0, .inr (1, [.ref q8, .null, .null, .null, .null, .null, .null, .int 0, .int 0, .int 0])), (q8, .inl (kI, 200, .inl fun _ => 0)), (q17, .inl (kI, 200, .inl fun _ => 0))] H := hP
  have hD : va_D A [(h0, .inr (1, [.ref q8, .null, .null, .null, .null, .null, .null, .int 0, .int 0, .int 0])), (q8, .inl (kI, 200, .inl fun _ => 0)), (q17, .inl (kI, 200, .inl fun _ => 0))] := hD
  refine W.widen (k := 2) (n := 400) (Nat.le_of_ble_eq_true rfl) (Nat.le_of_ble_eq_true rfl) ?_
  refine va_putF (D := (dC, dI)) (ci := 1) (v := .ref q17) (ty := .array .int) (C := RX1) (T := TX1) (N := 10) hx hb htb (zcl_in 1 _ rfl) tyX1 tyX1_ok nmX1 hown hK hP hD hS 0 rfl rfl 1 (by decide) (htb _ (zin_mem w5)) (fun _ h9 => h9) rfl hin rfl (by decide +kernel) rfl rfl (Nat.le_of_ble_eq_true rfl) dX1_init_19 (fun H locs hP hD hS => ?_)
  have hP : va_P (dC, dI) vwCl [(h0, .inr (1, [.ref q8, .ref q17, .null, .null, .null, .null, .null, .int 0, .int 0, .int 0])), (q8, .inl (kI, 200, .inl fun _ => 0)), (q17, .inl (kI, 200, .inl fun _ => 0))] H := hP
  have hD : va_D A [(h0, .inr (1, [.ref q8, .ref q17, .null, .null, .null, .null, .null, .int 0, .int 0, .int 0])), (q8, .inl (kI, 200, .inl fun _ => 0)), (q17, .inl (kI, 200, .inl fun _ => 0))] := hD
  refine lv_aload_n hx hb dX1_init_22 rfl (lv_at hl 0 rfl) ?_
  refine lv_sipush (v := 200) hx hb dX1_init_23 (by decide) ?_
  refine zc_newi (N9 := 200) hx hb (htb _ (zin_mem w3)) hK hP hD hS hA (by decide) rfl (Nat.le_of_ble_eq_true rfl) (Nat.le_of_ble_eq_true rfl) (Nat.le_of_ble_eq_true rfl) dX1_init_26 (fun q26 H hP hD hS => ?_)
  have hP : va_P (dC, dI) vwCl [(h0, .inr (1, [.ref q8, .ref q17, .null, .null, .null, .null, .null, .int 0, .int 0, .int 0])), (q8, .inl (kI, 200, .inl fun _ => 0)), (q17, .inl (kI, 200, .inl fun _ => 0)), (q26, .inl (kI, 200, .inl fun _ => 0))] H := hP
  have hD : va_D A [(h0, .inr (1, [.ref q8, .ref q17, .null, .null, .null, .null, .null, .int 0, .int 0, .int 0])), (q8, .inl (kI, 200, .inl fun _ => 0)), (q17, .inl (kI, 200, .inl fun _ => 0)), (q26, .inl (kI, 200, .inl fun _ => 0))] := hD
  refine W.widen (k := 3) (n := 600) (Nat.le_of_ble_eq_true rfl) (Nat.le_of_ble_eq_true rfl) ?_
  refine va_putF (D := (dC, dI)) (ci := 1) (v := .ref q26) (ty := .array .int) (C := RX1) (T := TX1) (N := 10) hx hb htb (zcl_in 1 _ rfl) tyX1 tyX1_ok nmX1 hown hK hP hD hS 0 rfl rfl 2 (by decide) (htb _ (zin_mem w6)) (fun _ h9 => h9) rfl hin rfl (by decide +kernel) rfl rfl (Nat.le_of_ble_eq_true rfl) dX1_init_28 (fun H locs hP hD hS => ?_)
  have hP : va_P (dC, dI) vwCl [(h0, .inr (1, [.ref q8, .ref q17, .ref q26, .null, .null, .null, .null, .int 0, .int 0, .int 0])), (q8, .inl (kI, 200, .inl fun _ => 0)), (q17, .inl (kI, 200, .inl fun _ => 0)), (q26, .inl (kI, 200, .inl fun _ => 0))] H := hP
  have hD : va_D A [(h0, .inr (1, [.ref q8, .ref q17, .ref q26, .null, .null, .null, .null, .int 0, .int 0, .int 0])), (q8, .inl (kI, 200, .inl fun _ => 0)), (q17, .inl (kI, 200, .inl fun _ => 0)), (q26, .inl (kI, 200, .inl fun _ => 0))] := hD
  refine lv_aload_n hx hb dX1_init_31 rfl (lv_at hl 0 rfl) ?_
  refine lv_sipush (v := 200) hx hb dX1_init_32 (by decide) ?_
  refine zc_newi (N9 := 200) hx hb (htb _ (zin_mem w3)) hK hP hD hS hA (by decide) rfl (Nat.le_of_ble_eq_true rfl) (Nat.le_of_ble_eq_true rfl) (Nat.le_of_ble_eq_true rfl) dX1_init_35 (fun q35 H hP hD hS => ?_)
  have hP : va_P (dC, dI) vwCl [(h0, .inr (1, [.ref q8, .ref q17, .ref q26, .null, .null, .null, .null, .int 0, .int 0, .int 0])), (q8, .inl (kI, 200, .inl fun _ => 0)), (q17, .inl (kI, 200, .inl fun _ => 0)), (q26, .inl (kI, 200, .inl fun _ => 0)), (q35, .inl (kI, 200, .inl fun _ => 0))] H := hP
  have hD : va_D A [(h0, .inr (1, [.ref q8, .ref q17, .ref q26, .null, .null, .null, .null, .int 0, .int 0, .int 0])), (q8, .inl (kI, 200, .inl fun _ => 0)), (q17, .inl (kI, 200, .inl fun _ => 0)), (q26, .inl (kI, 200, .inl fun _ => 0)), (q35, .inl (kI, 200, .inl fun _ => 0))] := hD
  refine W.widen (k := 4) (n := 800) (Nat.le_of_ble_eq_true rfl) (Nat.le_of_ble_eq_true rfl) ?_
  refine va_putF (D := (dC, dI)) (ci := 1) (v := .ref q35) (ty := .array .int) (C := RX1) (T := TX1) (N := 10) hx hb htb (zcl_in 1 _ rfl) tyX1 tyX1_ok nmX1 hown hK hP hD hS 0 rfl rfl 3 (by decide) (htb _ (zin_mem w7)) (fun _ h9 => h9) rfl hin rfl (by decide +kernel) rfl rfl (Nat.le_of_ble_eq_true rfl) dX1_init_37 (fun H locs hP hD hS => ?_)
  have hP : va_P (dC, dI) vwCl [(h0, .inr (1, [.ref q8, .ref q17, .ref q26, .ref q35, .null, .null, .null, .int 0, .int 0, .int 0])), (q8, .inl (kI, 200, .inl fun _ => 0)), (q17, .inl (kI, 200, .inl fun _ => 0)), (q26, .inl (kI, 200, .inl fun _ => 0)), (q35, .inl (kI, 200, .inl fun _ => 0))] H := hP
  have hD : va_D A [(h0, .inr (1, [.ref q8, .ref q17, .ref q26, .ref q35, .null, .null, .null, .int 0, .int 0, .int 0])), (q8, .inl (kI, 200, .inl fun _ => 0)), (q17, .inl (kI, 200, .inl fun _ => 0)), (q26, .inl (kI, 200, .inl fun _ => 0)), (q35, .inl (kI, 200, .inl fun _ => 0))] := hD
  refine lv_aload_n hx hb dX1_init_40 rfl (lv_at hl 0 rfl) ?_
  refine lv_sipush (v := 200) hx hb dX1_init_41 (by decide) ?_
  refine zc_newi (N9 := 200) hx hb (htb _ (zin_mem w3)) hK hP hD hS hA (by decide) rfl (Nat.le_of_ble_eq_true rfl) (Nat.le_of_ble_eq_true rfl) (Nat.le_of_ble_eq_true rfl) dX1_init_44 (fun q44 H hP hD hS => ?_)
  have hP : va_P (dC, dI) vwCl [(h0, .inr (1, [.ref q8, .ref q17, .ref q26, .ref q35, .null, .null, .null, .int 0, .int 0, .int 0])), (q8, .inl (kI, 200, .inl fun _ => 0)), (q17, .inl (kI, 200, .inl fun _ => 0)), (q26, .inl (kI, 200, .inl fun _ => 0)), (q35, .inl (kI, 200, .inl fun _ => 0)), (q44, .inl (kI, 200, .inl fun _ => 0))] H := hP
  have hD : va_D A [(h0, .inr (1, [.ref q8, .ref q17, .ref q26, .ref q35, .null, .null, .null, .int 0, .int 0, .int 0])), (q8, .inl (kI, 200, .inl fun _ => 0)), (q17, .inl (kI, 200, .inl fun _ => 0)), (q26, .inl (kI, 200, .inl fun _ => 0)), (q35, .inl (kI, 200, .inl fun _ => 0)), (q44, .inl (kI, 200, .inl fun _ => 0))] := hD
  refine W.widen (k := 5) (n := 1000) (Nat.le_of_ble_eq_true rfl) (Nat.le_of_ble_eq_true rfl) ?_
  refine va_putF (D := (dC, dI)) (ci := 1) (v := .ref q44) (ty := .array .int) (C := RX1) (T := TX1) (N := 10) hx hb htb (zcl_in 1 _ rfl) tyX1 tyX1_ok nmX1 hown hK hP hD hS 0 rfl rfl 4 (by decide) (htb _ (zin_mem w8)) (fun _ h9 => h9) rfl hin rfl (by decide +kernel) rfl rfl (Nat.le_of_ble_eq_true rfl) dX1_init_46 (fun H locs hP hD hS => ?_)
  have hP : va_P (dC, dI) vwCl [(h0, .inr (1, [.ref q8, .ref q17, .ref q26, .ref q35, .ref q44, .null, .null, .int 0, .int 0, .int 0])), (q8, .inl (kI, 200, .inl fun _ => 0)), (q17, .inl (kI, 200, .inl fun _ => 0)), (q26, .inl (kI, 200, .inl fun _ => 0)), (q35, .inl (kI, 200, .inl fun _ => 0)), (q44, .inl (kI, 200, .inl fun _ => 0))] H := hP
  have hD : va_D A [(h0, .inr (1, [.ref q8, .ref q17, .ref q26, .ref q35, .ref q44, .null, .null, .int 0, .int 0, .int 0])), (q8, .inl (kI, 200, .inl fun _ => 0)), (q17, .inl (kI, 200, .inl fun _ => 0)), (q26, .inl (kI, 200, .inl fun _ => 0)), (q35, .inl (kI, 200, .inl fun _ => 0)), (q44, .inl (kI, 200, .inl fun _ => 0))] := hD
  refine lv_aload_n hx hb dX1_init_49 rfl (lv_at hl 0 rfl) ?_
  refine lv_sipush (v := 400) hx hb dX1_init_50 (by decide) ?_
  refine zc_newi (N9 := 400) hx hb (htb _ (zin_mem w3)) hK hP hD hS hA (by decide) rfl (Nat.le_of_ble_eq_true rfl) (Nat.le_of_ble_eq_true rfl) (Nat.le_of_ble_eq_true rfl) dX1_init_53 (fun q53 H hP hD hS => ?_)
  have hP : va_P (dC, dI) vwCl [(h0, .inr (1, [.ref q8, .ref q17, .ref q26, .ref q35, .ref q44, .null, .null, .int 0, .int 0, .int 0])), (q8, .inl (kI, 200, .inl fun _ => 0)), (q17, .inl (kI, 200, .inl fun _ => 0)), (q26, .inl (kI, 200, .inl fun _ => 0)), (q35, .inl (kI, 200, .inl fun _ => 0)), (q44, .inl (kI, 200, .inl fun _ => 0)), (q53, .inl (kI, 400, .inl fun _ => 0))] H := hP
  have hD : va_D A [(h0, .inr (1, [.ref q8, .ref q17, .ref q26, .ref q35, .ref q44, .null, .null, .int 0, .int 0, .int 0])), (q8, .inl (kI, 200, .inl fun _ => 0)), (q17, .inl (kI, 200, .inl fun _ => 0)), (q26, .inl (kI, 200, .inl fun _ => 0)), (q35, .inl (kI, 200, .inl fun _ => 0)), (q44, .inl (kI, 200, .inl fun _ => 0)), (q53, .inl (kI, 400, .inl fun _ => 0))] := hD
  refine W.widen (k := 6) (n := 1400) (Nat.le_of_ble_eq_true rfl) (Nat.le_of_ble_eq_true rfl) ?_
  refine va_putF (D := (dC, dI)) (ci := 1) (v := .ref q53) (ty := .array .int) (C := RX1) (T := TX1) (N := 10) hx hb htb (zcl_in 1 _ rfl) tyX1 tyX1_ok nmX1 hown hK hP hD hS 0 rfl rfl 5 (by decide) (htb _ (zin_mem w9)) (fun _ h9 => h9) rfl hin rfl (by decide +kernel) rfl rfl (Nat.le_of_ble_eq_true rfl) dX1_init_55 (fun H locs hP hD hS => ?_)
  have hP : va_P (dC, dI) vwCl [(h0, .inr (1, [.ref q8, .ref q17, .ref q26, .ref q35, .ref q44, .ref q53, .null, .int 0, .int 0, .int 0])), (q8, .inl (kI, 200, .inl fun _ => 0)), (q17, .inl (kI, 200, .inl fun _ => 0)), (q26, .inl (kI, 200, .inl fun _ => 0)), (q35, .inl (kI, 200, .inl fun _ => 0)), (q44, .inl (kI, 200, .inl fun _ => 0)), (q53, .inl (kI, 400, .inl fun _ => 0))] H := hP
  have hD : va_D A [(h0, .inr (1, [.ref q8, .ref q17, .ref q26, .ref q35, .ref q44, .ref q53, .null, .int 0, .int 0, .int 0])), (q8, .inl (kI, 200, .inl fun _ => 0)), (q17, .inl (kI, 200, .inl fun _ => 0)), (q26, .inl (kI, 200, .inl fun _ => 0)), (q35, .inl (kI, 200, .inl fun _ => 0)), (q44, .inl (kI, 200, .inl fun _ => 0)), (q53, .inl (kI, 400, .inl fun _ => 0))] := hD
  refine lv_aload_n hx hb dX1_init_58 rfl (lv_at hl 0 rfl) ?_
  refine lv_sipush (v := 400) hx hb dX1_init_59 (by decide) ?_
  refine zc_newi (N9 := 400) hx hb (htb _ (zin_mem w3)) hK hP hD hS hA (by decide) rfl (Nat.le_of_ble_eq_true rfl) (Nat.le_of_ble_eq_true rfl) (Nat.le_of_ble_eq_true rfl) dX1_init_62 (fun q62 H hP hD hS => ?_)
  have hP : va_P (dC, dI) vwCl [(h0, .inr (1, [.ref q8, .ref q17, .ref q26, .ref q35, .ref q44, .ref q53, .null, .int 0, .int 0, .int 0])), (q8, .inl (kI, 200, .inl fun _ => 0)), (q17, .inl (kI, 200, .inl fun _ => 0)), (q26, .inl (kI, 200, .inl fun _ => 0)), (q35, .inl (kI, 200, .inl fun _ => 0)), (q44, .inl (kI, 200, .inl fun _ => 0)), (q53, .inl (kI, 400, .inl fun _ => 0)), (q62, .inl (kI, 400, .inl fun _ => 0))] H := hP
  have hD : va_D A [(h0, .inr (1, [.ref q8, .ref q17, .ref q26, .ref q35, .ref q44, .ref q53, .null, .int 0, .int 0, .int 0])), (q8, .inl (kI, 200, .inl fun _ => 0)), (q17, .inl (kI, 200, .inl fun _ => 0)), (q26, .inl (kI, 200, .inl fun _ => 0)), (q35, .inl (kI, 200, .inl fun _ => 0)), (q44, .inl (kI, 200, .inl fun _ => 0)), (q53, .inl (kI, 400, .inl fun _ => 0)), (q62, .inl (kI, 400, .inl fun _ => 0))] := hD
  refine W.widen (k := 7) (n := 1800) (Nat.le_of_ble_eq_true rfl) (Nat.le_of_ble_eq_true rfl) ?_
  refine va_putF (D := (dC, dI)) (ci := 1) (v := .ref q62) (ty := .array .int) (C := RX1) (T := TX1) (N := 10) hx hb htb (zcl_in 1 _ rfl) tyX1 tyX1_ok nmX1 hown hK hP hD hS 0 rfl rfl 6 (by decide) (htb _ (zin_mem w10)) (fun _ h9 => h9) rfl hin rfl (by decide +kernel) rfl rfl (Nat.le_of_ble_eq_true rfl) dX1_init_64 (fun H locs hP hD hS => ?_)
  have hP : va_P (dC, dI) vwCl [(h0, .inr (1, [.ref q8, .ref q17, .ref q26, .ref q35, .ref q44, .ref q53, .ref q62, .int 0, .int 0, .int 0])), (q8, .inl (kI, 200, .inl fun _ => 0)), (q17, .inl (kI, 200, .inl fun _ => 0)), (q26, .inl (kI, 200, .inl fun _ => 0)), (q35, .inl (kI, 200, .inl fun _ => 0)), (q44, .inl (kI, 200, .inl fun _ => 0)), (q53, .inl (kI, 400, .inl fun _ => 0)), (q62, .inl (kI, 400, .inl fun _ => 0))] H := hP
  have hD : va_D A [(h0, .inr (1, [.ref q8, .ref q17, .ref q26, .ref q35, .ref q44, .ref q53, .ref q62, .int 0, .int 0, .int 0])), (q8, .inl (kI, 200, .inl fun _ => 0)), (q17, .inl (kI, 200, .inl fun _ => 0)), (q26, .inl (kI, 200, .inl fun _ => 0)), (q35, .inl (kI, 200, .inl fun _ => 0)), (q44, .inl (kI, 200, .inl fun _ => 0)), (q53, .inl (kI, 400, .inl fun _ => 0)), (q62, .inl (kI, 400, .inl fun _ => 0))] := hD
  refine lv_aload_n hx hb dX1_init_67 rfl (lv_at hl 0 rfl) ?_
  refine lv_iconst (v := 0) hx hb dX1_init_68 (by decide) ?_
  refine va_put (D := (dC, dI)) (ci := 1) (v := .int 0) (ty := .int) (C := RX1) (T := TX1) (N := 10) hx hb htb (zcl_in 1 _ rfl) tyX1 tyX1_ok nmX1 hown hK hP hD hS 0 rfl rfl 7 (by decide) (htb _ (zin_mem w11)) (fun _ h9 => h9) rfl (by decide +kernel) rfl rfl (Nat.le_of_ble_eq_true rfl) dX1_init_69 (fun H locs hP hD hS => ?_)
  have hP : va_P (dC, dI) vwCl [(h0, .inr (1, [.ref q8, .ref q17, .ref q26, .ref q35, .ref q44, .ref q53, .ref q62, .int 0, .int 0, .int 0])), (q8, .inl (kI, 200, .inl fun _ => 0)), (q17, .inl (kI, 200, .inl fun _ => 0)), (q26, .inl (kI, 200, .inl fun _ => 0)), (q35, .inl (kI, 200, .inl fun _ => 0)), (q44, .inl (kI, 200, .inl fun _ => 0)), (q53, .inl (kI, 400, .inl fun _ => 0)), (q62, .inl (kI, 400, .inl fun _ => 0))] H := hP
  have hD : va_D A [(h0, .inr (1, [.ref q8, .ref q17, .ref q26, .ref q35, .ref q44, .ref q53, .ref q62, .int 0, .int 0, .int 0])), (q8, .inl (kI, 200, .inl fun _ => 0)), (q17, .inl (kI, 200, .inl fun _ => 0)), (q26, .inl (kI, 200, .inl fun _ => 0)), (q35, .inl (kI, 200, .inl fun _ => 0)), (q44, .inl (kI, 200, .inl fun _ => 0)), (q53, .inl (kI, 400, .inl fun _ => 0)), (q62, .inl (kI, 400, .inl fun _ => 0))] := hD
  refine lv_aload_n hx hb dX1_init_72 rfl (lv_at hl 0 rfl) ?_
  refine lv_iconst (v := 0) hx hb dX1_init_73 (by decide) ?_
  refine va_put (D := (dC, dI)) (ci := 1) (v := .int 0) (ty := .int) (C := RX1) (T := TX1) (N := 10) hx hb htb (zcl_in 1 _ rfl) tyX1 tyX1_ok nmX1 hown hK hP hD hS 0 rfl rfl 8 (by decide) (htb _ (zin_mem w12)) (fun _ h9 => h9) rfl (by decide +kernel) rfl rfl (Nat.le_of_ble_eq_true rfl) dX1_init_74 (fun H locs hP hD hS => ?_)
  have hP : va_P (dC, dI) vwCl [(h0, .inr (1, [.ref q8, .ref q17, .ref q26, .ref q35, .ref q44, .ref q53, .ref q62, .int 0, .int 0, .int 0])), (q8, .inl (kI, 200, .inl fun _ => 0)), (q17, .inl (kI, 200, .inl fun _ => 0)), (q26, .inl (kI, 200, .inl fun _ => 0)), (q35, .inl (kI, 200, .inl fun _ => 0)), (q44, .inl (kI, 200, .inl fun _ => 0)), (q53, .inl (kI, 400, .inl fun _ => 0)), (q62, .inl (kI, 400, .inl fun _ => 0))] H := hP
  have hD : va_D A [(h0, .inr (1, [.ref q8, .ref q17, .ref q26, .ref q35, .ref q44, .ref q53, .ref q62, .int 0, .int 0, .int 0])), (q8, .inl (kI, 200, .inl fun _ => 0)), (q17, .inl (kI, 200, .inl fun _ => 0)), (q26, .inl (kI, 200, .inl fun _ => 0)), (q35, .inl (kI, 200, .inl fun _ => 0)), (q44, .inl (kI, 200, .inl fun _ => 0)), (q53, .inl (kI, 400, .inl fun _ => 0)), (q62, .inl (kI, 400, .inl fun _ => 0))] := hD
  refine lv_aload_n hx hb dX1_init_77 rfl (lv_at hl 0 rfl) ?_
  refine lv_iconst (v := 0) hx hb dX1_init_78 (by decide) ?_
  refine va_put (D := (dC, dI)) (ci := 1) (v := .int 0) (ty := .int) (C := RX1) (T := TX1) (N := 10) hx hb htb (zcl_in 1 _ rfl) tyX1 tyX1_ok nmX1 hown hK hP hD hS 0 rfl rfl 9 (by decide) (htb _ (zin_mem w13)) (fun _ h9 => h9) rfl (by decide +kernel) rfl rfl (Nat.le_of_ble_eq_true rfl) dX1_init_79 (fun H locs hP hD hS => ?_)
  have hP : va_P (dC, dI) vwCl [(h0, .inr (1, [.ref q8, .ref q17, .ref q26, .ref q35, .ref q44, .ref q53, .ref q62, .int 0, .int 0, .int 0])), (q8, .inl (kI, 200, .inl fun _ => 0)), (q17, .inl (kI, 200, .inl fun _ => 0)), (q26, .inl (kI, 200, .inl fun _ => 0)), (q35, .inl (kI, 200, .inl fun _ => 0)), (q44, .inl (kI, 200, .inl fun _ => 0)), (q53, .inl (kI, 400, .inl fun _ => 0)), (q62, .inl (kI, 400, .inl fun _ => 0))] H := hP
  have hD : va_D A [(h0, .inr (1, [.ref q8, .ref q17, .ref q26, .ref q35, .ref q44, .ref q53, .ref q62, .int 0, .int 0, .int 0])), (q8, .inl (kI, 200, .inl fun _ => 0)), (q17, .inl (kI, 200, .inl fun _ => 0)), (q26, .inl (kI, 200, .inl fun _ => 0)), (q35, .inl (kI, 200, .inl fun _ => 0)), (q44, .inl (kI, 200, .inl fun _ => 0)), (q53, .inl (kI, 400, .inl fun _ => 0)), (q62, .inl (kI, 400, .inl fun _ => 0))] := hD
  exact W.vret hx hb hr (fun t ht hW => ⟨⟨(fun k => [q8, q17, q26, q35, q44, q53, q62].getD k 0), rfl, trivial, by rw [ht]; exact hP, hD⟩, hS.F ht⟩) hS.2.2 dX1_init_82
theorem dX2_init_0 : decode cX2_init 0 = .ok (.aload_n 0, 1) := by decide +kernel
theorem dX2_init_1 : decode cX2_init 1 = .ok (.invokespecial 3, 3) := by decide +kernel
theorem dX2_init_4 : decode cX2_init 4 = .ok (.aload_n 0, 1) := by decide +kernel
theorem dX2_init_5 : decode cX2_init 5 = .ok (.aload_n 1, 1) := by decide +kernel
theorem dX2_init_6 : decode cX2_init 6 = .ok (.putfield 9, 3) := by decide +kernel
theorem dX2_init_9 : decode cX2_init 9 = .ok (.aload_n 0, 1) := by decide +kernel
theorem dX2_init_10 : decode cX2_init 10 = .ok (.aload_n 2, 1) := by decide +kernel
theorem dX2_init_11 : decode cX2_init 11 = .ok (.putfield 15, 3) := by decide +kernel
theorem dX2_init_14 : decode cX2_init 14 = .ok (.return_, 1) := by decide +kernel
set_option maxRecDepth 100000 in
theorem kwX2_init : zin 186 (.methodLink RX2 3 objectInit) = true ∧ zin 105 (.instanceMethod objectInit) = true ∧ zin 106 (.code objectInit ⟨#[0xb1]⟩ 1 none) = true ∧ zin 187 (.fieldLink RX2 9 "ReplayDesk$Reader" "tokens" "LReplayDesk$Tokens;") = true ∧ zin 188 (.fieldLink RX2 15 "ReplayDesk$Reader" "made" "LReplayDesk$Program;") = true := by decide +kernel
set_option maxRecDepth 100000 in
theorem zcX2_init : lw_tbl[185]? = some (.code yX2_init cX2_init 3 none) := rfl
def fwX2 (kI kC : ClassId) (h0 : Nat) (u : Nat → Nat) (p1 : Nat) (p2 : Nat) : va_W := [(h0, .inr (2, [.ref p1, .ref p2]))]
set_option maxHeartbeats 4000000 in
set_option maxRecDepth 100000 in
theorem cX2_init_ok (l : Launch) (kI kC : ClassId) (dC : Nat → ClassId) (dI : Nat → Nat → Nat) (h0 sz : Nat) (p1 : Nat) (p2 : Nat) : Met l yX2_init (zws yX2_init cX2_init 3 none) { frames := 1, cells := 0, slots := 0, locals := 12 } (va_Pc [.ref h0, .ref p1, .ref p2] (fun U => U.heap.size = sz ∧ va_P (dC, dI) vwCl [(h0, .inr (2, [.null, .null]))] U.heap ∧ va_K (dC, dI) vwCl (ztys kI kC) U ∧ va_D (fun _ => True) [(h0, .inr (2, [.null, .null]))])) (va_Qv (fun _ : Nat → Nat => True) (fun u t => va_P (dC, dI) vwCl (fwX2 kI kC h0 u p1 p2) t.heap ∧ va_D (va_A [(h0, .inr (2, [.null, .null]))] sz) (fwX2 kI kC h0 u p1 p2)) (va_A [(h0, .inr (2, [.null, .null]))] sz)) 0 0 (va_A [(h0, .inr (2, [.null, .null]))] sz) := by
  refine Met.ofW (cc := cX2_init) (maxL := 3) (ret := none) (by decide) rfl ?_
  intro p e s m args below meth c s₁ B hml hv
  obtain ⟨rfl, hsz, hP, hK, hD0⟩ := hv
  have hx := B.exec
  have hb := B.bytes
  have hr := B.returns
  have hts := atoms_spec (ws := zws yX2_init cX2_init 3 none) B.pre
  have htb : ∀ w ∈ zTB, w.before ([.ref h0, .ref p1, .ref p2] : List Value).toArray s = true := fun w h => hts w (List.mem_cons_of_mem _ h)
  have hown : s.vm.findClass RX2 = some m.cls := findClass_of_methodNamed B.named
  have hlocks := B.notSynchronized
  have hin : meth.name = "<init>" := (name_of_methodNamed B.named B.method).1
  subst hsz
  have hD := hD0.self (sz := s.heap.size)
  generalize hAe : va_A [(h0, .inr (2, [.null, .null]))] s.heap.size = A at hD ⊢
  have hA : ∀ q : Nat, s.heap.size ≤ q → A q := fun q h => by rw [← hAe]; exact Or.inr h
  have hS : va_S A s.heap s.heap [] := va_S.rf
  obtain ⟨w0, w1, w2, w3, w4⟩ := kwX2_init
  have hl := lv_entry ([.ref h0, .ref p1, .ref p2]) (n := 3) (Nat.le_of_ble_eq_true rfl)
  rw [lg_entry_eq]
  generalize (lg_sl ([.ref h0, .ref p1, .ref p2]) ++ List.replicate (3 - (lg_sl ([.ref h0, .ref p1, .ref p2])).length) Slot.unset).toArray = ls at hl ⊢
  have hl : lv_has ls 3 [(0, .ref h0), (1, .ref p1), (2, .ref p2)] := hl
  refine lv_aload_n hx hb dX2_init_0 rfl (lv_at hl 0 rfl) ?_
  refine W.objInit hx hb hown (htb _ (zin_mem w0)) (htb _ (zin_mem w1)) (htb _ (zin_mem w2)) rfl (by rw [hml]; exact hl.1) rfl dX2_init_1 (Nat.le_of_ble_eq_true rfl) (Nat.le_of_ble_eq_true rfl) ?_
  refine W.eq (g2 := F0 m 4 ls []) rfl ?_
  refine lv_aload_n hx hb dX2_init_4 rfl (lv_at hl 0 rfl) ?_
  refine lv_aload_n hx hb dX2_init_5 rfl (lv_at hl 1 rfl) ?_
  refine va_putF (D := (dC, dI)) (ci := 2) (v := .ref p1) (ty := .object "ReplayDesk$Tokens") (C := RX2) (T := TX2) (N := 2) hx hb htb (zcl_in 2 _ rfl) tyX2 tyX2_ok nmX2 hown hK hP hD hS 0 rfl rfl 0 (by decide) (htb _ (zin_mem w3)) (fun _ h9 => h9) rfl hin rfl (by decide +kernel) rfl rfl (Nat.le_of_ble_eq_true rfl) dX2_init_6 (fun H locs hP hD hS => ?_)
  have hP : va_P (dC, dI) vwCl [(h0, .inr (2, [.ref p1, .null]))] H := hP
  have hD : va_D A [(h0, .inr (2, [.ref p1, .null]))] := hD
  refine lv_aload_n hx hb dX2_init_9 rfl (lv_at hl 0 rfl) ?_
  refine lv_aload_n hx hb dX2_init_10 rfl (lv_at hl 2 rfl) ?_
  refine va_putF (D := (dC, dI)) (ci := 2) (v := .ref p2) (ty := .object "ReplayDesk$Program") (C := RX2) (T := TX2) (N := 2) hx hb htb (zcl_in 2 _ rfl) tyX2 tyX2_ok nmX2 hown hK hP hD hS 0 rfl rfl 1 (by decide) (htb _ (zin_mem w4)) (fun _ h9 => h9) rfl hin rfl (by decide +kernel) rfl rfl (Nat.le_of_ble_eq_true rfl) dX2_init_11 (fun H locs hP hD hS => ?_)
  have hP : va_P (dC, dI) vwCl [(h0, .inr (2, [.ref p1, .ref p2]))] H := hP
  have hD : va_D A [(h0, .inr (2, [.ref p1, .ref p2]))] := hD
  exact W.vret hx hb hr (fun t ht hW => ⟨⟨(fun k => [].getD k 0), rfl, trivial, by rw [ht]; exact hP, hD⟩, hS.F ht⟩) hS.2.2 dX2_init_14
theorem dX0_init_0 : decode cX0_init 0 = .ok (.aload_n 0, 1) := by decide +kernel
theorem dX0_init_1 : decode cX0_init 1 = .ok (.invokespecial 3, 3) := by decide +kernel
theorem dX0_init_4 : decode cX0_init 4 = .ok (.aload_n 0, 1) := by decide +kernel
theorem dX0_init_5 : decode cX0_init 5 = .ok (.sipush 200, 3) := by decide +kernel
theorem dX0_init_8 : decode cX0_init 8 = .ok (.newarray .int, 2) := by decide +kernel
theorem dX0_init_10 : decode cX0_init 10 = .ok (.putfield 9, 3) := by decide +kernel
theorem dX0_init_13 : decode cX0_init 13 = .ok (.aload_n 0, 1) := by decide +kernel
theorem dX0_init_14 : decode cX0_init 14 = .ok (.sipush 200, 3) := by decide +kernel
theorem dX0_init_17 : decode cX0_init 17 = .ok (.newarray .int, 2) := by decide +kernel
theorem dX0_init_19 : decode cX0_init 19 = .ok (.putfield 15, 3) := by decide +kernel
theorem dX0_init_22 : decode cX0_init 22 = .ok (.aload_n 0, 1) := by decide +kernel
theorem dX0_init_23 : decode cX0_init 23 = .ok (.sipush 200, 3) := by decide +kernel
theorem dX0_init_26 : decode cX0_init 26 = .ok (.newarray .int, 2) := by decide +kernel
theorem dX0_init_28 : decode cX0_init 28 = .ok (.putfield 18, 3) := by decide +kernel
theorem dX0_init_31 : decode cX0_init 31 = .ok (.aload_n 0, 1) := by decide +kernel
theorem dX0_init_32 : decode cX0_init 32 = .ok (.sipush 200, 3) := by decide +kernel
theorem dX0_init_35 : decode cX0_init 35 = .ok (.newarray .int, 2) := by decide +kernel
theorem dX0_init_37 : decode cX0_init 37 = .ok (.putfield 21, 3) := by decide +kernel
theorem dX0_init_40 : decode cX0_init 40 = .ok (.aload_n 0, 1) := by decide +kernel
theorem dX0_init_41 : decode cX0_init 41 = .ok (.sipush 200, 3) := by decide +kernel
theorem dX0_init_44 : decode cX0_init 44 = .ok (.newarray .int, 2) := by decide +kernel
theorem dX0_init_46 : decode cX0_init 46 = .ok (.putfield 24, 3) := by decide +kernel
theorem dX0_init_49 : decode cX0_init 49 = .ok (.aload_n 0, 1) := by decide +kernel
theorem dX0_init_50 : decode cX0_init 50 = .ok (.iconst 0, 1) := by decide +kernel
theorem dX0_init_51 : decode cX0_init 51 = .ok (.putfield 27, 3) := by decide +kernel
theorem dX0_init_54 : decode cX0_init 54 = .ok (.aload_n 0, 1) := by decide +kernel
theorem dX0_init_55 : decode cX0_init 55 = .ok (.iconst 0, 1) := by decide +kernel
theorem dX0_init_56 : decode cX0_init 56 = .ok (.putfield 31, 3) := by decide +kernel
theorem dX0_init_59 : decode cX0_init 59 = .ok (.return_, 1) := by decide +kernel
set_option maxRecDepth 100000 in
theorem kwX0_init : zin 199 (.methodLink RX0 3 objectInit) = true ∧ zin 105 (.instanceMethod objectInit) = true ∧ zin 106 (.code objectInit ⟨#[0xb1]⟩ 1 none) = true ∧ zin 143 (.arrayClass .int) = true ∧ zin 200 (.fieldLink RX0 9 "ReplayDesk$History" "kinds" "[I") = true ∧ zin 201 (.fieldLink RX0 15 "ReplayDesk$History" "refs" "[I") = true ∧ zin 202 (.fieldLink RX0 18 "ReplayDesk$History" "values" "[I") = true ∧ zin 203 (.fieldLink RX0 21 "ReplayDesk$History" "overBy" "[I") = true ∧ zin 204 (.fieldLink RX0 24 "ReplayDesk$History" "signals" "[I") = true ∧ zin 205 (.fieldLink RX0 27 "ReplayDesk$History" "size" "I") = true ∧ zin 206 (.fieldLink RX0 31 "ReplayDesk$History" "signalCount" "I") = true := by decide +kernel
set_option maxRecDepth 100000 in
theorem zcX0_init : lw_tbl[198]? = some (.code yX0_init cX0_init 1 none) := rfl
def fwX0 (kI kC : ClassId) (h0 : Nat) (u : Nat → Nat) : va_W := [(h0, .inr (0, [.ref (u 0), .ref (u 1), .ref (u 2), .ref (u 3), .ref (u 4), .int 0, .int 0])), (u 0, .inl (kI, 200, .inl fun _ => 0)), (u 1, .inl (kI, 200, .inl fun _ => 0)), (u 2, .inl (kI, 200, .inl fun _ => 0)), (u 3, .inl (kI, 200, .inl fun _ => 0)), (u 4, .inl (kI, 200, .inl fun _ => 0))]
set_option maxHeartbeats 4000000 in
set_option maxRecDepth 100000 in
theorem cX0_init_ok (l : Launch) (kI kC : ClassId) (dC : Nat → ClassId) (dI : Nat → Nat → Nat) (h0 sz : Nat) : Met l yX0_init (zws yX0_init cX0_init 1 none) { frames := 1, cells := 5, slots := 1000, locals := 12 } (va_Pc [.ref h0] (fun U => U.heap.size = sz ∧ va_P (dC, dI) vwCl [(h0, .inr (0, [.null, .null, .null, .null, .null, .int 0, .int 0]))] U.heap ∧ va_K (dC, dI) vwCl (ztys kI kC) U ∧ va_D (fun _ => True) [(h0, .inr (0, [.null, .null, .null, .null, .null, .int 0, .int 0]))])) (va_Qv (fun _ : Nat → Nat => True) (fun u t => va_P (dC, dI) vwCl (fwX0 kI kC h0 u) t.heap ∧ va_D (va_A [(h0, .inr (0, [.null, .null, .null, .null, .null, .int 0, .int 0]))] sz) (fwX0 kI kC h0 u)) (va_A [(h0, .inr (0, [.null, .null, .null, .null, .null, .int 0, .int 0]))] sz)) 5 1000 (va_A [(h0, .inr (0, [.null, .null, .null, .null, .null, .int 0, .int 0]))] sz) := by
  refine Met.ofW (cc := cX0_init) (maxL := 1) (ret := none) (by decide) rfl ?_
  intro p e s m args below meth c s₁ B hml hv
  obtain ⟨rfl, hsz, hP, hK, hD0⟩ := hv
  have hx := B.exec
  have hb := B.bytes
  have hr := B.returns
  have hts := atoms_spec (ws := zws yX0_init cX0_init 1 none) B.pre
  have htb : ∀ w ∈ zTB, w.before ([.ref h0] : List Value).toArray s = true := fun w h => hts w (List.mem_cons_of_mem _ h)
  have hown : s.vm.findClass RX0 = some m.cls := findClass_of_methodNamed B.named
  have hlocks := B.notSynchronized
  have hin : meth.name = "<init>" := (name_of_methodNamed B.named B.method).1
  subst hsz
  have hD := hD0.self (sz := s.heap.size)
  generalize hAe : va_A [(h0, .inr (0, [.null, .null, .null, .null, .null, .int 0, .int 0]))] s.heap.size = A at hD ⊢
  have hA : ∀ q : Nat, s.heap.size ≤ q → A q := fun q h => by rw [← hAe]; exact Or.inr h
  have hS : va_S A s.heap s.heap [] := va_S.rf
  obtain ⟨w0, w1, w2, w3, w4, w5, w6, w7, w8, w9, w10⟩ := kwX0_init
  have hl := lv_entry ([.ref h0]) (n := 1) (Nat.le_of_ble_eq_true rfl)
  rw [lg_entry_eq]
  generalize (lg_sl ([.ref h0]) ++ List.replicate (1 - (lg_sl ([.ref h0])).length) Slot.unset).toArray = ls at hl ⊢
  have hl : lv_has ls 1 [(0, .ref h0)] := hl
  refine lv_aload_n hx hb dX0_init_0 rfl (lv_at hl 0 rfl) ?_
  refine W.objInit hx hb hown (htb _ (zin_mem w0)) (htb _ (zin_mem w1)) (htb _ (zin_mem w2)) rfl (by rw [hml]; exact hl.1) rfl dX0_init_1 (Nat.le_of_ble_eq_true rfl) (Nat.le_of_ble_eq_true rfl) ?_
  refine W.eq (g2 := F0 m 4 ls []) rfl ?_
  refine lv_aload_n hx hb dX0_init_4 rfl (lv_at hl 0 rfl) ?_
  refine lv_sipush (v := 200) hx hb dX0_init_5 (by decide) ?_
  refine zc_newi (N9 := 200) hx hb (htb _ (zin_mem w3)) hK hP hD hS hA (by decide) rfl (Nat.le_of_ble_eq_true rfl) (Nat.le_of_ble_eq_true rfl) (Nat.le_of_ble_eq_true rfl) dX0_init_8 (fun q8 H hP hD hS => ?_)
  have hP : va_P (dC, dI) vwCl [(h0, .inr (0, [.null, .null, .null, .null, .null, .int 0, .int 0])), (q8, .inl (kI, 200, .inl fun _ => 0))] H := hP
  have hD : va_D A [(h0, .inr (0, [.null, .null, .null, .null, .null, .int 0, .int 0])), (q8, .inl (kI, 200, .inl fun _ => 0))] := hD
  refine W.widen (k := 1) (n := 200) (Nat.le_of_ble_eq_true rfl) (Nat.le_of_ble_eq_true rfl) ?_
  refine va_putF (D := (dC, dI)) (ci := 0) (v := .ref q8) (ty := .array .int) (C := RX0) (T := TX0) (N := 7) hx hb htb (zcl_in 0 _ rfl) tyX0 tyX0_ok nmX0 hown hK hP hD hS 0 rfl rfl 0 (by decide) (htb _ (zin_mem w4)) (fun _ h9 => h9) rfl hin rfl (by decide +kernel) rfl rfl (Nat.le_of_ble_eq_true rfl) dX0_init_10 (fun H locs hP hD hS => ?_)
  have hP : va_P (dC, dI) vwCl [(h0, .inr (0, [.ref q8, .null, .null, .null, .null, .int 0, .int 0])), (q8, .inl (kI, 200, .inl fun _ => 0))] H := hP
  have hD : va_D A [(h0, .inr (0, [.ref q8, .null, .null, .null, .null, .int 0, .int 0])), (q8, .inl (kI, 200, .inl fun _ => 0))] := hD
  refine lv_aload_n hx hb dX0_init_13 rfl (lv_at hl 0 rfl) ?_
  refine lv_sipush (v := 200) hx hb dX0_init_14 (by decide) ?_
  refine zc_newi (N9 := 200) hx hb (htb _ (zin_mem w3)) hK hP hD hS hA (by decide) rfl (Nat.le_of_ble_eq_true rfl) (Nat.le_of_ble_eq_true rfl) (Nat.le_of_ble_eq_true rfl) dX0_init_17 (fun q17 H hP hD hS => ?_)
  have hP : va_P (dC, dI) vwCl [(h0, .inr (0, [.ref q8, .null, .null, .null, .null, .int 0, .int 0])), (q8, .inl (kI, 200, .inl fun _ => 0)), (q17, .inl (kI, 200, .inl fun _ => 0))] H := hP
  have hD : va_D A [(h0, .inr (0, [.ref q8, .null, .null, .null, .null, .int 0, .int 0])), (q8, .inl (kI, 200, .inl fun _ => 0)), (q17, .inl (kI, 200, .inl fun _ => 0))] := hD
  refine W.widen (k := 2) (n := 400) (Nat.le_of_ble_eq_true rfl) (Nat.le_of_ble_eq_true rfl) ?_
  refine va_putF (D := (dC, dI)) (ci := 0) (v := .ref q17) (ty := .array .int) (C := RX0) (T := TX0) (N := 7) hx hb htb (zcl_in 0 _ rfl) tyX0 tyX0_ok nmX0 hown hK hP hD hS 0 rfl rfl 1 (by decide) (htb _ (zin_mem w5)) (fun _ h9 => h9) rfl hin rfl (by decide +kernel) rfl rfl (Nat.le_of_ble_eq_true rfl) dX0_init_19 (fun H locs hP hD hS => ?_)
  have hP : va_P (dC, dI) vwCl [(h0, .inr (0, [.ref q8, .ref q17, .null, .null, .null, .int 0, .int 0])), (q8, .inl (kI, 200, .inl fun _ => 0)), (q17, .inl (kI, 200, .inl fun _ => 0))] H := hP
  have hD : va_D A [(h0, .inr (0, [.ref q8, .ref q17, .null, .null, .null, .int 0, .int 0])), (q8, .inl (kI, 200, .inl fun _ => 0)), (q17, .inl (kI, 200, .inl fun _ => 0))] := hD
  refine lv_aload_n hx hb dX0_init_22 rfl (lv_at hl 0 rfl) ?_
  refine lv_sipush (v := 200) hx hb dX0_init_23 (by decide) ?_
  refine zc_newi (N9 := 200) hx hb (htb _ (zin_mem w3)) hK hP hD hS hA (by decide) rfl (Nat.le_of_ble_eq_true rfl) (Nat.le_of_ble_eq_true rfl) (Nat.le_of_ble_eq_true rfl) dX0_init_26 (fun q26 H hP hD hS => ?_)
  have hP : va_P (dC, dI) vwCl [(h0, .inr (0, [.ref q8, .ref q17, .null, .null, .null, .int 0, .int 0])), (q8, .inl (kI, 200, .inl fun _ => 0)), (q17, .inl (kI, 200, .inl fun _ => 0)), (q26, .inl (kI, 200, .inl fun _ => 0))] H := hP
  have hD : va_D A [(h0, .inr (0, [.ref q8, .ref q17, .null, .null, .null, .int 0, .int 0])), (q8, .inl (kI, 200, .inl fun _ => 0)), (q17, .inl (kI, 200, .inl fun _ => 0)), (q26, .inl (kI, 200, .inl fun _ => 0))] := hD
  refine W.widen (k := 3) (n := 600) (Nat.le_of_ble_eq_true rfl) (Nat.le_of_ble_eq_true rfl) ?_
  refine va_putF (D := (dC, dI)) (ci := 0) (v := .ref q26) (ty := .array .int) (C := RX0) (T := TX0) (N := 7) hx hb htb (zcl_in 0 _ rfl) tyX0 tyX0_ok nmX0 hown hK hP hD hS 0 rfl rfl 2 (by decide) (htb _ (zin_mem w6)) (fun _ h9 => h9) rfl hin rfl (by decide +kernel) rfl rfl (Nat.le_of_ble_eq_true rfl) dX0_init_28 (fun H locs hP hD hS => ?_)
  have hP : va_P (dC, dI) vwCl [(h0, .inr (0, [.ref q8, .ref q17, .ref q26, .null, .null, .int 0, .int 0])), (q8, .inl (kI, 200, .inl fun _ => 0)), (q17, .inl (kI, 200, .inl fun _ => 0)), (q26, .inl (kI, 200, .inl fun _ => 0))] H := hP
  have hD : va_D A [(h0, .inr (0, [.ref q8, .ref q17, .ref q26, .null, .null, .int 0, .int 0])), (q8, .inl (kI, 200, .inl fun _ => 0)), (q17, .inl (kI, 200, .inl fun _ => 0)), (q26, .inl (kI, 200, .inl fun _ => 0))] := hD
  refine lv_aload_n hx hb dX0_init_31 rfl (lv_at hl 0 rfl) ?_
  refine lv_sipush (v := 200) hx hb dX0_init_32 (by decide) ?_
  refine zc_newi (N9 := 200) hx hb (htb _ (zin_mem w3)) hK hP hD hS hA (by decide) rfl (Nat.le_of_ble_eq_true rfl) (Nat.le_of_ble_eq_true rfl) (Nat.le_of_ble_eq_true rfl) dX0_init_35 (fun q35 H hP hD hS => ?_)
  have hP : va_P (dC, dI) vwCl [(h0, .inr (0, [.ref q8, .ref q17, .ref q26, .null, .null, .int 0, .int 0])), (q8, .inl (kI, 200, .inl fun _ => 0)), (q17, .inl (kI, 200, .inl fun _ => 0)), (q26, .inl (kI, 200, .inl fun _ => 0)), (q35, .inl (kI, 200, .inl fun _ => 0))] H := hP
  have hD : va_D A [(h0, .inr (0, [.ref q8, .ref q17, .ref q26, .null, .null, .int 0, .int 0])), (q8, .inl (kI, 200, .inl fun _ => 0)), (q17, .inl (kI, 200, .inl fun _ => 0)), (q26, .inl (kI, 200, .inl fun _ => 0)), (q35, .inl (kI, 200, .inl fun _ => 0))] := hD
  refine W.widen (k := 4) (n := 800) (Nat.le_of_ble_eq_true rfl) (Nat.le_of_ble_eq_true rfl) ?_
  refine va_putF (D := (dC, dI)) (ci := 0) (v := .ref q35) (ty := .array .int) (C := RX0) (T := TX0) (N := 7) hx hb htb (zcl_in 0 _ rfl) tyX0 tyX0_ok nmX0 hown hK hP hD hS 0 rfl rfl 3 (by decide) (htb _ (zin_mem w7)) (fun _ h9 => h9) rfl hin rfl (by decide +kernel) rfl rfl (Nat.le_of_ble_eq_true rfl) dX0_init_37 (fun H locs hP hD hS => ?_)
  have hP : va_P (dC, dI) vwCl [(h0, .inr (0, [.ref q8, .ref q17, .ref q26, .ref q35, .null, .int 0, .int 0])), (q8, .inl (kI, 200, .inl fun _ => 0)), (q17, .inl (kI, 200, .inl fun _ => 0)), (q26, .inl (kI, 200, .inl fun _ => 0)), (q35, .inl (kI, 200, .inl fun _ => 0))] H := hP
  have hD : va_D A [(h0, .inr (0, [.ref q8, .ref q17, .ref q26, .ref q35, .null, .int 0, .int 0])), (q8, .inl (kI, 200, .inl fun _ => 0)), (q17, .inl (kI, 200, .inl fun _ => 0)), (q26, .inl (kI, 200, .inl fun _ => 0)), (q35, .inl (kI, 200, .inl fun _ => 0))] := hD
  refine lv_aload_n hx hb dX0_init_40 rfl (lv_at hl 0 rfl) ?_
  refine lv_sipush (v := 200) hx hb dX0_init_41 (by decide) ?_
  refine zc_newi (N9 := 200) hx hb (htb _ (zin_mem w3)) hK hP hD hS hA (by decide) rfl (Nat.le_of_ble_eq_true rfl) (Nat.le_of_ble_eq_true rfl) (Nat.le_of_ble_eq_true rfl) dX0_init_44 (fun q44 H hP hD hS => ?_)
  have hP : va_P (dC, dI) vwCl [(h0, .inr (0, [.ref q8, .ref q17, .ref q26, .ref q35, .null, .int 0, .int 0])), (q8, .inl (kI, 200, .inl fun _ => 0)), (q17, .inl (kI, 200, .inl fun _ => 0)), (q26, .inl (kI, 200, .inl fun _ => 0)), (q35, .inl (kI, 200, .inl fun _ => 0)), (q44, .inl (kI, 200, .inl fun _ => 0))] H := hP
  have hD : va_D A [(h0, .inr (0, [.ref q8, .ref q17, .ref q26, .ref q35, .null, .int 0, .int 0])), (q8, .inl (kI, 200, .inl fun _ => 0)), (q17, .inl (kI, 200, .inl fun _ => 0)), (q26, .inl (kI, 200, .inl fun _ => 0)), (q35, .inl (kI, 200, .inl fun _ => 0)), (q44, .inl (kI, 200, .inl fun _ => 0))] := hD
  refine W.widen (k := 5) (n := 1000) (Nat.le_of_ble_eq_true rfl) (Nat.le_of_ble_eq_true rfl) ?_
  refine va_putF (D := (dC, dI)) (ci := 0) (v := .ref q44) (ty := .array .int) (C := RX0) (T := TX0) (N := 7) hx hb htb (zcl_in 0 _ rfl) tyX0 tyX0_ok nmX0 hown hK hP hD hS 0 rfl rfl 4 (by decide) (htb _ (zin_mem w8)) (fun _ h9 => h9) rfl hin rfl (by decide +kernel) rfl rfl (Nat.le_of_ble_eq_true rfl) dX0_init_46 (fun H locs hP hD hS => ?_)
  have hP : va_P (dC, dI) vwCl [(h0, .inr (0, [.ref q8, .ref q17, .ref q26, .ref q35, .ref q44, .int 0, .int 0])), (q8, .inl (kI, 200, .inl fun _ => 0)), (q17, .inl (kI, 200, .inl fun _ => 0)), (q26, .inl (kI, 200, .inl fun _ => 0)), (q35, .inl (kI, 200, .inl fun _ => 0)), (q44, .inl (kI, 200, .inl fun _ => 0))] H := hP
  have hD : va_D A [(h0, .inr (0, [.ref q8, .ref q17, .ref q26, .ref q35, .ref q44, .int 0, .int 0])), (q8, .inl (kI, 200, .inl fun _ => 0)), (q17, .inl (kI, 200, .inl fun _ => 0)), (q26, .inl (kI, 200, .inl fun _ => 0)), (q35, .inl (kI, 200, .inl fun _ => 0)), (q44, .inl (kI, 200, .inl fun _ => 0))] := hD
  refine lv_aload_n hx hb dX0_init_49 rfl (lv_at hl 0 rfl) ?_
  refine lv_iconst (v := 0) hx hb dX0_init_50 (by decide) ?_
  refine va_put (D := (dC, dI)) (ci := 0) (v := .int 0) (ty := .int) (C := RX0) (T := TX0) (N := 7) hx hb htb (zcl_in 0 _ rfl) tyX0 tyX0_ok nmX0 hown hK hP hD hS 0 rfl rfl 5 (by decide) (htb _ (zin_mem w9)) (fun _ h9 => h9) rfl (by decide +kernel) rfl rfl (Nat.le_of_ble_eq_true rfl) dX0_init_51 (fun H locs hP hD hS => ?_)
  have hP : va_P (dC, dI) vwCl [(h0, .inr (0, [.ref q8, .ref q17, .ref q26, .ref q35, .ref q44, .int 0, .int 0])), (q8, .inl (kI, 200, .inl fun _ => 0)), (q17, .inl (kI, 200, .inl fun _ => 0)), (q26, .inl (kI, 200, .inl fun _ => 0)), (q35, .inl (kI, 200, .inl fun _ => 0)), (q44, .inl (kI, 200, .inl fun _ => 0))] H := hP
  have hD : va_D A [(h0, .inr (0, [.ref q8, .ref q17, .ref q26, .ref q35, .ref q44, .int 0, .int 0])), (q8, .inl (kI, 200, .inl fun _ => 0)), (q17, .inl (kI, 200, .inl fun _ => 0)), (q26, .inl (kI, 200, .inl fun _ => 0)), (q35, .inl (kI, 200, .inl fun _ => 0)), (q44, .inl (kI, 200, .inl fun _ => 0))] := hD
  refine lv_aload_n hx hb dX0_init_54 rfl (lv_at hl 0 rfl) ?_
  refine lv_iconst (v := 0) hx hb dX0_init_55 (by decide) ?_
  refine va_put (D := (dC, dI)) (ci := 0) (v := .int 0) (ty := .int) (C := RX0) (T := TX0) (N := 7) hx hb htb (zcl_in 0 _ rfl) tyX0 tyX0_ok nmX0 hown hK hP hD hS 0 rfl rfl 6 (by decide) (htb _ (zin_mem w10)) (fun _ h9 => h9) rfl (by decide +kernel) rfl rfl (Nat.le_of_ble_eq_true rfl) dX0_init_56 (fun H locs hP hD hS => ?_)
  have hP : va_P (dC, dI) vwCl [(h0, .inr (0, [.ref q8, .ref q17, .ref q26, .ref q35, .ref q44, .int 0, .int 0])), (q8, .inl (kI, 200, .inl fun _ => 0)), (q17, .inl (kI, 200, .inl fun _ => 0)), (q26, .inl (kI, 200, .inl fun _ => 0)), (q35, .inl (kI, 200, .inl fun _ => 0)), (q44, .inl (kI, 200, .inl fun _ => 0))] H := hP
  have hD : va_D A [(h0, .inr (0, [.ref q8, .ref q17, .ref q26, .ref q35, .ref q44, .int 0, .int 0])), (q8, .inl (kI, 200, .inl fun _ => 0)), (q17, .inl (kI, 200, .inl fun _ => 0)), (q26, .inl (kI, 200, .inl fun _ => 0)), (q35, .inl (kI, 200, .inl fun _ => 0)), (q44, .inl (kI, 200, .inl fun _ => 0))] := hD
  exact W.vret hx hb hr (fun t ht hW => ⟨⟨(fun k => [q8, q17, q26, q35, q44].getD k 0), rfl, trivial, by rw [ht]; exact hP, hD⟩, hS.F ht⟩) hS.2.2 dX0_init_59
