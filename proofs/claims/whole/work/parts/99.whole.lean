-- the law from its entry
set_option maxRecDepth 100000 in
theorem kwL_start : zin 195 (.instantiable RX0 7) = true ∧ zin 145 (.instantiable RX1 10) = true ∧ zin 182 (.instantiable RX2 2) = true ∧ zin 223 (.instantiable RX3 6) = true ∧ zin 256 (.instantiable RX4 13) = true ∧ zin 108 (.instantiable RX5 2) = true ∧ zin 122 (.instantiable RX6 5) = true ∧ zin 100 (.instantiable RX7 13) = true ∧ zin 1016 (.instantiable RX8 45) = true ∧ zin 143 (.arrayClass .int) = true ∧ zin 120 (.arrayClass .char) = true ∧ zin 1375 (.arrayClass .long) = true ∧ zin 99 (.classLink RL 8 RX7) = true ∧ zin 1015 (.classLink RL 31 RX8) = true ∧ zin 77 (.initialized RX7) = true ∧ zin 85 (.initialized RX8) = true ∧ zin 101 (.methodLink RL 30 yX7_init) = true ∧ zin 1017 (.methodLink RL 33 yX8_init) = true ∧ zin 102 (.instanceMethod yX7_init) = true ∧ zin 1018 (.instanceMethod yX8_init) = true := by decide +kernel
theorem zK_arr {s : State} {b : Nat} {ty : FieldType} (hty : ty = .int ∨ ty = .char ∨ ty = .long) (h : (Cond.arrayClass ty).before #[Value.ref b] s = true) : ∃ k : ClassId, ArrOfT s k ty ∧ va_RA s k ty := by
  obtain ⟨cA, kA, comp, h1, h2, h3⟩ := Cond.arrayClass_spec (args := #[Value.ref b]) (first := s) (o := none) (s := s) (idx := []) h
  refine ⟨cA, fun n z => ⟨fun k h => (by cases h), kA, h2, comp, h3⟩, ?_⟩
  rcases hty with rfl | rfl | rfl <;> exact h1
theorem zK_tys {D : va_G} {s : State} {kI kC : ClassId} (h0 : ∀ (c : Nat) (q : vw_C), vwCl[c]? = some q → u_Kn s q.1 q.2.1 q.2.2 (D.1 c) (D.2 c)) (hI : ArrOfT s kI .int ∧ va_RA s kI .int) (hC : ArrOfT s kC .char ∧ va_RA s kC .char) : va_K D vwCl (ztys kI kC) s := by
  refine ⟨h0, fun k q hk => ?_⟩
  match k, hk with
  | 0, hk => cases hk; exact hI
  | 1, hk => cases hk; exact hC
  | k + 2, hk => cases hk
theorem zP_pre {D : va_G} {cl : List vw_C} {ws w2 : va_W} {H : Heap} (h : va_P D cl (ws ++ w2) H) : va_P D cl ws H := fun k q hk => h k q (by rw [List.getElem?_append_left (List.getElem?_eq_some_iff.mp hk).1]; exact hk)
theorem zP_suf {D : va_G} {cl : List vw_C} {ws w2 : va_W} {H : Heap} (h : va_P D cl (ws ++ w2) H) : va_P D cl w2 H := fun k q hk => h (ws.length + k) q (by rw [List.getElem?_append_right (by omega), show ws.length + k - ws.length = k by omega]; exact hk)
/-- where the cells lie -/
def zAd (q0 : Nat) (u7 : Nat → Nat) (q38 : Nat) (u8 ad : Nat → Nat) : Nat → Nat := fun i => if i < 1000 then (if i = 0 then q0 else if i < 38 then u7 (i - 1) else if i = 38 then q38 else u8 (i - 39)) else ad (i - 1000)
theorem zAd_up (q0 : Nat) (u7 : Nat → Nat) (q38 : Nat) (u8 ad : Nat → Nat) (i : Nat) : zAd q0 u7 q38 u8 ad (1000 + i) = ad i := by
  show (if 1000 + i < 1000 then _ else ad (1000 + i - 1000)) = ad i
  rw [if_neg (by omega), show 1000 + i - 1000 = i by omega]
set_option maxHeartbeats 4000000 in
set_option maxRecDepth 100000 in
theorem zWS_start (kI kC : ClassId) (q0 : Nat) (u7 : Nat → Nat) (q38 : Nat) (u8 ad : Nat → Nat) : zWS (zAd q0 u7 q38 u8 ad) kI kC zS0 = fwX7 kI kC q0 u7 ++ fwX8 kI kC q38 u8 := rfl
theorem zIMG_len : zIMG.length = 55 := rfl
set_option maxHeartbeats 4000000 in
set_option maxRecDepth 100000 in
theorem whole_start {p : Program} {e : Env} {s : State} {m : MethodId} {below : List Frame} {meth : Method} {c : Code} (l : Launch) (hst : l.stackTraces = false) {b L : Nat} {xs : Nat → Int32} (hL : L ≤ 2048) (C0 : lw_At p s m meth c b L xs) : W p l e room_1 s m #[Value.ref b] below meth c s.heap [] 0 0 (lw_Z below #[Value.ref b] s) (entryFrame m ([Value.ref b] : List Value).toArray 7) := by
  obtain ⟨hx, hb, hr, hml, hown, hts, hX, hbl, hlocks, hgv⟩ := id C0
  have hown : s.vm.findClass RL = some m.cls := hown
  have htb : ∀ w ∈ zTB, w.before #[Value.ref b] s = true := fun w h => hts w (List.mem_filter.mp h).1
  have hA : ∀ q : Nat, s.heap.size ≤ q → zLA s q := fun _ h => h
  obtain ⟨w0, w1, w2, w3, w4, w5, w6, w7, w8, w9, w10, w11, w12, w13, w14, w15, w16, w17, w18, w19⟩ := kwL_start
  obtain ⟨c0, iS0, hKn0⟩ := u_known (C := RX0) (T := TX0) (N := 7) (n := 7) htb (zcl_in 0 _ rfl) (htb _ (zin_mem w0))
  obtain ⟨c1, iS1, hKn1⟩ := u_known (C := RX1) (T := TX1) (N := 10) (n := 10) htb (zcl_in 1 _ rfl) (htb _ (zin_mem w1))
  obtain ⟨c2, iS2, hKn2⟩ := u_known (C := RX2) (T := TX2) (N := 2) (n := 2) htb (zcl_in 2 _ rfl) (htb _ (zin_mem w2))
  obtain ⟨c3, iS3, hKn3⟩ := u_known (C := RX3) (T := TX3) (N := 6) (n := 6) htb (zcl_in 3 _ rfl) (htb _ (zin_mem w3))
  obtain ⟨c4, iS4, hKn4⟩ := u_known (C := RX4) (T := TX4) (N := 13) (n := 13) htb (zcl_in 4 _ rfl) (htb _ (zin_mem w4))
  obtain ⟨c5, iS5, hKn5⟩ := u_known (C := RX5) (T := TX5) (N := 2) (n := 2) htb (zcl_in 5 _ rfl) (htb _ (zin_mem w5))
  obtain ⟨c6, iS6, hKn6⟩ := u_known (C := RX6) (T := TX6) (N := 5) (n := 5) htb (zcl_in 6 _ rfl) (htb _ (zin_mem w6))
  obtain ⟨c7, iS7, hKn7⟩ := u_known (C := RX7) (T := TX7) (N := 13) (n := 13) htb (zcl_in 7 _ rfl) (htb _ (zin_mem w7))
  obtain ⟨c8, iS8, hKn8⟩ := u_known (C := RX8) (T := TX8) (N := 45) (n := 45) htb (zcl_in 8 _ rfl) (htb _ (zin_mem w8))
  obtain ⟨dC, dI, hKc⟩ : ∃ (dC : Nat → ClassId) (dI : Nat → Nat → Nat), ∀ (k : Nat) (q : vw_C), vwCl[k]? = some q → u_Kn s q.1 q.2.1 q.2.2 (dC k) (dI k) := by
    refine ⟨fun k => if k = 0 then c0 else if k = 1 then c1 else if k = 2 then c2 else if k = 3 then c3 else if k = 4 then c4 else if k = 5 then c5 else if k = 6 then c6 else if k = 7 then c7 else c8, fun k => if k = 0 then iS0 else if k = 1 then iS1 else if k = 2 then iS2 else if k = 3 then iS3 else if k = 4 then iS4 else if k = 5 then iS5 else if k = 6 then iS6 else if k = 7 then iS7 else iS8, ?_⟩
    intro k q hq
    match k, hq with
    | 0, hq => cases hq; exact hKn0
    | 1, hq => cases hq; exact hKn1
    | 2, hq => cases hq; exact hKn2
    | 3, hq => cases hq; exact hKn3
    | 4, hq => cases hq; exact hKn4
    | 5, hq => cases hq; exact hKn5
    | 6, hq => cases hq; exact hKn6
    | 7, hq => cases hq; exact hKn7
    | 8, hq => cases hq; exact hKn8
    | k + 9, hq => simp [vwCl] at hq
  obtain ⟨kI, hkI⟩ := zK_arr (Or.inl rfl) (htb _ (zin_mem w9))
  obtain ⟨kC, hkC⟩ := zK_arr (Or.inr (Or.inl rfl)) (htb _ (zin_mem w10))
  have hK : va_K (dC, dI) vwCl (ztys kI kC) s := zK_tys hKc hkI hkC
  have hNM : zNMok s := fun w hw => va_Nw.of (zf_9.2.1 w hw).2 (hts w (zf_9.2.1 w hw).1)
  obtain ⟨ad, adV, hs1, hs2, hs3⟩ := zstr_start hgv hts
  have hS : va_S (zLA s) s.heap s.heap [] := va_S.rf
  have hP : va_P (dC, dI) vwCl [] s.heap := fun k q h => by simp at h
  have hD : va_D (zLA s) [] := ⟨fun i j p q h => by simp at h, fun k q h => by simp at h⟩
  have hl := lv_entry ([.ref b]) (n := 7) (Nat.le_of_ble_eq_true rfl)
  rw [lg_entry_eq]
  generalize (lg_sl ([.ref b]) ++ List.replicate (7 - (lg_sl ([.ref b])).length) Slot.unset).toArray = ls at hl ⊢
  have hl : lv_has ls 7 [(0, .ref b)] := hl
  refine va_new (ci := 7) (fs := [.null, .null, .null, .null, .null, .null, .null, .null, .null, .int 0, .int 0, .int 0, .int 0]) (C := RX7) (T := TX7) (N := 13) hx hb htb (zcl_in 7 _ rfl) tyX7 tyX7_ok hown (htb _ (zin_mem w12)) (htb _ (zin_mem w7)) (htb _ (zin_mem w14)) hK hP hD hS hA rfl (fun j hj => by rcases (show j = 0 ∨ j = 1 ∨ j = 2 ∨ j = 3 ∨ j = 4 ∨ j = 5 ∨ j = 6 ∨ j = 7 ∨ j = 8 ∨ j = 9 ∨ j = 10 ∨ j = 11 ∨ j = 12 by omega) with rfl | rfl | rfl | rfl | rfl | rfl | rfl | rfl | rfl | rfl | rfl | rfl | rfl <;> rfl) (Nat.le_of_ble_eq_true rfl) (Nat.le_of_ble_eq_true rfl) dL_law_0 (fun q0 H hP hD hS => ?_)
  have hP : va_P (dC, dI) vwCl ([(q0, .inr (7, [.null, .null, .null, .null, .null, .null, .null, .null, .null, .int 0, .int 0, .int 0, .int 0]))]) H := hP
  have hD : va_D (zLA s) ([(q0, .inr (7, [.null, .null, .null, .null, .null, .null, .null, .null, .null, .int 0, .int 0, .int 0, .int 0]))]) := hD
  refine W.widen (k := 1) (n := 13) (Nat.le_of_ble_eq_true rfl) (Nat.le_of_ble_eq_true rfl) ?_
  refine lv_dup hx hb dL_law_3 rfl ?_
  have hPc := hP.sub (ws' := [(q0, .inr (7, [.null, .null, .null, .null, .null, .null, .null, .null, .null, .int 0, .int 0, .int 0, .int 0]))]) [0] rfl
  have hDc := hD.sub (ws' := [(q0, .inr (7, [.null, .null, .null, .null, .null, .null, .null, .null, .null, .int 0, .int 0, .int 0, .int 0]))]) [0] (by decide) rfl
  have hFc := va_free (wc := [(q0, .inr (7, [.null, .null, .null, .null, .null, .null, .null, .null, .null, .int 0, .int 0, .int 0, .int 0]))]) hD hS hA [0] rfl
  refine va_callv (va_runI (As := []) (rest := [.ref q0]) ⟨hx, hb, hml, hown, htb⟩ (cX7_init_ok l kI kC dC dI q0 H.size) (cwI 0 htb (zGood (fun _ h => h) zcX7_init) rfl rfl rfl (htb _ (zin_mem w14)) (htb _ (zin_mem w16)) (htb _ (zin_mem w18)) rfl (by decide +kernel) ⟨Nat.le_of_ble_eq_true rfl, Nat.le_of_ble_eq_true rfl⟩) ⟨fun a U g mk q => by obtain ⟨q0, q1, qP, qK, qD, qN⟩ := q; exact ⟨q0, q1, qP, va_K.moved (u := U) (U := U.calling g mk a) (Vm.Alike.refl U.vm) qK, qD, qN.blind rfl⟩, fun U hU hW => ⟨rfl, by rw [hU], by rw [hU]; exact hPc, va_K.moved hW.alike hK, hDc.weaken (fun _ _ _ _ => trivial), hNM.warm hW⟩⟩ rfl rfl hl.1 rfl (lv_room (Nat.le_of_ble_eq_true rfl)) dL_law_4 ⟨Nat.le_of_ble_eq_true rfl, Nat.le_of_ble_eq_true rfl⟩) hS (fun q _ h => hFc q h) hFc (fun u7 t H1 locs ht hvm hw hB hz1 hk1 hS => ?_)
  obtain ⟨hP1, hD1⟩ := hB
  rw [ht] at hP1
  obtain ⟨hP, hD⟩ := va_join (wr := []) (w1 := fwX7 kI kC q0 u7) hP hD [0] [] rfl rfl (by decide) (by decide) hk1 hFc hP1 hD1
  generalize H1 = H at hP hS ⊢
  have hP : va_P (dC, dI) vwCl (fwX7 kI kC q0 u7) H := hP
  have hD : va_D (zLA s) (fwX7 kI kC q0 u7) := hD
  refine W.widen (k := 38) (n := 6341) (Nat.le_of_ble_eq_true rfl) (Nat.le_of_ble_eq_true rfl) ?_
  refine lv_astore_n (lv' := [(1, .ref q0), (0, .ref b)]) hx hb dL_law_7 rfl hl (by decide) rfl (fun ls hl => ?_)
  refine va_new (ci := 8) (fs := [.int 0, .null, .int 0, .int 0, .int 0, .null, .null, .null, .int 0, .int 0, .int 0, .int 0, .null, .null, .int 0, .null, .null, .null, .null, .null, .int 0, .null, .null, .null, .null, .int 0, .int 0, .int 0, .int 0, .int 0, .null, .int 0, .int 0, .int 0, .int 0, .int 0, .int 0, .int 0, .int 0, .int 0, .int 0, .int 0, .int 0, .int 0, .int 0]) (C := RX8) (T := TX8) (N := 45) hx hb htb (zcl_in 8 _ rfl) tyX8 tyX8_ok hown (htb _ (zin_mem w13)) (htb _ (zin_mem w8)) (htb _ (zin_mem w15)) hK hP hD hS hA rfl (fun j hj => by rcases (show j = 0 ∨ j = 1 ∨ j = 2 ∨ j = 3 ∨ j = 4 ∨ j = 5 ∨ j = 6 ∨ j = 7 ∨ j = 8 ∨ j = 9 ∨ j = 10 ∨ j = 11 ∨ j = 12 ∨ j = 13 ∨ j = 14 ∨ j = 15 ∨ j = 16 ∨ j = 17 ∨ j = 18 ∨ j = 19 ∨ j = 20 ∨ j = 21 ∨ j = 22 ∨ j = 23 ∨ j = 24 ∨ j = 25 ∨ j = 26 ∨ j = 27 ∨ j = 28 ∨ j = 29 ∨ j = 30 ∨ j = 31 ∨ j = 32 ∨ j = 33 ∨ j = 34 ∨ j = 35 ∨ j = 36 ∨ j = 37 ∨ j = 38 ∨ j = 39 ∨ j = 40 ∨ j = 41 ∨ j = 42 ∨ j = 43 ∨ j = 44 by omega) with rfl | rfl | rfl | rfl | rfl | rfl | rfl | rfl | rfl | rfl | rfl | rfl | rfl | rfl | rfl | rfl | rfl | rfl | rfl | rfl | rfl | rfl | rfl | rfl | rfl | rfl | rfl | rfl | rfl | rfl | rfl | rfl | rfl | rfl | rfl | rfl | rfl | rfl | rfl | rfl | rfl | rfl | rfl | rfl | rfl <;> rfl) (Nat.le_of_ble_eq_true rfl) (Nat.le_of_ble_eq_true rfl) dL_law_8 (fun q38 H hP hD hS => ?_)
  have hP : va_P (dC, dI) vwCl (fwX7 kI kC q0 u7 ++ [(q38, .inr (8, [.int 0, .null, .int 0, .int 0, .int 0, .null, .null, .null, .int 0, .int 0, .int 0, .int 0, .null, .null, .int 0, .null, .null, .null, .null, .null, .int 0, .null, .null, .null, .null, .int 0, .int 0, .int 0, .int 0, .int 0, .null, .int 0, .int 0, .int 0, .int 0, .int 0, .int 0, .int 0, .int 0, .int 0, .int 0, .int 0, .int 0, .int 0, .int 0]))]) H := hP
  have hD : va_D (zLA s) (fwX7 kI kC q0 u7 ++ [(q38, .inr (8, [.int 0, .null, .int 0, .int 0, .int 0, .null, .null, .null, .int 0, .int 0, .int 0, .int 0, .null, .null, .int 0, .null, .null, .null, .null, .null, .int 0, .null, .null, .null, .null, .int 0, .int 0, .int 0, .int 0, .int 0, .null, .int 0, .int 0, .int 0, .int 0, .int 0, .int 0, .int 0, .int 0, .int 0, .int 0, .int 0, .int 0, .int 0, .int 0]))]) := hD
  refine W.widen (k := 39) (n := 6386) (Nat.le_of_ble_eq_true rfl) (Nat.le_of_ble_eq_true rfl) ?_
  refine lv_dup hx hb dL_law_11 rfl ?_
  have hPc := hP.sub (ws' := [(q38, .inr (8, [.int 0, .null, .int 0, .int 0, .int 0, .null, .null, .null, .int 0, .int 0, .int 0, .int 0, .null, .null, .int 0, .null, .null, .null, .null, .null, .int 0, .null, .null, .null, .null, .int 0, .int 0, .int 0, .int 0, .int 0, .null, .int 0, .int 0, .int 0, .int 0, .int 0, .int 0, .int 0, .int 0, .int 0, .int 0, .int 0, .int 0, .int 0, .int 0]))]) [38] rfl
  have hDc := hD.sub (ws' := [(q38, .inr (8, [.int 0, .null, .int 0, .int 0, .int 0, .null, .null, .null, .int 0, .int 0, .int 0, .int 0, .null, .null, .int 0, .null, .null, .null, .null, .null, .int 0, .null, .null, .null, .null, .int 0, .int 0, .int 0, .int 0, .int 0, .null, .int 0, .int 0, .int 0, .int 0, .int 0, .int 0, .int 0, .int 0, .int 0, .int 0, .int 0, .int 0, .int 0, .int 0]))]) [38] (by decide) rfl
  have hFc := va_free (wc := [(q38, .inr (8, [.int 0, .null, .int 0, .int 0, .int 0, .null, .null, .null, .int 0, .int 0, .int 0, .int 0, .null, .null, .int 0, .null, .null, .null, .null, .null, .int 0, .null, .null, .null, .null, .int 0, .int 0, .int 0, .int 0, .int 0, .null, .int 0, .int 0, .int 0, .int 0, .int 0, .int 0, .int 0, .int 0, .int 0, .int 0, .int 0, .int 0, .int 0, .int 0]))]) hD hS hA [38] rfl
  refine va_callv (va_runI (As := []) (rest := [.ref q38]) ⟨hx, hb, hml, hown, htb⟩ (cX8_init_ok l kI kC dC dI q38 H.size) (cwI 0 htb (zGood (fun _ h => h) zcX8_init) rfl rfl rfl (htb _ (zin_mem w15)) (htb _ (zin_mem w17)) (htb _ (zin_mem w19)) rfl (by decide +kernel) ⟨Nat.le_of_ble_eq_true rfl, Nat.le_of_ble_eq_true rfl⟩) ⟨fun a U g mk q => by obtain ⟨q0, q1, qP, qK, qD⟩ := q; exact ⟨q0, q1, qP, va_K.moved (u := U) (U := U.calling g mk a) (Vm.Alike.refl U.vm) qK, qD⟩, fun U hU hW => ⟨rfl, by rw [hU], by rw [hU]; exact hPc, va_K.moved hW.alike hK, hDc.weaken (fun _ _ _ _ => trivial)⟩⟩ rfl rfl hl.1 rfl (lv_room (Nat.le_of_ble_eq_true rfl)) dL_law_12 ⟨Nat.le_of_ble_eq_true rfl, Nat.le_of_ble_eq_true rfl⟩) hS (fun q _ h => hFc q h) hFc (fun u8 t H1 locs ht hvm hw hB hz1 hk1 hS => ?_)
  obtain ⟨hP1, hD1⟩ := hB
  rw [ht] at hP1
  obtain ⟨hP, hD⟩ := va_join (wr := fwX7 kI kC q0 u7) (w1 := fwX8 kI kC q38 u8) hP hD [38] [0, 1, 2, 3, 4, 5, 6, 7, 8, 9, 10, 11, 12, 13, 14, 15, 16, 17, 18, 19, 20, 21, 22, 23, 24, 25, 26, 27, 28, 29, 30, 31, 32, 33, 34, 35, 36, 37] rfl rfl (by decide) (by decide) hk1 hFc hP1 hD1
  generalize H1 = H at hP hS ⊢
  have hP : va_P (dC, dI) vwCl (fwX7 kI kC q0 u7 ++ fwX8 kI kC q38 u8) H := hP
  have hD : va_D (zLA s) (fwX7 kI kC q0 u7 ++ fwX8 kI kC q38 u8) := hD
  refine W.widen (k := 55) (n := 16615) (Nat.le_of_ble_eq_true rfl) (Nat.le_of_ble_eq_true rfl) ?_
  refine lv_astore_n (lv' := [(2, .ref q38), (1, .ref q0), (0, .ref b)]) hx hb dL_law_15 rfl hl (by decide) rfl (fun ls hl => ?_)
  refine lv_iconst (v := 1) hx hb dL_law_16 (by decide) ?_
  refine va_newa (atype := .long) (ty := .long) (D := (dC, dI)) (cl := vwCl) (tys := ztys kI kC) (N' := 1) (a0 := (1, .inr (.inl fun _ => 0))) hx hb (htb _ (zin_mem w11)) rfl hK hP hD hS hA (fun _ => rfl) (by decide) rfl (Nat.le_of_ble_eq_true rfl) (Nat.le_of_ble_eq_true rfl) (Nat.le_of_ble_eq_true rfl) dL_law_17 (fun ao kL H hK1 hP hD hS => ?_)
  refine W.widen (k := 56) (n := 16616) (Nat.le_of_ble_eq_true rfl) (Nat.le_of_ble_eq_true rfl) ?_
  refine lv_astore_n (lv' := [(3, .ref ao), (2, .ref q38), (1, .ref q0), (0, .ref b)]) hx hb dL_law_19 rfl hl (by decide) rfl (fun ls hl => ?_)
  refine lv_iconst (v := 0) hx hb dL_law_20 (by decide) ?_
  refine lv_istore (lv' := [(4, .int 0), (3, .ref ao), (2, .ref q38), (1, .ref q0), (0, .ref b)]) hx hb dL_law_21 hl (by decide) rfl (fun ls hl => ?_)
  have hKL : va_K (dC, dI) vwCl [(kL, .long)] s := hK1.sub [2] rfl
  have ea := zWS_start kI kC q0 u7 q38 u8 ad
  have eup := zAd_up q0 u7 q38 u8 ad
  have ea0 : zAd q0 u7 q38 u8 ad 0 = q0 := rfl
  have ea38 : zAd q0 u7 q38 u8 ad 38 = q38 := rfl
  generalize zAd q0 u7 q38 u8 ad = a at ea eup ea0 ea38
  rw [← ea] at hP hD
  obtain ⟨hXX, hTT⟩ := zXT_start hgv hts eup hs1 hs2 hs3
  have hO : va_P (dC, dI) vwCl (zO9 ao kL (fun _ => 0)) H := zP_suf hP
  have hPz : va_P (dC, dI) vwCl (zWS a kI kC zS0) H := zP_pre hP
  have hlen : (zWS a kI kC zS0).length = 55 := by rw [ea]; rfl
  have hget : ∀ i, i < zIMG.length → ∃ e9, ((zWS a kI kC zS0) ++ [(ao, Sum.inl (kL, 1, Sum.inr (Sum.inl fun _ => 0)))])[i]? = some (a i, e9) := fun i hi => by
    have h9 : zIMG[i]? = some zIMG[i] := List.getElem?_eq_getElem hi
    exact ⟨_, by rw [List.getElem?_append_left (by rw [hlen]; exact hi)]; exact zWS_get h9⟩
  have hget2 : ((zWS a kI kC zS0) ++ [(ao, Sum.inl (kL, 1, Sum.inr (Sum.inl fun _ => 0)))])[55]? = some (ao, Sum.inl (kL, 1, Sum.inr (Sum.inl fun _ => 0))) := by
    rw [List.getElem?_append_right (by rw [hlen]; exact Nat.le_refl _), hlen]; rfl
  have hinj : ∀ i j, i < zIMG.length → j < zIMG.length → a i = a j → i = j := fun i j hi hj he => by
    obtain ⟨e1, h1⟩ := hget i hi
    obtain ⟨e2, h2⟩ := hget j hj
    exact hD.1 i j _ _ h1 h2 he
  have hAz : ∀ q, zA a q → zLA s q := fun q ⟨j, hj, he⟩ => by
    obtain ⟨e1, h1⟩ := hget j hj
    rw [he]; exact hD.2 j _ h1
  have hao : ¬ zA a ao := fun ⟨j, hj, he⟩ => by
    obtain ⟨e1, h1⟩ := hget j hj
    have h9 := hD.1 55 j _ _ hget2 h1 he
    have h8 : j < 55 := hj
    omega
  have C1 : zLx p s m c b L xs a adV kI kC kL dC dI ao := ⟨hx, hb, hml, hown, htb, hK, hKL, hXX, hTT, hinj, hAz, hao, hD.2 55 _ hget2, hX, hbl⟩
  have k1 := law_loop (e := e) (below := below) (meth := meth) hst hL C1 hr hlocks 512 0 rfl zS0 0 (fun _ => 0) H _ ls inv0 hPz hO hS (by rw [zLv, ea0, ea38]; exact lv_sub hl [4, 3, 2, 1, 0] rfl)
  exact k1
-- the claim out of the walk (the skeleton's end)
set_option maxHeartbeats 4000000 in
theorem lw_walk (l : Launch) (hst : l.stackTraces = false) (b : Addr) (xs : List Int32) : MetFree l x (headSpec (Jvm.Cond.code x code maxLocals ret :: tables_1) room_1) (lw_P b xs) (fun _ _ _ _ _ => True) lw_Q := by
  refine MetFree.of_bodyS (code := code) (maxLocals := maxLocals) (ret := ret) (by decide) ?_ ?_
  · intro args s m h hn
    obtain ⟨meth, c, h1, h2, h3, h4, h5, h6, -, -⟩ := Cond.code_spec hn (atoms_spec (ws := Jvm.Cond.code x code maxLocals ret :: tables_1) h _ List.mem_cons_self)
    exact ⟨meth, c, h1, h2, h3, h4, h5, h6⟩
  · intro p e s m args below meth c s₁ B hml0 hP _
    obtain ⟨rfl, hx, hbd, hgv⟩ := hP
    obtain ⟨scr, harrAt, hlist, hof, hsmall⟩ := hx
    obtain ⟨hcb, hkn, -, -⟩ := State.arrayAt?_spec harrAt
    have hown : s.vm.findClass R_law = some m.cls := findClass_of_methodNamed B.named
    have hts0 : ∀ c ∈ (Jvm.Cond.code x code maxLocals ret :: tables_1), c.before #[Value.ref b] s = true := atoms_spec (ws := Jvm.Cond.code x code maxLocals ret :: tables_1) B.pre
    have hts : ∀ w ∈ lw_tbl, w.before #[Value.ref b] s = true := k2_hts_sels lw_privs (fun w hw => hts0 w (List.mem_cons_of_mem _ hw)) lw_privs_ok
    have hml : c.maxLocals = 7 := B.maxLocals_eq (hts0 _ List.mem_cons_self)
    have X₀ : Stand p l e room_1 s m #[Value.ref b] below meth c s₁ [] 0 0 := Stand.of_body B
    have hh0 : s₁.heap = s.heap := by rw [B.state]; rfl
    have hsz : scr.slots.size = xs.length := by rw [← Array.length_toList, hlist, List.length_map]
    have hval : ∀ j : Nat, j < xs.length → scr.slots[j]? = some (.int (xs.getD j 0)) := fun j hj => by
      rw [← Array.getElem?_toList, hlist]
      simp [hj]
    have hbl : b < s.heap.size := (Array.getElem?_eq_some_iff.mp hcb).1
    have hX : va_X b xs.length (fun j => xs.getD j 0) s s.heap := ⟨scr, hcb, hof, hkn, hsz, hval⟩
    have K : W p l e room_1 s m #[Value.ref b] below meth c s₁.heap [] 0 0 (lw_Z below #[Value.ref b] s) (entryFrame m ([Value.ref b] : List Value).toArray 7) := by
      rw [hh0]
      exact whole_start l hst hbd ⟨B.exec, B.bytes, B.returns, hml, hown, hts, hX, hbl, B.notSynchronized, hgv⟩
    obtain ⟨t, a1, o, b1, b2, b3⟩ := K s₁ rfl X₀
    exact ⟨t, o, a1, b1, b2, b3⟩
theorem lw_pre_spec {args : Array Value} {s : State} (h : (Jvm.Cond.and given_1 narrow_1).before args s = true) (hr : rest_1_c.before args s = true) : ∃ (b : Addr) (xs : List Int32), lw_P b xs args s := by
  have hs := flat_of_before _ h
  have hq := flat_of_before _ hr
  have hc : (Cond.count 1).before args s = true := hs _ (by decide +kernel)
  have harr : (Cond.arrayOf (.arg 0) .int).before args s = true := hs _ (by decide +kernel)
  have hle : (Cond.le (.length (.arg 0)) (.int 2048)).before args s = true := hs _ (by decide +kernel)
  have hlen : (Cond.isInt (.length (.arg 0))).before args s = true := hq _ (by decide +kernel)
  have hall : (Cond.all (.arg 0) (.isInt (.elem (.arg 0) (.index 0)))).before args s = true := hq _ (by decide +kernel)
  obtain ⟨b, xs, hb, hx⟩ := State.ints_of_pre rfl harr hlen hall
  have hsm : xs.length < 2 ^ 31 := hx.choose_spec.2.2.2
  have hev : (Term.length (.arg 0)).eval args s none [] s = some (.int xs.length.toInt32) := hx.length_eval hb
  have hv := Cond.le_ints hev (show (Term.int 2048).eval args s none [] s = some (.int 2048) from rfl)
  have hd : xs.length.toInt32 ≤ 2048 := by
    simpa [Cond.before, Cond.holds, hv] using hle
  have hN : xs.length ≤ 2048 := (Int32.ofNat_le_ofNat hsm (by decide)).mp (show Int32.ofNat xs.length ≤ Int32.ofNat 2048 from hd)
  exact ⟨b, xs, Cond.one_arg hc (show args[0]? = some (.ref b) from hb), hx, hN, h⟩
theorem lw_comes (l : Launch) (hst : l.stackTraces = false) : Comes l x (Jvm.Cond.code x code maxLocals ret :: tables_1) room_1 (fun tb e args s => Calls_1 tb e args s ∧ rest_1 tb e args s ∧ Pre_1 tb e args s)
    (fun _ _ args s o t => lw_Q args s o t) := by
  intro p e ha hc hk s m args below hf hfit hheap happ hpre
  obtain ⟨b, xs, hP⟩ := lw_pre_spec hpre.2.2 hpre.2.1
  obtain ⟨k, o, h1, h2, h3, hQ⟩ := lw_walk l hst b xs p e ha hc hk s m args below hf ((Spec.applies_iff_loose hf).mp happ).1 hP trivial
  exact ⟨k, o, h1, h2, h3, hQ⟩
theorem lw_frame {s t : State} {o : Outcome} {args : Array Value} (h : Framed s o t [] 601024 7293034) :
    Framed s o t (fieldLocs frame_1_writes args s ++ arrayLocs frame_1_arrays args s ++ staticLocs frame_1_statics s) 601024 7293034 := h
theorem lw_flag {l : Launch} (h : l.flags = flags0) : l.stackTraces = false := by
  unfold Launch.stackTraces
  rw [h]
  decide +kernel
theorem lw_limb (L : Cond) (hL : ∀ (args : Array Value) (s t : State), L.after args s (.returned (some (.int 1))) t = true) :
    ArmFor flags0 classFile x code maxLocals ret World_1 tables_1 room_1 Calls_1 rest_1 Pre_1
      (fun tb e a s o t => postC L tb e a s o t ∧ Framed s o t (fieldLocs frame_1_writes a s ++ arrayLocs frame_1_arrays a s ++ staticLocs frame_1_statics s) 601024 7293034) := by
  intro l hfl _ _ p e ha hc hk s m args below hf hfit hheap happ hpre
  obtain ⟨k, o, h1, h2, h3, rfl, hF⟩ := lw_comes l (lw_flag hfl) p e ha hc hk s m args below hf hfit hheap happ hpre
  exact ⟨k, _, h1, h2, h3, hL args s _, lw_frame hF⟩
theorem i_vc : Claimed_1_1 ∧ Claimed_1_2 := ⟨lw_limb limb_1_1 (fun args s t => by simp [limb_1_1, Cond.after, Cond.holds, Cond.value]), lw_limb limb_1_2 (fun args s t => Cond.after_iff.mpr (by
  first | (rw [show limb_1_2 = Cond.eq .result (.int 1) from rfl, Cond.eq_ints (x := 1) (y := 1) rfl rfl]; simp; done) | (simp [limb_1_2, Cond.value, Term.eval]; done)))⟩
