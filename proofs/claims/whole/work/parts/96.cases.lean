-- the law's cases
section
variable {p : Program} {l : Launch} {e : Env} {s : State} {m : MethodId} {below : List Frame} {meth : Method} {c : Code} {b L : Nat} {xs : Nat → Int32} {H : Heap} {locs : List Loc} {cells slots : Nat} {Q : State → Prop}
variable {a adV : Nat → Nat} {kI kC kL : ClassId} {dC : Nat → ClassId} {dI : Nat → Nat → Nat} {ao : Nat} {f : Nat → Int64} {σ : zS} {ls : Array Slot} {n j : Nat}
set_option maxHeartbeats 4000000 in
set_option maxRecDepth 100000 in
theorem lc_0 (hL : L ≤ 2048) (C0 : zLx p s m c b L xs a adV kI kC kL dC dI ao) (hlt : 4 * j + 4 ≤ L) (hroom : cells + 1 ≤ 601024 ∧ slots + 6 ≤ 7293034) (HI : InvN σ n) (hP : va_P (dC, dI) vwCl (zWS a kI kC σ) H) (hO : va_P (dC, dI) vwCl (zO9 ao kL f) H) (hS : va_S (zLA s) s.heap H locs) (hl : lv_has ls 7 (zLv b a ao j))
    (next : ∀ (σ' : zS) (n' : Nat) (f' : Nat → Int64) (H' : Heap) (locs' : List Loc) (ls' : Array Slot), InvN σ' n' → va_P (dC, dI) vwCl (zWS a kI kC σ') H' → va_P (dC, dI) vwCl (zO9 ao kL f') H' → va_S (zLA s) s.heap H' locs' → lv_has ls' 7 (zLv b a ao j) → W p l e room_1 s m #[Value.ref b] below meth c H' locs' (cells + 1) (slots + 6) Q (F0 m 528 ls' [])) : W p l e room_1 s m #[Value.ref b] below meth c H locs cells slots Q (F0 m 100 ls []) := by
  obtain ⟨hx, hb, hml, hown, htb, hK, hKL, hX, hT, hinj, hA, hao, hAo, hXs, hbl⟩ := id C0
  have hr1 : cells ≤ 601024 ∧ slots ≤ 7293034 := ⟨by omega, by omega⟩
  obtain ⟨w, ew⟩ : ∃ w : Int64, w = ((xs (4 * j + 1)).toInt64 <<< ((32 : Int32).toInt64 &&& 63)) ||| ((xs (4 * j + 2)).toInt64 &&& 4294967295) := ⟨_, rfl⟩
  obtain ⟨v, σ1, σ2, h1, h2, hI⟩ := t_type 997 HI w (xs (4 * j + 3))
  refine lv_aload_n hx hb dL_law_100 rfl (lv_at hl 1 rfl) ?_
  refine zLrd C0 j 1 hL (by omega) hl (p0 := 0) rfl (p4 := 4) rfl dL_law_101 dL_law_102 dL_law_104 dL_law_105 dL_law_106 rfl rfl hS ?_
  refine lv_i2l hx hb dL_law_107 rfl ?_
  refine lv_bipush (v := 32) hx hb dL_law_108 (by decide) ?_
  refine lv_lshl hx hb dL_law_110 rfl ?_
  refine zLrd C0 j 2 hL (by omega) hl (p0 := 0) rfl (p4 := 4) rfl dL_law_111 dL_law_112 dL_law_114 dL_law_115 dL_law_116 rfl rfl hS ?_
  refine lv_i2l hx hb dL_law_117 rfl ?_
  refine lv_ldc2 hx hb hown (htb _ (zin_mem kl_long)) dL_law_118 ?_
  refine lv_land hx hb dL_law_121 ?_
  refine lv_lor hx hb dL_law_122 ?_
  rw [← ew]
  refine zLrd C0 j 3 hL (by omega) hl (p0 := 0) rfl (p4 := 4) rfl dL_law_123 dL_law_124 dL_law_126 dL_law_127 dL_law_128 rfl rfl hS ?_
  refine zLcallI C0 (j0 := 0) (ci := 7) (as := [.inr (.inl w), .inl (xs (4 * j + 3))]) (rest := []) h1 zat_X7_type kc_X7_type rfl rfl kl_X7_type kp_X7_type dL_law_129 rfl (Nat.le_of_ble_eq_true rfl) hl.1 hr1 hP hO hS (fun H locs hP hO hS => ?_)
  refine lv_aload_n hx hb dL_law_132 rfl (lv_at hl 2 rfl) ?_
  refine zLrd C0 j 1 hL (by omega) hl (p0 := 0) rfl (p4 := 4) rfl dL_law_133 dL_law_134 dL_law_136 dL_law_137 dL_law_138 rfl rfl hS ?_
  refine lv_i2l hx hb dL_law_139 rfl ?_
  refine lv_bipush (v := 32) hx hb dL_law_140 (by decide) ?_
  refine lv_lshl hx hb dL_law_142 rfl ?_
  refine zLrd C0 j 2 hL (by omega) hl (p0 := 0) rfl (p4 := 4) rfl dL_law_143 dL_law_144 dL_law_146 dL_law_147 dL_law_148 rfl rfl hS ?_
  refine lv_i2l hx hb dL_law_149 rfl ?_
  refine lv_ldc2 hx hb hown (htb _ (zin_mem kl_long)) dL_law_150 ?_
  refine lv_land hx hb dL_law_153 ?_
  refine lv_lor hx hb dL_law_154 ?_
  rw [← ew]
  refine zLrd C0 j 3 hL (by omega) hl (p0 := 0) rfl (p4 := 4) rfl dL_law_155 dL_law_156 dL_law_158 dL_law_159 dL_law_160 rfl rfl hS ?_
  refine zLcallI C0 (j0 := 38) (ci := 8) (as := [.inr (.inl w), .inl (xs (4 * j + 3))]) (rest := [.int v]) h2 zat_X8_type kc_X8_type rfl rfl kl_X8_type kp_X8_type dL_law_161 rfl (Nat.le_of_ble_eq_true rfl) hl.1 hr1 hP hO hS (fun H locs hP hO hS => ?_)
  refine lv_icmp_eq (tgt := 528) hx hb dL_law_164 (by decide) (fun _ => ?_) (fun h => absurd rfl h)
  refine W.widen (k := cells + 1) (n := slots + 6) (by omega) (by omega) ?_
  exact next _ _ _ _ _ _ hI hP hO hS hl
set_option maxHeartbeats 4000000 in
set_option maxRecDepth 100000 in
theorem lc_2 (hL : L ≤ 2048) (C0 : zLx p s m c b L xs a adV kI kC kL dC dI ao) (hlt : 4 * j + 4 ≤ L) (hroom : cells + 1 ≤ 601024 ∧ slots + 6 ≤ 7293034) (HI : InvN σ n) (hP : va_P (dC, dI) vwCl (zWS a kI kC σ) H) (hO : va_P (dC, dI) vwCl (zO9 ao kL f) H) (hS : va_S (zLA s) s.heap H locs) (hl : lv_has ls 7 (zLv b a ao j))
    (next : ∀ (σ' : zS) (n' : Nat) (f' : Nat → Int64) (H' : Heap) (locs' : List Loc) (ls' : Array Slot), InvN σ' n' → va_P (dC, dI) vwCl (zWS a kI kC σ') H' → va_P (dC, dI) vwCl (zO9 ao kL f') H' → va_S (zLA s) s.heap H' locs' → lv_has ls' 7 (zLv b a ao j) → W p l e room_1 s m #[Value.ref b] below meth c H' locs' (cells + 1) (slots + 6) Q (F0 m 528 ls' [])) : W p l e room_1 s m #[Value.ref b] below meth c H locs cells slots Q (F0 m 213 ls []) := by
  obtain ⟨hx, hb, hml, hown, htb, hK, hKL, hX, hT, hinj, hA, hao, hAo, hXs, hbl⟩ := id C0
  have hr1 : cells ≤ 601024 ∧ slots ≤ 7293034 := ⟨by omega, by omega⟩
  obtain ⟨v, h1, h2, hI⟩ := t_fault 999 HI
  refine lv_aload_n hx hb dL_law_213 rfl (lv_at hl 1 rfl) ?_
  refine zLcallI C0 (j0 := 0) (ci := 7) (as := []) (rest := []) h1 zat_X7_fault kc_X7_fault rfl rfl kl_X7_fault kp_X7_fault dL_law_214 rfl (Nat.le_of_ble_eq_true rfl) hl.1 hr1 hP hO hS (fun H locs hP hO hS => ?_)
  refine lv_aload_n hx hb dL_law_217 rfl (lv_at hl 2 rfl) ?_
  refine zLcallI C0 (j0 := 38) (ci := 8) (as := []) (rest := [.int v]) h2 zat_X8_fault kc_X8_fault rfl rfl kl_X8_fault kp_X8_fault dL_law_218 rfl (Nat.le_of_ble_eq_true rfl) hl.1 hr1 hP hO hS (fun H locs hP hO hS => ?_)
  refine lv_icmp_eq (tgt := 528) hx hb dL_law_221 (by decide) (fun _ => ?_) (fun h => absurd rfl h)
  refine W.widen (k := cells + 1) (n := slots + 6) (by omega) (by omega) ?_
  exact next _ _ _ _ _ _ hI hP hO hS hl
set_option maxHeartbeats 4000000 in
set_option maxRecDepth 100000 in
theorem lc_4 (hL : L ≤ 2048) (C0 : zLx p s m c b L xs a adV kI kC kL dC dI ao) (hlt : 4 * j + 4 ≤ L) (hroom : cells + 1 ≤ 601024 ∧ slots + 6 ≤ 7293034) (HI : InvN σ n) (hP : va_P (dC, dI) vwCl (zWS a kI kC σ) H) (hO : va_P (dC, dI) vwCl (zO9 ao kL f) H) (hS : va_S (zLA s) s.heap H locs) (hl : lv_has ls 7 (zLv b a ao j))
    (next : ∀ (σ' : zS) (n' : Nat) (f' : Nat → Int64) (H' : Heap) (locs' : List Loc) (ls' : Array Slot), InvN σ' n' → va_P (dC, dI) vwCl (zWS a kI kC σ') H' → va_P (dC, dI) vwCl (zO9 ao kL f') H' → va_S (zLA s) s.heap H' locs' → lv_has ls' 7 (zLv b a ao j) → W p l e room_1 s m #[Value.ref b] below meth c H' locs' (cells + 1) (slots + 6) Q (F0 m 528 ls' [])) : W p l e room_1 s m #[Value.ref b] below meth c H locs cells slots Q (F0 m 282 ls []) := by
  obtain ⟨hx, hb, hml, hown, htb, hK, hKL, hX, hT, hinj, hA, hao, hAo, hXs, hbl⟩ := id C0
  have hr1 : cells ≤ 601024 ∧ slots ≤ 7293034 := ⟨by omega, by omega⟩
  obtain ⟨v, h1, h2, hI⟩ := t_refused 999 HI
  refine lv_aload_n hx hb dL_law_282 rfl (lv_at hl 1 rfl) ?_
  refine zLcallI C0 (j0 := 0) (ci := 7) (as := []) (rest := []) h1 zat_X7_refused kc_X7_refused rfl rfl kl_X7_refused kp_X7_refused dL_law_283 rfl (Nat.le_of_ble_eq_true rfl) hl.1 hr1 hP hO hS (fun H locs hP hO hS => ?_)
  refine lv_aload_n hx hb dL_law_286 rfl (lv_at hl 2 rfl) ?_
  refine zLcallI C0 (j0 := 38) (ci := 8) (as := []) (rest := [.int v]) h2 zat_X8_refused kc_X8_refused rfl rfl kl_X8_refused kp_X8_refused dL_law_287 rfl (Nat.le_of_ble_eq_true rfl) hl.1 hr1 hP hO hS (fun H locs hP hO hS => ?_)
  refine lv_icmp_eq (tgt := 528) hx hb dL_law_290 (by decide) (fun _ => ?_) (fun h => absurd rfl h)
  refine W.widen (k := cells + 1) (n := slots + 6) (by omega) (by omega) ?_
  exact next _ _ _ _ _ _ hI hP hO hS hl
set_option maxHeartbeats 4000000 in
set_option maxRecDepth 100000 in
theorem lc_5 (hL : L ≤ 2048) (C0 : zLx p s m c b L xs a adV kI kC kL dC dI ao) (hlt : 4 * j + 4 ≤ L) (hroom : cells + 1 ≤ 601024 ∧ slots + 6 ≤ 7293034) (HI : InvN σ n) (hP : va_P (dC, dI) vwCl (zWS a kI kC σ) H) (hO : va_P (dC, dI) vwCl (zO9 ao kL f) H) (hS : va_S (zLA s) s.heap H locs) (hl : lv_has ls 7 (zLv b a ao j))
    (next : ∀ (σ' : zS) (n' : Nat) (f' : Nat → Int64) (H' : Heap) (locs' : List Loc) (ls' : Array Slot), InvN σ' n' → va_P (dC, dI) vwCl (zWS a kI kC σ') H' → va_P (dC, dI) vwCl (zO9 ao kL f') H' → va_S (zLA s) s.heap H' locs' → lv_has ls' 7 (zLv b a ao j) → W p l e room_1 s m #[Value.ref b] below meth c H' locs' (cells + 1) (slots + 6) Q (F0 m 528 ls' [])) : W p l e room_1 s m #[Value.ref b] below meth c H locs cells slots Q (F0 m 295 ls []) := by
  obtain ⟨hx, hb, hml, hown, htb, hK, hKL, hX, hT, hinj, hA, hao, hAo, hXs, hbl⟩ := id C0
  have hr1 : cells ≤ 601024 ∧ slots ≤ 7293034 := ⟨by omega, by omega⟩
  obtain ⟨v, h1, h2, hI⟩ := t_differs 999 HI
  refine lv_aload_n hx hb dL_law_295 rfl (lv_at hl 1 rfl) ?_
  refine zLcallI C0 (j0 := 0) (ci := 7) (as := []) (rest := []) h1 zat_X7_differs kc_X7_differs rfl rfl kl_X7_differs kp_X7_differs dL_law_296 rfl (Nat.le_of_ble_eq_true rfl) hl.1 hr1 hP hO hS (fun H locs hP hO hS => ?_)
  refine lv_aload_n hx hb dL_law_299 rfl (lv_at hl 2 rfl) ?_
  refine zLcallI C0 (j0 := 38) (ci := 8) (as := []) (rest := [.int v]) h2 zat_X8_differs kc_X8_differs rfl rfl kl_X8_differs kp_X8_differs dL_law_300 rfl (Nat.le_of_ble_eq_true rfl) hl.1 hr1 hP hO hS (fun H locs hP hO hS => ?_)
  refine lv_icmp_eq (tgt := 528) hx hb dL_law_303 (by decide) (fun _ => ?_) (fun h => absurd rfl h)
  refine W.widen (k := cells + 1) (n := slots + 6) (by omega) (by omega) ?_
  exact next _ _ _ _ _ _ hI hP hO hS hl
set_option maxHeartbeats 4000000 in
set_option maxRecDepth 100000 in
theorem lc_6 (hL : L ≤ 2048) (C0 : zLx p s m c b L xs a adV kI kC kL dC dI ao) (hlt : 4 * j + 4 ≤ L) (hroom : cells + 1 ≤ 601024 ∧ slots + 6 ≤ 7293034) (HI : InvN σ n) (hP : va_P (dC, dI) vwCl (zWS a kI kC σ) H) (hO : va_P (dC, dI) vwCl (zO9 ao kL f) H) (hS : va_S (zLA s) s.heap H locs) (hl : lv_has ls 7 (zLv b a ao j))
    (next : ∀ (σ' : zS) (n' : Nat) (f' : Nat → Int64) (H' : Heap) (locs' : List Loc) (ls' : Array Slot), InvN σ' n' → va_P (dC, dI) vwCl (zWS a kI kC σ') H' → va_P (dC, dI) vwCl (zO9 ao kL f') H' → va_S (zLA s) s.heap H' locs' → lv_has ls' 7 (zLv b a ao j) → W p l e room_1 s m #[Value.ref b] below meth c H' locs' (cells + 1) (slots + 6) Q (F0 m 528 ls' [])) : W p l e room_1 s m #[Value.ref b] below meth c H locs cells slots Q (F0 m 308 ls []) := by
  obtain ⟨hx, hb, hml, hown, htb, hK, hKL, hX, hT, hinj, hA, hao, hAo, hXs, hbl⟩ := id C0
  have hr1 : cells ≤ 601024 ∧ slots ≤ 7293034 := ⟨by omega, by omega⟩
  obtain ⟨v, σ1, σ2, n2, h1, h2, hI⟩ := t_happen 1000 (by decide) HI (xs (4 * j + 1)) (xs (4 * j + 2)) (xs (4 * j + 3))
  refine lv_aload_n hx hb dL_law_308 rfl (lv_at hl 1 rfl) ?_
  refine zLrd C0 j 1 hL (by omega) hl (p0 := 0) rfl (p4 := 4) rfl dL_law_309 dL_law_310 dL_law_312 dL_law_313 dL_law_314 rfl rfl hS ?_
  refine zLrd C0 j 2 hL (by omega) hl (p0 := 0) rfl (p4 := 4) rfl dL_law_315 dL_law_316 dL_law_318 dL_law_319 dL_law_320 rfl rfl hS ?_
  refine zLrd C0 j 3 hL (by omega) hl (p0 := 0) rfl (p4 := 4) rfl dL_law_321 dL_law_322 dL_law_324 dL_law_325 dL_law_326 rfl rfl hS ?_
  refine zLcallI C0 (j0 := 0) (ci := 7) (as := [.inl (xs (4 * j + 1)), .inl (xs (4 * j + 2)), .inl (xs (4 * j + 3))]) (rest := []) h1 zat_X7_happen kc_X7_happen rfl rfl kl_X7_happen kp_X7_happen dL_law_327 rfl (Nat.le_of_ble_eq_true rfl) hl.1 hr1 hP hO hS (fun H locs hP hO hS => ?_)
  refine lv_aload_n hx hb dL_law_330 rfl (lv_at hl 2 rfl) ?_
  refine zLrd C0 j 1 hL (by omega) hl (p0 := 0) rfl (p4 := 4) rfl dL_law_331 dL_law_332 dL_law_334 dL_law_335 dL_law_336 rfl rfl hS ?_
  refine zLrd C0 j 2 hL (by omega) hl (p0 := 0) rfl (p4 := 4) rfl dL_law_337 dL_law_338 dL_law_340 dL_law_341 dL_law_342 rfl rfl hS ?_
  refine zLrd C0 j 3 hL (by omega) hl (p0 := 0) rfl (p4 := 4) rfl dL_law_343 dL_law_344 dL_law_346 dL_law_347 dL_law_348 rfl rfl hS ?_
  refine zLcallI C0 (j0 := 38) (ci := 8) (as := [.inl (xs (4 * j + 1)), .inl (xs (4 * j + 2)), .inl (xs (4 * j + 3))]) (rest := [.int v]) h2 zat_X8_happen kc_X8_happen rfl rfl kl_X8_happen kp_X8_happen dL_law_349 rfl (Nat.le_of_ble_eq_true rfl) hl.1 hr1 hP hO hS (fun H locs hP hO hS => ?_)
  refine lv_icmp_eq (tgt := 528) hx hb dL_law_352 (by decide) (fun _ => ?_) (fun h => absurd rfl h)
  refine W.widen (k := cells + 1) (n := slots + 6) (by omega) (by omega) ?_
  exact next _ _ _ _ _ _ hI hP hO hS hl
set_option maxHeartbeats 4000000 in
set_option maxRecDepth 100000 in
theorem lc_7 (hL : L ≤ 2048) (C0 : zLx p s m c b L xs a adV kI kC kL dC dI ao) (hlt : 4 * j + 4 ≤ L) (hroom : cells + 1 ≤ 601024 ∧ slots + 6 ≤ 7293034) (HI : InvN σ n) (hP : va_P (dC, dI) vwCl (zWS a kI kC σ) H) (hO : va_P (dC, dI) vwCl (zO9 ao kL f) H) (hS : va_S (zLA s) s.heap H locs) (hl : lv_has ls 7 (zLv b a ao j))
    (next : ∀ (σ' : zS) (n' : Nat) (f' : Nat → Int64) (H' : Heap) (locs' : List Loc) (ls' : Array Slot), InvN σ' n' → va_P (dC, dI) vwCl (zWS a kI kC σ') H' → va_P (dC, dI) vwCl (zO9 ao kL f') H' → va_S (zLA s) s.heap H' locs' → lv_has ls' 7 (zLv b a ao j) → W p l e room_1 s m #[Value.ref b] below meth c H' locs' (cells + 1) (slots + 6) Q (F0 m 528 ls' [])) : W p l e room_1 s m #[Value.ref b] below meth c H locs cells slots Q (F0 m 357 ls []) := by
  obtain ⟨hx, hb, hml, hown, htb, hK, hKL, hX, hT, hinj, hA, hao, hAo, hXs, hbl⟩ := id C0
  have hr1 : cells ≤ 601024 ∧ slots ≤ 7293034 := ⟨by omega, by omega⟩
  obtain ⟨σ1, h1, h2, hI⟩ := t_crash 998 HI
  refine lv_aload_n hx hb dL_law_357 rfl (lv_at hl 1 rfl) ?_
  refine zLcallV C0 (j0 := 0) (ci := 7) (as := []) (rest := []) h1 zat_X7_crash kc_X7_crash rfl rfl kl_X7_crash kp_X7_crash dL_law_358 rfl (Nat.le_of_ble_eq_true rfl) hl.1 hr1 hP hO hS (fun H locs hP hO hS => ?_)
  refine lv_aload_n hx hb dL_law_361 rfl (lv_at hl 2 rfl) ?_
  refine zLcallV C0 (j0 := 38) (ci := 8) (as := []) (rest := []) h2 zat_X8_crash kc_X8_crash rfl rfl kl_X8_crash kp_X8_crash dL_law_362 rfl (Nat.le_of_ble_eq_true rfl) hl.1 hr1 hP hO hS (fun H locs hP hO hS => ?_)
  refine lv_goto (tgt := 528) hx hb dL_law_365 (by decide) ?_
  refine W.widen (k := cells + 1) (n := slots + 6) (by omega) (by omega) ?_
  exact next _ _ _ _ _ _ hI hP hO hS hl
set_option maxHeartbeats 4000000 in
set_option maxRecDepth 100000 in
theorem lc_8 (hL : L ≤ 2048) (C0 : zLx p s m c b L xs a adV kI kC kL dC dI ao) (hlt : 4 * j + 4 ≤ L) (hroom : cells + 1 ≤ 601024 ∧ slots + 6 ≤ 7293034) (HI : InvN σ n) (hP : va_P (dC, dI) vwCl (zWS a kI kC σ) H) (hO : va_P (dC, dI) vwCl (zO9 ao kL f) H) (hS : va_S (zLA s) s.heap H locs) (hl : lv_has ls 7 (zLv b a ao j))
    (next : ∀ (σ' : zS) (n' : Nat) (f' : Nat → Int64) (H' : Heap) (locs' : List Loc) (ls' : Array Slot), InvN σ' n' → va_P (dC, dI) vwCl (zWS a kI kC σ') H' → va_P (dC, dI) vwCl (zO9 ao kL f') H' → va_S (zLA s) s.heap H' locs' → lv_has ls' 7 (zLv b a ao j) → W p l e room_1 s m #[Value.ref b] below meth c H' locs' (cells + 1) (slots + 6) Q (F0 m 528 ls' [])) : W p l e room_1 s m #[Value.ref b] below meth c H locs cells slots Q (F0 m 368 ls []) := by
  obtain ⟨hx, hb, hml, hown, htb, hK, hKL, hX, hT, hinj, hA, hao, hAo, hXs, hbl⟩ := id C0
  have hr1 : cells ≤ 601024 ∧ slots ≤ 7293034 := ⟨by omega, by omega⟩
  obtain ⟨σ1, σ2, h1, h2, hI⟩ := t_clear 998 HI
  refine lv_aload_n hx hb dL_law_368 rfl (lv_at hl 1 rfl) ?_
  refine zLcallV C0 (j0 := 0) (ci := 7) (as := []) (rest := []) h1 zat_X7_clear kc_X7_clear rfl rfl kl_X7_clear kp_X7_clear dL_law_369 rfl (Nat.le_of_ble_eq_true rfl) hl.1 hr1 hP hO hS (fun H locs hP hO hS => ?_)
  refine lv_aload_n hx hb dL_law_372 rfl (lv_at hl 2 rfl) ?_
  refine zLcallV C0 (j0 := 38) (ci := 8) (as := []) (rest := []) h2 zat_X8_clear kc_X8_clear rfl rfl kl_X8_clear kp_X8_clear dL_law_373 rfl (Nat.le_of_ble_eq_true rfl) hl.1 hr1 hP hO hS (fun H locs hP hO hS => ?_)
  refine lv_goto (tgt := 528) hx hb dL_law_376 (by decide) ?_
  refine W.widen (k := cells + 1) (n := slots + 6) (by omega) (by omega) ?_
  exact next _ _ _ _ _ _ hI hP hO hS hl
set_option maxHeartbeats 4000000 in
set_option maxRecDepth 100000 in
theorem lc_11 (hL : L ≤ 2048) (C0 : zLx p s m c b L xs a adV kI kC kL dC dI ao) (hlt : 4 * j + 4 ≤ L) (hroom : cells + 1 ≤ 601024 ∧ slots + 6 ≤ 7293034) (HI : InvN σ n) (hP : va_P (dC, dI) vwCl (zWS a kI kC σ) H) (hO : va_P (dC, dI) vwCl (zO9 ao kL f) H) (hS : va_S (zLA s) s.heap H locs) (hl : lv_has ls 7 (zLv b a ao j))
    (next : ∀ (σ' : zS) (n' : Nat) (f' : Nat → Int64) (H' : Heap) (locs' : List Loc) (ls' : Array Slot), InvN σ' n' → va_P (dC, dI) vwCl (zWS a kI kC σ') H' → va_P (dC, dI) vwCl (zO9 ao kL f') H' → va_S (zLA s) s.heap H' locs' → lv_has ls' 7 (zLv b a ao j) → W p l e room_1 s m #[Value.ref b] below meth c H' locs' (cells + 1) (slots + 6) Q (F0 m 528 ls' [])) : W p l e room_1 s m #[Value.ref b] below meth c H locs cells slots Q (F0 m 503 ls []) := by
  obtain ⟨hx, hb, hml, hown, htb, hK, hKL, hX, hT, hinj, hA, hao, hAo, hXs, hbl⟩ := id C0
  have hr1 : cells ≤ 601024 ∧ slots ≤ 7293034 := ⟨by omega, by omega⟩
  obtain ⟨v, h1, h2, hI⟩ := t_total 996 HI (xs (4 * j + 1))
  refine lv_aload_n hx hb dL_law_503 rfl (lv_at hl 1 rfl) ?_
  refine zLrd C0 j 1 hL (by omega) hl (p0 := 0) rfl (p4 := 4) rfl dL_law_504 dL_law_505 dL_law_507 dL_law_508 dL_law_509 rfl rfl hS ?_
  refine zLcallI C0 (j0 := 0) (ci := 7) (as := [.inl (xs (4 * j + 1))]) (rest := []) h1 zat_X7_total kc_X7_total rfl rfl kl_X7_total kp_X7_total dL_law_510 rfl (Nat.le_of_ble_eq_true rfl) hl.1 hr1 hP hO hS (fun H locs hP hO hS => ?_)
  refine lv_aload_n hx hb dL_law_513 rfl (lv_at hl 2 rfl) ?_
  refine zLrd C0 j 1 hL (by omega) hl (p0 := 0) rfl (p4 := 4) rfl dL_law_514 dL_law_515 dL_law_517 dL_law_518 dL_law_519 rfl rfl hS ?_
  refine zLcallI C0 (j0 := 38) (ci := 8) (as := [.inl (xs (4 * j + 1))]) (rest := [.int v]) h2 zat_X8_total kc_X8_total rfl rfl kl_X8_total kp_X8_total dL_law_520 rfl (Nat.le_of_ble_eq_true rfl) hl.1 hr1 hP hO hS (fun H locs hP hO hS => ?_)
  refine lv_icmp_eq (tgt := 528) hx hb dL_law_523 (by decide) (fun _ => ?_) (fun h => absurd rfl h)
  refine W.widen (k := cells + 1) (n := slots + 6) (by omega) (by omega) ?_
  exact next _ _ _ _ _ _ hI hP hO hS hl
set_option maxHeartbeats 4000000 in
set_option maxRecDepth 100000 in
theorem lc_1 (hst : l.stackTraces = false) (hL : L ≤ 2048) (C0 : zLx p s m c b L xs a adV kI kC kL dC dI ao) (hlt : 4 * j + 4 ≤ L) (hroom : cells + 1 ≤ 601024 ∧ slots + 6 ≤ 7293034) (HI : InvN σ n) (hP : va_P (dC, dI) vwCl (zWS a kI kC σ) H) (hO : va_P (dC, dI) vwCl (zO9 ao kL f) H) (hS : va_S (zLA s) s.heap H locs) (hl : lv_has ls 7 (zLv b a ao j))
    (next : ∀ (σ' : zS) (n' : Nat) (f' : Nat → Int64) (H' : Heap) (locs' : List Loc) (ls' : Array Slot), InvN σ' n' → va_P (dC, dI) vwCl (zWS a kI kC σ') H' → va_P (dC, dI) vwCl (zO9 ao kL f') H' → va_S (zLA s) s.heap H' locs' → lv_has ls' 7 (zLv b a ao j) → W p l e room_1 s m #[Value.ref b] below meth c H' locs' (cells + 1) (slots + 6) Q (F0 m 528 ls' [])) : W p l e room_1 s m #[Value.ref b] below meth c H locs cells slots Q (F0 m 169 ls []) := by
  obtain ⟨hx, hb, hml, hown, htb, hK, hKL, hX, hT, hinj, hA, hao, hAo, hXs, hbl⟩ := id C0
  have hr1 : cells ≤ 601024 ∧ slots ≤ 7293034 := ⟨by omega, by omega⟩
  obtain ⟨k, v, σ1, v2, σ2, h1, h2, hc, hI⟩ := t_program 993 (by decide) HI
  rcases hc with ⟨rfl, ht, rfl⟩ | ⟨rfl, ht⟩
  · refine lv_aload_n hx hb dL_law_169 rfl (lv_at hl 1 rfl) ?_
    refine lv_aload_n hx hb dL_law_170 rfl (lv_at hl 3 rfl) ?_
    refine zLwrap1 C0 (As := [.ref (a 0), .ref ao]) (rest := []) (cL_program_ok l hst a adV kI kC kL dC dI hinj ao f hao h1) kl_L_program (by decide) kp_L_program rfl dL_law_171 rfl (Nat.le_of_ble_eq_true rfl) hl.1 hroom hP hO hS (fun H locs hP hO hS => ?_)
    refine lv_istore (lv' := (5, .int 0) :: zLv b a ao j) hx hb dL_law_174 hl (by decide) rfl (fun ls hl => ?_)
    refine lv_aload_n hx hb dL_law_176 rfl (lv_at hl 3 rfl) ?_
    refine zLcallI C0 (j0 := 38) (ci := 8) (as := []) (rest := []) h2 zat_X8_program kc_X8_program rfl rfl kl_X8_program kp_X8_program dL_law_177 rfl (Nat.le_of_ble_eq_true rfl) hl.1 hroom hP hO hS (fun H locs hP hO hS => ?_)
    refine lv_istore (lv' := (6, .int v) :: (5, .int 0) :: zLv b a ao j) hx hb dL_law_180 hl (by decide) rfl (fun ls hl => ?_)
    refine lv_aload_n hx hb dL_law_182 rfl (lv_at hl 4 rfl) ?_
    refine zLcallI C0 (j0 := 38) (ci := 8) (as := []) (rest := []) (z_thrown _) zat_X8_thrown kc_X8_thrown rfl rfl kl_X8_thrown kp_X8_thrown dL_law_183 rfl (Nat.le_of_ble_eq_true rfl) hl.1 hroom hP hO hS (fun H locs hP hO hS => ?_)
    rw [ht]
    refine lv_iload hx hb dL_law_186 (lv_at hl 1 rfl) ?_
    refine lv_icmp_eq (tgt := 193) hx hb dL_law_188 (by decide) (fun _ => ?_) (fun h => absurd rfl h)
    refine lv_iload hx hb dL_law_193 (lv_at hl 1 rfl) ?_
    refine lv_if_ne (tgt := 210) hx hb dL_law_195 (by decide) (fun h => absurd rfl h) (fun _ => ?_)
    refine lv_aload_n hx hb dL_law_198 rfl (lv_at hl 5 rfl) ?_
    refine lv_iconst (v := 0) hx hb dL_law_199 (by decide) ?_
    refine va_lald hx hb hKL hO 0 0 rfl rfl (vp_in_nI (n := 0) (by decide) (by decide)) dL_law_200 ?_
    rw [zupd0]
    refine lv_iload hx hb dL_law_201 (lv_at hl 0 rfl) ?_
    refine lv_i2l (v := v.toInt64) hx hb dL_law_203 rfl ?_
    refine W.lcmp hx hb dL_law_204 ?_
    rw [zcmp0]
    refine lv_if_eq (tgt := 210) hx hb dL_law_205 (by decide) (fun _ => ?_) (fun h => absurd rfl h)
    refine lv_goto (tgt := 528) hx hb dL_law_210 (by decide) ?_
    exact next _ _ _ _ _ _ hI hP hO hS (lv_sub hl [2, 3, 4, 5, 6] rfl)
  · refine lv_aload_n hx hb dL_law_169 rfl (lv_at hl 1 rfl) ?_
    refine lv_aload_n hx hb dL_law_170 rfl (lv_at hl 3 rfl) ?_
    refine zLwrap2 C0 (As := [.ref (a 0), .ref ao]) (rest := []) (cL_program_ok l hst a adV kI kC kL dC dI hinj ao f hao h1) kl_L_program (by decide) kp_L_program rfl dL_law_171 rfl (Nat.le_of_ble_eq_true rfl) hl.1 hroom hP hO hS (fun H locs hP hO hS => ?_)
    refine lv_istore (lv' := (5, .int 1) :: zLv b a ao j) hx hb dL_law_174 hl (by decide) rfl (fun ls hl => ?_)
    refine lv_aload_n hx hb dL_law_176 rfl (lv_at hl 3 rfl) ?_
    refine zLcallI C0 (j0 := 38) (ci := 8) (as := []) (rest := []) h2 zat_X8_program kc_X8_program rfl rfl kl_X8_program kp_X8_program dL_law_177 rfl (Nat.le_of_ble_eq_true rfl) hl.1 hroom hP hO hS (fun H locs hP hO hS => ?_)
    refine lv_istore (lv' := (6, .int v2) :: (5, .int 1) :: zLv b a ao j) hx hb dL_law_180 hl (by decide) rfl (fun ls hl => ?_)
    refine lv_aload_n hx hb dL_law_182 rfl (lv_at hl 4 rfl) ?_
    refine zLcallI C0 (j0 := 38) (ci := 8) (as := []) (rest := []) (z_thrown _) zat_X8_thrown kc_X8_thrown rfl rfl kl_X8_thrown kp_X8_thrown dL_law_183 rfl (Nat.le_of_ble_eq_true rfl) hl.1 hroom hP hO hS (fun H locs hP hO hS => ?_)
    rw [ht]
    refine lv_iload hx hb dL_law_186 (lv_at hl 1 rfl) ?_
    refine lv_icmp_eq (tgt := 193) hx hb dL_law_188 (by decide) (fun _ => ?_) (fun h => absurd rfl h)
    refine lv_iload hx hb dL_law_193 (lv_at hl 1 rfl) ?_
    refine lv_if_ne (tgt := 210) hx hb dL_law_195 (by decide) (fun _ => ?_) (fun h => absurd h (by decide))
    refine lv_goto (tgt := 528) hx hb dL_law_210 (by decide) ?_
    exact next _ _ _ _ _ _ hI hP hO hS (lv_sub hl [2, 3, 4, 5, 6] rfl)
set_option maxHeartbeats 4000000 in
set_option maxRecDepth 100000 in
theorem lc_3 (hst : l.stackTraces = false) (hL : L ≤ 2048) (C0 : zLx p s m c b L xs a adV kI kC kL dC dI ao) (hlt : 4 * j + 4 ≤ L) (hroom : cells + 1 ≤ 601024 ∧ slots + 6 ≤ 7293034) (HI : InvN σ n) (hP : va_P (dC, dI) vwCl (zWS a kI kC σ) H) (hO : va_P (dC, dI) vwCl (zO9 ao kL f) H) (hS : va_S (zLA s) s.heap H locs) (hl : lv_has ls 7 (zLv b a ao j))
    (next : ∀ (σ' : zS) (n' : Nat) (f' : Nat → Int64) (H' : Heap) (locs' : List Loc) (ls' : Array Slot), InvN σ' n' → va_P (dC, dI) vwCl (zWS a kI kC σ') H' → va_P (dC, dI) vwCl (zO9 ao kL f') H' → va_S (zLA s) s.heap H' locs' → lv_has ls' 7 (zLv b a ao j) → W p l e room_1 s m #[Value.ref b] below meth c H' locs' (cells + 1) (slots + 6) Q (F0 m 528 ls' [])) : W p l e room_1 s m #[Value.ref b] below meth c H locs cells slots Q (F0 m 226 ls []) := by
  obtain ⟨hx, hb, hml, hown, htb, hK, hKL, hX, hT, hinj, hA, hao, hAo, hXs, hbl⟩ := id C0
  have hr1 : cells ≤ 601024 ∧ slots ≤ 7293034 := ⟨by omega, by omega⟩
  obtain ⟨k, v, σ1, v2, σ2, n2, h1, h2, hc, hI⟩ := t_decide 1000 (by decide) HI (xs (4 * j + 1))
  rcases hc with ⟨rfl, ht, rfl⟩ | ⟨rfl, ht⟩
  · refine lv_aload_n hx hb dL_law_226 rfl (lv_at hl 1 rfl) ?_
    refine zLrd C0 j 1 hL (by omega) hl (p0 := 0) rfl (p4 := 4) rfl dL_law_227 dL_law_228 dL_law_230 dL_law_231 dL_law_232 rfl rfl hS ?_
    refine lv_aload_n hx hb dL_law_233 rfl (lv_at hl 3 rfl) ?_
    refine zLwrap1 C0 (As := [.ref (a 0), .int (xs (4 * j + 1)), .ref ao]) (rest := []) (cL_decide_ok l hst a adV kI kC kL dC dI hinj ao f hao h1) kl_L_decide (by decide) kp_L_decide rfl dL_law_234 rfl (Nat.le_of_ble_eq_true rfl) hl.1 hroom hP hO hS (fun H locs hP hO hS => ?_)
    refine lv_istore (lv' := (5, .int 0) :: zLv b a ao j) hx hb dL_law_237 hl (by decide) rfl (fun ls hl => ?_)
    refine lv_aload_n hx hb dL_law_239 rfl (lv_at hl 3 rfl) ?_
    refine zLrd C0 j 1 hL (by omega) hl (p0 := 1) rfl (p4 := 5) rfl dL_law_240 dL_law_241 dL_law_243 dL_law_244 dL_law_245 rfl rfl hS ?_
    refine zLcallI C0 (j0 := 38) (ci := 8) (as := [.inl (xs (4 * j + 1))]) (rest := []) h2 zat_X8_decide kc_X8_decide rfl rfl kl_X8_decide kp_X8_decide dL_law_246 rfl (Nat.le_of_ble_eq_true rfl) hl.1 hroom hP hO hS (fun H locs hP hO hS => ?_)
    refine lv_istore (lv' := (6, .int v) :: (5, .int 0) :: zLv b a ao j) hx hb dL_law_249 hl (by decide) rfl (fun ls hl => ?_)
    refine lv_aload_n hx hb dL_law_251 rfl (lv_at hl 4 rfl) ?_
    refine zLcallI C0 (j0 := 38) (ci := 8) (as := []) (rest := []) (z_thrown _) zat_X8_thrown kc_X8_thrown rfl rfl kl_X8_thrown kp_X8_thrown dL_law_252 rfl (Nat.le_of_ble_eq_true rfl) hl.1 hroom hP hO hS (fun H locs hP hO hS => ?_)
    rw [ht]
    refine lv_iload hx hb dL_law_255 (lv_at hl 1 rfl) ?_
    refine lv_icmp_eq (tgt := 262) hx hb dL_law_257 (by decide) (fun _ => ?_) (fun h => absurd rfl h)
    refine lv_iload hx hb dL_law_262 (lv_at hl 1 rfl) ?_
    refine lv_if_ne (tgt := 279) hx hb dL_law_264 (by decide) (fun h => absurd rfl h) (fun _ => ?_)
    refine lv_aload_n hx hb dL_law_267 rfl (lv_at hl 5 rfl) ?_
    refine lv_iconst (v := 0) hx hb dL_law_268 (by decide) ?_
    refine va_lald hx hb hKL hO 0 0 rfl rfl (vp_in_nI (n := 0) (by decide) (by decide)) dL_law_269 ?_
    rw [zupd0]
    refine lv_iload hx hb dL_law_270 (lv_at hl 0 rfl) ?_
    refine lv_i2l (v := v.toInt64) hx hb dL_law_272 rfl ?_
    refine W.lcmp hx hb dL_law_273 ?_
    rw [zcmp0]
    refine lv_if_eq (tgt := 279) hx hb dL_law_274 (by decide) (fun _ => ?_) (fun h => absurd rfl h)
    refine lv_goto (tgt := 528) hx hb dL_law_279 (by decide) ?_
    exact next _ _ _ _ _ _ hI hP hO hS (lv_sub hl [2, 3, 4, 5, 6] rfl)
  · refine lv_aload_n hx hb dL_law_226 rfl (lv_at hl 1 rfl) ?_
    refine zLrd C0 j 1 hL (by omega) hl (p0 := 0) rfl (p4 := 4) rfl dL_law_227 dL_law_228 dL_law_230 dL_law_231 dL_law_232 rfl rfl hS ?_
    refine lv_aload_n hx hb dL_law_233 rfl (lv_at hl 3 rfl) ?_
    refine zLwrap2 C0 (As := [.ref (a 0), .int (xs (4 * j + 1)), .ref ao]) (rest := []) (cL_decide_ok l hst a adV kI kC kL dC dI hinj ao f hao h1) kl_L_decide (by decide) kp_L_decide rfl dL_law_234 rfl (Nat.le_of_ble_eq_true rfl) hl.1 hroom hP hO hS (fun H locs hP hO hS => ?_)
    refine lv_istore (lv' := (5, .int 1) :: zLv b a ao j) hx hb dL_law_237 hl (by decide) rfl (fun ls hl => ?_)
    refine lv_aload_n hx hb dL_law_239 rfl (lv_at hl 3 rfl) ?_
    refine zLrd C0 j 1 hL (by omega) hl (p0 := 1) rfl (p4 := 5) rfl dL_law_240 dL_law_241 dL_law_243 dL_law_244 dL_law_245 rfl rfl hS ?_
    refine zLcallI C0 (j0 := 38) (ci := 8) (as := [.inl (xs (4 * j + 1))]) (rest := []) h2 zat_X8_decide kc_X8_decide rfl rfl kl_X8_decide kp_X8_decide dL_law_246 rfl (Nat.le_of_ble_eq_true rfl) hl.1 hroom hP hO hS (fun H locs hP hO hS => ?_)
    refine lv_istore (lv' := (6, .int v2) :: (5, .int 1) :: zLv b a ao j) hx hb dL_law_249 hl (by decide) rfl (fun ls hl => ?_)
    refine lv_aload_n hx hb dL_law_251 rfl (lv_at hl 4 rfl) ?_
    refine zLcallI C0 (j0 := 38) (ci := 8) (as := []) (rest := []) (z_thrown _) zat_X8_thrown kc_X8_thrown rfl rfl kl_X8_thrown kp_X8_thrown dL_law_252 rfl (Nat.le_of_ble_eq_true rfl) hl.1 hroom hP hO hS (fun H locs hP hO hS => ?_)
    rw [ht]
    refine lv_iload hx hb dL_law_255 (lv_at hl 1 rfl) ?_
    refine lv_icmp_eq (tgt := 262) hx hb dL_law_257 (by decide) (fun _ => ?_) (fun h => absurd rfl h)
    refine lv_iload hx hb dL_law_262 (lv_at hl 1 rfl) ?_
    refine lv_if_ne (tgt := 279) hx hb dL_law_264 (by decide) (fun _ => ?_) (fun h => absurd h (by decide))
    refine lv_goto (tgt := 528) hx hb dL_law_279 (by decide) ?_
    exact next _ _ _ _ _ _ hI hP hO hS (lv_sub hl [2, 3, 4, 5, 6] rfl)
set_option maxHeartbeats 4000000 in
set_option maxRecDepth 100000 in
theorem lc_9 (hst : l.stackTraces = false) (hL : L ≤ 2048) (C0 : zLx p s m c b L xs a adV kI kC kL dC dI ao) (hlt : 4 * j + 4 ≤ L) (hroom : cells + 1 ≤ 601024 ∧ slots + 6 ≤ 7293034) (HI : InvN σ n) (hP : va_P (dC, dI) vwCl (zWS a kI kC σ) H) (hO : va_P (dC, dI) vwCl (zO9 ao kL f) H) (hS : va_S (zLA s) s.heap H locs) (hl : lv_has ls 7 (zLv b a ao j))
    (next : ∀ (σ' : zS) (n' : Nat) (f' : Nat → Int64) (H' : Heap) (locs' : List Loc) (ls' : Array Slot), InvN σ' n' → va_P (dC, dI) vwCl (zWS a kI kC σ') H' → va_P (dC, dI) vwCl (zO9 ao kL f') H' → va_S (zLA s) s.heap H' locs' → lv_has ls' 7 (zLv b a ao j) → W p l e room_1 s m #[Value.ref b] below meth c H' locs' (cells + 1) (slots + 6) Q (F0 m 528 ls' [])) : W p l e room_1 s m #[Value.ref b] below meth c H locs cells slots Q (F0 m 379 ls []) := by
  obtain ⟨hx, hb, hml, hown, htb, hK, hKL, hX, hT, hinj, hA, hao, hAo, hXs, hbl⟩ := id C0
  have hr1 : cells ≤ 601024 ∧ slots ≤ 7293034 := ⟨by omega, by omega⟩
  obtain ⟨k, v, v2, t, h1, h2, hc0, hI⟩ := t_event 997 HI (xs (4 * j + 1)) (xs (4 * j + 2))
  have hc : (k = 1 ∧ wr σ 38 0 t 38 0 = 0 ∧ v = v2) ∨ (k = 2 ∧ wr σ 38 0 t 38 0 = 1) := by rw [wr_same]; exact hc0
  rcases hc with ⟨rfl, ht, rfl⟩ | ⟨rfl, ht⟩
  · refine lv_aload_n hx hb dL_law_379 rfl (lv_at hl 1 rfl) ?_
    refine zLrd C0 j 1 hL (by omega) hl (p0 := 0) rfl (p4 := 4) rfl dL_law_380 dL_law_381 dL_law_383 dL_law_384 dL_law_385 rfl rfl hS ?_
    refine zLrd C0 j 2 hL (by omega) hl (p0 := 0) rfl (p4 := 4) rfl dL_law_386 dL_law_387 dL_law_389 dL_law_390 dL_law_391 rfl rfl hS ?_
    refine lv_aload_n hx hb dL_law_392 rfl (lv_at hl 3 rfl) ?_
    refine zLwrap1 C0 (As := [.ref (a 0), .int (xs (4 * j + 1)), .int (xs (4 * j + 2)), .ref ao]) (rest := []) (cL_event_ok l hst a adV kI kC kL dC dI hinj ao f hao h1) kl_L_event (by decide) kp_L_event rfl dL_law_393 rfl (Nat.le_of_ble_eq_true rfl) hl.1 hroom hP hO hS (fun H locs hP hO hS => ?_)
    refine lv_istore (lv' := (5, .int 0) :: zLv b a ao j) hx hb dL_law_396 hl (by decide) rfl (fun ls hl => ?_)
    refine lv_aload_n hx hb dL_law_398 rfl (lv_at hl 3 rfl) ?_
    refine zLrd C0 j 1 hL (by omega) hl (p0 := 1) rfl (p4 := 5) rfl dL_law_399 dL_law_400 dL_law_402 dL_law_403 dL_law_404 rfl rfl hS ?_
    refine zLrd C0 j 2 hL (by omega) hl (p0 := 1) rfl (p4 := 5) rfl dL_law_405 dL_law_406 dL_law_408 dL_law_409 dL_law_410 rfl rfl hS ?_
    refine zLcallI C0 (j0 := 38) (ci := 8) (as := [.inl (xs (4 * j + 1)), .inl (xs (4 * j + 2))]) (rest := []) h2 zat_X8_event kc_X8_event rfl rfl kl_X8_event kp_X8_event dL_law_411 rfl (Nat.le_of_ble_eq_true rfl) hl.1 hroom hP hO hS (fun H locs hP hO hS => ?_)
    refine lv_istore (lv' := (6, .int v) :: (5, .int 0) :: zLv b a ao j) hx hb dL_law_414 hl (by decide) rfl (fun ls hl => ?_)
    refine lv_aload_n hx hb dL_law_416 rfl (lv_at hl 4 rfl) ?_
    refine zLcallI C0 (j0 := 38) (ci := 8) (as := []) (rest := []) (z_thrown _) zat_X8_thrown kc_X8_thrown rfl rfl kl_X8_thrown kp_X8_thrown dL_law_417 rfl (Nat.le_of_ble_eq_true rfl) hl.1 hroom hP hO hS (fun H locs hP hO hS => ?_)
    rw [ht]
    refine lv_iload hx hb dL_law_420 (lv_at hl 1 rfl) ?_
    refine lv_icmp_eq (tgt := 427) hx hb dL_law_422 (by decide) (fun _ => ?_) (fun h => absurd rfl h)
    refine lv_iload hx hb dL_law_427 (lv_at hl 1 rfl) ?_
    refine lv_if_ne (tgt := 444) hx hb dL_law_429 (by decide) (fun h => absurd rfl h) (fun _ => ?_)
    refine lv_aload_n hx hb dL_law_432 rfl (lv_at hl 5 rfl) ?_
    refine lv_iconst (v := 0) hx hb dL_law_433 (by decide) ?_
    refine va_lald hx hb hKL hO 0 0 rfl rfl (vp_in_nI (n := 0) (by decide) (by decide)) dL_law_434 ?_
    rw [zupd0]
    refine lv_iload hx hb dL_law_435 (lv_at hl 0 rfl) ?_
    refine lv_i2l (v := v.toInt64) hx hb dL_law_437 rfl ?_
    refine W.lcmp hx hb dL_law_438 ?_
    rw [zcmp0]
    refine lv_if_eq (tgt := 444) hx hb dL_law_439 (by decide) (fun _ => ?_) (fun h => absurd rfl h)
    refine lv_goto (tgt := 528) hx hb dL_law_444 (by decide) ?_
    exact next _ _ _ _ _ _ hI hP hO hS (lv_sub hl [2, 3, 4, 5, 6] rfl)
  · refine lv_aload_n hx hb dL_law_379 rfl (lv_at hl 1 rfl) ?_
    refine zLrd C0 j 1 hL (by omega) hl (p0 := 0) rfl (p4 := 4) rfl dL_law_380 dL_law_381 dL_law_383 dL_law_384 dL_law_385 rfl rfl hS ?_
    refine zLrd C0 j 2 hL (by omega) hl (p0 := 0) rfl (p4 := 4) rfl dL_law_386 dL_law_387 dL_law_389 dL_law_390 dL_law_391 rfl rfl hS ?_
    refine lv_aload_n hx hb dL_law_392 rfl (lv_at hl 3 rfl) ?_
    refine zLwrap2 C0 (As := [.ref (a 0), .int (xs (4 * j + 1)), .int (xs (4 * j + 2)), .ref ao]) (rest := []) (cL_event_ok l hst a adV kI kC kL dC dI hinj ao f hao h1) kl_L_event (by decide) kp_L_event rfl dL_law_393 rfl (Nat.le_of_ble_eq_true rfl) hl.1 hroom hP hO hS (fun H locs hP hO hS => ?_)
    refine lv_istore (lv' := (5, .int 1) :: zLv b a ao j) hx hb dL_law_396 hl (by decide) rfl (fun ls hl => ?_)
    refine lv_aload_n hx hb dL_law_398 rfl (lv_at hl 3 rfl) ?_
    refine zLrd C0 j 1 hL (by omega) hl (p0 := 1) rfl (p4 := 5) rfl dL_law_399 dL_law_400 dL_law_402 dL_law_403 dL_law_404 rfl rfl hS ?_
    refine zLrd C0 j 2 hL (by omega) hl (p0 := 1) rfl (p4 := 5) rfl dL_law_405 dL_law_406 dL_law_408 dL_law_409 dL_law_410 rfl rfl hS ?_
    refine zLcallI C0 (j0 := 38) (ci := 8) (as := [.inl (xs (4 * j + 1)), .inl (xs (4 * j + 2))]) (rest := []) h2 zat_X8_event kc_X8_event rfl rfl kl_X8_event kp_X8_event dL_law_411 rfl (Nat.le_of_ble_eq_true rfl) hl.1 hroom hP hO hS (fun H locs hP hO hS => ?_)
    refine lv_istore (lv' := (6, .int v2) :: (5, .int 1) :: zLv b a ao j) hx hb dL_law_414 hl (by decide) rfl (fun ls hl => ?_)
    refine lv_aload_n hx hb dL_law_416 rfl (lv_at hl 4 rfl) ?_
    refine zLcallI C0 (j0 := 38) (ci := 8) (as := []) (rest := []) (z_thrown _) zat_X8_thrown kc_X8_thrown rfl rfl kl_X8_thrown kp_X8_thrown dL_law_417 rfl (Nat.le_of_ble_eq_true rfl) hl.1 hroom hP hO hS (fun H locs hP hO hS => ?_)
    rw [ht]
    refine lv_iload hx hb dL_law_420 (lv_at hl 1 rfl) ?_
    refine lv_icmp_eq (tgt := 427) hx hb dL_law_422 (by decide) (fun _ => ?_) (fun h => absurd rfl h)
    refine lv_iload hx hb dL_law_427 (lv_at hl 1 rfl) ?_
    refine lv_if_ne (tgt := 444) hx hb dL_law_429 (by decide) (fun _ => ?_) (fun h => absurd h (by decide))
    refine lv_goto (tgt := 528) hx hb dL_law_444 (by decide) ?_
    exact next _ _ _ _ _ _ hI hP hO hS (lv_sub hl [2, 3, 4, 5, 6] rfl)
set_option maxHeartbeats 4000000 in
set_option maxRecDepth 100000 in
theorem lc_10 (hst : l.stackTraces = false) (hL : L ≤ 2048) (C0 : zLx p s m c b L xs a adV kI kC kL dC dI ao) (hlt : 4 * j + 4 ≤ L) (hroom : cells + 1 ≤ 601024 ∧ slots + 6 ≤ 7293034) (HI : InvN σ n) (hP : va_P (dC, dI) vwCl (zWS a kI kC σ) H) (hO : va_P (dC, dI) vwCl (zO9 ao kL f) H) (hS : va_S (zLA s) s.heap H locs) (hl : lv_has ls 7 (zLv b a ao j))
    (next : ∀ (σ' : zS) (n' : Nat) (f' : Nat → Int64) (H' : Heap) (locs' : List Loc) (ls' : Array Slot), InvN σ' n' → va_P (dC, dI) vwCl (zWS a kI kC σ') H' → va_P (dC, dI) vwCl (zO9 ao kL f') H' → va_S (zLA s) s.heap H' locs' → lv_has ls' 7 (zLv b a ao j) → W p l e room_1 s m #[Value.ref b] below meth c H' locs' (cells + 1) (slots + 6) Q (F0 m 528 ls' [])) : W p l e room_1 s m #[Value.ref b] below meth c H locs cells slots Q (F0 m 447 ls []) := by
  obtain ⟨hx, hb, hml, hown, htb, hK, hKL, hX, hT, hinj, hA, hao, hAo, hXs, hbl⟩ := id C0
  have hr1 : cells ≤ 601024 ∧ slots ≤ 7293034 := ⟨by omega, by omega⟩
  obtain ⟨k, v, v2, t, h1, h2, hc0, hI⟩ := t_register 998 HI (xs (4 * j + 1))
  have hc : (k = 1 ∧ wr σ 38 0 t 38 0 = 0 ∧ v = v2) ∨ (k = 2 ∧ wr σ 38 0 t 38 0 = 1) := by rw [wr_same]; exact hc0
  rcases hc with ⟨rfl, ht, rfl⟩ | ⟨rfl, ht⟩
  · refine lv_aload_n hx hb dL_law_447 rfl (lv_at hl 1 rfl) ?_
    refine zLrd C0 j 1 hL (by omega) hl (p0 := 0) rfl (p4 := 4) rfl dL_law_448 dL_law_449 dL_law_451 dL_law_452 dL_law_453 rfl rfl hS ?_
    refine lv_aload_n hx hb dL_law_454 rfl (lv_at hl 3 rfl) ?_
    refine zLwrap1 C0 (As := [.ref (a 0), .int (xs (4 * j + 1)), .ref ao]) (rest := []) (cL_register_ok l hst a adV kI kC kL dC dI hinj ao f hao h1) kl_L_register (by decide) kp_L_register rfl dL_law_455 rfl (Nat.le_of_ble_eq_true rfl) hl.1 hroom hP hO hS (fun H locs hP hO hS => ?_)
    refine lv_istore (lv' := (5, .int 0) :: zLv b a ao j) hx hb dL_law_458 hl (by decide) rfl (fun ls hl => ?_)
    refine lv_aload_n hx hb dL_law_460 rfl (lv_at hl 3 rfl) ?_
    refine zLrd C0 j 1 hL (by omega) hl (p0 := 1) rfl (p4 := 5) rfl dL_law_461 dL_law_462 dL_law_464 dL_law_465 dL_law_466 rfl rfl hS ?_
    refine zLcallI C0 (j0 := 38) (ci := 8) (as := [.inl (xs (4 * j + 1))]) (rest := []) h2 zat_X8_register kc_X8_register rfl rfl kl_X8_register kp_X8_register dL_law_467 rfl (Nat.le_of_ble_eq_true rfl) hl.1 hroom hP hO hS (fun H locs hP hO hS => ?_)
    refine lv_istore (lv' := (6, .int v) :: (5, .int 0) :: zLv b a ao j) hx hb dL_law_470 hl (by decide) rfl (fun ls hl => ?_)
    refine lv_aload_n hx hb dL_law_472 rfl (lv_at hl 4 rfl) ?_
    refine zLcallI C0 (j0 := 38) (ci := 8) (as := []) (rest := []) (z_thrown _) zat_X8_thrown kc_X8_thrown rfl rfl kl_X8_thrown kp_X8_thrown dL_law_473 rfl (Nat.le_of_ble_eq_true rfl) hl.1 hroom hP hO hS (fun H locs hP hO hS => ?_)
    rw [ht]
    refine lv_iload hx hb dL_law_476 (lv_at hl 1 rfl) ?_
    refine lv_icmp_eq (tgt := 483) hx hb dL_law_478 (by decide) (fun _ => ?_) (fun h => absurd rfl h)
    refine lv_iload hx hb dL_law_483 (lv_at hl 1 rfl) ?_
    refine lv_if_ne (tgt := 500) hx hb dL_law_485 (by decide) (fun h => absurd rfl h) (fun _ => ?_)
    refine lv_aload_n hx hb dL_law_488 rfl (lv_at hl 5 rfl) ?_
    refine lv_iconst (v := 0) hx hb dL_law_489 (by decide) ?_
    refine va_lald hx hb hKL hO 0 0 rfl rfl (vp_in_nI (n := 0) (by decide) (by decide)) dL_law_490 ?_
    rw [zupd0]
    refine lv_iload hx hb dL_law_491 (lv_at hl 0 rfl) ?_
    refine lv_i2l (v := v.toInt64) hx hb dL_law_493 rfl ?_
    refine W.lcmp hx hb dL_law_494 ?_
    rw [zcmp0]
    refine lv_if_eq (tgt := 500) hx hb dL_law_495 (by decide) (fun _ => ?_) (fun h => absurd rfl h)
    refine lv_goto (tgt := 528) hx hb dL_law_500 (by decide) ?_
    exact next _ _ _ _ _ _ hI hP hO hS (lv_sub hl [2, 3, 4, 5, 6] rfl)
  · refine lv_aload_n hx hb dL_law_447 rfl (lv_at hl 1 rfl) ?_
    refine zLrd C0 j 1 hL (by omega) hl (p0 := 0) rfl (p4 := 4) rfl dL_law_448 dL_law_449 dL_law_451 dL_law_452 dL_law_453 rfl rfl hS ?_
    refine lv_aload_n hx hb dL_law_454 rfl (lv_at hl 3 rfl) ?_
    refine zLwrap2 C0 (As := [.ref (a 0), .int (xs (4 * j + 1)), .ref ao]) (rest := []) (cL_register_ok l hst a adV kI kC kL dC dI hinj ao f hao h1) kl_L_register (by decide) kp_L_register rfl dL_law_455 rfl (Nat.le_of_ble_eq_true rfl) hl.1 hroom hP hO hS (fun H locs hP hO hS => ?_)
    refine lv_istore (lv' := (5, .int 1) :: zLv b a ao j) hx hb dL_law_458 hl (by decide) rfl (fun ls hl => ?_)
    refine lv_aload_n hx hb dL_law_460 rfl (lv_at hl 3 rfl) ?_
    refine zLrd C0 j 1 hL (by omega) hl (p0 := 1) rfl (p4 := 5) rfl dL_law_461 dL_law_462 dL_law_464 dL_law_465 dL_law_466 rfl rfl hS ?_
    refine zLcallI C0 (j0 := 38) (ci := 8) (as := [.inl (xs (4 * j + 1))]) (rest := []) h2 zat_X8_register kc_X8_register rfl rfl kl_X8_register kp_X8_register dL_law_467 rfl (Nat.le_of_ble_eq_true rfl) hl.1 hroom hP hO hS (fun H locs hP hO hS => ?_)
    refine lv_istore (lv' := (6, .int v2) :: (5, .int 1) :: zLv b a ao j) hx hb dL_law_470 hl (by decide) rfl (fun ls hl => ?_)
    refine lv_aload_n hx hb dL_law_472 rfl (lv_at hl 4 rfl) ?_
    refine zLcallI C0 (j0 := 38) (ci := 8) (as := []) (rest := []) (z_thrown _) zat_X8_thrown kc_X8_thrown rfl rfl kl_X8_thrown kp_X8_thrown dL_law_473 rfl (Nat.le_of_ble_eq_true rfl) hl.1 hroom hP hO hS (fun H locs hP hO hS => ?_)
    rw [ht]
    refine lv_iload hx hb dL_law_476 (lv_at hl 1 rfl) ?_
    refine lv_icmp_eq (tgt := 483) hx hb dL_law_478 (by decide) (fun _ => ?_) (fun h => absurd rfl h)
    refine lv_iload hx hb dL_law_483 (lv_at hl 1 rfl) ?_
    refine lv_if_ne (tgt := 500) hx hb dL_law_485 (by decide) (fun _ => ?_) (fun h => absurd h (by decide))
    refine lv_goto (tgt := 528) hx hb dL_law_500 (by decide) ?_
    exact next _ _ _ _ _ _ hI hP hO hS (lv_sub hl [2, 3, 4, 5, 6] rfl)
end
