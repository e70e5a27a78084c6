-- the law's loop, case by case
abbrev zLv (b : Nat) (a : Nat → Nat) (ao j : Nat) : List (Nat × Value) := [(0, .ref b), (1, .ref (a 0)), (2, .ref (a 38)), (3, .ref ao), (4, .int (nI (4 * j)))]
set_option maxRecDepth 100000 in
theorem kl_X7_type : zin 344 (.methodLink RL 36 yX7_type) = true ∧ zin 345 (.instanceMethod yX7_type) = true ∧ zin 346 (.selects RX7 yX7_type yX7_type) = true ∧ zin 77 (.initialized RX7) = true := by decide +kernel
theorem kp_X7_type : yX7_type.cls ≠ "java/lang/invoke/MethodHandle" ∧ yX7_type.cls ≠ "java/lang/invoke/VarHandle" ∧ (parseMethodDescriptor yX7_type.desc).map (fun d => d.parameters.length) = some 2 := by decide +kernel
set_option maxRecDepth 100000 in
theorem kc_X7_type : lw_tbl[347]? = some (.code yX7_type cX7_type 4 (some .boolean)) := rfl
set_option maxRecDepth 100000 in
theorem kl_X7_fault : zin 355 (.methodLink RL 50 yX7_fault) = true ∧ zin 356 (.instanceMethod yX7_fault) = true ∧ zin 357 (.selects RX7 yX7_fault yX7_fault) = true ∧ zin 77 (.initialized RX7) = true := by decide +kernel
theorem kp_X7_fault : yX7_fault.cls ≠ "java/lang/invoke/MethodHandle" ∧ yX7_fault.cls ≠ "java/lang/invoke/VarHandle" ∧ (parseMethodDescriptor yX7_fault.desc).map (fun d => d.parameters.length) = some 0 := by decide +kernel
set_option maxRecDepth 100000 in
theorem kc_X7_fault : lw_tbl[358]? = some (.code yX7_fault cX7_fault 1 (some .int)) := rfl
set_option maxRecDepth 100000 in
theorem kl_X7_refused : zin 359 (.methodLink RL 58 yX7_refused) = true ∧ zin 360 (.instanceMethod yX7_refused) = true ∧ zin 361 (.selects RX7 yX7_refused yX7_refused) = true ∧ zin 77 (.initialized RX7) = true := by decide +kernel
theorem kp_X7_refused : yX7_refused.cls ≠ "java/lang/invoke/MethodHandle" ∧ yX7_refused.cls ≠ "java/lang/invoke/VarHandle" ∧ (parseMethodDescriptor yX7_refused.desc).map (fun d => d.parameters.length) = some 0 := by decide +kernel
set_option maxRecDepth 100000 in
theorem kc_X7_refused : lw_tbl[362]? = some (.code yX7_refused cX7_refused 1 (some .int)) := rfl
set_option maxRecDepth 100000 in
theorem kl_X7_differs : zin 363 (.methodLink RL 62 yX7_differs) = true ∧ zin 364 (.instanceMethod yX7_differs) = true ∧ zin 365 (.selects RX7 yX7_differs yX7_differs) = true ∧ zin 77 (.initialized RX7) = true := by decide +kernel
theorem kp_X7_differs : yX7_differs.cls ≠ "java/lang/invoke/MethodHandle" ∧ yX7_differs.cls ≠ "java/lang/invoke/VarHandle" ∧ (parseMethodDescriptor yX7_differs.desc).map (fun d => d.parameters.length) = some 0 := by decide +kernel
set_option maxRecDepth 100000 in
theorem kc_X7_differs : lw_tbl[366]? = some (.code yX7_differs cX7_differs 1 (some .int)) := rfl
set_option maxRecDepth 100000 in
theorem kl_X7_happen : zin 367 (.methodLink RL 66 yX7_happen) = true ∧ zin 368 (.instanceMethod yX7_happen) = true ∧ zin 369 (.selects RX7 yX7_happen yX7_happen) = true ∧ zin 77 (.initialized RX7) = true := by decide +kernel
theorem kp_X7_happen : yX7_happen.cls ≠ "java/lang/invoke/MethodHandle" ∧ yX7_happen.cls ≠ "java/lang/invoke/VarHandle" ∧ (parseMethodDescriptor yX7_happen.desc).map (fun d => d.parameters.length) = some 3 := by decide +kernel
set_option maxRecDepth 100000 in
theorem kc_X7_happen : lw_tbl[370]? = some (.code yX7_happen cX7_happen 4 (some .boolean)) := rfl
set_option maxRecDepth 100000 in
theorem kl_X7_crash : zin 395 (.methodLink RL 71 yX7_crash) = true ∧ zin 396 (.instanceMethod yX7_crash) = true ∧ zin 397 (.selects RX7 yX7_crash yX7_crash) = true ∧ zin 77 (.initialized RX7) = true := by decide +kernel
theorem kp_X7_crash : yX7_crash.cls ≠ "java/lang/invoke/MethodHandle" ∧ yX7_crash.cls ≠ "java/lang/invoke/VarHandle" ∧ (parseMethodDescriptor yX7_crash.desc).map (fun d => d.parameters.length) = some 0 := by decide +kernel
set_option maxRecDepth 100000 in
theorem kc_X7_crash : lw_tbl[398]? = some (.code yX7_crash cX7_crash 1 (none)) := rfl
set_option maxRecDepth 100000 in
theorem kl_X7_clear : zin 403 (.methodLink RL 75 yX7_clear) = true ∧ zin 404 (.instanceMethod yX7_clear) = true ∧ zin 405 (.selects RX7 yX7_clear yX7_clear) = true ∧ zin 77 (.initialized RX7) = true := by decide +kernel
theorem kp_X7_clear : yX7_clear.cls ≠ "java/lang/invoke/MethodHandle" ∧ yX7_clear.cls ≠ "java/lang/invoke/VarHandle" ∧ (parseMethodDescriptor yX7_clear.desc).map (fun d => d.parameters.length) = some 0 := by decide +kernel
set_option maxRecDepth 100000 in
theorem kc_X7_clear : lw_tbl[406]? = some (.code yX7_clear cX7_clear 1 (none)) := rfl
set_option maxRecDepth 100000 in
theorem kl_X7_total : zin 411 (.methodLink RL 86 yX7_total) = true ∧ zin 412 (.instanceMethod yX7_total) = true ∧ zin 413 (.selects RX7 yX7_total yX7_total) = true ∧ zin 77 (.initialized RX7) = true := by decide +kernel
theorem kp_X7_total : yX7_total.cls ≠ "java/lang/invoke/MethodHandle" ∧ yX7_total.cls ≠ "java/lang/invoke/VarHandle" ∧ (parseMethodDescriptor yX7_total.desc).map (fun d => d.parameters.length) = some 1 := by decide +kernel
set_option maxRecDepth 100000 in
theorem kc_X7_total : lw_tbl[414]? = some (.code yX7_total cX7_total 2 (some .int)) := rfl
set_option maxRecDepth 100000 in
theorem kl_X8_thrown : zin 1157 (.methodLink RL 47 yX8_thrown) = true ∧ zin 1158 (.instanceMethod yX8_thrown) = true ∧ zin 1159 (.selects RX8 yX8_thrown yX8_thrown) = true ∧ zin 85 (.initialized RX8) = true := by decide +kernel
theorem kp_X8_thrown : yX8_thrown.cls ≠ "java/lang/invoke/MethodHandle" ∧ yX8_thrown.cls ≠ "java/lang/invoke/VarHandle" ∧ (parseMethodDescriptor yX8_thrown.desc).map (fun d => d.parameters.length) = some 0 := by decide +kernel
set_option maxRecDepth 100000 in
theorem kc_X8_thrown : lw_tbl[1160]? = some (.code yX8_thrown cX8_thrown 1 (some .int)) := rfl
set_option maxRecDepth 100000 in
theorem kl_X8_type : zin 1161 (.methodLink RL 40 yX8_type) = true ∧ zin 1162 (.instanceMethod yX8_type) = true ∧ zin 1163 (.selects RX8 yX8_type yX8_type) = true ∧ zin 85 (.initialized RX8) = true := by decide +kernel
theorem kp_X8_type : yX8_type.cls ≠ "java/lang/invoke/MethodHandle" ∧ yX8_type.cls ≠ "java/lang/invoke/VarHandle" ∧ (parseMethodDescriptor yX8_type.desc).map (fun d => d.parameters.length) = some 2 := by decide +kernel
set_option maxRecDepth 100000 in
theorem kc_X8_type : lw_tbl[1164]? = some (.code yX8_type cX8_type 6 (some .boolean)) := rfl
set_option maxRecDepth 100000 in
theorem kl_X8_program : zin 1166 (.methodLink RL 46 yX8_program) = true ∧ zin 1167 (.instanceMethod yX8_program) = true ∧ zin 1168 (.selects RX8 yX8_program yX8_program) = true ∧ zin 85 (.initialized RX8) = true := by decide +kernel
theorem kp_X8_program : yX8_program.cls ≠ "java/lang/invoke/MethodHandle" ∧ yX8_program.cls ≠ "java/lang/invoke/VarHandle" ∧ (parseMethodDescriptor yX8_program.desc).map (fun d => d.parameters.length) = some 0 := by decide +kernel
set_option maxRecDepth 100000 in
theorem kc_X8_program : lw_tbl[1169]? = some (.code yX8_program cX8_program 2 (some .int)) := rfl
set_option maxRecDepth 100000 in
theorem kl_X8_fault : zin 1262 (.methodLink RL 53 yX8_fault) = true ∧ zin 1263 (.instanceMethod yX8_fault) = true ∧ zin 1264 (.selects RX8 yX8_fault yX8_fault) = true ∧ zin 85 (.initialized RX8) = true := by decide +kernel
theorem kp_X8_fault : yX8_fault.cls ≠ "java/lang/invoke/MethodHandle" ∧ yX8_fault.cls ≠ "java/lang/invoke/VarHandle" ∧ (parseMethodDescriptor yX8_fault.desc).map (fun d => d.parameters.length) = some 0 := by decide +kernel
set_option maxRecDepth 100000 in
theorem kc_X8_fault : lw_tbl[1265]? = some (.code yX8_fault cX8_fault 1 (some .int)) := rfl
set_option maxRecDepth 100000 in
theorem kl_X8_decide : zin 1266 (.methodLink RL 57 yX8_decide) = true ∧ zin 1267 (.instanceMethod yX8_decide) = true ∧ zin 1268 (.selects RX8 yX8_decide yX8_decide) = true ∧ zin 85 (.initialized RX8) = true := by decide +kernel
theorem kp_X8_decide : yX8_decide.cls ≠ "java/lang/invoke/MethodHandle" ∧ yX8_decide.cls ≠ "java/lang/invoke/VarHandle" ∧ (parseMethodDescriptor yX8_decide.desc).map (fun d => d.parameters.length) = some 1 := by decide +kernel
set_option maxRecDepth 100000 in
theorem kc_X8_decide : lw_tbl[1269]? = some (.code yX8_decide cX8_decide 4 (some .int)) := rfl
set_option maxRecDepth 100000 in
theorem kl_X8_refused : zin 1338 (.methodLink RL 61 yX8_refused) = true ∧ zin 1339 (.instanceMethod yX8_refused) = true ∧ zin 1340 (.selects RX8 yX8_refused yX8_refused) = true ∧ zin 85 (.initialized RX8) = true := by decide +kernel
theorem kp_X8_refused : yX8_refused.cls ≠ "java/lang/invoke/MethodHandle" ∧ yX8_refused.cls ≠ "java/lang/invoke/VarHandle" ∧ (parseMethodDescriptor yX8_refused.desc).map (fun d => d.parameters.length) = some 0 := by decide +kernel
set_option maxRecDepth 100000 in
theorem kc_X8_refused : lw_tbl[1341]? = some (.code yX8_refused cX8_refused 1 (some .int)) := rfl
set_option maxRecDepth 100000 in
theorem kl_X8_differs : zin 1342 (.methodLink RL 65 yX8_differs) = true ∧ zin 1343 (.instanceMethod yX8_differs) = true ∧ zin 1344 (.selects RX8 yX8_differs yX8_differs) = true ∧ zin 85 (.initialized RX8) = true := by decide +kernel
theorem kp_X8_differs : yX8_differs.cls ≠ "java/lang/invoke/MethodHandle" ∧ yX8_differs.cls ≠ "java/lang/invoke/VarHandle" ∧ (parseMethodDescriptor yX8_differs.desc).map (fun d => d.parameters.length) = some 0 := by decide +kernel
set_option maxRecDepth 100000 in
theorem kc_X8_differs : lw_tbl[1345]? = some (.code yX8_differs cX8_differs 1 (some .int)) := rfl
set_option maxRecDepth 100000 in
theorem kl_X8_happen : zin 1346 (.methodLink RL 70 yX8_happen) = true ∧ zin 1347 (.instanceMethod yX8_happen) = true ∧ zin 1348 (.selects RX8 yX8_happen yX8_happen) = true ∧ zin 85 (.initialized RX8) = true := by decide +kernel
theorem kp_X8_happen : yX8_happen.cls ≠ "java/lang/invoke/MethodHandle" ∧ yX8_happen.cls ≠ "java/lang/invoke/VarHandle" ∧ (parseMethodDescriptor yX8_happen.desc).map (fun d => d.parameters.length) = some 3 := by decide +kernel
set_option maxRecDepth 100000 in
theorem kc_X8_happen : lw_tbl[1349]? = some (.code yX8_happen cX8_happen 5 (some .boolean)) := rfl
set_option maxRecDepth 100000 in
theorem kl_X8_crash : zin 1354 (.methodLink RL 74 yX8_crash) = true ∧ zin 1355 (.instanceMethod yX8_crash) = true ∧ zin 1356 (.selects RX8 yX8_crash yX8_crash) = true ∧ zin 85 (.initialized RX8) = true := by decide +kernel
theorem kp_X8_crash : yX8_crash.cls ≠ "java/lang/invoke/MethodHandle" ∧ yX8_crash.cls ≠ "java/lang/invoke/VarHandle" ∧ (parseMethodDescriptor yX8_crash.desc).map (fun d => d.parameters.length) = some 0 := by decide +kernel
set_option maxRecDepth 100000 in
theorem kc_X8_crash : lw_tbl[1357]? = some (.code yX8_crash cX8_crash 1 (none)) := rfl
set_option maxRecDepth 100000 in
theorem kl_X8_clear : zin 1358 (.methodLink RL 78 yX8_clear) = true ∧ zin 1359 (.instanceMethod yX8_clear) = true ∧ zin 1360 (.selects RX8 yX8_clear yX8_clear) = true ∧ zin 85 (.initialized RX8) = true := by decide +kernel
theorem kp_X8_clear : yX8_clear.cls ≠ "java/lang/invoke/MethodHandle" ∧ yX8_clear.cls ≠ "java/lang/invoke/VarHandle" ∧ (parseMethodDescriptor yX8_clear.desc).map (fun d => d.parameters.length) = some 0 := by decide +kernel
set_option maxRecDepth 100000 in
theorem kc_X8_clear : lw_tbl[1361]? = some (.code yX8_clear cX8_clear 2 (none)) := rfl
set_option maxRecDepth 100000 in
theorem kl_X8_event : zin 1362 (.methodLink RL 82 yX8_event) = true ∧ zin 1363 (.instanceMethod yX8_event) = true ∧ zin 1364 (.selects RX8 yX8_event yX8_event) = true ∧ zin 85 (.initialized RX8) = true := by decide +kernel
theorem kp_X8_event : yX8_event.cls ≠ "java/lang/invoke/MethodHandle" ∧ yX8_event.cls ≠ "java/lang/invoke/VarHandle" ∧ (parseMethodDescriptor yX8_event.desc).map (fun d => d.parameters.length) = some 2 := by decide +kernel
set_option maxRecDepth 100000 in
theorem kc_X8_event : lw_tbl[1365]? = some (.code yX8_event cX8_event 3 (some .int)) := rfl
set_option maxRecDepth 100000 in
theorem kl_X8_register : zin 1366 (.methodLink RL 85 yX8_register) = true ∧ zin 1367 (.instanceMethod yX8_register) = true ∧ zin 1368 (.selects RX8 yX8_register yX8_register) = true ∧ zin 85 (.initialized RX8) = true := by decide +kernel
theorem kp_X8_register : yX8_register.cls ≠ "java/lang/invoke/MethodHandle" ∧ yX8_register.cls ≠ "java/lang/invoke/VarHandle" ∧ (parseMethodDescriptor yX8_register.desc).map (fun d => d.parameters.length) = some 1 := by decide +kernel
set_option maxRecDepth 100000 in
theorem kc_X8_register : lw_tbl[1369]? = some (.code yX8_register cX8_register 2 (some .int)) := rfl
set_option maxRecDepth 100000 in
theorem kl_X8_total : zin 1370 (.methodLink RL 89 yX8_total) = true ∧ zin 1371 (.instanceMethod yX8_total) = true ∧ zin 1372 (.selects RX8 yX8_total yX8_total) = true ∧ zin 85 (.initialized RX8) = true := by decide +kernel
theorem kp_X8_total : yX8_total.cls ≠ "java/lang/invoke/MethodHandle" ∧ yX8_total.cls ≠ "java/lang/invoke/VarHandle" ∧ (parseMethodDescriptor yX8_total.desc).map (fun d => d.parameters.length) = some 1 := by decide +kernel
set_option maxRecDepth 100000 in
theorem kc_X8_total : lw_tbl[1373]? = some (.code yX8_total cX8_total 5 (some .int)) := rfl
set_option maxRecDepth 100000 in
theorem kl_L_program : zin 429 (.codeWith yL_program cL_program 3 (some .int) [(0, 8, 11, 13)]) = true ∧ zin 427 (.methodLink RL 41 yL_program) = true ∧ zin 428 (.static yL_program) = true ∧ zin 76 (.initialized RL) = true := by decide +kernel
theorem kp_L_program : yL_program.cls ≠ "java/lang/invoke/MethodHandle" ∧ yL_program.cls ≠ "java/lang/invoke/VarHandle" ∧ (parseMethodDescriptor yL_program.desc).map (fun d => d.parameters.length) = some 2 := by decide +kernel
set_option maxRecDepth 100000 in
theorem kl_L_decide : zin 804 (.codeWith yL_decide cL_decide 4 (some .int) [(0, 9, 12, 19)]) = true ∧ zin 802 (.methodLink RL 54 yL_decide) = true ∧ zin 803 (.static yL_decide) = true ∧ zin 76 (.initialized RL) = true := by decide +kernel
theorem kp_L_decide : yL_decide.cls ≠ "java/lang/invoke/MethodHandle" ∧ yL_decide.cls ≠ "java/lang/invoke/VarHandle" ∧ (parseMethodDescriptor yL_decide.desc).map (fun d => d.parameters.length) = some 3 := by decide +kernel
set_option maxRecDepth 100000 in
theorem kl_L_event : zin 977 (.codeWith yL_event cL_event 5 (some .int) [(0, 10, 13, 25)]) = true ∧ zin 975 (.methodLink RL 79 yL_event) = true ∧ zin 976 (.static yL_event) = true ∧ zin 76 (.initialized RL) = true := by decide +kernel
theorem kp_L_event : yL_event.cls ≠ "java/lang/invoke/MethodHandle" ∧ yL_event.cls ≠ "java/lang/invoke/VarHandle" ∧ (parseMethodDescriptor yL_event.desc).map (fun d => d.parameters.length) = some 4 := by decide +kernel
set_option maxRecDepth 100000 in
theorem kl_L_register : zin 1008 (.codeWith yL_register cL_register 4 (some .int) [(0, 9, 12, 25)]) = true ∧ zin 1006 (.methodLink RL 83 yL_register) = true ∧ zin 1007 (.static yL_register) = true ∧ zin 76 (.initialized RL) = true := by decide +kernel
theorem kp_L_register : yL_register.cls ≠ "java/lang/invoke/MethodHandle" ∧ yL_register.cls ≠ "java/lang/invoke/VarHandle" ∧ (parseMethodDescriptor yL_register.desc).map (fun d => d.parameters.length) = some 3 := by decide +kernel
theorem kl_long : zin 1374 (.constantLong RL 34 4294967295) = true := by decide +kernel
theorem zcmp0 (x : Int64) : lg_cmp x x = 0 := by simp [lg_cmp]
theorem zupd0 (f : Nat → Int64) (x : Int64) : vp_updL f 0 x (0 : Int32).toNatClampNeg = x := by simp [vp_updL]
theorem z_thrown (σ : zS) : zM 1000 mX8_thrown [.inr (.inr 38)] σ = some (1, σ 38 0, σ) := by rw [show (1000 : Nat) = 999 + 1 from rfl, qX8_thrown_38, qX8_thrown_38_0]
section
variable {p : Program} {l : Launch} {e : Env} {s : State} {m : MethodId} {below : List Frame} {meth : Method} {c : Code} {b L : Nat} {xs : Nat → Int32} {H : Heap} {locs : List Loc} {cells slots : Nat} {Q : State → Prop}
variable {a adV : Nat → Nat} {kI kC kL : ClassId} {dC : Nat → ClassId} {dI : Nat → Nat → Nat} {ao : Nat} {f : Nat → Int64} {σ : zS} {ls : Array Slot} {n j : Nat}
theorem zLcallI (C0 : zLx p s m c b L xs a adV kI kC kL dC dI ao) {mi j0 ci idx : Nat} {as : List zV} {fl : List (Option Nat)} {v : Int32} {σ1 : zS} {T : u_T} {N : Nat} {C : String} {y : MethodName} {nn : Nat} {rt : Option FieldType} {tab : List (Nat × zO)} {cut : List (Nat × List Nat)} {i : Nat} {bc : ByteArray} {st rest : List Value} {pc : Nat}
    (hM : zM 1000 mi (.inr (.inr j0) :: as) σ = some (1, v, σ1)) (hmt : zMT[mi]? = some ((C, y, nn, rt, tab, cut), i)) (hcode : lw_tbl[i]? = some (.code y bc nn rt)) (hi : zIMG[j0]? = some (.inl (ci, fl))) (hcl : vwCl[ci]? = some (C, T, N)) {i1 i2 i3 i4 : Nat}
    (w : zin i1 (.methodLink RL idx y) = true ∧ zin i2 (.instanceMethod y) = true ∧ zin i3 (.selects C y y) = true ∧ zin i4 (.initialized y.cls) = true) (hpar : y.cls ≠ "java/lang/invoke/MethodHandle" ∧ y.cls ≠ "java/lang/invoke/VarHandle" ∧ (parseMethodDescriptor y.desc).map (fun d => d.parameters.length) = some as.length)
    (hd : decode code pc = .ok (.invokevirtual idx, 3)) (hst : st = (as.map (zden a)).reverse ++ .ref (a j0) :: rest) (hrest : (rest.map fun v => v.category).sum ≤ 8) (hls : ls.size = 7) (hroom : cells ≤ 601024 ∧ slots ≤ 7293034) (hP : va_P (dC, dI) vwCl (zWS a kI kC σ) H) (hO : va_P (dC, dI) vwCl (zO9 ao kL f) H) (hS : va_S (zLA s) s.heap H locs)
    (kk : ∀ (H1 : Heap) (locs1 : List Loc), va_P (dC, dI) vwCl (zWS a kI kC σ1) H1 → va_P (dC, dI) vwCl (zO9 ao kL f) H1 → va_S (zLA s) s.heap H1 locs1 → W p l e room_1 s m #[Value.ref b] below meth c H1 locs1 cells slots Q (F0 m (pc + 3) ls (.int v :: rest))) : W p l e room_1 s m #[Value.ref b] below meth c H locs cells slots Q (F0 m pc ls st) :=
  zLcall C0 hM (Nat.lt_succ_self 1) hmt hcode hi hcl (zin_mem w.1) (zin_mem w.2.1) (zin_mem w.2.2.1) (zin_mem w.2.2.2) hpar hd hst hrest hls hroom hP hO hS kk
theorem zLcallV (C0 : zLx p s m c b L xs a adV kI kC kL dC dI ao) {mi j0 ci idx : Nat} {as : List zV} {fl : List (Option Nat)} {σ1 : zS} {T : u_T} {N : Nat} {C : String} {y : MethodName} {nn : Nat} {rt : Option FieldType} {tab : List (Nat × zO)} {cut : List (Nat × List Nat)} {i : Nat} {bc : ByteArray} {st rest : List Value} {pc : Nat}
    (hM : zM 1000 mi (.inr (.inr j0) :: as) σ = some (0, 0, σ1)) (hmt : zMT[mi]? = some ((C, y, nn, rt, tab, cut), i)) (hcode : lw_tbl[i]? = some (.code y bc nn rt)) (hi : zIMG[j0]? = some (.inl (ci, fl))) (hcl : vwCl[ci]? = some (C, T, N)) {i1 i2 i3 i4 : Nat}
    (w : zin i1 (.methodLink RL idx y) = true ∧ zin i2 (.instanceMethod y) = true ∧ zin i3 (.selects C y y) = true ∧ zin i4 (.initialized y.cls) = true) (hpar : y.cls ≠ "java/lang/invoke/MethodHandle" ∧ y.cls ≠ "java/lang/invoke/VarHandle" ∧ (parseMethodDescriptor y.desc).map (fun d => d.parameters.length) = some as.length)
    (hd : decode code pc = .ok (.invokevirtual idx, 3)) (hst : st = (as.map (zden a)).reverse ++ .ref (a j0) :: rest) (hrest : (rest.map fun v => v.category).sum ≤ 8) (hls : ls.size = 7) (hroom : cells ≤ 601024 ∧ slots ≤ 7293034) (hP : va_P (dC, dI) vwCl (zWS a kI kC σ) H) (hO : va_P (dC, dI) vwCl (zO9 ao kL f) H) (hS : va_S (zLA s) s.heap H locs)
    (kk : ∀ (H1 : Heap) (locs1 : List Loc), va_P (dC, dI) vwCl (zWS a kI kC σ1) H1 → va_P (dC, dI) vwCl (zO9 ao kL f) H1 → va_S (zLA s) s.heap H1 locs1 → W p l e room_1 s m #[Value.ref b] below meth c H1 locs1 cells slots Q (F0 m (pc + 3) ls rest)) : W p l e room_1 s m #[Value.ref b] below meth c H locs cells slots Q (F0 m pc ls st) :=
  zLcall C0 hM (Nat.zero_lt_succ 1) hmt hcode hi hcl (zin_mem w.1) (zin_mem w.2.1) (zin_mem w.2.2.1) (zin_mem w.2.2.2) hpar hd hst hrest hls hroom hP hO hS kk
theorem zLwrap1 (C0 : zLx p s m c b L xs a adV kI kC kL dC dI ao) {idx nn np : Nat} {y : MethodName} {bc : ByteArray} {hh : List (Nat × Nat × Nat × Nat)} {As st rest : List Value} {v : Int32} {σ1 : zS} {pc : Nat}
    (hMet : Met l y (.codeWith y bc nn (some .int) hh :: zTB) { frames := 1100, cells := 1, slots := 6, locals := 42000 } (va_Pc As (zPw a adV kI kC kL dC dI ao f σ)) (zQw a kI kC kL dC dI ao f (1, v, σ1)) 1 6 (fun q => zA a q ∨ q = ao)) {i0 i1 i2 i4 : Nat}
    (w : zin i0 (.codeWith y bc nn (some .int) hh) = true ∧ zin i1 (.methodLink RL idx y) = true ∧ zin i2 (.static y) = true ∧ zin i4 (.initialized y.cls) = true) (hn20 : nn ≤ 20) (hpar : y.cls ≠ "java/lang/invoke/MethodHandle" ∧ y.cls ≠ "java/lang/invoke/VarHandle" ∧ (parseMethodDescriptor y.desc).map (fun d => d.parameters.length) = some np) (hnp : As.length = np)
    (hd : decode code pc = .ok (.invokestatic idx, 3)) (hst : st = As.reverse ++ rest) (hrest : (rest.map fun v => v.category).sum ≤ 8) (hls : ls.size = 7) (hroom : cells + 1 ≤ 601024 ∧ slots + 6 ≤ 7293034) (hP : va_P (dC, dI) vwCl (zWS a kI kC σ) H) (hO : va_P (dC, dI) vwCl (zO9 ao kL f) H) (hS : va_S (zLA s) s.heap H locs)
    (kk : ∀ (H1 : Heap) (locs1 : List Loc), va_P (dC, dI) vwCl (zWS a kI kC σ1) H1 → va_P (dC, dI) vwCl (zO9 ao kL (vp_updL f 0 v.toInt64)) H1 → va_S (zLA s) s.heap H1 locs1 → W p l e room_1 s m #[Value.ref b] below meth c H1 locs1 (cells + 1) (slots + 6) Q (F0 m (pc + 3) ls (.int 0 :: rest))) : W p l e room_1 s m #[Value.ref b] below meth c H locs cells slots Q (F0 m pc ls st) :=
  zLwrap (i := 0) C0 hMet (zin_mem w.1) (zin_mem w.2.1) (zin_mem w.2.2.1) (zin_mem w.2.2.2) hn20 hpar hnp hd hst hrest hls hroom hP hO hS kk
theorem zLwrap2 (C0 : zLx p s m c b L xs a adV kI kC kL dC dI ao) {idx nn np : Nat} {y : MethodName} {bc : ByteArray} {hh : List (Nat × Nat × Nat × Nat)} {As st rest : List Value} {v : Int32} {σ1 : zS} {pc : Nat}
    (hMet : Met l y (.codeWith y bc nn (some .int) hh :: zTB) { frames := 1100, cells := 1, slots := 6, locals := 42000 } (va_Pc As (zPw a adV kI kC kL dC dI ao f σ)) (zQw a kI kC kL dC dI ao f (2, v, σ1)) 1 6 (fun q => zA a q ∨ q = ao)) {i0 i1 i2 i4 : Nat}
    (w : zin i0 (.codeWith y bc nn (some .int) hh) = true ∧ zin i1 (.methodLink RL idx y) = true ∧ zin i2 (.static y) = true ∧ zin i4 (.initialized y.cls) = true) (hn20 : nn ≤ 20) (hpar : y.cls ≠ "java/lang/invoke/MethodHandle" ∧ y.cls ≠ "java/lang/invoke/VarHandle" ∧ (parseMethodDescriptor y.desc).map (fun d => d.parameters.length) = some np) (hnp : As.length = np)
    (hd : decode code pc = .ok (.invokestatic idx, 3)) (hst : st = As.reverse ++ rest) (hrest : (rest.map fun v => v.category).sum ≤ 8) (hls : ls.size = 7) (hroom : cells + 1 ≤ 601024 ∧ slots + 6 ≤ 7293034) (hP : va_P (dC, dI) vwCl (zWS a kI kC σ) H) (hO : va_P (dC, dI) vwCl (zO9 ao kL f) H) (hS : va_S (zLA s) s.heap H locs)
    (kk : ∀ (H1 : Heap) (locs1 : List Loc), va_P (dC, dI) vwCl (zWS a kI kC σ1) H1 → va_P (dC, dI) vwCl (zO9 ao kL (f)) H1 → va_S (zLA s) s.heap H1 locs1 → W p l e room_1 s m #[Value.ref b] below meth c H1 locs1 (cells + 1) (slots + 6) Q (F0 m (pc + 3) ls (.int 1 :: rest))) : W p l e room_1 s m #[Value.ref b] below meth c H locs cells slots Q (F0 m pc ls st) :=
  zLwrap (i := 0) C0 hMet (zin_mem w.1) (zin_mem w.2.1) (zin_mem w.2.2.1) (zin_mem w.2.2.2) hn20 hpar hnp hd hst hrest hls hroom hP hO hS kk
end
