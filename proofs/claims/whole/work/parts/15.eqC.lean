-- equations: what each method of the image does, from cut to cut (printed by wip/eqs.py)
theorem zM_eq {d mi : Nat} {as : List zV} {σ : zS} {R : String} {y : MethodName} {n : Nat} {r : Option FieldType} {tab : List (Nat × zO)} {cut : List (Nat × List Nat)} {i : Nat} (h : zMT[mi]? = some ((R, y, n, r, tab, cut), i)) (h1 : zlook cut 0 = some (zplaces 0 as)) (h2 : zwords as ≤ n) : zM (d + 1) mi as σ = zexec tab cut (zM d) zFUEL 0 as σ := by
  simp only [zM, h, h1, h2, and_self, if_true]
theorem zat_X0_wipe : zMT[mX0_wipe]? = some ze_X0_wipe := rfl
theorem zat_X0_size : zMT[mX0_size]? = some ze_X0_size := rfl
theorem zat_X0_holds : zMT[mX0_holds]? = some ze_X0_holds := rfl
theorem zat_X0_kindAt : zMT[mX0_kindAt]? = some ze_X0_kindAt := rfl
theorem zat_X0_refAt : zMT[mX0_refAt]? = some ze_X0_refAt := rfl
theorem zat_X0_valueAt : zMT[mX0_valueAt]? = some ze_X0_valueAt := rfl
theorem zat_X0_count : zMT[mX0_count]? = some ze_X0_count := rfl
theorem zat_X0_add : zMT[mX0_add]? = some ze_X0_add := rfl
theorem zat_X0_addOfOthers : zMT[mX0_addOfOthers]? = some ze_X0_addOfOthers := rfl
theorem zat_X0_dropDecision : zMT[mX0_dropDecision]? = some ze_X0_dropDecision := rfl
theorem zat_X0_decisionEnd : zMT[mX0_decisionEnd]? = some ze_X0_decisionEnd := rfl
theorem zat_X0_isAt : zMT[mX0_isAt]? = some ze_X0_isAt := rfl
theorem zat_X0_endOf : zMT[mX0_endOf]? = some ze_X0_endOf := rfl
theorem zat_X0_signal : zMT[mX0_signal]? = some ze_X0_signal := rfl
theorem zat_X0_addSignal : zMT[mX0_addSignal]? = some ze_X0_addSignal := rfl
theorem zat_X0_fits : zMT[mX0_fits]? = some ze_X0_fits := rfl
theorem zat_X0_isOpen : zMT[mX0_isOpen]? = some ze_X0_isOpen := rfl
theorem zat_X1_wipe : zMT[mX1_wipe]? = some ze_X1_wipe := rfl
theorem zat_X1_copyFrom : zMT[mX1_copyFrom]? = some ze_X1_copyFrom := rfl
theorem zat_X1_size : zMT[mX1_size]? = some ze_X1_size := rfl
theorem zat_X1_statementCount : zMT[mX1_statementCount]? = some ze_X1_statementCount := rfl
theorem zat_X1_add : zMT[mX1_add]? = some ze_X1_add := rfl
theorem zat_X1_addJump : zMT[mX1_addJump]? = some ze_X1_addJump := rfl
theorem zat_X1_addItem : zMT[mX1_addItem]? = some ze_X1_addItem := rfl
theorem zat_X1_setSort : zMT[mX1_setSort]? = some ze_X1_setSort := rfl
theorem zat_X1_setFirst : zMT[mX1_setFirst]? = some ze_X1_setFirst := rfl
theorem zat_X1_setSecond : zMT[mX1_setSecond]? = some ze_X1_setSecond := rfl
theorem zat_X1_sortAt : zMT[mX1_sortAt]? = some ze_X1_sortAt := rfl
theorem zat_X1_targetAt : zMT[mX1_targetAt]? = some ze_X1_targetAt := rfl
theorem zat_X1_firstAt : zMT[mX1_firstAt]? = some ze_X1_firstAt := rfl
theorem zat_X1_secondAt : zMT[mX1_secondAt]? = some ze_X1_secondAt := rfl
theorem zat_X1_firstItem : zMT[mX1_firstItem]? = some ze_X1_firstItem := rfl
theorem zat_X1_itemEnd : zMT[mX1_itemEnd]? = some ze_X1_itemEnd := rfl
theorem zat_X1_itemSort : zMT[mX1_itemSort]? = some ze_X1_itemSort := rfl
theorem zat_X1_itemValue : zMT[mX1_itemValue]? = some ze_X1_itemValue := rfl
theorem zat_X1_holds : zMT[mX1_holds]? = some ze_X1_holds := rfl
theorem zat_X2_read : zMT[mX2_read]? = some ze_X2_read := rfl
theorem zat_X2_readStatements : zMT[mX2_readStatements]? = some ze_X2_readStatements := rfl
theorem zat_X2_isBlockEnd : zMT[mX2_isBlockEnd]? = some ze_X2_isBlockEnd := rfl
theorem zat_X2_readStatement : zMT[mX2_readStatement]? = some ze_X2_readStatement := rfl
theorem zat_X2_readChoice : zMT[mX2_readChoice]? = some ze_X2_readChoice := rfl
theorem zat_X2_readLoop : zMT[mX2_readLoop]? = some ze_X2_readLoop := rfl
theorem zat_X2_readStop : zMT[mX2_readStop]? = some ze_X2_readStop := rfl
theorem zat_X2_readAssignment : zMT[mX2_readAssignment]? = some ze_X2_readAssignment := rfl
theorem zat_X2_readRest : zMT[mX2_readRest]? = some ze_X2_readRest := rfl
theorem zat_X2_readFirst : zMT[mX2_readFirst]? = some ze_X2_readFirst := rfl
theorem zat_X2_readSecond : zMT[mX2_readSecond]? = some ze_X2_readSecond := rfl
theorem zat_X2_readX : zMT[mX2_readX]? = some ze_X2_readX := rfl
theorem zat_X2_readPart : zMT[mX2_readPart]? = some ze_X2_readPart := rfl
theorem zat_X2_readTerm : zMT[mX2_readTerm]? = some ze_X2_readTerm := rfl
theorem zat_X2_readFactor : zMT[mX2_readFactor]? = some ze_X2_readFactor := rfl
theorem zat_X3_restart : zMT[mX3_restart]? = some ze_X3_restart := rfl
theorem zat_X3_copyFrom : zMT[mX3_copyFrom]? = some ze_X3_copyFrom := rfl
theorem zat_X3_get : zMT[mX3_get]? = some ze_X3_get := rfl
theorem zat_X3_set : zMT[mX3_set]? = some ze_X3_set := rfl
theorem zat_X4_catchUp : zMT[mX4_catchUp]? = some ze_X4_catchUp := rfl
theorem zat_X4_addDecision : zMT[mX4_addDecision]? = some ze_X4_addDecision := rfl
theorem zat_X4_runDecision : zMT[mX4_runDecision]? = some ze_X4_runDecision := rfl
theorem zat_X4_turn : zMT[mX4_turn]? = some ze_X4_turn := rfl
theorem zat_X4_finish : zMT[mX4_finish]? = some ze_X4_finish := rfl
theorem zat_X4_order : zMT[mX4_order]? = some ze_X4_order := rfl
theorem zat_X4_stop : zMT[mX4_stop]? = some ze_X4_stop := rfl
theorem zat_X4_patch : zMT[mX4_patch]? = some ze_X4_patch := rfl
theorem zat_X4_want : zMT[mX4_want]? = some ze_X4_want := rfl
theorem zat_X4_differ : zMT[mX4_differ]? = some ze_X4_differ := rfl
theorem zat_X4_waitFor : zMT[mX4_waitFor]? = some ze_X4_waitFor := rfl
theorem zat_X4_waitForAny : zMT[mX4_waitForAny]? = some ze_X4_waitForAny := rfl
theorem zat_X4_takeSignal : zMT[mX4_takeSignal]? = some ze_X4_takeSignal := rfl
theorem zat_X4_endOf : zMT[mX4_endOf]? = some ze_X4_endOf := rfl
theorem zat_X4_workOut : zMT[mX4_workOut]? = some ze_X4_workOut := rfl
theorem zat_X4_work : zMT[mX4_work]? = some ze_X4_work := rfl
theorem zat_X4_join : zMT[mX4_join]? = some ze_X4_join := rfl
theorem zat_X4_push : zMT[mX4_push]? = some ze_X4_push := rfl
theorem zat_X4_pop : zMT[mX4_pop]? = some ze_X4_pop := rfl
theorem zat_X5_put : zMT[mX5_put]? = some ze_X5_put := rfl
theorem zat_X5_wipe : zMT[mX5_wipe]? = some ze_X5_wipe := rfl
theorem zat_X5_length : zMT[mX5_length]? = some ze_X5_length := rfl
theorem zat_X5_at : zMT[mX5_at]? = some ze_X5_at := rfl
theorem zat_X5_byteOf : zMT[mX5_byteOf]? = some ze_X5_byteOf := rfl
theorem zat_X6_scan : zMT[mX6_scan]? = some ze_X6_scan := rfl
theorem zat_X6_kind : zMT[mX6_kind]? = some ze_X6_kind := rfl
theorem zat_X6_place : zMT[mX6_place]? = some ze_X6_place := rfl
theorem zat_X6_value : zMT[mX6_value]? = some ze_X6_value := rfl
theorem zat_X6_skip : zMT[mX6_skip]? = some ze_X6_skip := rfl
theorem zat_X6_take : zMT[mX6_take]? = some ze_X6_take := rfl
theorem zat_X6_isWord : zMT[mX6_isWord]? = some ze_X6_isWord := rfl
theorem zat_X6_add : zMT[mX6_add]? = some ze_X6_add := rfl
theorem zat_X6_addFrom : zMT[mX6_addFrom]? = some ze_X6_addFrom := rfl
theorem zat_X6_addName : zMT[mX6_addName]? = some ze_X6_addName := rfl
theorem zat_X6_addNumber : zMT[mX6_addNumber]? = some ze_X6_addNumber := rfl
theorem zat_X6_isStart : zMT[mX6_isStart]? = some ze_X6_isStart := rfl
theorem zat_X6_isLetter : zMT[mX6_isLetter]? = some ze_X6_isLetter := rfl
theorem zat_X6_isDigit : zMT[mX6_isDigit]? = some ze_X6_isDigit := rfl
theorem zat_X6_sortOfWord : zMT[mX6_sortOfWord]? = some ze_X6_sortOfWord := rfl
theorem zat_X6_spells : zMT[mX6_spells]? = some ze_X6_spells := rfl
theorem zat_X7_type : zMT[mX7_type]? = some ze_X7_type := rfl
theorem zat_X7_program : zMT[mX7_program]? = some ze_X7_program := rfl
theorem zat_X7_fault : zMT[mX7_fault]? = some ze_X7_fault := rfl
theorem zat_X7_decide : zMT[mX7_decide]? = some ze_X7_decide := rfl
theorem zat_X7_refused : zMT[mX7_refused]? = some ze_X7_refused := rfl
theorem zat_X7_differs : zMT[mX7_differs]? = some ze_X7_differs := rfl
theorem zat_X7_happen : zMT[mX7_happen]? = some ze_X7_happen := rfl
theorem zat_X7_crash : zMT[mX7_crash]? = some ze_X7_crash := rfl
theorem zat_X7_clear : zMT[mX7_clear]? = some ze_X7_clear := rfl
theorem zat_X7_event : zMT[mX7_event]? = some ze_X7_event := rfl
theorem zat_X7_register : zMT[mX7_register]? = some ze_X7_register := rfl
theorem zat_X7_total : zMT[mX7_total]? = some ze_X7_total := rfl
theorem zat_X8_thrown : zMT[mX8_thrown]? = some ze_X8_thrown := rfl
theorem zat_X8_raise : zMT[mX8_raise]? = some ze_X8_raise := rfl
theorem zat_X8_type : zMT[mX8_type]? = some ze_X8_type := rfl
theorem zat_X8_see : zMT[mX8_see]? = some ze_X8_see := rfl
theorem zat_X8_isDigit : zMT[mX8_isDigit]? = some ze_X8_isDigit := rfl
theorem zat_X8_isLetter : zMT[mX8_isLetter]? = some ze_X8_isLetter := rfl
theorem zat_X8_isSign : zMT[mX8_isSign]? = some ze_X8_isSign := rfl
theorem zat_X8_token : zMT[mX8_token]? = some ze_X8_token := rfl
theorem zat_X8_spelt : zMT[mX8_spelt]? = some ze_X8_spelt := rfl
theorem zat_X8_nameOf : zMT[mX8_nameOf]? = some ze_X8_nameOf := rfl
theorem zat_X8_tokenize : zMT[mX8_tokenize]? = some ze_X8_tokenize := rfl
theorem zat_X8_refuse : zMT[mX8_refuse]? = some ze_X8_refuse := rfl
theorem zat_X8_is : zMT[mX8_is]? = some ze_X8_is := rfl
theorem zat_X8_takes : zMT[mX8_takes]? = some ze_X8_takes := rfl
theorem zat_X8_want : zMT[mX8_want]? = some ze_X8_want := rfl
theorem zat_X8_deeper : zMT[mX8_deeper]? = some ze_X8_deeper := rfl
theorem zat_X8_node : zMT[mX8_node]? = some ze_X8_node := rfl
theorem zat_X8_readX : zMT[mX8_readX]? = some ze_X8_readX := rfl
theorem zat_X8_readSum : zMT[mX8_readSum]? = some ze_X8_readSum := rfl
theorem zat_X8_readTerm : zMT[mX8_readTerm]? = some ze_X8_readTerm := rfl
theorem zat_X8_readFactor : zMT[mX8_readFactor]? = some ze_X8_readFactor := rfl
theorem zat_X8_readRegister : zMT[mX8_readRegister]? = some ze_X8_readRegister := rfl
theorem zat_X8_readNumber : zMT[mX8_readNumber]? = some ze_X8_readNumber := rfl
theorem zat_X8_readList : zMT[mX8_readList]? = some ze_X8_readList := rfl
theorem zat_X8_readStatement : zMT[mX8_readStatement]? = some ze_X8_readStatement := rfl
theorem zat_X8_readTurn : zMT[mX8_readTurn]? = some ze_X8_readTurn := rfl
theorem zat_X8_program : zMT[mX8_program]? = some ze_X8_program := rfl
theorem zat_X8_fault : zMT[mX8_fault]? = some ze_X8_fault := rfl
theorem zat_X8_work : zMT[mX8_work]? = some ze_X8_work := rfl
theorem zat_X8_isCommand : zMT[mX8_isCommand]? = some ze_X8_isCommand := rfl
theorem zat_X8_begins : zMT[mX8_begins]? = some ze_X8_begins := rfl
theorem zat_X8_append : zMT[mX8_append]? = some ze_X8_append := rfl
theorem zat_X8_goOn : zMT[mX8_goOn]? = some ze_X8_goOn := rfl
theorem zat_X8_step : zMT[mX8_step]? = some ze_X8_step := rfl
theorem zat_X8_command : zMT[mX8_command]? = some ze_X8_command := rfl
theorem zat_X8_isDone : zMT[mX8_isDone]? = some ze_X8_isDone := rfl
theorem zat_X8_hasSignal : zMT[mX8_hasSignal]? = some ze_X8_hasSignal := rfl
theorem zat_X8_isReady : zMT[mX8_isReady]? = some ze_X8_isReady := rfl
theorem zat_X8_list : zMT[mX8_list]? = some ze_X8_list := rfl
theorem zat_X8_turn : zMT[mX8_turn]? = some ze_X8_turn := rfl
theorem zat_X8_statement : zMT[mX8_statement]? = some ze_X8_statement := rfl
theorem zat_X8_patch : zMT[mX8_patch]? = some ze_X8_patch := rfl
theorem zat_X8_waits : zMT[mX8_waits]? = some ze_X8_waits := rfl
theorem zat_X8_stop : zMT[mX8_stop]? = some ze_X8_stop := rfl
theorem zat_X8_run : zMT[mX8_run]? = some ze_X8_run := rfl
theorem zat_X8_decide : zMT[mX8_decide]? = some ze_X8_decide := rfl
theorem zat_X8_refused : zMT[mX8_refused]? = some ze_X8_refused := rfl
theorem zat_X8_differs : zMT[mX8_differs]? = some ze_X8_differs := rfl
theorem zat_X8_isGone : zMT[mX8_isGone]? = some ze_X8_isGone := rfl
theorem zat_X8_happen : zMT[mX8_happen]? = some ze_X8_happen := rfl
theorem zat_X8_crash : zMT[mX8_crash]? = some ze_X8_crash := rfl
theorem zat_X8_clear : zMT[mX8_clear]? = some ze_X8_clear := rfl
theorem zat_X8_event : zMT[mX8_event]? = some ze_X8_event := rfl
theorem zat_X8_register : zMT[mX8_register]? = some ze_X8_register := rfl
theorem zat_X8_total : zMT[mX8_total]? = some ze_X8_total := rfl
/-- a slot is written -/
def wr (σ : zS) (c k : Nat) (v : Int32) : zS := zset σ c (upd (σ c) k v)
/-- the first n of cell c go to cell d -/
def wcp (σ : zS) (c d n : Nat) : zS := zset σ d (va_cpy (σ c) (σ d) 0 0 n)
set_option maxRecDepth 100000 in
theorem qX7_type_0_0 (d n : Nat) (σ : zS) (x3 : Int32) (x1 : Int64) : zexec zc_X7_type zu_X7_type (zM d) (n + 1) 0 [.inr (.inr 0), .inr (.inl x1), .inl x3] σ = zbI (zM d mX5_put [.inr (.inr 1), .inr (.inl x1), .inl x3] σ) (fun r1 s1 => if r1 = 0 ∨ r1 = 1 then some (1, r1, s1) else none) := rfl
set_option maxRecDepth 100000 in
theorem qX7_type_0 (d : Nat) (σ : zS) (x3 : Int32) (x1 : Int64) : zM (d + 1) mX7_type [.inr (.inr 0), .inr (.inl x1), .inl x3] σ = zexec zc_X7_type zu_X7_type (zM d) (999999 + 1) 0 [.inr (.inr 0), .inr (.inl x1), .inl x3] σ := zM_eq (zat_X7_type) rfl (Nat.le_of_ble_eq_true rfl)
set_option maxRecDepth 100000 in
theorem qX7_program_0_0 (d n : Nat) (σ : zS) : zexec zc_X7_program zu_X7_program (zM d) (n + 1) 0 [.inr (.inr 0)] σ = zbV (zM d mX6_scan [.inr (.inr 3), .inr (.inr 1)] σ) (fun s1 => zbV (zM d mX5_wipe [.inr (.inr 1)] s1) (fun s2 => zbI (zM d mX2_read [.inr (.inr 23)] s2) (fun r3 s3 => if r3 = (-1) then (zbV (zM d mX1_copyFrom [.inr (.inr 15), .inr (.inr 7)] (wr s3 0 10 r3)) (fun s4 => zbV (zM d mX3_restart [.inr (.inr 30)] (wr s4 0 9 1)) (fun s5 => zbI (zM d mX1_statementCount [.inr (.inr 15)] s5) (fun r6 s6 => some (1, r6, s6))))) else (some (2, 0, wr s3 0 10 r3))))) := rfl
set_option maxRecDepth 100000 in
theorem qX7_program_0 (d : Nat) (σ : zS) : zM (d + 1) mX7_program [.inr (.inr 0)] σ = zexec zc_X7_program zu_X7_program (zM d) (999999 + 1) 0 [.inr (.inr 0)] σ := zM_eq (zat_X7_program) rfl (Nat.le_of_ble_eq_true rfl)
set_option maxRecDepth 100000 in
theorem qX7_fault_0_0 (d n : Nat) (σ : zS) : zexec zc_X7_fault zu_X7_fault (zM d) (n + 1) 0 [.inr (.inr 0)] σ = some (1, σ 0 10, σ) := rfl
set_option maxRecDepth 100000 in
theorem qX7_fault_0 (d : Nat) (σ : zS) : zM (d + 1) mX7_fault [.inr (.inr 0)] σ = zexec zc_X7_fault zu_X7_fault (zM d) (999999 + 1) 0 [.inr (.inr 0)] σ := zM_eq (zat_X7_fault) rfl (Nat.le_of_ble_eq_true rfl)
set_option maxRecDepth 100000 in
theorem qX7_decide_0_0 (d n : Nat) (σ : zS) (x1 : Int32) : zexec zc_X7_decide zu_X7_decide (zM d) (n + 1) 0 [.inr (.inr 0), .inl x1] σ = zbI (zM d mX0_size [.inr (.inr 24)] σ) (fun r1 s1 => if (s1 0 9) = 0 then (some (2, 0, wr (wr s1 0 11 1) 0 12 (-1))) else (zbI (zM d mX4_catchUp [.inr (.inr 34)] s1) (fun r2 s2 => if r2 = 2 then (if r2 = 0 then (zbI (zM d mX4_addDecision [.inr (.inr 34), .inl x1] (wr (wr s2 0 11 r2) 0 12 (s2 34 12))) (fun r10 s10 => if r10 = 0 then (zbV (zM d mX3_copyFrom [.inr (.inr 32), .inr (.inr 30)] (wr s10 0 11 r10)) (fun s11 => zbI (zM d mX0_size [.inr (.inr 24)] s11) (fun r12 s12 => some (1, (r12 - r1) - 1, s12)))) else (some (2, 0, wr s10 0 11 r10)))) else (if r2 = 0 then (zbV (zM d mX3_copyFrom [.inr (.inr 32), .inr (.inr 30)] (wr (wr s2 0 11 r2) 0 12 (s2 34 12))) (fun s8 => zbI (zM d mX0_size [.inr (.inr 24)] s8) (fun r9 s9 => some (1, (r9 - r1) - 1, s9)))) else (some (2, 0, wr (wr s2 0 11 r2) 0 12 (s2 34 12))))) else (if r2 = 0 then (zbI (zM d mX4_addDecision [.inr (.inr 34), .inl x1] (wr (wr s2 0 11 r2) 0 12 (-1))) (fun r5 s5 => if r5 = 0 then (zbV (zM d mX3_copyFrom [.inr (.inr 32), .inr (.inr 30)] (wr s5 0 11 r5)) (fun s6 => zbI (zM d mX0_size [.inr (.inr 24)] s6) (fun r7 s7 => some (1, (r7 - r1) - 1, s7)))) else (some (2, 0, wr s5 0 11 r5)))) else (if r2 = 0 then (zbV (zM d mX3_copyFrom [.inr (.inr 32), .inr (.inr 30)] (wr (wr s2 0 11 r2) 0 12 (-1))) (fun s3 => zbI (zM d mX0_size [.inr (.inr 24)] s3) (fun r4 s4 => some (1, (r4 - r1) - 1, s4)))) else (some (2, 0, wr (wr s2 0 11 r2) 0 12 (-1)))))))) := rfl
set_option maxRecDepth 100000 in
theorem qX7_decide_0 (d : Nat) (σ : zS) (x1 : Int32) : zM (d + 1) mX7_decide [.inr (.inr 0), .inl x1] σ = zexec zc_X7_decide zu_X7_decide (zM d) (999999 + 1) 0 [.inr (.inr 0), .inl x1] σ := zM_eq (zat_X7_decide) rfl (Nat.le_of_ble_eq_true rfl)
set_option maxRecDepth 100000 in
theorem qX7_refused_0_0 (d n : Nat) (σ : zS) : zexec zc_X7_refused zu_X7_refused (zM d) (n + 1) 0 [.inr (.inr 0)] σ = some (1, σ 0 11, σ) := rfl
set_option maxRecDepth 100000 in
theorem qX7_refused_0 (d : Nat) (σ : zS) : zM (d + 1) mX7_refused [.inr (.inr 0)] σ = zexec zc_X7_refused zu_X7_refused (zM d) (999999 + 1) 0 [.inr (.inr 0)] σ := zM_eq (zat_X7_refused) rfl (Nat.le_of_ble_eq_true rfl)
set_option maxRecDepth 100000 in
theorem qX7_differs_0_0 (d n : Nat) (σ : zS) : zexec zc_X7_differs zu_X7_differs (zM d) (n + 1) 0 [.inr (.inr 0)] σ = some (1, σ 0 12, σ) := rfl
set_option maxRecDepth 100000 in
theorem qX7_differs_0 (d : Nat) (σ : zS) : zM (d + 1) mX7_differs [.inr (.inr 0)] σ = zexec zc_X7_differs zu_X7_differs (zM d) (999999 + 1) 0 [.inr (.inr 0)] σ := zM_eq (zat_X7_differs) rfl (Nat.le_of_ble_eq_true rfl)
set_option maxRecDepth 100000 in
theorem qX7_happen_0_0 (d n : Nat) (σ : zS) (x1 x2 x3 : Int32) : zexec zc_X7_happen zu_X7_happen (zM d) (n + 1) 0 [.inr (.inr 0), .inl x1, .inl x2, .inl x3] σ = zbI (zM d mX0_addOfOthers [.inr (.inr 24), .inl x1, .inl x2, .inl x3] σ) (fun r1 s1 => if r1 = 0 ∨ r1 = 1 then some (1, r1, s1) else none) := rfl
set_option maxRecDepth 100000 in
theorem qX7_happen_0 (d : Nat) (σ : zS) (x1 x2 x3 : Int32) : zM (d + 1) mX7_happen [.inr (.inr 0), .inl x1, .inl x2, .inl x3] σ = zexec zc_X7_happen zu_X7_happen (zM d) (999999 + 1) 0 [.inr (.inr 0), .inl x1, .inl x2, .inl x3] σ := zM_eq (zat_X7_happen) rfl (Nat.le_of_ble_eq_true rfl)
set_option maxRecDepth 100000 in
theorem qX7_crash_0_0 (d n : Nat) (σ : zS) : zexec zc_X7_crash zu_X7_crash (zM d) (n + 1) 0 [.inr (.inr 0)] σ = zbV (zM d mX3_restart [.inr (.inr 30)] σ) (fun s1 => some (0, 0, s1)) := rfl
set_option maxRecDepth 100000 in
theorem qX7_crash_0 (d : Nat) (σ : zS) : zM (d + 1) mX7_crash [.inr (.inr 0)] σ = zexec zc_X7_crash zu_X7_crash (zM d) (999999 + 1) 0 [.inr (.inr 0)] σ := zM_eq (zat_X7_crash) rfl (Nat.le_of_ble_eq_true rfl)
set_option maxRecDepth 100000 in
theorem qX7_clear_0_0 (d n : Nat) (σ : zS) : zexec zc_X7_clear zu_X7_clear (zM d) (n + 1) 0 [.inr (.inr 0)] σ = zbV (zM d mX0_wipe [.inr (.inr 24)] σ) (fun s1 => zbV (zM d mX3_restart [.inr (.inr 30)] s1) (fun s2 => zbV (zM d mX3_restart [.inr (.inr 32)] s2) (fun s3 => some (0, 0, s3)))) := rfl
set_option maxRecDepth 100000 in
theorem qX7_clear_0 (d : Nat) (σ : zS) : zM (d + 1) mX7_clear [.inr (.inr 0)] σ = zexec zc_X7_clear zu_X7_clear (zM d) (999999 + 1) 0 [.inr (.inr 0)] σ := zM_eq (zat_X7_clear) rfl (Nat.le_of_ble_eq_true rfl)
set_option maxRecDepth 100000 in
theorem qX7_event_0_0 (d n : Nat) (σ : zS) (x1 x2 : Int32) : zexec zc_X7_event zu_X7_event (zM d) (n + 1) 0 [.inr (.inr 0), .inl x1, .inl x2] σ = zbI (zM d mX0_holds [.inr (.inr 24), .inl x1] σ) (fun r1 s1 => if r1 = 0 then (some (2, 0, s1)) else (if x2 < 0 then (some (2, 0, s1)) else (if 2 < x2 then (some (2, 0, s1)) else (if x2 = 0 then (zbI (zM d mX0_kindAt [.inr (.inr 24), .inl x1] s1) (fun r4 s4 => some (1, r4, s4))) else (if x2 = 1 then (zbI (zM d mX0_refAt [.inr (.inr 24), .inl x1] s1) (fun r3 s3 => some (1, r3, s3))) else (zbI (zM d mX0_valueAt [.inr (.inr 24), .inl x1] s1) (fun r2 s2 => some (1, r2, s2)))))))) := rfl
set_option maxRecDepth 100000 in
theorem qX7_event_0 (d : Nat) (σ : zS) (x1 x2 : Int32) : zM (d + 1) mX7_event [.inr (.inr 0), .inl x1, .inl x2] σ = zexec zc_X7_event zu_X7_event (zM d) (999999 + 1) 0 [.inr (.inr 0), .inl x1, .inl x2] σ := zM_eq (zat_X7_event) rfl (Nat.le_of_ble_eq_true rfl)
set_option maxRecDepth 100000 in
theorem qX7_register_0_0 (d n : Nat) (σ : zS) (x1 : Int32) : zexec zc_X7_register zu_X7_register (zM d) (n + 1) 0 [.inr (.inr 0), .inl x1] σ = if x1 < 0 then (some (2, 0, σ)) else (if x1 < 8 then (zbI (zM d mX3_get [.inr (.inr 32), .inl x1] σ) (fun r1 s1 => some (1, r1, s1))) else (some (2, 0, σ))) := rfl
set_option maxRecDepth 100000 in
theorem qX7_register_0 (d : Nat) (σ : zS) (x1 : Int32) : zM (d + 1) mX7_register [.inr (.inr 0), .inl x1] σ = zexec zc_X7_register zu_X7_register (zM d) (999999 + 1) 0 [.inr (.inr 0), .inl x1] σ := zM_eq (zat_X7_register) rfl (Nat.le_of_ble_eq_true rfl)
set_option maxRecDepth 100000 in
theorem qX7_total_0_0 (d n : Nat) (σ : zS) (x1 : Int32) : zexec zc_X7_total zu_X7_total (zM d) (n + 1) 0 [.inr (.inr 0), .inl x1] σ = if x1 = 0 then (zbI (zM d mX0_size [.inr (.inr 24)] σ) (fun r3 s3 => some (1, r3, s3))) else (if x1 = 1 then (zbI (zM d mX0_count [.inr (.inr 24), .inl 1, .inl 4] σ) (fun r2 s2 => some (1, r2, s2))) else (if x1 = 2 then (zbI (zM d mX0_count [.inr (.inr 24), .inl 0, .inl 0] σ) (fun r1 s1 => some (1, r1, s1))) else (if x1 = 3 then (if (σ 32 5) = 0 then (some (1, 0, σ)) else (some (1, 1, σ))) else (if x1 = 4 then (some (1, σ 32 3, σ)) else (if x1 = 5 then (some (1, σ 32 2, σ)) else (some (1, (-1), σ))))))) := rfl
set_option maxRecDepth 100000 in
theorem qX7_total_0 (d : Nat) (σ : zS) (x1 : Int32) : zM (d + 1) mX7_total [.inr (.inr 0), .inl x1] σ = zexec zc_X7_total zu_X7_total (zM d) (999999 + 1) 0 [.inr (.inr 0), .inl x1] σ := zM_eq (zat_X7_total) rfl (Nat.le_of_ble_eq_true rfl)
set_option maxRecDepth 100000 in
theorem qX5_put_1_0 (d n : Nat) (σ : zS) (x3 : Int32) (x1 : Int64) : zexec zc_X5_put zu_X5_put (zM d) (n + 1) 0 [.inr (.inr 1), .inr (.inl x1), .inl x3] σ = if x3 < 1 then (some (1, 0, σ)) else (if 8 < x3 then (some (1, 0, σ)) else (if (400 - (σ 1 1)) < x3 then (some (1, 0, σ)) else (zexec zc_X5_put zu_X5_put (zM d) n 28 [.inr (.inr 1), .inr (.inl x1), .inl x3, .inl 0] σ))) := rfl
set_option maxRecDepth 100000 in
theorem qX5_put_1 (d : Nat) (σ : zS) (x3 : Int32) (x1 : Int64) : zM (d + 1) mX5_put [.inr (.inr 1), .inr (.inl x1), .inl x3] σ = zexec zc_X5_put zu_X5_put (zM d) (999999 + 1) 0 [.inr (.inr 1), .inr (.inl x1), .inl x3] σ := zM_eq (zat_X5_put) rfl (Nat.le_of_ble_eq_true rfl)
set_option maxRecDepth 100000 in
theorem qX5_put_1_28 (d n : Nat) (σ : zS) (x3 x4 : Int32) (x1 : Int64) : zexec zc_X5_put zu_X5_put (zM d) (n + 1) 28 [.inr (.inr 1), .inr (.inl x1), .inl x3, .inl x4] σ = if x4 < x3 then (zbI (zM d mX5_byteOf [.inr (.inl x1), .inl x4] σ) (fun r1 s1 => if r1 < 32 then (some (1, 0, s1)) else (if 126 < r1 then (some (1, 0, s1)) else (zexec zc_X5_put zu_X5_put (zM d) n 28 [.inr (.inr 1), .inr (.inl x1), .inl x3, .inl (x4 + 1)] s1)))) else (zexec zc_X5_put zu_X5_put (zM d) n 69 [.inr (.inr 1), .inr (.inl x1), .inl (x3 - 1)] σ) := rfl
set_option maxRecDepth 100000 in
theorem qX5_put_1_69 (d n : Nat) (σ : zS) (x4 : Int32) (x1 : Int64) : zexec zc_X5_put zu_X5_put (zM d) (n + 1) 69 [.inr (.inr 1), .inr (.inl x1), .inl x4] σ = if x4 < 0 then (some (1, 1, σ)) else (if (σ 1 1) < 400 then (zbI (zM d mX5_byteOf [.inr (.inl x1), .inl x4] σ) (fun r1 s1 => if (σ 1 1) < 0 ∨ 400 ≤ (σ 1 1).toNatClampNeg then none else (zexec zc_X5_put zu_X5_put (zM d) n 69 [.inr (.inr 1), .inr (.inl x1), .inl (x4 + (-1))] (wr (wr s1 2 ((σ 1 1).toNatClampNeg) (vp_nar .char ((r1.toUInt32 % 65536).toInt32))) 1 1 ((s1 1 1) + 1))))) else (some (1, 1, σ))) := rfl
set_option maxRecDepth 100000 in
theorem qX6_scan_3_1_0 (d n : Nat) (σ : zS) : zexec zc_X6_scan zu_X6_scan (zM d) (n + 1) 0 [.inr (.inr 3), .inr (.inr 1)] σ = zexec zc_X6_scan zu_X6_scan (zM d) n 12 [.inr (.inr 3), .inr (.inr 1), .inl 0] (wr (wr σ 3 3 0) 3 4 0) := rfl
set_option maxRecDepth 100000 in
theorem qX6_scan_3_1 (d : Nat) (σ : zS) : zM (d + 1) mX6_scan [.inr (.inr 3), .inr (.inr 1)] σ = zexec zc_X6_scan zu_X6_scan (zM d) (999999 + 1) 0 [.inr (.inr 3), .inr (.inr 1)] σ := zM_eq (zat_X6_scan) rfl (Nat.le_of_ble_eq_true rfl)
set_option maxRecDepth 100000 in
theorem qX6_scan_3_1_12 (d n : Nat) (σ : zS) (x2 : Int32) : zexec zc_X6_scan zu_X6_scan (zM d) (n + 1) 12 [.inr (.inr 3), .inr (.inr 1), .inl x2] σ = zbI (zM d mX5_length [.inr (.inr 1)] σ) (fun r1 s1 => if x2 < r1 then (zbI (zM d mX6_isStart [.inr (.inr 1), .inl x2] s1) (fun r4 s4 => if r4 = 0 then (zexec zc_X6_scan zu_X6_scan (zM d) n 12 [.inr (.inr 3), .inr (.inr 1), .inl (x2 + 1)] s4) else (zbV (zM d mX6_addFrom [.inr (.inr 3), .inr (.inr 1), .inl x2] s4) (fun s5 => zexec zc_X6_scan zu_X6_scan (zM d) n 12 [.inr (.inr 3), .inr (.inr 1), .inl (x2 + 1)] s5)))) else (zbI (zM d mX5_length [.inr (.inr 1)] s1) (fun r2 s2 => zbV (zM d mX6_add [.inr (.inr 3), .inl 0, .inl r2, .inl 0] s2) (fun s3 => some (0, 0, s3))))) := rfl
set_option maxRecDepth 100000 in
theorem qX5_wipe_1_0 (d n : Nat) (σ : zS) : zexec zc_X5_wipe zu_X5_wipe (zM d) (n + 1) 0 [.inr (.inr 1)] σ = some (0, 0, wr σ 1 1 0) := rfl
set_option maxRecDepth 100000 in
theorem qX5_wipe_1 (d : Nat) (σ : zS) : zM (d + 1) mX5_wipe [.inr (.inr 1)] σ = zexec zc_X5_wipe zu_X5_wipe (zM d) (999999 + 1) 0 [.inr (.inr 1)] σ := zM_eq (zat_X5_wipe) rfl (Nat.le_of_ble_eq_true rfl)
set_option maxRecDepth 100000 in
theorem qX2_read_23_0 (d n : Nat) (σ : zS) : zexec zc_X2_read zu_X2_read (zM d) (n + 1) 0 [.inr (.inr 23)] σ = zbV (zM d mX1_wipe [.inr (.inr 7)] σ) (fun s1 => zbI (zM d mX2_readStatements [.inr (.inr 23), .inl 0] s1) (fun r2 s2 => if r2 = 0 then (zbI (zM d mX6_place [.inr (.inr 3)] s2) (fun r3 s3 => some (1, r3, s3))) else (zbI (zM d mX6_kind [.inr (.inr 3)] s2) (fun r4 s4 => if r4 = 0 then (some (1, (-1), s4)) else (zbI (zM d mX6_place [.inr (.inr 3)] s4) (fun r5 s5 => some (1, r5, s5))))))) := rfl
set_option maxRecDepth 100000 in
theorem qX2_read_23 (d : Nat) (σ : zS) : zM (d + 1) mX2_read [.inr (.inr 23)] σ = zexec zc_X2_read zu_X2_read (zM d) (999999 + 1) 0 [.inr (.inr 23)] σ := zM_eq (zat_X2_read) rfl (Nat.le_of_ble_eq_true rfl)
set_option maxRecDepth 100000 in
theorem qX1_copyFrom_15_7_0 (d n : Nat) (σ : zS) : zexec zc_X1_copyFrom zu_X1_copyFrom (zM d) (n + 1) 0 [.inr (.inr 15), .inr (.inr 7)] σ = some (0, 0, wr (wr (wr (wcp (wcp (wcp (wcp (wcp (wcp (wcp σ 8 16 200) 9 17 200) 10 18 200) 11 19 200) 12 20 200) 13 21 400) 14 22 400) 15 7 (σ 7 7)) 15 8 (σ 7 8)) 15 9 (σ 7 9)) := rfl
set_option maxRecDepth 100000 in
theorem qX1_copyFrom_15_7 (d : Nat) (σ : zS) : zM (d + 1) mX1_copyFrom [.inr (.inr 15), .inr (.inr 7)] σ = zexec zc_X1_copyFrom zu_X1_copyFrom (zM d) (999999 + 1) 0 [.inr (.inr 15), .inr (.inr 7)] σ := zM_eq (zat_X1_copyFrom) rfl (Nat.le_of_ble_eq_true rfl)
set_option maxRecDepth 100000 in
theorem qX3_restart_30_0 (d n : Nat) (σ : zS) : zexec zc_X3_restart zu_X3_restart (zM d) (n + 1) 0 [.inr (.inr 30)] σ = zexec zc_X3_restart zu_X3_restart (zM d) n 2 [.inr (.inr 30), .inl 0] σ := rfl
set_option maxRecDepth 100000 in
theorem qX3_restart_30 (d : Nat) (σ : zS) : zM (d + 1) mX3_restart [.inr (.inr 30)] σ = zexec zc_X3_restart zu_X3_restart (zM d) (999999 + 1) 0 [.inr (.inr 30)] σ := zM_eq (zat_X3_restart) rfl (Nat.le_of_ble_eq_true rfl)
set_option maxRecDepth 100000 in
theorem qX3_restart_30_2 (d n : Nat) (σ : zS) (x1 : Int32) : zexec zc_X3_restart zu_X3_restart (zM d) (n + 1) 2 [.inr (.inr 30), .inl x1] σ = if x1 < 8 then (if x1 < 0 ∨ 8 ≤ x1.toNatClampNeg then none else (zexec zc_X3_restart zu_X3_restart (zM d) n 2 [.inr (.inr 30), .inl (x1 + 1)] (wr σ 31 x1.toNatClampNeg 0))) else (some (0, 0, wr (wr (wr (wr (wr σ 30 1 0) 30 2 0) 30 3 0) 30 4 0) 30 5 0)) := rfl
set_option maxRecDepth 100000 in
theorem qX1_statementCount_15_0 (d n : Nat) (σ : zS) : zexec zc_X1_statementCount zu_X1_statementCount (zM d) (n + 1) 0 [.inr (.inr 15)] σ = some (1, (σ 15 7) - (σ 15 9), σ) := rfl
set_option maxRecDepth 100000 in
theorem qX1_statementCount_15 (d : Nat) (σ : zS) : zM (d + 1) mX1_statementCount [.inr (.inr 15)] σ = zexec zc_X1_statementCount zu_X1_statementCount (zM d) (999999 + 1) 0 [.inr (.inr 15)] σ := zM_eq (zat_X1_statementCount) rfl (Nat.le_of_ble_eq_true rfl)
set_option maxRecDepth 100000 in
theorem qX0_size_24_0 (d n : Nat) (σ : zS) : zexec zc_X0_size zu_X0_size (zM d) (n + 1) 0 [.inr (.inr 24)] σ = some (1, σ 24 5, σ) := rfl
set_option maxRecDepth 100000 in
theorem qX0_size_24 (d : Nat) (σ : zS) : zM (d + 1) mX0_size [.inr (.inr 24)] σ = zexec zc_X0_size zu_X0_size (zM d) (999999 + 1) 0 [.inr (.inr 24)] σ := zM_eq (zat_X0_size) rfl (Nat.le_of_ble_eq_true rfl)
set_option maxRecDepth 100000 in
theorem qX4_catchUp_34_0 (d n : Nat) (σ : zS) : zexec zc_X4_catchUp zu_X4_catchUp (zM d) (n + 1) 0 [.inr (.inr 34)] σ = zexec zc_X4_catchUp zu_X4_catchUp (zM d) n 8 [.inr (.inr 34), .inl (σ 30 4)] σ := rfl
set_option maxRecDepth 100000 in
theorem qX4_catchUp_34 (d : Nat) (σ : zS) : zM (d + 1) mX4_catchUp [.inr (.inr 34)] σ = zexec zc_X4_catchUp zu_X4_catchUp (zM d) (999999 + 1) 0 [.inr (.inr 34)] σ := zM_eq (zat_X4_catchUp) rfl (Nat.le_of_ble_eq_true rfl)
set_option maxRecDepth 100000 in
theorem qX4_catchUp_34_8 (d n : Nat) (σ : zS) (x1 : Int32) : zexec zc_X4_catchUp zu_X4_catchUp (zM d) (n + 1) 8 [.inr (.inr 34), .inl x1] σ = zbI (zM d mX0_size [.inr (.inr 24)] σ) (fun r1 s1 => if x1 < r1 then (zbI (zM d mX0_kindAt [.inr (.inr 24), .inl x1] s1) (fun r3 s3 => if r3 = 0 then (zbI (zM d mX0_decisionEnd [.inr (.inr 24), .inl x1] s3) (fun r4 s4 => zbV (zM d mX4_runDecision [.inr (.inr 34), .inl x1, .inl r4, .inl 0] s4) (fun s5 => if (s5 34 11) = 0 then (zexec zc_X4_catchUp zu_X4_catchUp (zM d) n 8 [.inr (.inr 34), .inl (x1 + 1)] s5) else (zbV (zM d mX3_restart [.inr (.inr 30)] s5) (fun s6 => some (1, s6 34 11, s6)))))) else (zexec zc_X4_catchUp zu_X4_catchUp (zM d) n 8 [.inr (.inr 34), .inl (x1 + 1)] s3))) else (zbI (zM d mX0_size [.inr (.inr 24)] s1) (fun r2 s2 => some (1, 0, wr s2 30 4 r2)))) := rfl
set_option maxRecDepth 100000 in
theorem qX3_copyFrom_32_30_0 (d n : Nat) (σ : zS) : zexec zc_X3_copyFrom zu_X3_copyFrom (zM d) (n + 1) 0 [.inr (.inr 32), .inr (.inr 30)] σ = if (σ 30 5) = 0 ∨ (σ 30 5) = 1 then (some (0, 0, wr (wr (wr (wr (wr (wcp σ 31 33 8) 32 1 (σ 30 1)) 32 2 (σ 30 2)) 32 3 (σ 30 3)) 32 4 (σ 30 4)) 32 5 (σ 30 5))) else none := rfl
set_option maxRecDepth 100000 in
theorem qX3_copyFrom_32_30 (d : Nat) (σ : zS) : zM (d + 1) mX3_copyFrom [.inr (.inr 32), .inr (.inr 30)] σ = zexec zc_X3_copyFrom zu_X3_copyFrom (zM d) (999999 + 1) 0 [.inr (.inr 32), .inr (.inr 30)] σ := zM_eq (zat_X3_copyFrom) rfl (Nat.le_of_ble_eq_true rfl)
set_option maxRecDepth 100000 in
theorem qX4_addDecision_34_0 (d n : Nat) (σ : zS) (x1 : Int32) : zexec zc_X4_addDecision zu_X4_addDecision (zM d) (n + 1) 0 [.inr (.inr 34), .inl x1] σ = if (σ 30 5) = 0 then (zbI (zM d mX0_size [.inr (.inr 24)] σ) (fun r1 s1 => zbI (zM d mX0_add [.inr (.inr 24), .inl 0, .inl 0, .inl x1] s1) (fun r2 s2 => if r2 = 0 then (some (1, 5, s2)) else (zbV (zM d mX3_copyFrom [.inr (.inr 35), .inr (.inr 30)] s2) (fun s3 => zbV (zM d mX4_runDecision [.inr (.inr 34), .inl r1, .inl 200, .inl 1] s3) (fun s4 => if (s4 34 11) = 0 then (zbI (zM d mX0_size [.inr (.inr 24)] s4) (fun r7 s7 => some (1, s7 34 11, wr s7 30 4 r7))) else (zbV (zM d mX3_copyFrom [.inr (.inr 30), .inr (.inr 35)] s4) (fun s5 => zbV (zM d mX0_dropDecision [.inr (.inr 24), .inl r1] s5) (fun s6 => some (1, s6 34 11, s6)))))))))) else (some (1, 4, σ)) := rfl
set_option maxRecDepth 100000 in
theorem qX4_addDecision_34 (d : Nat) (σ : zS) (x1 : Int32) : zM (d + 1) mX4_addDecision [.inr (.inr 34), .inl x1] σ = zexec zc_X4_addDecision zu_X4_addDecision (zM d) (999999 + 1) 0 [.inr (.inr 34), .inl x1] σ := zM_eq (zat_X4_addDecision) rfl (Nat.le_of_ble_eq_true rfl)
set_option maxRecDepth 100000 in
theorem qX0_addOfOthers_24_0 (d n : Nat) (σ : zS) (x1 x2 x3 : Int32) : zexec zc_X0_addOfOthers zu_X0_addOfOthers (zM d) (n + 1) 0 [.inr (.inr 24), .inl x1, .inl x2, .inl x3] σ = zbI (zM d mX0_fits [.inr (.inr 24), .inl x1, .inl x2, .inl x3] σ) (fun r1 s1 => if r1 = 0 then (some (1, 0, s1)) else (zbI (zM d mX0_add [.inr (.inr 24), .inl x1, .inl x2, .inl x3] s1) (fun r2 s2 => if r2 = 0 then (some (1, 0, s2)) else (if x1 = 8 then (zbV (zM d mX0_addSignal [.inr (.inr 24), .inl (σ 24 5)] s2) (fun s4 => some (1, 1, s4))) else (zbI (zM d mX0_holds [.inr (.inr 24), .inl x2] s2) (fun r3 s3 => if r3 = 0 then (some (1, 1, s3)) else (if x2 < 0 ∨ 200 ≤ x2.toNatClampNeg then none else (some (1, 1, wr s3 28 x2.toNatClampNeg (σ 24 5)))))))))) := rfl
set_option maxRecDepth 100000 in
theorem qX0_addOfOthers_24 (d : Nat) (σ : zS) (x1 x2 x3 : Int32) : zM (d + 1) mX0_addOfOthers [.inr (.inr 24), .inl x1, .inl x2, .inl x3] σ = zexec zc_X0_addOfOthers zu_X0_addOfOthers (zM d) (999999 + 1) 0 [.inr (.inr 24), .inl x1, .inl x2, .inl x3] σ := zM_eq (zat_X0_addOfOthers) rfl (Nat.le_of_ble_eq_true rfl)
set_option maxRecDepth 100000 in
theorem qX0_wipe_24_0 (d n : Nat) (σ : zS) : zexec zc_X0_wipe zu_X0_wipe (zM d) (n + 1) 0 [.inr (.inr 24)] σ = some (0, 0, wr (wr σ 24 5 0) 24 6 0) := rfl
set_option maxRecDepth 100000 in
theorem qX0_wipe_24 (d : Nat) (σ : zS) : zM (d + 1) mX0_wipe [.inr (.inr 24)] σ = zexec zc_X0_wipe zu_X0_wipe (zM d) (999999 + 1) 0 [.inr (.inr 24)] σ := zM_eq (zat_X0_wipe) rfl (Nat.le_of_ble_eq_true rfl)
set_option maxRecDepth 100000 in
theorem qX3_restart_32_0 (d n : Nat) (σ : zS) : zexec zc_X3_restart zu_X3_restart (zM d) (n + 1) 0 [.inr (.inr 32)] σ = zexec zc_X3_restart zu_X3_restart (zM d) n 2 [.inr (.inr 32), .inl 0] σ := rfl
set_option maxRecDepth 100000 in
theorem qX3_restart_32 (d : Nat) (σ : zS) : zM (d + 1) mX3_restart [.inr (.inr 32)] σ = zexec zc_X3_restart zu_X3_restart (zM d) (999999 + 1) 0 [.inr (.inr 32)] σ := zM_eq (zat_X3_restart) rfl (Nat.le_of_ble_eq_true rfl)
set_option maxRecDepth 100000 in
theorem qX3_restart_32_2 (d n : Nat) (σ : zS) (x1 : Int32) : zexec zc_X3_restart zu_X3_restart (zM d) (n + 1) 2 [.inr (.inr 32), .inl x1] σ = if x1 < 8 then (if x1 < 0 ∨ 8 ≤ x1.toNatClampNeg then none else (zexec zc_X3_restart zu_X3_restart (zM d) n 2 [.inr (.inr 32), .inl (x1 + 1)] (wr σ 33 x1.toNatClampNeg 0))) else (some (0, 0, wr (wr (wr (wr (wr σ 32 1 0) 32 2 0) 32 3 0) 32 4 0) 32 5 0)) := rfl
set_option maxRecDepth 100000 in
theorem qX0_holds_24_0 (d n : Nat) (σ : zS) (x1 : Int32) : zexec zc_X0_holds zu_X0_holds (zM d) (n + 1) 0 [.inr (.inr 24), .inl x1] σ = if x1 < 0 then (some (1, 0, σ)) else (if x1 < (σ 24 5) then (some (1, 1, σ)) else (some (1, 0, σ))) := rfl
set_option maxRecDepth 100000 in
theorem qX0_holds_24 (d : Nat) (σ : zS) (x1 : Int32) : zM (d + 1) mX0_holds [.inr (.inr 24), .inl x1] σ = zexec zc_X0_holds zu_X0_holds (zM d) (999999 + 1) 0 [.inr (.inr 24), .inl x1] σ := zM_eq (zat_X0_holds) rfl (Nat.le_of_ble_eq_true rfl)
set_option maxRecDepth 100000 in
theorem qX0_valueAt_24_0 (d n : Nat) (σ : zS) (x1 : Int32) : zexec zc_X0_valueAt zu_X0_valueAt (zM d) (n + 1) 0 [.inr (.inr 24), .inl x1] σ = zbI (zM d mX0_holds [.inr (.inr 24), .inl x1] σ) (fun r1 s1 => if r1 = 0 then (some (1, 0, s1)) else (if x1 < 0 ∨ 200 ≤ x1.toNatClampNeg then none else (some (1, s1 27 x1.toNatClampNeg, s1)))) := rfl
set_option maxRecDepth 100000 in
theorem qX0_valueAt_24 (d : Nat) (σ : zS) (x1 : Int32) : zM (d + 1) mX0_valueAt [.inr (.inr 24), .inl x1] σ = zexec zc_X0_valueAt zu_X0_valueAt (zM d) (999999 + 1) 0 [.inr (.inr 24), .inl x1] σ := zM_eq (zat_X0_valueAt) rfl (Nat.le_of_ble_eq_true rfl)
set_option maxRecDepth 100000 in
theorem qX0_refAt_24_0 (d n : Nat) (σ : zS) (x1 : Int32) : zexec zc_X0_refAt zu_X0_refAt (zM d) (n + 1) 0 [.inr (.inr 24), .inl x1] σ = zbI (zM d mX0_holds [.inr (.inr 24), .inl x1] σ) (fun r1 s1 => if r1 = 0 then (some (1, 0, s1)) else (if x1 < 0 ∨ 200 ≤ x1.toNatClampNeg then none else (some (1, s1 26 x1.toNatClampNeg, s1)))) := rfl
set_option maxRecDepth 100000 in
theorem qX0_refAt_24 (d : Nat) (σ : zS) (x1 : Int32) : zM (d + 1) mX0_refAt [.inr (.inr 24), .inl x1] σ = zexec zc_X0_refAt zu_X0_refAt (zM d) (999999 + 1) 0 [.inr (.inr 24), .inl x1] σ := zM_eq (zat_X0_refAt) rfl (Nat.le_of_ble_eq_true rfl)
set_option maxRecDepth 100000 in
theorem qX0_kindAt_24_0 (d n : Nat) (σ : zS) (x1 : Int32) : zexec zc_X0_kindAt zu_X0_kindAt (zM d) (n + 1) 0 [.inr (.inr 24), .inl x1] σ = zbI (zM d mX0_holds [.inr (.inr 24), .inl x1] σ) (fun r1 s1 => if r1 = 0 then (some (1, (-1), s1)) else (if x1 < 0 ∨ 200 ≤ x1.toNatClampNeg then none else (some (1, s1 25 x1.toNatClampNeg, s1)))) := rfl
set_option maxRecDepth 100000 in
theorem qX0_kindAt_24 (d : Nat) (σ : zS) (x1 : Int32) : zM (d + 1) mX0_kindAt [.inr (.inr 24), .inl x1] σ = zexec zc_X0_kindAt zu_X0_kindAt (zM d) (999999 + 1) 0 [.inr (.inr 24), .inl x1] σ := zM_eq (zat_X0_kindAt) rfl (Nat.le_of_ble_eq_true rfl)
set_option maxRecDepth 100000 in
theorem qX3_get_32_0 (d n : Nat) (σ : zS) (x1 : Int32) : zexec zc_X3_get zu_X3_get (zM d) (n + 1) 0 [.inr (.inr 32), .inl x1] σ = if x1 < 0 then (some (1, 0, σ)) else (if x1 < 8 then (if x1 < 0 ∨ 8 ≤ x1.toNatClampNeg then none else (some (1, σ 33 x1.toNatClampNeg, σ))) else (some (1, 0, σ))) := rfl
set_option maxRecDepth 100000 in
theorem qX3_get_32 (d : Nat) (σ : zS) (x1 : Int32) : zM (d + 1) mX3_get [.inr (.inr 32), .inl x1] σ = zexec zc_X3_get zu_X3_get (zM d) (999999 + 1) 0 [.inr (.inr 32), .inl x1] σ := zM_eq (zat_X3_get) rfl (Nat.le_of_ble_eq_true rfl)
set_option maxRecDepth 100000 in
theorem qX0_count_24_0 (d n : Nat) (σ : zS) (x1 x2 : Int32) : zexec zc_X0_count zu_X0_count (zM d) (n + 1) 0 [.inr (.inr 24), .inl x1, .inl x2] σ = zexec zc_X0_count zu_X0_count (zM d) n 5 [.inr (.inr 24), .inl x1, .inl x2, .inl 0, .inl 0] σ := rfl
set_option maxRecDepth 100000 in
theorem qX0_count_24 (d : Nat) (σ : zS) (x1 x2 : Int32) : zM (d + 1) mX0_count [.inr (.inr 24), .inl x1, .inl x2] σ = zexec zc_X0_count zu_X0_count (zM d) (999999 + 1) 0 [.inr (.inr 24), .inl x1, .inl x2] σ := zM_eq (zat_X0_count) rfl (Nat.le_of_ble_eq_true rfl)
set_option maxRecDepth 100000 in
theorem qX0_count_24_5 (d n : Nat) (σ : zS) (x1 x2 x3 x4 : Int32) : zexec zc_X0_count zu_X0_count (zM d) (n + 1) 5 [.inr (.inr 24), .inl x1, .inl x2, .inl x3, .inl x4] σ = if x4 < (σ 24 5) then (zbI (zM d mX0_kindAt [.inr (.inr 24), .inl x4] σ) (fun r1 s1 => if r1 < x1 then (zexec zc_X0_count zu_X0_count (zM d) n 5 [.inr (.inr 24), .inl x1, .inl x2, .inl x3, .inl (x4 + 1)] s1) else (zbI (zM d mX0_kindAt [.inr (.inr 24), .inl x4] s1) (fun r2 s2 => if x2 < r2 then (zexec zc_X0_count zu_X0_count (zM d) n 5 [.inr (.inr 24), .inl x1, .inl x2, .inl x3, .inl (x4 + 1)] s2) else (zexec zc_X0_count zu_X0_count (zM d) n 5 [.inr (.inr 24), .inl x1, .inl x2, .inl (x3 + 1), .inl (x4 + 1)] s2))))) else (some (1, x3, σ)) := rfl
set_option maxRecDepth 100000 in
theorem qX5_byteOf_0 (d n : Nat) (σ : zS) (x2 : Int32) (x0 : Int64) : zexec zc_X5_byteOf zu_X5_byteOf (zM d) (n + 1) 0 [.inr (.inl x0), .inl x2] σ = some (1, (((x0.toUInt64 >>> ((8 * x2).toInt64.toUInt64 &&& Int64.toUInt64 63)).toInt64).toInt32) &&& 255, σ) := rfl
set_option maxRecDepth 100000 in
theorem qX5_byteOf (d : Nat) (σ : zS) (x2 : Int32) (x0 : Int64) : zM (d + 1) mX5_byteOf [.inr (.inl x0), .inl x2] σ = zexec zc_X5_byteOf zu_X5_byteOf (zM d) (999999 + 1) 0 [.inr (.inl x0), .inl x2] σ := zM_eq (zat_X5_byteOf) rfl (Nat.le_of_ble_eq_true rfl)
set_option maxRecDepth 100000 in
theorem qX5_length_1_0 (d n : Nat) (σ : zS) : zexec zc_X5_length zu_X5_length (zM d) (n + 1) 0 [.inr (.inr 1)] σ = some (1, σ 1 1, σ) := rfl
set_option maxRecDepth 100000 in
theorem qX5_length_1 (d : Nat) (σ : zS) : zM (d + 1) mX5_length [.inr (.inr 1)] σ = zexec zc_X5_length zu_X5_length (zM d) (999999 + 1) 0 [.inr (.inr 1)] σ := zM_eq (zat_X5_length) rfl (Nat.le_of_ble_eq_true rfl)
set_option maxRecDepth 100000 in
theorem qX6_add_3_0 (d n : Nat) (σ : zS) (x1 x2 x3 : Int32) : zexec zc_X6_add zu_X6_add (zM d) (n + 1) 0 [.inr (.inr 3), .inl x1, .inl x2, .inl x3] σ = if (σ 3 3) < 401 then (if (σ 3 3) < 0 ∨ 401 ≤ (σ 3 3).toNatClampNeg then none else (if (σ 3 3) < 0 ∨ 401 ≤ (σ 3 3).toNatClampNeg then none else (if (σ 3 3) < 0 ∨ 401 ≤ (σ 3 3).toNatClampNeg then none else (some (0, 0, wr (wr (wr (wr σ 4 ((σ 3 3).toNatClampNeg) x1) 5 ((σ 3 3).toNatClampNeg) x2) 6 ((σ 3 3).toNatClampNeg) x3) 3 3 ((σ 3 3) + 1)))))) else (some (0, 0, σ)) := rfl
set_option maxRecDepth 100000 in
theorem qX6_add_3 (d : Nat) (σ : zS) (x1 x2 x3 : Int32) : zM (d + 1) mX6_add [.inr (.inr 3), .inl x1, .inl x2, .inl x3] σ = zexec zc_X6_add zu_X6_add (zM d) (999999 + 1) 0 [.inr (.inr 3), .inl x1, .inl x2, .inl x3] σ := zM_eq (zat_X6_add) rfl (Nat.le_of_ble_eq_true rfl)
set_option maxRecDepth 100000 in
theorem qX6_isStart_1_0 (d n : Nat) (σ : zS) (x1 : Int32) : zexec zc_X6_isStart zu_X6_isStart (zM d) (n + 1) 0 [.inr (.inr 1), .inl x1] σ = zbI (zM d mX5_at [.inr (.inr 1), .inl x1] σ) (fun r1 s1 => zbI (zM d mX5_at [.inr (.inr 1), .inl (x1 - 1)] s1) (fun r2 s2 => if r1 = 32 then (some (1, 0, s2)) else (zbI (zM d mX6_isLetter [.inl r1] s2) (fun r3 s3 => if r3 = 0 then (zbI (zM d mX6_isDigit [.inl r1] s3) (fun r4 s4 => if r4 = 0 then (some (1, 1, s4)) else (zbI (zM d mX6_isDigit [.inl r2] s4) (fun r5 s5 => if r5 = 0 then (some (1, 1, s5)) else (some (1, 0, s5)))))) else (zbI (zM d mX6_isLetter [.inl r2] s3) (fun r6 s6 => if r6 = 0 then (zbI (zM d mX6_isDigit [.inl r1] s6) (fun r7 s7 => if r7 = 0 then (some (1, 1, s7)) else (zbI (zM d mX6_isDigit [.inl r2] s7) (fun r8 s8 => if r8 = 0 then (some (1, 1, s8)) else (some (1, 0, s8)))))) else (some (1, 0, s6)))))))) := rfl
set_option maxRecDepth 100000 in
theorem qX6_isStart_1 (d : Nat) (σ : zS) (x1 : Int32) : zM (d + 1) mX6_isStart [.inr (.inr 1), .inl x1] σ = zexec zc_X6_isStart zu_X6_isStart (zM d) (999999 + 1) 0 [.inr (.inr 1), .inl x1] σ := zM_eq (zat_X6_isStart) rfl (Nat.le_of_ble_eq_true rfl)
set_option maxRecDepth 100000 in
theorem qX6_addFrom_3_1_0 (d n : Nat) (σ : zS) (x2 : Int32) : zexec zc_X6_addFrom zu_X6_addFrom (zM d) (n + 1) 0 [.inr (.inr 3), .inr (.inr 1), .inl x2] σ = zbI (zM d mX5_at [.inr (.inr 1), .inl x2] σ) (fun r1 s1 => zbI (zM d mX6_isLetter [.inl r1] s1) (fun r2 s2 => if r2 = 0 then (zbI (zM d mX6_isDigit [.inl r1] s2) (fun r3 s3 => if r3 = 0 then (if 1009 < 1000 ∨ 1010 ≤ 1009 ∨ 8 < 1 ∨ ((r1.toUInt32 % 65536).toInt32) < 0 ∨ 256 ≤ ((r1.toUInt32 % 65536).toInt32) then none else (if (zixF ((r1.toUInt32 % 65536).toInt32) (zstr 9) 0) < 0 then (zbV (zM d mX6_add [.inr (.inr 3), .inl 1, .inl x2, .inl 0] s3) (fun s4 => some (0, 0, s4))) else (zbV (zM d mX6_add [.inr (.inr 3), .inl r1, .inl x2, .inl 0] s3) (fun s5 => some (0, 0, s5))))) else (zbV (zM d mX6_addNumber [.inr (.inr 3), .inr (.inr 1), .inl x2] s3) (fun s6 => some (0, 0, s6))))) else (zbV (zM d mX6_addName [.inr (.inr 3), .inr (.inr 1), .inl x2] s2) (fun s7 => some (0, 0, s7))))) := rfl
set_option maxRecDepth 100000 in
theorem qX6_addFrom_3_1 (d : Nat) (σ : zS) (x2 : Int32) : zM (d + 1) mX6_addFrom [.inr (.inr 3), .inr (.inr 1), .inl x2] σ = zexec zc_X6_addFrom zu_X6_addFrom (zM d) (999999 + 1) 0 [.inr (.inr 3), .inr (.inr 1), .inl x2] σ := zM_eq (zat_X6_addFrom) rfl (Nat.le_of_ble_eq_true rfl)
set_option maxRecDepth 100000 in
theorem qX1_wipe_7_0 (d n : Nat) (σ : zS) : zexec zc_X1_wipe zu_X1_wipe (zM d) (n + 1) 0 [.inr (.inr 7)] σ = some (0, 0, wr (wr (wr σ 7 7 0) 7 8 0) 7 9 0) := rfl
set_option maxRecDepth 100000 in
theorem qX1_wipe_7 (d : Nat) (σ : zS) : zM (d + 1) mX1_wipe [.inr (.inr 7)] σ = zexec zc_X1_wipe zu_X1_wipe (zM d) (999999 + 1) 0 [.inr (.inr 7)] σ := zM_eq (zat_X1_wipe) rfl (Nat.le_of_ble_eq_true rfl)
set_option maxRecDepth 100000 in
theorem qX2_readStatements_23_0 (d n : Nat) (σ : zS) (x1 : Int32) : zexec zc_X2_readStatements zu_X2_readStatements (zM d) (n + 1) 0 [.inr (.inr 23), .inl x1] σ = zexec zc_X2_readStatements zu_X2_readStatements (zM d) n 2 [.inr (.inr 23), .inl x1, .inl 0] σ := rfl
set_option maxRecDepth 100000 in
theorem qX2_readStatements_23 (d : Nat) (σ : zS) (x1 : Int32) : zM (d + 1) mX2_readStatements [.inr (.inr 23), .inl x1] σ = zexec zc_X2_readStatements zu_X2_readStatements (zM d) (999999 + 1) 0 [.inr (.inr 23), .inl x1] σ := zM_eq (zat_X2_readStatements) rfl (Nat.le_of_ble_eq_true rfl)
set_option maxRecDepth 100000 in
theorem qX2_readStatements_23_2 (d n : Nat) (σ : zS) (x1 x2 : Int32) : zexec zc_X2_readStatements zu_X2_readStatements (zM d) (n + 1) 2 [.inr (.inr 23), .inl x1, .inl x2] σ = if x2 < 400 then (zbI (zM d mX6_kind [.inr (.inr 3)] σ) (fun r1 s1 => zbI (zM d mX2_isBlockEnd [.inl r1] s1) (fun r2 s2 => if r2 = 0 then (zbI (zM d mX2_readStatement [.inr (.inr 23), .inl x1] s2) (fun r3 s3 => if r3 = 0 then (some (1, 0, s3)) else (zexec zc_X2_readStatements zu_X2_readStatements (zM d) n 2 [.inr (.inr 23), .inl x1, .inl (x2 + 1)] s3))) else (some (1, 1, s2))))) else (some (1, 1, σ)) := rfl
set_option maxRecDepth 100000 in
theorem qX6_place_3_0 (d n : Nat) (σ : zS) : zexec zc_X6_place zu_X6_place (zM d) (n + 1) 0 [.inr (.inr 3)] σ = if (σ 3 4) < (σ 3 3) then (if (σ 3 4) < 0 ∨ 401 ≤ (σ 3 4).toNatClampNeg then none else (some (1, σ 5 ((σ 3 4).toNatClampNeg), σ))) else (some (1, 0, σ)) := rfl
set_option maxRecDepth 100000 in
theorem qX6_place_3 (d : Nat) (σ : zS) : zM (d + 1) mX6_place [.inr (.inr 3)] σ = zexec zc_X6_place zu_X6_place (zM d) (999999 + 1) 0 [.inr (.inr 3)] σ := zM_eq (zat_X6_place) rfl (Nat.le_of_ble_eq_true rfl)
set_option maxRecDepth 100000 in
theorem qX6_kind_3_0 (d n : Nat) (σ : zS) : zexec zc_X6_kind zu_X6_kind (zM d) (n + 1) 0 [.inr (.inr 3)] σ = if (σ 3 4) < (σ 3 3) then (if (σ 3 4) < 0 ∨ 401 ≤ (σ 3 4).toNatClampNeg then none else (some (1, σ 4 ((σ 3 4).toNatClampNeg), σ))) else (some (1, 0, σ)) := rfl
set_option maxRecDepth 100000 in
theorem qX6_kind_3 (d : Nat) (σ : zS) : zM (d + 1) mX6_kind [.inr (.inr 3)] σ = zexec zc_X6_kind zu_X6_kind (zM d) (999999 + 1) 0 [.inr (.inr 3)] σ := zM_eq (zat_X6_kind) rfl (Nat.le_of_ble_eq_true rfl)
set_option maxRecDepth 100000 in
theorem qX0_decisionEnd_24_0 (d n : Nat) (σ : zS) (x1 : Int32) : zexec zc_X0_decisionEnd zu_X0_decisionEnd (zM d) (n + 1) 0 [.inr (.inr 24), .inl x1] σ = zexec zc_X0_decisionEnd zu_X0_decisionEnd (zM d) n 4 [.inr (.inr 24), .inl (x1 + 1)] σ := rfl
set_option maxRecDepth 100000 in
theorem qX0_decisionEnd_24 (d : Nat) (σ : zS) (x1 : Int32) : zM (d + 1) mX0_decisionEnd [.inr (.inr 24), .inl x1] σ = zexec zc_X0_decisionEnd zu_X0_decisionEnd (zM d) (999999 + 1) 0 [.inr (.inr 24), .inl x1] σ := zM_eq (zat_X0_decisionEnd) rfl (Nat.le_of_ble_eq_true rfl)
set_option maxRecDepth 100000 in
theorem qX0_decisionEnd_24_4 (d n : Nat) (σ : zS) (x2 : Int32) : zexec zc_X0_decisionEnd zu_X0_decisionEnd (zM d) (n + 1) 4 [.inr (.inr 24), .inl x2] σ = if x2 < (σ 24 5) then (zbI (zM d mX0_kindAt [.inr (.inr 24), .inl x2] σ) (fun r1 s1 => if r1 < 1 then (some (1, x2, s1)) else (zbI (zM d mX0_kindAt [.inr (.inr 24), .inl x2] s1) (fun r2 s2 => if 4 < r2 then (some (1, x2, s2)) else (zexec zc_X0_decisionEnd zu_X0_decisionEnd (zM d) n 4 [.inr (.inr 24), .inl (x2 + 1)] s2))))) else (some (1, x2, σ)) := rfl
set_option maxRecDepth 100000 in
theorem qX4_runDecision_34_0 (d n : Nat) (σ : zS) (x1 x2 x3 : Int32) : zexec zc_X4_runDecision zu_X4_runDecision (zM d) (n + 1) 0 [.inr (.inr 34), .inl x1, .inl x2, .inl x3] σ = if x3 = 0 ∨ x3 = 1 then (zexec zc_X4_runDecision zu_X4_runDecision (zM d) n 43 [.inr (.inr 34), .inl x2, .inl x3, .inl 0] (wr (wr (wr (wr (wr (wr (wr σ 34 6 x1) 34 7 (x1 + 1)) 34 8 x2) 34 9 x3) 34 10 0) 34 11 0) 30 3 0)) else none := rfl
set_option maxRecDepth 100000 in
theorem qX4_runDecision_34 (d : Nat) (σ : zS) (x1 x2 x3 : Int32) : zM (d + 1) mX4_runDecision [.inr (.inr 34), .inl x1, .inl x2, .inl x3] σ = zexec zc_X4_runDecision zu_X4_runDecision (zM d) (999999 + 1) 0 [.inr (.inr 34), .inl x1, .inl x2, .inl x3] σ := zM_eq (zat_X4_runDecision) rfl (Nat.le_of_ble_eq_true rfl)
set_option maxRecDepth 100000 in
theorem qX4_runDecision_34_43 (d n : Nat) (σ : zS) (x2 x3 x4 : Int32) : zexec zc_X4_runDecision zu_X4_runDecision (zM d) (n + 1) 43 [.inr (.inr 34), .inl x2, .inl x3, .inl x4] σ = if x4 < 12012 then (if (σ 34 11) = 0 then (if (σ 34 10) = 0 then (if (σ 30 5) = 0 then (zbI (zM d mX1_sortAt [.inr (.inr 15), .inl (σ 30 1)] σ) (fun r5 s5 => zbI (zM d mX1_firstAt [.inr (.inr 15), .inl (s5 30 1)] s5) (fun r6 s6 => zbV (zM d mX4_turn [.inr (.inr 34), .inl r5, .inl r6] s6) (fun s7 => zexec zc_X4_runDecision zu_X4_runDecision (zM d) n 43 [.inr (.inr 34), .inl x2, .inl x3, .inl (x4 + 1)] s7)))) else (if (σ 34 11) = 0 then (if x3 = 0 then (if (σ 34 7) < x2 then (zbV (zM d mX4_differ [.inr (.inr 34)] σ) (fun s4 => some (0, 0, s4))) else (some (0, 0, σ))) else (some (0, 0, σ))) else (some (0, 0, σ)))) else (if (σ 34 11) = 0 then (if x3 = 0 then (if (σ 34 7) < x2 then (zbV (zM d mX4_differ [.inr (.inr 34)] σ) (fun s3 => some (0, 0, s3))) else (some (0, 0, σ))) else (some (0, 0, σ))) else (some (0, 0, σ)))) else (if (σ 34 11) = 0 then (if x3 = 0 then (if (σ 34 7) < x2 then (zbV (zM d mX4_differ [.inr (.inr 34)] σ) (fun s2 => some (0, 0, s2))) else (some (0, 0, σ))) else (some (0, 0, σ))) else (some (0, 0, σ)))) else (if (σ 34 11) = 0 then (if x3 = 0 then (if (σ 34 7) < x2 then (zbV (zM d mX4_differ [.inr (.inr 34)] σ) (fun s1 => some (0, 0, s1))) else (some (0, 0, σ))) else (some (0, 0, σ))) else (some (0, 0, σ))) := rfl
set_option maxRecDepth 100000 in
theorem qX0_add_24_0 (d n : Nat) (σ : zS) (x1 x2 x3 : Int32) : zexec zc_X0_add zu_X0_add (zM d) (n + 1) 0 [.inr (.inr 24), .inl x1, .inl x2, .inl x3] σ = if (σ 24 5) < 200 then (if (σ 24 5) < 0 ∨ 200 ≤ (σ 24 5).toNatClampNeg then none else (if (σ 24 5) < 0 ∨ 200 ≤ (σ 24 5).toNatClampNeg then none else (if (σ 24 5) < 0 ∨ 200 ≤ (σ 24 5).toNatClampNeg then none else (if (σ 24 5) < 0 ∨ 200 ≤ (σ 24 5).toNatClampNeg then none else (some (1, 1, wr (wr (wr (wr (wr σ 25 ((σ 24 5).toNatClampNeg) x1) 26 ((σ 24 5).toNatClampNeg) x2) 27 ((σ 24 5).toNatClampNeg) x3) 28 ((σ 24 5).toNatClampNeg) (-1)) 24 5 ((σ 24 5) + 1))))))) else (some (1, 0, σ)) := rfl
set_option maxRecDepth 100000 in
theorem qX0_add_24 (d : Nat) (σ : zS) (x1 x2 x3 : Int32) : zM (d + 1) mX0_add [.inr (.inr 24), .inl x1, .inl x2, .inl x3] σ = zexec zc_X0_add zu_X0_add (zM d) (999999 + 1) 0 [.inr (.inr 24), .inl x1, .inl x2, .inl x3] σ := zM_eq (zat_X0_add) rfl (Nat.le_of_ble_eq_true rfl)
set_option maxRecDepth 100000 in
theorem qX3_copyFrom_35_30_0 (d n : Nat) (σ : zS) : zexec zc_X3_copyFrom zu_X3_copyFrom (zM d) (n + 1) 0 [.inr (.inr 35), .inr (.inr 30)] σ = if (σ 30 5) = 0 ∨ (σ 30 5) = 1 then (some (0, 0, wr (wr (wr (wr (wr (wcp σ 31 36 8) 35 1 (σ 30 1)) 35 2 (σ 30 2)) 35 3 (σ 30 3)) 35 4 (σ 30 4)) 35 5 (σ 30 5))) else none := rfl
set_option maxRecDepth 100000 in
theorem qX3_copyFrom_35_30 (d : Nat) (σ : zS) : zM (d + 1) mX3_copyFrom [.inr (.inr 35), .inr (.inr 30)] σ = zexec zc_X3_copyFrom zu_X3_copyFrom (zM d) (999999 + 1) 0 [.inr (.inr 35), .inr (.inr 30)] σ := zM_eq (zat_X3_copyFrom) rfl (Nat.le_of_ble_eq_true rfl)
set_option maxRecDepth 100000 in
theorem qX3_copyFrom_30_35_0 (d n : Nat) (σ : zS) : zexec zc_X3_copyFrom zu_X3_copyFrom (zM d) (n + 1) 0 [.inr (.inr 30), .inr (.inr 35)] σ = if (σ 35 5) = 0 ∨ (σ 35 5) = 1 then (some (0, 0, wr (wr (wr (wr (wr (wcp σ 36 31 8) 30 1 (σ 35 1)) 30 2 (σ 35 2)) 30 3 (σ 35 3)) 30 4 (σ 35 4)) 30 5 (σ 35 5))) else none := rfl
set_option maxRecDepth 100000 in
theorem qX3_copyFrom_30_35 (d : Nat) (σ : zS) : zM (d + 1) mX3_copyFrom [.inr (.inr 30), .inr (.inr 35)] σ = zexec zc_X3_copyFrom zu_X3_copyFrom (zM d) (999999 + 1) 0 [.inr (.inr 30), .inr (.inr 35)] σ := zM_eq (zat_X3_copyFrom) rfl (Nat.le_of_ble_eq_true rfl)
set_option maxRecDepth 100000 in
theorem qX0_dropDecision_24_0 (d n : Nat) (σ : zS) (x1 : Int32) : zexec zc_X0_dropDecision zu_X0_dropDecision (zM d) (n + 1) 0 [.inr (.inr 24), .inl x1] σ = if x1 < 0 then (some (0, 0, σ)) else (if x1 < (σ 24 5) then (some (0, 0, wr σ 24 5 x1)) else (some (0, 0, σ))) := rfl
set_option maxRecDepth 100000 in
theorem qX0_dropDecision_24 (d : Nat) (σ : zS) (x1 : Int32) : zM (d + 1) mX0_dropDecision [.inr (.inr 24), .inl x1] σ = zexec zc_X0_dropDecision zu_X0_dropDecision (zM d) (999999 + 1) 0 [.inr (.inr 24), .inl x1] σ := zM_eq (zat_X0_dropDecision) rfl (Nat.le_of_ble_eq_true rfl)
set_option maxRecDepth 100000 in
theorem qX0_fits_24_0 (d n : Nat) (σ : zS) (x1 x2 x3 : Int32) : zexec zc_X0_fits zu_X0_fits (zM d) (n + 1) 0 [.inr (.inr 24), .inl x1, .inl x2, .inl x3] σ = if x1 = 5 then (zbI (zM d mX0_isOpen [.inr (.inr 24), .inl x2, .inl 1] σ) (fun r3 s3 => if r3 = 0 ∨ r3 = 1 then some (1, r3, s3) else none)) else (if x1 = 6 then (zbI (zM d mX0_isOpen [.inr (.inr 24), .inl x2, .inl 1] σ) (fun r2 s2 => if r2 = 0 then (some (1, 0, s2)) else (if x3 = 0 then (some (1, 1, s2)) else (some (1, 0, s2))))) else (if x1 = 7 then (zbI (zM d mX0_isOpen [.inr (.inr 24), .inl x2, .inl 2] σ) (fun r1 s1 => if r1 = 0 then (some (1, 0, s1)) else (if x3 = 0 then (some (1, 1, s1)) else (some (1, 0, s1))))) else (if x1 = 8 then (if x2 = 0 then (some (1, 1, σ)) else (some (1, 0, σ))) else (some (1, 0, σ))))) := rfl
set_option maxRecDepth 100000 in
theorem qX0_fits_24 (d : Nat) (σ : zS) (x1 x2 x3 : Int32) : zM (d + 1) mX0_fits [.inr (.inr 24), .inl x1, .inl x2, .inl x3] σ = zexec zc_X0_fits zu_X0_fits (zM d) (999999 + 1) 0 [.inr (.inr 24), .inl x1, .inl x2, .inl x3] σ := zM_eq (zat_X0_fits) rfl (Nat.le_of_ble_eq_true rfl)
set_option maxRecDepth 100000 in
theorem qX0_addSignal_24_0 (d n : Nat) (σ : zS) (x1 : Int32) : zexec zc_X0_addSignal zu_X0_addSignal (zM d) (n + 1) 0 [.inr (.inr 24), .inl x1] σ = if (σ 24 6) < 200 then (if (σ 24 6) < 0 ∨ 200 ≤ (σ 24 6).toNatClampNeg then none else (some (0, 0, wr (wr σ 29 ((σ 24 6).toNatClampNeg) x1) 24 6 ((σ 24 6) + 1)))) else (some (0, 0, σ)) := rfl
set_option maxRecDepth 100000 in
theorem qX0_addSignal_24 (d : Nat) (σ : zS) (x1 : Int32) : zM (d + 1) mX0_addSignal [.inr (.inr 24), .inl x1] σ = zexec zc_X0_addSignal zu_X0_addSignal (zM d) (999999 + 1) 0 [.inr (.inr 24), .inl x1] σ := zM_eq (zat_X0_addSignal) rfl (Nat.le_of_ble_eq_true rfl)
set_option maxRecDepth 100000 in
theorem qX5_at_1_0 (d n : Nat) (σ : zS) (x1 : Int32) : zexec zc_X5_at zu_X5_at (zM d) (n + 1) 0 [.inr (.inr 1), .inl x1] σ = if x1 < 0 then (some (1, (-1), σ)) else (if x1 < (σ 1 1) then (if x1 < 0 ∨ 400 ≤ x1.toNatClampNeg then none else (some (1, σ 2 x1.toNatClampNeg, σ))) else (some (1, (-1), σ))) := rfl
set_option maxRecDepth 100000 in
theorem qX5_at_1 (d : Nat) (σ : zS) (x1 : Int32) : zM (d + 1) mX5_at [.inr (.inr 1), .inl x1] σ = zexec zc_X5_at zu_X5_at (zM d) (999999 + 1) 0 [.inr (.inr 1), .inl x1] σ := zM_eq (zat_X5_at) rfl (Nat.le_of_ble_eq_true rfl)
set_option maxRecDepth 100000 in
theorem qX6_isLetter_0 (d n : Nat) (σ : zS) (x0 : Int32) : zexec zc_X6_isLetter zu_X6_isLetter (zM d) (n + 1) 0 [.inl x0] σ = if x0 < 97 then (some (1, 0, σ)) else (if 122 < x0 then (some (1, 0, σ)) else (some (1, 1, σ))) := rfl
set_option maxRecDepth 100000 in
theorem qX6_isLetter (d : Nat) (σ : zS) (x0 : Int32) : zM (d + 1) mX6_isLetter [.inl x0] σ = zexec zc_X6_isLetter zu_X6_isLetter (zM d) (999999 + 1) 0 [.inl x0] σ := zM_eq (zat_X6_isLetter) rfl (Nat.le_of_ble_eq_true rfl)
set_option maxRecDepth 100000 in
theorem qX6_isDigit_0 (d n : Nat) (σ : zS) (x0 : Int32) : zexec zc_X6_isDigit zu_X6_isDigit (zM d) (n + 1) 0 [.inl x0] σ = if x0 < 48 then (some (1, 0, σ)) else (if 57 < x0 then (some (1, 0, σ)) else (some (1, 1, σ))) := rfl
set_option maxRecDepth 100000 in
theorem qX6_isDigit (d : Nat) (σ : zS) (x0 : Int32) : zM (d + 1) mX6_isDigit [.inl x0] σ = zexec zc_X6_isDigit zu_X6_isDigit (zM d) (999999 + 1) 0 [.inl x0] σ := zM_eq (zat_X6_isDigit) rfl (Nat.le_of_ble_eq_true rfl)
set_option maxRecDepth 100000 in
theorem qX6_addNumber_3_1_0 (d n : Nat) (σ : zS) (x2 : Int32) : zexec zc_X6_addNumber zu_X6_addNumber (zM d) (n + 1) 0 [.inr (.inr 3), .inr (.inr 1), .inl x2] σ = zexec zc_X6_addNumber zu_X6_addNumber (zM d) n 5 [.inr (.inr 3), .inr (.inr 1), .inl x2, .inl x2, .inl 0] σ := rfl
set_option maxRecDepth 100000 in
theorem qX6_addNumber_3_1 (d : Nat) (σ : zS) (x2 : Int32) : zM (d + 1) mX6_addNumber [.inr (.inr 3), .inr (.inr 1), .inl x2] σ = zexec zc_X6_addNumber zu_X6_addNumber (zM d) (999999 + 1) 0 [.inr (.inr 3), .inr (.inr 1), .inl x2] σ := zM_eq (zat_X6_addNumber) rfl (Nat.le_of_ble_eq_true rfl)
set_option maxRecDepth 100000 in
theorem qX6_addNumber_3_1_5 (d n : Nat) (σ : zS) (x2 x3 x4 : Int32) : zexec zc_X6_addNumber zu_X6_addNumber (zM d) (n + 1) 5 [.inr (.inr 3), .inr (.inr 1), .inl x2, .inl x3, .inl x4] σ = zbI (zM d mX5_length [.inr (.inr 1)] σ) (fun r1 s1 => if x3 < r1 then (zbI (zM d mX5_at [.inr (.inr 1), .inl x3] s1) (fun r2 s2 => zbI (zM d mX6_isDigit [.inl r2] s2) (fun r3 s3 => if r3 = 0 then (zexec zc_X6_addNumber zu_X6_addNumber (zM d) n 46 [.inr (.inr 3), .inl x2, .inl x3, .inl x4] s3) else (zbI (zM d mX5_at [.inr (.inr 1), .inl x3] s3) (fun r4 s4 => zexec zc_X6_addNumber zu_X6_addNumber (zM d) n 5 [.inr (.inr 3), .inr (.inr 1), .inl x2, .inl (x3 + 1), .inl ((x4 * 10) + (r4 - 48))] s4))))) else (zexec zc_X6_addNumber zu_X6_addNumber (zM d) n 46 [.inr (.inr 3), .inl x2, .inl x3, .inl x4] s1)) := rfl
set_option maxRecDepth 100000 in
theorem qX6_addNumber_3_1_46 (d n : Nat) (σ : zS) (x2 x3 x4 : Int32) : zexec zc_X6_addNumber zu_X6_addNumber (zM d) (n + 1) 46 [.inr (.inr 3), .inl x2, .inl x3, .inl x4] σ = if 6 < (x3 - x2) then (zbV (zM d mX6_add [.inr (.inr 3), .inl 1, .inl x2, .inl x4] σ) (fun s1 => some (0, 0, s1))) else (zbV (zM d mX6_add [.inr (.inr 3), .inl 3, .inl x2, .inl x4] σ) (fun s2 => some (0, 0, s2))) := rfl
set_option maxRecDepth 100000 in
theorem qX6_addName_3_1_0 (d n : Nat) (σ : zS) (x2 : Int32) : zexec zc_X6_addName zu_X6_addName (zM d) (n + 1) 0 [.inr (.inr 3), .inr (.inr 1), .inl x2] σ = zexec zc_X6_addName zu_X6_addName (zM d) n 2 [.inr (.inr 3), .inr (.inr 1), .inl x2, .inl x2] σ := rfl
set_option maxRecDepth 100000 in
theorem qX6_addName_3_1 (d : Nat) (σ : zS) (x2 : Int32) : zM (d + 1) mX6_addName [.inr (.inr 3), .inr (.inr 1), .inl x2] σ = zexec zc_X6_addName zu_X6_addName (zM d) (999999 + 1) 0 [.inr (.inr 3), .inr (.inr 1), .inl x2] σ := zM_eq (zat_X6_addName) rfl (Nat.le_of_ble_eq_true rfl)
set_option maxRecDepth 100000 in
theorem qX6_addName_3_1_2 (d n : Nat) (σ : zS) (x2 x3 : Int32) : zexec zc_X6_addName zu_X6_addName (zM d) (n + 1) 2 [.inr (.inr 3), .inr (.inr 1), .inl x2, .inl x3] σ = zbI (zM d mX5_length [.inr (.inr 1)] σ) (fun r1 s1 => if x3 < r1 then (zbI (zM d mX5_at [.inr (.inr 1), .inl x3] s1) (fun r10 s10 => zbI (zM d mX6_isLetter [.inl r10] s10) (fun r11 s11 => if r11 = 0 then (zbI (zM d mX5_at [.inr (.inr 1), .inl x2] s11) (fun r12 s12 => if (x3 - x2) = 1 then (if (r12 - 97) < 8 then (zbV (zM d mX6_add [.inr (.inr 3), .inl 2, .inl x2, .inl (r12 - 97)] s12) (fun s19 => some (0, 0, s19))) else (zbI (zM d mX6_sortOfWord [.inr (.inr 1), .inl x2, .inl x3] s12) (fun r16 s16 => if r16 = (-1) then (zbV (zM d mX6_add [.inr (.inr 3), .inl 1, .inl x2, .inl r16] s16) (fun s18 => some (0, 0, s18))) else (zbV (zM d mX6_add [.inr (.inr 3), .inl 4, .inl x2, .inl r16] s16) (fun s17 => some (0, 0, s17)))))) else (zbI (zM d mX6_sortOfWord [.inr (.inr 1), .inl x2, .inl x3] s12) (fun r13 s13 => if r13 = (-1) then (zbV (zM d mX6_add [.inr (.inr 3), .inl 1, .inl x2, .inl r13] s13) (fun s15 => some (0, 0, s15))) else (zbV (zM d mX6_add [.inr (.inr 3), .inl 4, .inl x2, .inl r13] s13) (fun s14 => some (0, 0, s14))))))) else (zexec zc_X6_addName zu_X6_addName (zM d) n 2 [.inr (.inr 3), .inr (.inr 1), .inl x2, .inl (x3 + 1)] s11)))) else (zbI (zM d mX5_at [.inr (.inr 1), .inl x2] s1) (fun r2 s2 => if (x3 - x2) = 1 then (if (r2 - 97) < 8 then (zbV (zM d mX6_add [.inr (.inr 3), .inl 2, .inl x2, .inl (r2 - 97)] s2) (fun s9 => some (0, 0, s9))) else (zbI (zM d mX6_sortOfWord [.inr (.inr 1), .inl x2, .inl x3] s2) (fun r6 s6 => if r6 = (-1) then (zbV (zM d mX6_add [.inr (.inr 3), .inl 1, .inl x2, .inl r6] s6) (fun s8 => some (0, 0, s8))) else (zbV (zM d mX6_add [.inr (.inr 3), .inl 4, .inl x2, .inl r6] s6) (fun s7 => some (0, 0, s7)))))) else (zbI (zM d mX6_sortOfWord [.inr (.inr 1), .inl x2, .inl x3] s2) (fun r3 s3 => if r3 = (-1) then (zbV (zM d mX6_add [.inr (.inr 3), .inl 1, .inl x2, .inl r3] s3) (fun s5 => some (0, 0, s5))) else (zbV (zM d mX6_add [.inr (.inr 3), .inl 4, .inl x2, .inl r3] s3) (fun s4 => some (0, 0, s4)))))))) := rfl
set_option maxRecDepth 100000 in
theorem qX2_isBlockEnd_0 (d n : Nat) (σ : zS) (x0 : Int32) : zexec zc_X2_isBlockEnd zu_X2_isBlockEnd (zM d) (n + 1) 0 [.inl x0] σ = if x0 = 0 then (some (1, 1, σ)) else (if x0 = 124 then (some (1, 1, σ)) else (if x0 = 93 then (some (1, 1, σ)) else (some (1, 0, σ)))) := rfl
set_option maxRecDepth 100000 in
theorem qX2_isBlockEnd (d : Nat) (σ : zS) (x0 : Int32) : zM (d + 1) mX2_isBlockEnd [.inl x0] σ = zexec zc_X2_isBlockEnd zu_X2_isBlockEnd (zM d) (999999 + 1) 0 [.inl x0] σ := zM_eq (zat_X2_isBlockEnd) rfl (Nat.le_of_ble_eq_true rfl)
set_option maxRecDepth 100000 in
theorem qX2_readStatement_23_0 (d n : Nat) (σ : zS) (x1 : Int32) : zexec zc_X2_readStatement zu_X2_readStatement (zM d) (n + 1) 0 [.inr (.inr 23), .inl x1] σ = zbI (zM d mX6_kind [.inr (.inr 3)] σ) (fun r1 s1 => if r1 = 63 then (zbI (zM d mX2_readChoice [.inr (.inr 23), .inl x1] s1) (fun r10 s10 => if r10 = 0 ∨ r10 = 1 then some (1, r10, s10) else none)) else (zbI (zM d mX6_kind [.inr (.inr 3)] s1) (fun r2 s2 => if r2 = 64 then (zbI (zM d mX2_readLoop [.inr (.inr 23), .inl x1] s2) (fun r9 s9 => if r9 = 0 ∨ r9 = 1 then some (1, r9, s9) else none)) else (zbI (zM d mX6_kind [.inr (.inr 3)] s2) (fun r3 s3 => if r3 = 2 then (zbI (zM d mX2_readAssignment [.inr (.inr 23), .inl x1] s3) (fun r7 s7 => if r7 = 0 then (some (1, 0, s7)) else (zbI (zM d mX6_take [.inr (.inr 3), .inl 59] s7) (fun r8 s8 => if r8 = 0 then (some (1, 0, s8)) else (some (1, 1, s8)))))) else (zbI (zM d mX6_isWord [.inr (.inr 3), .inl 9] s3) (fun r4 s4 => if r4 = 0 then (some (1, 0, s4)) else (zbI (zM d mX2_readStop [.inr (.inr 23), .inl x1] s4) (fun r5 s5 => if r5 = 0 then (some (1, 0, s5)) else (zbI (zM d mX6_take [.inr (.inr 3), .inl 59] s5) (fun r6 s6 => if r6 = 0 then (some (1, 0, s6)) else (some (1, 1, s6))))))))))))) := rfl
set_option maxRecDepth 100000 in
theorem qX2_readStatement_23 (d : Nat) (σ : zS) (x1 : Int32) : zM (d + 1) mX2_readStatement [.inr (.inr 23), .inl x1] σ = zexec zc_X2_readStatement zu_X2_readStatement (zM d) (999999 + 1) 0 [.inr (.inr 23), .inl x1] σ := zM_eq (zat_X2_readStatement) rfl (Nat.le_of_ble_eq_true rfl)
set_option maxRecDepth 100000 in
theorem qX4_differ_34_0 (d n : Nat) (σ : zS) : zexec zc_X4_differ zu_X4_differ (zM d) (n + 1) 0 [.inr (.inr 34)] σ = some (0, 0, wr (wr σ 34 11 2) 34 12 (σ 34 7)) := rfl
set_option maxRecDepth 100000 in
theorem qX4_differ_34 (d : Nat) (σ : zS) : zM (d + 1) mX4_differ [.inr (.inr 34)] σ = zexec zc_X4_differ zu_X4_differ (zM d) (999999 + 1) 0 [.inr (.inr 34)] σ := zM_eq (zat_X4_differ) rfl (Nat.le_of_ble_eq_true rfl)
set_option maxRecDepth 100000 in
theorem qX1_sortAt_15_0 (d n : Nat) (σ : zS) (x1 : Int32) : zexec zc_X1_sortAt zu_X1_sortAt (zM d) (n + 1) 0 [.inr (.inr 15), .inl x1] σ = zbI (zM d mX1_holds [.inr (.inr 15), .inl x1] σ) (fun r1 s1 => if r1 = 0 then (some (1, 13, s1)) else (if x1 < 0 ∨ 200 ≤ x1.toNatClampNeg then none else (some (1, s1 16 x1.toNatClampNeg, s1)))) := rfl
set_option maxRecDepth 100000 in
theorem qX1_sortAt_15 (d : Nat) (σ : zS) (x1 : Int32) : zM (d + 1) mX1_sortAt [.inr (.inr 15), .inl x1] σ = zexec zc_X1_sortAt zu_X1_sortAt (zM d) (999999 + 1) 0 [.inr (.inr 15), .inl x1] σ := zM_eq (zat_X1_sortAt) rfl (Nat.le_of_ble_eq_true rfl)
set_option maxRecDepth 100000 in
theorem qX1_firstAt_15_0 (d n : Nat) (σ : zS) (x1 : Int32) : zexec zc_X1_firstAt zu_X1_firstAt (zM d) (n + 1) 0 [.inr (.inr 15), .inl x1] σ = zbI (zM d mX1_holds [.inr (.inr 15), .inl x1] σ) (fun r1 s1 => if r1 = 0 then (some (1, 0, s1)) else (if x1 < 0 ∨ 200 ≤ x1.toNatClampNeg then none else (some (1, s1 18 x1.toNatClampNeg, s1)))) := rfl
set_option maxRecDepth 100000 in
theorem qX1_firstAt_15 (d : Nat) (σ : zS) (x1 : Int32) : zM (d + 1) mX1_firstAt [.inr (.inr 15), .inl x1] σ = zexec zc_X1_firstAt zu_X1_firstAt (zM d) (999999 + 1) 0 [.inr (.inr 15), .inl x1] σ := zM_eq (zat_X1_firstAt) rfl (Nat.le_of_ble_eq_true rfl)
set_option maxRecDepth 100000 in
theorem qX4_turn_34_0 (d n : Nat) (σ : zS) (x1 x2 : Int32) : zexec zc_X4_turn zu_X4_turn (zM d) (n + 1) 0 [.inr (.inr 34), .inl x1, .inl x2] σ = if x1 = 12 then (zexec zc_X4_turn zu_X4_turn (zM d) n 16 [.inr (.inr 34), .inl x1, .inl x2] σ) else (if x1 = 13 then (zexec zc_X4_turn zu_X4_turn (zM d) n 16 [.inr (.inr 34), .inl x1, .inl x2] σ) else (if (σ 30 3) < 1000 then (zexec zc_X4_turn zu_X4_turn (zM d) n 41 [.inr (.inr 34), .inl x1, .inl x2, .inl 1] σ) else (some (0, 0, wr σ 34 11 3)))) := rfl
set_option maxRecDepth 100000 in
theorem qX4_turn_34 (d : Nat) (σ : zS) (x1 x2 : Int32) : zM (d + 1) mX4_turn [.inr (.inr 34), .inl x1, .inl x2] σ = zexec zc_X4_turn zu_X4_turn (zM d) (999999 + 1) 0 [.inr (.inr 34), .inl x1, .inl x2] σ := zM_eq (zat_X4_turn) rfl (Nat.le_of_ble_eq_true rfl)
set_option maxRecDepth 100000 in
theorem qX4_turn_34_16 (d n : Nat) (σ : zS) (x1 x2 : Int32) : zexec zc_X4_turn zu_X4_turn (zM d) (n + 1) 16 [.inr (.inr 34), .inl x1, .inl x2] σ = zexec zc_X4_turn zu_X4_turn (zM d) n 41 [.inr (.inr 34), .inl x1, .inl x2, .inl 0] σ := rfl
set_option maxRecDepth 100000 in
theorem qX4_turn_34_41 (d n : Nat) (σ : zS) (x1 x2 x3 : Int32) : zexec zc_X4_turn zu_X4_turn (zM d) (n + 1) 41 [.inr (.inr 34), .inl x1, .inl x2, .inl x3] σ = if x3 = 0 then (if x1 = 0 then (zbI (zM d mX4_workOut [.inr (.inr 34)] (wr σ 30 3 ((σ 30 3) + 0))) (fun r25 s25 => zbV (zM d mX4_finish [.inr (.inr 34), .inl r25] s25) (fun s26 => some (0, 0, s26)))) else (if x1 = 1 then (zbI (zM d mX4_workOut [.inr (.inr 34)] (wr σ 30 3 ((σ 30 3) + 0))) (fun r23 s23 => zbV (zM d mX4_order [.inr (.inr 34), .inl 1, .inl x2, .inl r23] s23) (fun s24 => some (0, 0, s24)))) else (if x1 = 2 then (zbI (zM d mX4_workOut [.inr (.inr 34)] (wr σ 30 3 ((σ 30 3) + 0))) (fun r21 s21 => zbV (zM d mX4_order [.inr (.inr 34), .inl 2, .inl 0, .inl r21] s21) (fun s22 => some (0, 0, s22)))) else (if x1 = 3 then (zbI (zM d mX3_get [.inr (.inr 30), .inl x2] (wr σ 30 3 ((σ 30 3) + 0))) (fun r19 s19 => zbV (zM d mX4_waitFor [.inr (.inr 34), .inl r19] s19) (fun s20 => some (0, 0, s20)))) else (if x1 = 4 then (zbI (zM d mX3_get [.inr (.inr 30), .inl x2] (wr σ 30 3 ((σ 30 3) + 0))) (fun r15 s15 => zbI (zM d mX1_secondAt [.inr (.inr 15), .inl (s15 30 1)] s15) (fun r16 s16 => zbI (zM d mX3_get [.inr (.inr 30), .inl r16] s16) (fun r17 s17 => zbV (zM d mX4_waitForAny [.inr (.inr 34), .inl r15, .inl r17] s17) (fun s18 => some (0, 0, s18)))))) else (if x1 = 5 then (zbI (zM d mX3_get [.inr (.inr 30), .inl x2] (wr σ 30 3 ((σ 30 3) + 0))) (fun r11 s11 => zbI (zM d mX4_endOf [.inr (.inr 34), .inl r11] s11) (fun r12 s12 => if r12 = (-1) then (zbV (zM d mX4_finish [.inr (.inr 34), .inl 0] s12) (fun s14 => some (0, 0, s14))) else (zbV (zM d mX4_finish [.inr (.inr 34), .inl 1] s12) (fun s13 => some (0, 0, s13)))))) else (if x1 = 6 then (zbV (zM d mX4_takeSignal [.inr (.inr 34)] (wr σ 30 3 ((σ 30 3) + 0))) (fun s10 => some (0, 0, s10))) else (if x1 = 7 then (zbI (zM d mX0_valueAt [.inr (.inr 24), .inl (σ 34 6)] (wr σ 30 3 ((σ 30 3) + 0))) (fun r8 s8 => zbV (zM d mX4_finish [.inr (.inr 34), .inl r8] s8) (fun s9 => some (0, 0, s9)))) else (if x1 = 8 then (zbV (zM d mX4_patch [.inr (.inr 34), .inl x2] (wr σ 30 3 ((σ 30 3) + 0))) (fun s7 => some (0, 0, s7))) else (if x1 = 9 then (zbI (zM d mX4_workOut [.inr (.inr 34)] (wr σ 30 3 ((σ 30 3) + 0))) (fun r5 s5 => zbV (zM d mX4_stop [.inr (.inr 34), .inl r5] s5) (fun s6 => some (0, 0, s6)))) else (if x1 = 10 then (zbI (zM d mX4_workOut [.inr (.inr 34)] (wr σ 30 3 ((σ 30 3) + 0))) (fun r4 s4 => if r4 = 0 then (some (0, 0, wr s4 30 1 x2)) else (some (0, 0, wr s4 30 1 ((s4 30 1) + 1))))) else (if x1 = 11 then (zbI (zM d mX4_workOut [.inr (.inr 34)] (wr σ 30 3 ((σ 30 3) + 0))) (fun r3 s3 => if r3 = 0 then (some (0, 0, wr s3 30 1 x2)) else (some (0, 0, wr s3 30 1 ((s3 30 1) + 1))))) else (if x1 = 12 then (some (0, 0, wr (wr σ 30 3 ((σ 30 3) + 0)) 30 1 x2)) else (if x1 = 13 then (zbV (zM d mX4_stop [.inr (.inr 34), .inl 0] (wr σ 30 3 ((σ 30 3) + 0))) (fun s2 => some (0, 0, s2))) else (zbI (zM d mX4_workOut [.inr (.inr 34)] (wr σ 30 3 ((σ 30 3) + 0))) (fun r1 s1 => if r1 = 0 then (some (0, 0, wr s1 30 1 x2)) else (some (0, 0, wr s1 30 1 ((s1 30 1) + 1))))))))))))))))))) else (if x1 = 0 then (zbI (zM d mX4_workOut [.inr (.inr 34)] (wr σ 30 3 ((σ 30 3) + 1))) (fun r51 s51 => zbV (zM d mX4_finish [.inr (.inr 34), .inl r51] s51) (fun s52 => some (0, 0, s52)))) else (if x1 = 1 then (zbI (zM d mX4_workOut [.inr (.inr 34)] (wr σ 30 3 ((σ 30 3) + 1))) (fun r49 s49 => zbV (zM d mX4_order [.inr (.inr 34), .inl 1, .inl x2, .inl r49] s49) (fun s50 => some (0, 0, s50)))) else (if x1 = 2 then (zbI (zM d mX4_workOut [.inr (.inr 34)] (wr σ 30 3 ((σ 30 3) + 1))) (fun r47 s47 => zbV (zM d mX4_order [.inr (.inr 34), .inl 2, .inl 0, .inl r47] s47) (fun s48 => some (0, 0, s48)))) else (if x1 = 3 then (zbI (zM d mX3_get [.inr (.inr 30), .inl x2] (wr σ 30 3 ((σ 30 3) + 1))) (fun r45 s45 => zbV (zM d mX4_waitFor [.inr (.inr 34), .inl r45] s45) (fun s46 => some (0, 0, s46)))) else (if x1 = 4 then (zbI (zM d mX3_get [.inr (.inr 30), .inl x2] (wr σ 30 3 ((σ 30 3) + 1))) (fun r41 s41 => zbI (zM d mX1_secondAt [.inr (.inr 15), .inl (s41 30 1)] s41) (fun r42 s42 => zbI (zM d mX3_get [.inr (.inr 30), .inl r42] s42) (fun r43 s43 => zbV (zM d mX4_waitForAny [.inr (.inr 34), .inl r41, .inl r43] s43) (fun s44 => some (0, 0, s44)))))) else (if x1 = 5 then (zbI (zM d mX3_get [.inr (.inr 30), .inl x2] (wr σ 30 3 ((σ 30 3) + 1))) (fun r37 s37 => zbI (zM d mX4_endOf [.inr (.inr 34), .inl r37] s37) (fun r38 s38 => if r38 = (-1) then (zbV (zM d mX4_finish [.inr (.inr 34), .inl 0] s38) (fun s40 => some (0, 0, s40))) else (zbV (zM d mX4_finish [.inr (.inr 34), .inl 1] s38) (fun s39 => some (0, 0, s39)))))) else (if x1 = 6 then (zbV (zM d mX4_takeSignal [.inr (.inr 34)] (wr σ 30 3 ((σ 30 3) + 1))) (fun s36 => some (0, 0, s36))) else (if x1 = 7 then (zbI (zM d mX0_valueAt [.inr (.inr 24), .inl (σ 34 6)] (wr σ 30 3 ((σ 30 3) + 1))) (fun r34 s34 => zbV (zM d mX4_finish [.inr (.inr 34), .inl r34] s34) (fun s35 => some (0, 0, s35)))) else (if x1 = 8 then (zbV (zM d mX4_patch [.inr (.inr 34), .inl x2] (wr σ 30 3 ((σ 30 3) + 1))) (fun s33 => some (0, 0, s33))) else (if x1 = 9 then (zbI (zM d mX4_workOut [.inr (.inr 34)] (wr σ 30 3 ((σ 30 3) + 1))) (fun r31 s31 => zbV (zM d mX4_stop [.inr (.inr 34), .inl r31] s31) (fun s32 => some (0, 0, s32)))) else (if x1 = 10 then (zbI (zM d mX4_workOut [.inr (.inr 34)] (wr σ 30 3 ((σ 30 3) + 1))) (fun r30 s30 => if r30 = 0 then (some (0, 0, wr s30 30 1 x2)) else (some (0, 0, wr s30 30 1 ((s30 30 1) + 1))))) else (if x1 = 11 then (zbI (zM d mX4_workOut [.inr (.inr 34)] (wr σ 30 3 ((σ 30 3) + 1))) (fun r29 s29 => if r29 = 0 then (some (0, 0, wr s29 30 1 x2)) else (some (0, 0, wr s29 30 1 ((s29 30 1) + 1))))) else (if x1 = 12 then (some (0, 0, wr (wr σ 30 3 ((σ 30 3) + 1)) 30 1 x2)) else (if x1 = 13 then (zbV (zM d mX4_stop [.inr (.inr 34), .inl 0] (wr σ 30 3 ((σ 30 3) + 1))) (fun s28 => some (0, 0, s28))) else (zbI (zM d mX4_workOut [.inr (.inr 34)] (wr σ 30 3 ((σ 30 3) + 1))) (fun r27 s27 => if r27 = 0 then (some (0, 0, wr s27 30 1 x2)) else (some (0, 0, wr s27 30 1 ((s27 30 1) + 1))))))))))))))))))) := rfl
set_option maxRecDepth 100000 in
theorem qX0_isOpen_24_0 (d n : Nat) (σ : zS) (x1 x2 : Int32) : zexec zc_X0_isOpen zu_X0_isOpen (zM d) (n + 1) 0 [.inr (.inr 24), .inl x1, .inl x2] σ = zbI (zM d mX0_holds [.inr (.inr 24), .inl x1] σ) (fun r1 s1 => if r1 = 0 then (some (1, 0, s1)) else (if x1 < 0 ∨ 200 ≤ x1.toNatClampNeg then none else (if (s1 25 x1.toNatClampNeg) = x2 then (if x1 < 0 ∨ 200 ≤ x1.toNatClampNeg then none else (if (s1 28 x1.toNatClampNeg) = (-1) then (some (1, 1, s1)) else (some (1, 0, s1)))) else (some (1, 0, s1))))) := rfl
set_option maxRecDepth 100000 in
theorem qX0_isOpen_24 (d : Nat) (σ : zS) (x1 x2 : Int32) : zM (d + 1) mX0_isOpen [.inr (.inr 24), .inl x1, .inl x2] σ = zexec zc_X0_isOpen zu_X0_isOpen (zM d) (999999 + 1) 0 [.inr (.inr 24), .inl x1, .inl x2] σ := zM_eq (zat_X0_isOpen) rfl (Nat.le_of_ble_eq_true rfl)
set_option maxRecDepth 100000 in
theorem qX6_sortOfWord_1_0 (d n : Nat) (σ : zS) (x1 x2 : Int32) : zexec zc_X6_sortOfWord zu_X6_sortOfWord (zM d) (n + 1) 0 [.inr (.inr 1), .inl x1, .inl x2] σ = zbI (zM d mX6_spells [.inr (.inr 1), .inl x1, .inl x2, .inr (.inr 1000)] σ) (fun r1 s1 => if r1 = 0 then (zbI (zM d mX6_spells [.inr (.inr 1), .inl x1, .inl x2, .inr (.inr 1001)] s1) (fun r2 s2 => if r2 = 0 then (zbI (zM d mX6_spells [.inr (.inr 1), .inl x1, .inl x2, .inr (.inr 1002)] s2) (fun r3 s3 => if r3 = 0 then (zbI (zM d mX6_spells [.inr (.inr 1), .inl x1, .inl x2, .inr (.inr 1003)] s3) (fun r4 s4 => if r4 = 0 then (zbI (zM d mX6_spells [.inr (.inr 1), .inl x1, .inl x2, .inr (.inr 1004)] s4) (fun r5 s5 => if r5 = 0 then (zbI (zM d mX6_spells [.inr (.inr 1), .inl x1, .inl x2, .inr (.inr 1005)] s5) (fun r6 s6 => if r6 = 0 then (zbI (zM d mX6_spells [.inr (.inr 1), .inl x1, .inl x2, .inr (.inr 1006)] s6) (fun r7 s7 => if r7 = 0 then (zbI (zM d mX6_spells [.inr (.inr 1), .inl x1, .inl x2, .inr (.inr 1007)] s7) (fun r8 s8 => if r8 = 0 then (zbI (zM d mX6_spells [.inr (.inr 1), .inl x1, .inl x2, .inr (.inr 1008)] s8) (fun r9 s9 => if r9 = 0 then (some (1, (-1), s9)) else (some (1, 3, s9)))) else (some (1, 9, s8)))) else (some (1, 8, s7)))) else (some (1, 7, s6)))) else (some (1, 6, s5)))) else (some (1, 5, s4)))) else (some (1, 4, s3)))) else (some (1, 2, s2)))) else (some (1, 1, s1))) := rfl
set_option maxRecDepth 100000 in
theorem qX6_sortOfWord_1 (d : Nat) (σ : zS) (x1 x2 : Int32) : zM (d + 1) mX6_sortOfWord [.inr (.inr 1), .inl x1, .inl x2] σ = zexec zc_X6_sortOfWord zu_X6_sortOfWord (zM d) (999999 + 1) 0 [.inr (.inr 1), .inl x1, .inl x2] σ := zM_eq (zat_X6_sortOfWord) rfl (Nat.le_of_ble_eq_true rfl)
set_option maxRecDepth 100000 in
theorem qX6_isWord_3_0 (d n : Nat) (σ : zS) (x1 : Int32) : zexec zc_X6_isWord zu_X6_isWord (zM d) (n + 1) 0 [.inr (.inr 3), .inl x1] σ = zbI (zM d mX6_kind [.inr (.inr 3)] σ) (fun r1 s1 => if r1 = 4 then (zbI (zM d mX6_value [.inr (.inr 3)] s1) (fun r2 s2 => if r2 = x1 then (some (1, 1, s2)) else (some (1, 0, s2)))) else (some (1, 0, s1))) := rfl
set_option maxRecDepth 100000 in
theorem qX6_isWord_3 (d : Nat) (σ : zS) (x1 : Int32) : zM (d + 1) mX6_isWord [.inr (.inr 3), .inl x1] σ = zexec zc_X6_isWord zu_X6_isWord (zM d) (999999 + 1) 0 [.inr (.inr 3), .inl x1] σ := zM_eq (zat_X6_isWord) rfl (Nat.le_of_ble_eq_true rfl)
set_option maxRecDepth 100000 in
theorem qX2_readStop_23_0 (d n : Nat) (σ : zS) (x1 : Int32) : zexec zc_X2_readStop zu_X2_readStop (zM d) (n + 1) 0 [.inr (.inr 23), .inl x1] σ = zbI (zM d mX1_add [.inr (.inr 7), .inl 9, .inl 0] σ) (fun r1 s1 => zbV (zM d mX6_skip [.inr (.inr 3)] s1) (fun s2 => zbI (zM d mX2_readX [.inr (.inr 23), .inl x1] s2) (fun r3 s3 => if r3 = 0 ∨ r3 = 1 then some (1, r3, s3) else none))) := rfl
set_option maxRecDepth 100000 in
theorem qX2_readStop_23 (d : Nat) (σ : zS) (x1 : Int32) : zM (d + 1) mX2_readStop [.inr (.inr 23), .inl x1] σ = zexec zc_X2_readStop zu_X2_readStop (zM d) (999999 + 1) 0 [.inr (.inr 23), .inl x1] σ := zM_eq (zat_X2_readStop) rfl (Nat.le_of_ble_eq_true rfl)
set_option maxRecDepth 100000 in
theorem qX6_take_3_0 (d n : Nat) (σ : zS) (x1 : Int32) : zexec zc_X6_take zu_X6_take (zM d) (n + 1) 0 [.inr (.inr 3), .inl x1] σ = zbI (zM d mX6_kind [.inr (.inr 3)] σ) (fun r1 s1 => if r1 = x1 then (zbV (zM d mX6_skip [.inr (.inr 3)] s1) (fun s2 => some (1, 1, s2))) else (some (1, 0, s1))) := rfl
set_option maxRecDepth 100000 in
theorem qX6_take_3 (d : Nat) (σ : zS) (x1 : Int32) : zM (d + 1) mX6_take [.inr (.inr 3), .inl x1] σ = zexec zc_X6_take zu_X6_take (zM d) (999999 + 1) 0 [.inr (.inr 3), .inl x1] σ := zM_eq (zat_X6_take) rfl (Nat.le_of_ble_eq_true rfl)
set_option maxRecDepth 100000 in
theorem qX2_readAssignment_23_0 (d n : Nat) (σ : zS) (x1 : Int32) : zexec zc_X2_readAssignment zu_X2_readAssignment (zM d) (n + 1) 0 [.inr (.inr 23), .inl x1] σ = zbI (zM d mX6_value [.inr (.inr 3)] σ) (fun r1 s1 => zbI (zM d mX1_add [.inr (.inr 7), .inl 0, .inl r1] s1) (fun r2 s2 => zbV (zM d mX6_skip [.inr (.inr 3)] s2) (fun s3 => zbI (zM d mX6_take [.inr (.inr 3), .inl 61] s3) (fun r4 s4 => if r4 = 0 then (some (1, 0, s4)) else (zbI (zM d mX6_kind [.inr (.inr 3)] s4) (fun r5 s5 => if r5 = 4 then (zbI (zM d mX6_value [.inr (.inr 3)] s5) (fun r6 s6 => if r6 = 9 then (some (1, 0, s6)) else (zbV (zM d mX1_setSort [.inr (.inr 7), .inl r2, .inl r6] s6) (fun s7 => zbV (zM d mX6_skip [.inr (.inr 3)] s7) (fun s8 => zbI (zM d mX2_readRest [.inr (.inr 23), .inl r6, .inl r2, .inl x1] s8) (fun r9 s9 => if r9 = 0 ∨ r9 = 1 then some (1, r9, s9) else none)))))) else (zbI (zM d mX2_readX [.inr (.inr 23), .inl x1] s5) (fun r10 s10 => if r10 = 0 ∨ r10 = 1 then some (1, r10, s10) else none)))))))) := rfl
set_option maxRecDepth 100000 in
theorem qX2_readAssignment_23 (d : Nat) (σ : zS) (x1 : Int32) : zM (d + 1) mX2_readAssignment [.inr (.inr 23), .inl x1] σ = zexec zc_X2_readAssignment zu_X2_readAssignment (zM d) (999999 + 1) 0 [.inr (.inr 23), .inl x1] σ := zM_eq (zat_X2_readAssignment) rfl (Nat.le_of_ble_eq_true rfl)
set_option maxRecDepth 100000 in
theorem qX2_readLoop_23_0 (d n : Nat) (σ : zS) (x1 : Int32) : zexec zc_X2_readLoop zu_X2_readLoop (zM d) (n + 1) 0 [.inr (.inr 23), .inl x1] σ = if x1 < 10 then (zbI (zM d mX1_add [.inr (.inr 7), .inl 11, .inl 0] σ) (fun r1 s1 => zbV (zM d mX6_skip [.inr (.inr 3)] s1) (fun s2 => zbI (zM d mX2_readX [.inr (.inr 23), .inl (x1 + 1)] s2) (fun r3 s3 => if r3 = 0 then (some (1, 0, s3)) else (zbI (zM d mX6_take [.inr (.inr 3), .inl 91] s3) (fun r4 s4 => if r4 = 0 then (some (1, 0, s4)) else (zbI (zM d mX2_readStatements [.inr (.inr 23), .inl (x1 + 1)] s4) (fun r5 s5 => if r5 = 0 then (some (1, 0, s5)) else (zbI (zM d mX6_take [.inr (.inr 3), .inl 93] s5) (fun r6 s6 => if r6 = 0 then (some (1, 0, s6)) else (zbI (zM d mX1_addJump [.inr (.inr 7), .inl r1] s6) (fun r7 s7 => zbI (zM d mX1_size [.inr (.inr 7)] s7) (fun r8 s8 => zbV (zM d mX1_setFirst [.inr (.inr 7), .inl r1, .inl r8] s8) (fun s9 => some (1, 1, s9))))))))))))))) else (some (1, 0, σ)) := rfl
set_option maxRecDepth 100000 in
theorem qX2_readLoop_23 (d : Nat) (σ : zS) (x1 : Int32) : zM (d + 1) mX2_readLoop [.inr (.inr 23), .inl x1] σ = zexec zc_X2_readLoop zu_X2_readLoop (zM d) (999999 + 1) 0 [.inr (.inr 23), .inl x1] σ := zM_eq (zat_X2_readLoop) rfl (Nat.le_of_ble_eq_true rfl)
set_option maxRecDepth 100000 in
theorem qX2_readChoice_23_0 (d n : Nat) (σ : zS) (x1 : Int32) : zexec zc_X2_readChoice zu_X2_readChoice (zM d) (n + 1) 0 [.inr (.inr 23), .inl x1] σ = if x1 < 10 then (zbI (zM d mX1_add [.inr (.inr 7), .inl 10, .inl 0] σ) (fun r1 s1 => zbV (zM d mX6_skip [.inr (.inr 3)] s1) (fun s2 => zbI (zM d mX2_readX [.inr (.inr 23), .inl (x1 + 1)] s2) (fun r3 s3 => if r3 = 0 then (some (1, 0, s3)) else (zbI (zM d mX6_take [.inr (.inr 3), .inl 91] s3) (fun r4 s4 => if r4 = 0 then (some (1, 0, s4)) else (zbI (zM d mX2_readStatements [.inr (.inr 23), .inl (x1 + 1)] s4) (fun r5 s5 => if r5 = 0 then (some (1, 0, s5)) else (zbI (zM d mX6_take [.inr (.inr 3), .inl 124] s5) (fun r6 s6 => if r6 = 0 then (some (1, 0, s6)) else (zbI (zM d mX1_addJump [.inr (.inr 7), .inl 0] s6) (fun r7 s7 => zbI (zM d mX1_size [.inr (.inr 7)] s7) (fun r8 s8 => zbV (zM d mX1_setFirst [.inr (.inr 7), .inl r1, .inl r8] s8) (fun s9 => zbI (zM d mX2_readStatements [.inr (.inr 23), .inl (x1 + 1)] s9) (fun r10 s10 => if r10 = 0 then (some (1, 0, s10)) else (zbI (zM d mX6_take [.inr (.inr 3), .inl 93] s10) (fun r11 s11 => if r11 = 0 then (some (1, 0, s11)) else (zbI (zM d mX1_size [.inr (.inr 7)] s11) (fun r12 s12 => zbV (zM d mX1_setFirst [.inr (.inr 7), .inl r7, .inl r12] s12) (fun s13 => some (1, 1, s13))))))))))))))))))))) else (some (1, 0, σ)) := rfl
set_option maxRecDepth 100000 in
theorem qX2_readChoice_23 (d : Nat) (σ : zS) (x1 : Int32) : zM (d + 1) mX2_readChoice [.inr (.inr 23), .inl x1] σ = zexec zc_X2_readChoice zu_X2_readChoice (zM d) (999999 + 1) 0 [.inr (.inr 23), .inl x1] σ := zM_eq (zat_X2_readChoice) rfl (Nat.le_of_ble_eq_true rfl)
set_option maxRecDepth 100000 in
theorem qX1_holds_15_0 (d n : Nat) (σ : zS) (x1 : Int32) : zexec zc_X1_holds zu_X1_holds (zM d) (n + 1) 0 [.inr (.inr 15), .inl x1] σ = if x1 < 0 then (some (1, 0, σ)) else (if x1 < (σ 15 7) then (some (1, 1, σ)) else (some (1, 0, σ))) := rfl
set_option maxRecDepth 100000 in
theorem qX1_holds_15 (d : Nat) (σ : zS) (x1 : Int32) : zM (d + 1) mX1_holds [.inr (.inr 15), .inl x1] σ = zexec zc_X1_holds zu_X1_holds (zM d) (999999 + 1) 0 [.inr (.inr 15), .inl x1] σ := zM_eq (zat_X1_holds) rfl (Nat.le_of_ble_eq_true rfl)
set_option maxRecDepth 100000 in
theorem qX4_workOut_34_0 (d n : Nat) (σ : zS) : zexec zc_X4_workOut zu_X4_workOut (zM d) (n + 1) 0 [.inr (.inr 34)] σ = zbI (zM d mX1_itemEnd [.inr (.inr 15), .inl (σ 30 1)] σ) (fun r1 s1 => zbI (zM d mX1_firstItem [.inr (.inr 15), .inl (s1 30 1)] (wr s1 34 5 0)) (fun r2 s2 => zexec zc_X4_workOut zu_X4_workOut (zM d) n 35 [.inr (.inr 34), .inl r1, .inl r2] s2)) := rfl
set_option maxRecDepth 100000 in
theorem qX4_workOut_34 (d : Nat) (σ : zS) : zM (d + 1) mX4_workOut [.inr (.inr 34)] σ = zexec zc_X4_workOut zu_X4_workOut (zM d) (999999 + 1) 0 [.inr (.inr 34)] σ := zM_eq (zat_X4_workOut) rfl (Nat.le_of_ble_eq_true rfl)
set_option maxRecDepth 100000 in
theorem qX4_workOut_34_35 (d n : Nat) (σ : zS) (x1 x2 : Int32) : zexec zc_X4_workOut zu_X4_workOut (zM d) (n + 1) 35 [.inr (.inr 34), .inl x1, .inl x2] σ = if x2 < x1 then (zbI (zM d mX1_itemSort [.inr (.inr 15), .inl x2] σ) (fun r2 s2 => zbI (zM d mX1_itemValue [.inr (.inr 15), .inl x2] s2) (fun r3 s3 => zbV (zM d mX4_work [.inr (.inr 34), .inl r2, .inl r3] s3) (fun s4 => zexec zc_X4_workOut zu_X4_workOut (zM d) n 35 [.inr (.inr 34), .inl x1, .inl (x2 + 1)] s4)))) else (zbI (zM d mX4_pop [.inr (.inr 34)] σ) (fun r1 s1 => some (1, r1, s1))) := rfl
set_option maxRecDepth 100000 in
theorem qX4_stop_34_0 (d n : Nat) (σ : zS) (x1 : Int32) : zexec zc_X4_stop zu_X4_stop (zM d) (n + 1) 0 [.inr (.inr 34), .inl x1] σ = zbI (zM d mX4_want [.inr (.inr 34), .inl 4, .inl 0, .inl x1] σ) (fun r1 s1 => if r1 = 0 then (some (0, 0, s1)) else (some (0, 0, wr s1 30 5 1))) := rfl
set_option maxRecDepth 100000 in
theorem qX4_stop_34 (d : Nat) (σ : zS) (x1 : Int32) : zM (d + 1) mX4_stop [.inr (.inr 34), .inl x1] σ = zexec zc_X4_stop zu_X4_stop (zM d) (999999 + 1) 0 [.inr (.inr 34), .inl x1] σ := zM_eq (zat_X4_stop) rfl (Nat.le_of_ble_eq_true rfl)
set_option maxRecDepth 100000 in
theorem qX4_patch_34_0 (d n : Nat) (σ : zS) (x1 : Int32) : zexec zc_X4_patch zu_X4_patch (zM d) (n + 1) 0 [.inr (.inr 34), .inl x1] σ = if (σ 34 7) < (σ 34 8) then (zbI (zM d mX0_isAt [.inr (.inr 24), .inl (σ 34 7), .inl 3, .inl x1, .inl 0] σ) (fun r4 s4 => if r4 = 0 then (if (s4 34 9) = 0 then (zbV (zM d mX4_finish [.inr (.inr 34), .inl 0] s4) (fun s7 => some (0, 0, s7))) else (zbI (zM d mX4_want [.inr (.inr 34), .inl 3, .inl x1, .inl 0] s4) (fun r5 s5 => if r5 = 0 then (some (0, 0, s5)) else (zbV (zM d mX4_finish [.inr (.inr 34), .inl 1] s5) (fun s6 => some (0, 0, s6)))))) else (if (s4 34 9) = 0 then (zbI (zM d mX4_want [.inr (.inr 34), .inl 3, .inl x1, .inl 0] s4) (fun r10 s10 => if r10 = 0 then (some (0, 0, s10)) else (zbV (zM d mX4_finish [.inr (.inr 34), .inl 1] s10) (fun s11 => some (0, 0, s11))))) else (zbI (zM d mX4_want [.inr (.inr 34), .inl 3, .inl x1, .inl 0] s4) (fun r8 s8 => if r8 = 0 then (some (0, 0, s8)) else (zbV (zM d mX4_finish [.inr (.inr 34), .inl 1] s8) (fun s9 => some (0, 0, s9)))))))) else (if (σ 34 9) = 0 then (zbV (zM d mX4_finish [.inr (.inr 34), .inl 0] σ) (fun s3 => some (0, 0, s3))) else (zbI (zM d mX4_want [.inr (.inr 34), .inl 3, .inl x1, .inl 0] σ) (fun r1 s1 => if r1 = 0 then (some (0, 0, s1)) else (zbV (zM d mX4_finish [.inr (.inr 34), .inl 1] s1) (fun s2 => some (0, 0, s2)))))) := rfl
set_option maxRecDepth 100000 in
theorem qX4_patch_34 (d : Nat) (σ : zS) (x1 : Int32) : zM (d + 1) mX4_patch [.inr (.inr 34), .inl x1] σ = zexec zc_X4_patch zu_X4_patch (zM d) (999999 + 1) 0 [.inr (.inr 34), .inl x1] σ := zM_eq (zat_X4_patch) rfl (Nat.le_of_ble_eq_true rfl)
set_option maxRecDepth 100000 in
theorem qX4_finish_34_0 (d n : Nat) (σ : zS) (x1 : Int32) : zexec zc_X4_finish zu_X4_finish (zM d) (n + 1) 0 [.inr (.inr 34), .inl x1] σ = zbI (zM d mX1_targetAt [.inr (.inr 15), .inl (σ 30 1)] σ) (fun r1 s1 => zbV (zM d mX3_set [.inr (.inr 30), .inl r1, .inl x1] s1) (fun s2 => some (0, 0, wr s2 30 1 ((s2 30 1) + 1)))) := rfl
set_option maxRecDepth 100000 in
theorem qX4_finish_34 (d : Nat) (σ : zS) (x1 : Int32) : zM (d + 1) mX4_finish [.inr (.inr 34), .inl x1] σ = zexec zc_X4_finish zu_X4_finish (zM d) (999999 + 1) 0 [.inr (.inr 34), .inl x1] σ := zM_eq (zat_X4_finish) rfl (Nat.le_of_ble_eq_true rfl)
set_option maxRecDepth 100000 in
theorem qX4_takeSignal_34_0 (d n : Nat) (σ : zS) : zexec zc_X4_takeSignal zu_X4_takeSignal (zM d) (n + 1) 0 [.inr (.inr 34)] σ = zbI (zM d mX0_signal [.inr (.inr 24), .inl (σ 30 2), .inl (σ 34 6)] σ) (fun r1 s1 => if r1 = (-1) then (some (0, 0, wr s1 34 10 1)) else (zbI (zM d mX0_valueAt [.inr (.inr 24), .inl r1] (wr s1 30 2 ((s1 30 2) + 1))) (fun r2 s2 => zbV (zM d mX4_finish [.inr (.inr 34), .inl r2] s2) (fun s3 => some (0, 0, s3))))) := rfl
set_option maxRecDepth 100000 in
theorem qX4_takeSignal_34 (d : Nat) (σ : zS) : zM (d + 1) mX4_takeSignal [.inr (.inr 34)] σ = zexec zc_X4_takeSignal zu_X4_takeSignal (zM d) (999999 + 1) 0 [.inr (.inr 34)] σ := zM_eq (zat_X4_takeSignal) rfl (Nat.le_of_ble_eq_true rfl)
set_option maxRecDepth 100000 in
theorem qX3_get_30_0 (d n : Nat) (σ : zS) (x1 : Int32) : zexec zc_X3_get zu_X3_get (zM d) (n + 1) 0 [.inr (.inr 30), .inl x1] σ = if x1 < 0 then (some (1, 0, σ)) else (if x1 < 8 then (if x1 < 0 ∨ 8 ≤ x1.toNatClampNeg then none else (some (1, σ 31 x1.toNatClampNeg, σ))) else (some (1, 0, σ))) := rfl
set_option maxRecDepth 100000 in
theorem qX3_get_30 (d : Nat) (σ : zS) (x1 : Int32) : zM (d + 1) mX3_get [.inr (.inr 30), .inl x1] σ = zexec zc_X3_get zu_X3_get (zM d) (999999 + 1) 0 [.inr (.inr 30), .inl x1] σ := zM_eq (zat_X3_get) rfl (Nat.le_of_ble_eq_true rfl)
set_option maxRecDepth 100000 in
theorem qX4_endOf_34_0 (d n : Nat) (σ : zS) (x1 : Int32) : zexec zc_X4_endOf zu_X4_endOf (zM d) (n + 1) 0 [.inr (.inr 34), .inl x1] σ = zbI (zM d mX0_kindAt [.inr (.inr 24), .inl x1] σ) (fun r1 s1 => if x1 < (s1 34 7) then (if r1 = 1 then (zbI (zM d mX0_endOf [.inr (.inr 24), .inl x1, .inl (s1 34 6)] s1) (fun r2 s2 => some (1, r2, s2))) else (if r1 = 2 then (zbI (zM d mX0_endOf [.inr (.inr 24), .inl x1, .inl (s1 34 6)] s1) (fun r3 s3 => some (1, r3, s3))) else (some (1, (-2), s1)))) else (some (1, (-2), s1))) := rfl
set_option maxRecDepth 100000 in
theorem qX4_endOf_34 (d : Nat) (σ : zS) (x1 : Int32) : zM (d + 1) mX4_endOf [.inr (.inr 34), .inl x1] σ = zexec zc_X4_endOf zu_X4_endOf (zM d) (999999 + 1) 0 [.inr (.inr 34), .inl x1] σ := zM_eq (zat_X4_endOf) rfl (Nat.le_of_ble_eq_true rfl)
set_option maxRecDepth 100000 in
theorem qX1_secondAt_15_0 (d n : Nat) (σ : zS) (x1 : Int32) : zexec zc_X1_secondAt zu_X1_secondAt (zM d) (n + 1) 0 [.inr (.inr 15), .inl x1] σ = zbI (zM d mX1_holds [.inr (.inr 15), .inl x1] σ) (fun r1 s1 => if r1 = 0 then (some (1, 0, s1)) else (if x1 < 0 ∨ 200 ≤ x1.toNatClampNeg then none else (some (1, s1 19 x1.toNatClampNeg, s1)))) := rfl
set_option maxRecDepth 100000 in
theorem qX1_secondAt_15 (d : Nat) (σ : zS) (x1 : Int32) : zM (d + 1) mX1_secondAt [.inr (.inr 15), .inl x1] σ = zexec zc_X1_secondAt zu_X1_secondAt (zM d) (999999 + 1) 0 [.inr (.inr 15), .inl x1] σ := zM_eq (zat_X1_secondAt) rfl (Nat.le_of_ble_eq_true rfl)
set_option maxRecDepth 100000 in
theorem qX4_waitForAny_34_0 (d n : Nat) (σ : zS) (x1 x2 : Int32) : zexec zc_X4_waitForAny zu_X4_waitForAny (zM d) (n + 1) 0 [.inr (.inr 34), .inl x1, .inl x2] σ = zbI (zM d mX4_endOf [.inr (.inr 34), .inl x1] σ) (fun r1 s1 => if r1 = (-1) then (zbI (zM d mX4_endOf [.inr (.inr 34), .inl x2] s1) (fun r2 s2 => if r2 = (-1) then (some (0, 0, wr s2 34 10 1)) else (zbV (zM d mX4_finish [.inr (.inr 34), .inl 2] s2) (fun s3 => some (0, 0, s3))))) else (zbV (zM d mX4_finish [.inr (.inr 34), .inl 1] s1) (fun s4 => some (0, 0, s4)))) := rfl
set_option maxRecDepth 100000 in
theorem qX4_waitForAny_34 (d : Nat) (σ : zS) (x1 x2 : Int32) : zM (d + 1) mX4_waitForAny [.inr (.inr 34), .inl x1, .inl x2] σ = zexec zc_X4_waitForAny zu_X4_waitForAny (zM d) (999999 + 1) 0 [.inr (.inr 34), .inl x1, .inl x2] σ := zM_eq (zat_X4_waitForAny) rfl (Nat.le_of_ble_eq_true rfl)
set_option maxRecDepth 100000 in
theorem qX4_waitFor_34_0 (d n : Nat) (σ : zS) (x1 : Int32) : zexec zc_X4_waitFor zu_X4_waitFor (zM d) (n + 1) 0 [.inr (.inr 34), .inl x1] σ = zbI (zM d mX4_endOf [.inr (.inr 34), .inl x1] σ) (fun r1 s1 => if r1 = (-1) then (some (0, 0, wr s1 34 10 1)) else (if r1 = (-2) then (zbV (zM d mX4_finish [.inr (.inr 34), .inl (-2)] s1) (fun s6 => some (0, 0, s6))) else (zbI (zM d mX0_kindAt [.inr (.inr 24), .inl r1] s1) (fun r2 s2 => if r2 = 6 then (zbV (zM d mX4_finish [.inr (.inr 34), .inl (-1)] s2) (fun s5 => some (0, 0, s5))) else (zbI (zM d mX0_valueAt [.inr (.inr 24), .inl r1] s2) (fun r3 s3 => zbV (zM d mX4_finish [.inr (.inr 34), .inl r3] s3) (fun s4 => some (0, 0, s4)))))))) := rfl
set_option maxRecDepth 100000 in
theorem qX4_waitFor_34 (d : Nat) (σ : zS) (x1 : Int32) : zM (d + 1) mX4_waitFor [.inr (.inr 34), .inl x1] σ = zexec zc_X4_waitFor zu_X4_waitFor (zM d) (999999 + 1) 0 [.inr (.inr 34), .inl x1] σ := zM_eq (zat_X4_waitFor) rfl (Nat.le_of_ble_eq_true rfl)
set_option maxRecDepth 100000 in
theorem qX4_order_34_0 (d n : Nat) (σ : zS) (x1 x2 x3 : Int32) : zexec zc_X4_order zu_X4_order (zM d) (n + 1) 0 [.inr (.inr 34), .inl x1, .inl x2, .inl x3] σ = zbI (zM d mX4_want [.inr (.inr 34), .inl x1, .inl x2, .inl x3] σ) (fun r1 s1 => if r1 = 0 then (some (0, 0, s1)) else (zbV (zM d mX4_finish [.inr (.inr 34), .inl (σ 34 7)] s1) (fun s2 => some (0, 0, s2)))) := rfl
set_option maxRecDepth 100000 in
theorem qX4_order_34 (d : Nat) (σ : zS) (x1 x2 x3 : Int32) : zM (d + 1) mX4_order [.inr (.inr 34), .inl x1, .inl x2, .inl x3] σ = zexec zc_X4_order zu_X4_order (zM d) (999999 + 1) 0 [.inr (.inr 34), .inl x1, .inl x2, .inl x3] σ := zM_eq (zat_X4_order) rfl (Nat.le_of_ble_eq_true rfl)
set_option maxRecDepth 100000 in
theorem qX6_spells_1_1000_0 (d n : Nat) (σ : zS) (x1 x2 : Int32) : zexec zc_X6_spells zu_X6_spells (zM d) (n + 1) 0 [.inr (.inr 1), .inl x1, .inl x2, .inr (.inr 1000)] σ = if (x2 - x1) = 3 then (zexec zc_X6_spells zu_X6_spells (zM d) n 15 [.inr (.inr 1), .inl x1, .inr (.inr 1000), .inl 0] σ) else (some (1, 0, σ)) := rfl
set_option maxRecDepth 100000 in
theorem qX6_spells_1_1000 (d : Nat) (σ : zS) (x1 x2 : Int32) : zM (d + 1) mX6_spells [.inr (.inr 1), .inl x1, .inl x2, .inr (.inr 1000)] σ = zexec zc_X6_spells zu_X6_spells (zM d) (999999 + 1) 0 [.inr (.inr 1), .inl x1, .inl x2, .inr (.inr 1000)] σ := zM_eq (zat_X6_spells) rfl (Nat.le_of_ble_eq_true rfl)
set_option maxRecDepth 100000 in
theorem qX6_spells_1_1000_15 (d n : Nat) (σ : zS) (x1 x4 : Int32) : zexec zc_X6_spells zu_X6_spells (zM d) (n + 1) 15 [.inr (.inr 1), .inl x1, .inr (.inr 1000), .inl x4] σ = if x4 < 3 then (zbI (zM d mX5_at [.inr (.inr 1), .inl (x1 + x4)] σ) (fun r1 s1 => if x4 < 0 ∨ 3 ≤ x4.toNatClampNeg then none else (if r1 = ((zstr 0).getD x4.toNatClampNeg 0) then (zexec zc_X6_spells zu_X6_spells (zM d) n 15 [.inr (.inr 1), .inl x1, .inr (.inr 1000), .inl (x4 + 1)] s1) else (some (1, 0, s1))))) else (some (1, 1, σ)) := rfl
set_option maxRecDepth 100000 in
theorem qX6_spells_1_1001_0 (d n : Nat) (σ : zS) (x1 x2 : Int32) : zexec zc_X6_spells zu_X6_spells (zM d) (n + 1) 0 [.inr (.inr 1), .inl x1, .inl x2, .inr (.inr 1001)] σ = if (x2 - x1) = 5 then (zexec zc_X6_spells zu_X6_spells (zM d) n 15 [.inr (.inr 1), .inl x1, .inr (.inr 1001), .inl 0] σ) else (some (1, 0, σ)) := rfl
set_option maxRecDepth 100000 in
theorem qX6_spells_1_1001 (d : Nat) (σ : zS) (x1 x2 : Int32) : zM (d + 1) mX6_spells [.inr (.inr 1), .inl x1, .inl x2, .inr (.inr 1001)] σ = zexec zc_X6_spells zu_X6_spells (zM d) (999999 + 1) 0 [.inr (.inr 1), .inl x1, .inl x2, .inr (.inr 1001)] σ := zM_eq (zat_X6_spells) rfl (Nat.le_of_ble_eq_true rfl)
set_option maxRecDepth 100000 in
theorem qX6_spells_1_1001_15 (d n : Nat) (σ : zS) (x1 x4 : Int32) : zexec zc_X6_spells zu_X6_spells (zM d) (n + 1) 15 [.inr (.inr 1), .inl x1, .inr (.inr 1001), .inl x4] σ = if x4 < 5 then (zbI (zM d mX5_at [.inr (.inr 1), .inl (x1 + x4)] σ) (fun r1 s1 => if x4 < 0 ∨ 5 ≤ x4.toNatClampNeg then none else (if r1 = ((zstr 1).getD x4.toNatClampNeg 0) then (zexec zc_X6_spells zu_X6_spells (zM d) n 15 [.inr (.inr 1), .inl x1, .inr (.inr 1001), .inl (x4 + 1)] s1) else (some (1, 0, s1))))) else (some (1, 1, σ)) := rfl
set_option maxRecDepth 100000 in
theorem qX6_spells_1_1002_0 (d n : Nat) (σ : zS) (x1 x2 : Int32) : zexec zc_X6_spells zu_X6_spells (zM d) (n + 1) 0 [.inr (.inr 1), .inl x1, .inl x2, .inr (.inr 1002)] σ = if (x2 - x1) = 3 then (zexec zc_X6_spells zu_X6_spells (zM d) n 15 [.inr (.inr 1), .inl x1, .inr (.inr 1002), .inl 0] σ) else (some (1, 0, σ)) := rfl
set_option maxRecDepth 100000 in
theorem qX6_spells_1_1002 (d : Nat) (σ : zS) (x1 x2 : Int32) : zM (d + 1) mX6_spells [.inr (.inr 1), .inl x1, .inl x2, .inr (.inr 1002)] σ = zexec zc_X6_spells zu_X6_spells (zM d) (999999 + 1) 0 [.inr (.inr 1), .inl x1, .inl x2, .inr (.inr 1002)] σ := zM_eq (zat_X6_spells) rfl (Nat.le_of_ble_eq_true rfl)
set_option maxRecDepth 100000 in
theorem qX6_spells_1_1002_15 (d n : Nat) (σ : zS) (x1 x4 : Int32) : zexec zc_X6_spells zu_X6_spells (zM d) (n + 1) 15 [.inr (.inr 1), .inl x1, .inr (.inr 1002), .inl x4] σ = if x4 < 3 then (zbI (zM d mX5_at [.inr (.inr 1), .inl (x1 + x4)] σ) (fun r1 s1 => if x4 < 0 ∨ 3 ≤ x4.toNatClampNeg then none else (if r1 = ((zstr 2).getD x4.toNatClampNeg 0) then (zexec zc_X6_spells zu_X6_spells (zM d) n 15 [.inr (.inr 1), .inl x1, .inr (.inr 1002), .inl (x4 + 1)] s1) else (some (1, 0, s1))))) else (some (1, 1, σ)) := rfl
set_option maxRecDepth 100000 in
theorem qX6_spells_1_1003_0 (d n : Nat) (σ : zS) (x1 x2 : Int32) : zexec zc_X6_spells zu_X6_spells (zM d) (n + 1) 0 [.inr (.inr 1), .inl x1, .inl x2, .inr (.inr 1003)] σ = if (x2 - x1) = 5 then (zexec zc_X6_spells zu_X6_spells (zM d) n 15 [.inr (.inr 1), .inl x1, .inr (.inr 1003), .inl 0] σ) else (some (1, 0, σ)) := rfl
set_option maxRecDepth 100000 in
theorem qX6_spells_1_1003 (d : Nat) (σ : zS) (x1 x2 : Int32) : zM (d + 1) mX6_spells [.inr (.inr 1), .inl x1, .inl x2, .inr (.inr 1003)] σ = zexec zc_X6_spells zu_X6_spells (zM d) (999999 + 1) 0 [.inr (.inr 1), .inl x1, .inl x2, .inr (.inr 1003)] σ := zM_eq (zat_X6_spells) rfl (Nat.le_of_ble_eq_true rfl)
set_option maxRecDepth 100000 in
theorem qX6_spells_1_1003_15 (d n : Nat) (σ : zS) (x1 x4 : Int32) : zexec zc_X6_spells zu_X6_spells (zM d) (n + 1) 15 [.inr (.inr 1), .inl x1, .inr (.inr 1003), .inl x4] σ = if x4 < 5 then (zbI (zM d mX5_at [.inr (.inr 1), .inl (x1 + x4)] σ) (fun r1 s1 => if x4 < 0 ∨ 5 ≤ x4.toNatClampNeg then none else (if r1 = ((zstr 3).getD x4.toNatClampNeg 0) then (zexec zc_X6_spells zu_X6_spells (zM d) n 15 [.inr (.inr 1), .inl x1, .inr (.inr 1003), .inl (x4 + 1)] s1) else (some (1, 0, s1))))) else (some (1, 1, σ)) := rfl
set_option maxRecDepth 100000 in
theorem qX6_spells_1_1004_0 (d n : Nat) (σ : zS) (x1 x2 : Int32) : zexec zc_X6_spells zu_X6_spells (zM d) (n + 1) 0 [.inr (.inr 1), .inl x1, .inl x2, .inr (.inr 1004)] σ = if (x2 - x1) = 3 then (zexec zc_X6_spells zu_X6_spells (zM d) n 15 [.inr (.inr 1), .inl x1, .inr (.inr 1004), .inl 0] σ) else (some (1, 0, σ)) := rfl
set_option maxRecDepth 100000 in
theorem qX6_spells_1_1004 (d : Nat) (σ : zS) (x1 x2 : Int32) : zM (d + 1) mX6_spells [.inr (.inr 1), .inl x1, .inl x2, .inr (.inr 1004)] σ = zexec zc_X6_spells zu_X6_spells (zM d) (999999 + 1) 0 [.inr (.inr 1), .inl x1, .inl x2, .inr (.inr 1004)] σ := zM_eq (zat_X6_spells) rfl (Nat.le_of_ble_eq_true rfl)
set_option maxRecDepth 100000 in
theorem qX6_spells_1_1004_15 (d n : Nat) (σ : zS) (x1 x4 : Int32) : zexec zc_X6_spells zu_X6_spells (zM d) (n + 1) 15 [.inr (.inr 1), .inl x1, .inr (.inr 1004), .inl x4] σ = if x4 < 3 then (zbI (zM d mX5_at [.inr (.inr 1), .inl (x1 + x4)] σ) (fun r1 s1 => if x4 < 0 ∨ 3 ≤ x4.toNatClampNeg then none else (if r1 = ((zstr 4).getD x4.toNatClampNeg 0) then (zexec zc_X6_spells zu_X6_spells (zM d) n 15 [.inr (.inr 1), .inl x1, .inr (.inr 1004), .inl (x4 + 1)] s1) else (some (1, 0, s1))))) else (some (1, 1, σ)) := rfl
set_option maxRecDepth 100000 in
theorem qX6_spells_1_1005_0 (d n : Nat) (σ : zS) (x1 x2 : Int32) : zexec zc_X6_spells zu_X6_spells (zM d) (n + 1) 0 [.inr (.inr 1), .inl x1, .inl x2, .inr (.inr 1005)] σ = if (x2 - x1) = 3 then (zexec zc_X6_spells zu_X6_spells (zM d) n 15 [.inr (.inr 1), .inl x1, .inr (.inr 1005), .inl 0] σ) else (some (1, 0, σ)) := rfl
set_option maxRecDepth 100000 in
theorem qX6_spells_1_1005 (d : Nat) (σ : zS) (x1 x2 : Int32) : zM (d + 1) mX6_spells [.inr (.inr 1), .inl x1, .inl x2, .inr (.inr 1005)] σ = zexec zc_X6_spells zu_X6_spells (zM d) (999999 + 1) 0 [.inr (.inr 1), .inl x1, .inl x2, .inr (.inr 1005)] σ := zM_eq (zat_X6_spells) rfl (Nat.le_of_ble_eq_true rfl)
set_option maxRecDepth 100000 in
theorem qX6_spells_1_1005_15 (d n : Nat) (σ : zS) (x1 x4 : Int32) : zexec zc_X6_spells zu_X6_spells (zM d) (n + 1) 15 [.inr (.inr 1), .inl x1, .inr (.inr 1005), .inl x4] σ = if x4 < 3 then (zbI (zM d mX5_at [.inr (.inr 1), .inl (x1 + x4)] σ) (fun r1 s1 => if x4 < 0 ∨ 3 ≤ x4.toNatClampNeg then none else (if r1 = ((zstr 5).getD x4.toNatClampNeg 0) then (zexec zc_X6_spells zu_X6_spells (zM d) n 15 [.inr (.inr 1), .inl x1, .inr (.inr 1005), .inl (x4 + 1)] s1) else (some (1, 0, s1))))) else (some (1, 1, σ)) := rfl
set_option maxRecDepth 100000 in
theorem qX6_spells_1_1006_0 (d n : Nat) (σ : zS) (x1 x2 : Int32) : zexec zc_X6_spells zu_X6_spells (zM d) (n + 1) 0 [.inr (.inr 1), .inl x1, .inl x2, .inr (.inr 1006)] σ = if (x2 - x1) = 5 then (zexec zc_X6_spells zu_X6_spells (zM d) n 15 [.inr (.inr 1), .inl x1, .inr (.inr 1006), .inl 0] σ) else (some (1, 0, σ)) := rfl
set_option maxRecDepth 100000 in
theorem qX6_spells_1_1006 (d : Nat) (σ : zS) (x1 x2 : Int32) : zM (d + 1) mX6_spells [.inr (.inr 1), .inl x1, .inl x2, .inr (.inr 1006)] σ = zexec zc_X6_spells zu_X6_spells (zM d) (999999 + 1) 0 [.inr (.inr 1), .inl x1, .inl x2, .inr (.inr 1006)] σ := zM_eq (zat_X6_spells) rfl (Nat.le_of_ble_eq_true rfl)
set_option maxRecDepth 100000 in
theorem qX6_spells_1_1006_15 (d n : Nat) (σ : zS) (x1 x4 : Int32) : zexec zc_X6_spells zu_X6_spells (zM d) (n + 1) 15 [.inr (.inr 1), .inl x1, .inr (.inr 1006), .inl x4] σ = if x4 < 5 then (zbI (zM d mX5_at [.inr (.inr 1), .inl (x1 + x4)] σ) (fun r1 s1 => if x4 < 0 ∨ 5 ≤ x4.toNatClampNeg then none else (if r1 = ((zstr 6).getD x4.toNatClampNeg 0) then (zexec zc_X6_spells zu_X6_spells (zM d) n 15 [.inr (.inr 1), .inl x1, .inr (.inr 1006), .inl (x4 + 1)] s1) else (some (1, 0, s1))))) else (some (1, 1, σ)) := rfl
set_option maxRecDepth 100000 in
theorem qX6_spells_1_1007_0 (d n : Nat) (σ : zS) (x1 x2 : Int32) : zexec zc_X6_spells zu_X6_spells (zM d) (n + 1) 0 [.inr (.inr 1), .inl x1, .inl x2, .inr (.inr 1007)] σ = if (x2 - x1) = 4 then (zexec zc_X6_spells zu_X6_spells (zM d) n 15 [.inr (.inr 1), .inl x1, .inr (.inr 1007), .inl 0] σ) else (some (1, 0, σ)) := rfl
set_option maxRecDepth 100000 in
theorem qX6_spells_1_1007 (d : Nat) (σ : zS) (x1 x2 : Int32) : zM (d + 1) mX6_spells [.inr (.inr 1), .inl x1, .inl x2, .inr (.inr 1007)] σ = zexec zc_X6_spells zu_X6_spells (zM d) (999999 + 1) 0 [.inr (.inr 1), .inl x1, .inl x2, .inr (.inr 1007)] σ := zM_eq (zat_X6_spells) rfl (Nat.le_of_ble_eq_true rfl)
set_option maxRecDepth 100000 in
theorem qX6_spells_1_1007_15 (d n : Nat) (σ : zS) (x1 x4 : Int32) : zexec zc_X6_spells zu_X6_spells (zM d) (n + 1) 15 [.inr (.inr 1), .inl x1, .inr (.inr 1007), .inl x4] σ = if x4 < 4 then (zbI (zM d mX5_at [.inr (.inr 1), .inl (x1 + x4)] σ) (fun r1 s1 => if x4 < 0 ∨ 4 ≤ x4.toNatClampNeg then none else (if r1 = ((zstr 7).getD x4.toNatClampNeg 0) then (zexec zc_X6_spells zu_X6_spells (zM d) n 15 [.inr (.inr 1), .inl x1, .inr (.inr 1007), .inl (x4 + 1)] s1) else (some (1, 0, s1))))) else (some (1, 1, σ)) := rfl
set_option maxRecDepth 100000 in
theorem qX6_spells_1_1008_0 (d n : Nat) (σ : zS) (x1 x2 : Int32) : zexec zc_X6_spells zu_X6_spells (zM d) (n + 1) 0 [.inr (.inr 1), .inl x1, .inl x2, .inr (.inr 1008)] σ = if (x2 - x1) = 4 then (zexec zc_X6_spells zu_X6_spells (zM d) n 15 [.inr (.inr 1), .inl x1, .inr (.inr 1008), .inl 0] σ) else (some (1, 0, σ)) := rfl
set_option maxRecDepth 100000 in
theorem qX6_spells_1_1008 (d : Nat) (σ : zS) (x1 x2 : Int32) : zM (d + 1) mX6_spells [.inr (.inr 1), .inl x1, .inl x2, .inr (.inr 1008)] σ = zexec zc_X6_spells zu_X6_spells (zM d) (999999 + 1) 0 [.inr (.inr 1), .inl x1, .inl x2, .inr (.inr 1008)] σ := zM_eq (zat_X6_spells) rfl (Nat.le_of_ble_eq_true rfl)
set_option maxRecDepth 100000 in
theorem qX6_spells_1_1008_15 (d n : Nat) (σ : zS) (x1 x4 : Int32) : zexec zc_X6_spells zu_X6_spells (zM d) (n + 1) 15 [.inr (.inr 1), .inl x1, .inr (.inr 1008), .inl x4] σ = if x4 < 4 then (zbI (zM d mX5_at [.inr (.inr 1), .inl (x1 + x4)] σ) (fun r1 s1 => if x4 < 0 ∨ 4 ≤ x4.toNatClampNeg then none else (if r1 = ((zstr 8).getD x4.toNatClampNeg 0) then (zexec zc_X6_spells zu_X6_spells (zM d) n 15 [.inr (.inr 1), .inl x1, .inr (.inr 1008), .inl (x4 + 1)] s1) else (some (1, 0, s1))))) else (some (1, 1, σ)) := rfl
set_option maxRecDepth 100000 in
theorem qX6_value_3_0 (d n : Nat) (σ : zS) : zexec zc_X6_value zu_X6_value (zM d) (n + 1) 0 [.inr (.inr 3)] σ = if (σ 3 4) < (σ 3 3) then (if (σ 3 4) < 0 ∨ 401 ≤ (σ 3 4).toNatClampNeg then none else (some (1, σ 6 ((σ 3 4).toNatClampNeg), σ))) else (some (1, 0, σ)) := rfl
set_option maxRecDepth 100000 in
theorem qX6_value_3 (d : Nat) (σ : zS) : zM (d + 1) mX6_value [.inr (.inr 3)] σ = zexec zc_X6_value zu_X6_value (zM d) (999999 + 1) 0 [.inr (.inr 3)] σ := zM_eq (zat_X6_value) rfl (Nat.le_of_ble_eq_true rfl)
set_option maxRecDepth 100000 in
theorem qX1_add_7_0 (d n : Nat) (σ : zS) (x1 x2 : Int32) : zexec zc_X1_add zu_X1_add (zM d) (n + 1) 0 [.inr (.inr 7), .inl x1, .inl x2] σ = if (σ 7 7) < 200 then (if (σ 7 7) < 0 ∨ 200 ≤ (σ 7 7).toNatClampNeg then none else (if (σ 7 7) < 0 ∨ 200 ≤ (σ 7 7).toNatClampNeg then none else (if (σ 7 7) < 0 ∨ 200 ≤ (σ 7 7).toNatClampNeg then none else (if (σ 7 7) < 0 ∨ 200 ≤ (σ 7 7).toNatClampNeg then none else (if (σ 7 7) < 0 ∨ 200 ≤ (σ 7 7).toNatClampNeg then none else (some (1, σ 7 7, wr (wr (wr (wr (wr (wr σ 8 ((σ 7 7).toNatClampNeg) x1) 9 ((σ 7 7).toNatClampNeg) x2) 10 ((σ 7 7).toNatClampNeg) 0) 11 ((σ 7 7).toNatClampNeg) 0) 12 ((σ 7 7).toNatClampNeg) (σ 7 8)) 7 7 ((σ 7 7) + 1)))))))) else (some (1, σ 7 7, σ)) := rfl
set_option maxRecDepth 100000 in
theorem qX1_add_7 (d : Nat) (σ : zS) (x1 x2 : Int32) : zM (d + 1) mX1_add [.inr (.inr 7), .inl x1, .inl x2] σ = zexec zc_X1_add zu_X1_add (zM d) (999999 + 1) 0 [.inr (.inr 7), .inl x1, .inl x2] σ := zM_eq (zat_X1_add) rfl (Nat.le_of_ble_eq_true rfl)
set_option maxRecDepth 100000 in
theorem qX6_skip_3_0 (d n : Nat) (σ : zS) : zexec zc_X6_skip zu_X6_skip (zM d) (n + 1) 0 [.inr (.inr 3)] σ = if (σ 3 4) < ((σ 3 3) - 1) then (some (0, 0, wr σ 3 4 ((σ 3 4) + 1))) else (some (0, 0, σ)) := rfl
set_option maxRecDepth 100000 in
theorem qX6_skip_3 (d : Nat) (σ : zS) : zM (d + 1) mX6_skip [.inr (.inr 3)] σ = zexec zc_X6_skip zu_X6_skip (zM d) (999999 + 1) 0 [.inr (.inr 3)] σ := zM_eq (zat_X6_skip) rfl (Nat.le_of_ble_eq_true rfl)
set_option maxRecDepth 100000 in
theorem qX2_readX_23_0 (d n : Nat) (σ : zS) (x1 : Int32) : zexec zc_X2_readX zu_X2_readX (zM d) (n + 1) 0 [.inr (.inr 23), .inl x1] σ = zbI (zM d mX2_readPart [.inr (.inr 23), .inl x1] σ) (fun r1 s1 => if r1 = 0 then (some (1, 0, s1)) else (zbI (zM d mX6_take [.inr (.inr 3), .inl 60] s1) (fun r2 s2 => if r2 = 0 then (some (1, 1, s2)) else (zbI (zM d mX2_readPart [.inr (.inr 23), .inl x1] s2) (fun r3 s3 => if r3 = 0 then (some (1, 0, s3)) else (zbV (zM d mX1_addItem [.inr (.inr 7), .inl 3, .inl 0] s3) (fun s4 => some (1, 1, s4)))))))) := rfl
set_option maxRecDepth 100000 in
theorem qX2_readX_23 (d : Nat) (σ : zS) (x1 : Int32) : zM (d + 1) mX2_readX [.inr (.inr 23), .inl x1] σ = zexec zc_X2_readX zu_X2_readX (zM d) (999999 + 1) 0 [.inr (.inr 23), .inl x1] σ := zM_eq (zat_X2_readX) rfl (Nat.le_of_ble_eq_true rfl)
set_option maxRecDepth 100000 in
theorem qX1_setSort_7_0 (d n : Nat) (σ : zS) (x1 x2 : Int32) : zexec zc_X1_setSort zu_X1_setSort (zM d) (n + 1) 0 [.inr (.inr 7), .inl x1, .inl x2] σ = zbI (zM d mX1_holds [.inr (.inr 7), .inl x1] σ) (fun r1 s1 => if r1 = 0 then (some (0, 0, s1)) else (if x1 < 0 ∨ 200 ≤ x1.toNatClampNeg then none else (some (0, 0, wr s1 8 x1.toNatClampNeg x2)))) := rfl
set_option maxRecDepth 100000 in
theorem qX1_setSort_7 (d : Nat) (σ : zS) (x1 x2 : Int32) : zM (d + 1) mX1_setSort [.inr (.inr 7), .inl x1, .inl x2] σ = zexec zc_X1_setSort zu_X1_setSort (zM d) (999999 + 1) 0 [.inr (.inr 7), .inl x1, .inl x2] σ := zM_eq (zat_X1_setSort) rfl (Nat.le_of_ble_eq_true rfl)
set_option maxRecDepth 100000 in
theorem qX2_readRest_23_0 (d n : Nat) (σ : zS) (x1 x2 x3 : Int32) : zexec zc_X2_readRest zu_X2_readRest (zM d) (n + 1) 0 [.inr (.inr 23), .inl x1, .inl x2, .inl x3] σ = if x1 = 1 then (zbI (zM d mX2_readFirst [.inr (.inr 23), .inl x2, .inl 3] σ) (fun r8 s8 => if r8 = 0 then (some (1, 0, s8)) else (zbI (zM d mX6_take [.inr (.inr 3), .inl 44] s8) (fun r9 s9 => if r9 = 0 then (some (1, 0, s9)) else (zbI (zM d mX2_readX [.inr (.inr 23), .inl x3] s9) (fun r10 s10 => if r10 = 0 then (some (1, 0, s10)) else (some (1, 1, s10)))))))) else (if x1 = 2 then (zbI (zM d mX2_readX [.inr (.inr 23), .inl x3] σ) (fun r7 s7 => if r7 = 0 ∨ r7 = 1 then some (1, r7, s7) else none)) else (if x1 = 3 then (zbI (zM d mX2_readFirst [.inr (.inr 23), .inl x2, .inl 2] σ) (fun r6 s6 => if r6 = 0 ∨ r6 = 1 then some (1, r6, s6) else none)) else (if x1 = 4 then (zbI (zM d mX2_readFirst [.inr (.inr 23), .inl x2, .inl 2] σ) (fun r3 s3 => if r3 = 0 then (some (1, 0, s3)) else (zbI (zM d mX6_take [.inr (.inr 3), .inl 44] s3) (fun r4 s4 => if r4 = 0 then (some (1, 0, s4)) else (zbI (zM d mX2_readSecond [.inr (.inr 23), .inl x2] s4) (fun r5 s5 => if r5 = 0 then (some (1, 0, s5)) else (some (1, 1, s5)))))))) else (if x1 = 5 then (zbI (zM d mX2_readFirst [.inr (.inr 23), .inl x2, .inl 2] σ) (fun r2 s2 => if r2 = 0 ∨ r2 = 1 then some (1, r2, s2) else none)) else (if x1 = 6 then (some (1, 1, σ)) else (if x1 = 7 then (some (1, 1, σ)) else (if x1 = 8 then (zbI (zM d mX2_readFirst [.inr (.inr 23), .inl x2, .inl 3] σ) (fun r1 s1 => if r1 = 0 ∨ r1 = 1 then some (1, r1, s1) else none)) else (some (1, 1, σ))))))))) := rfl
set_option maxRecDepth 100000 in
theorem qX2_readRest_23 (d : Nat) (σ : zS) (x1 x2 x3 : Int32) : zM (d + 1) mX2_readRest [.inr (.inr 23), .inl x1, .inl x2, .inl x3] σ = zexec zc_X2_readRest zu_X2_readRest (zM d) (999999 + 1) 0 [.inr (.inr 23), .inl x1, .inl x2, .inl x3] σ := zM_eq (zat_X2_readRest) rfl (Nat.le_of_ble_eq_true rfl)
set_option maxRecDepth 100000 in
theorem qX1_addJump_7_0 (d n : Nat) (σ : zS) (x1 : Int32) : zexec zc_X1_addJump zu_X1_addJump (zM d) (n + 1) 0 [.inr (.inr 7), .inl x1] σ = zbI (zM d mX1_add [.inr (.inr 7), .inl 12, .inl 0] σ) (fun r1 s1 => zbV (zM d mX1_setFirst [.inr (.inr 7), .inl r1, .inl x1] s1) (fun s2 => some (1, r1, wr s2 7 9 ((s2 7 9) + 1)))) := rfl
set_option maxRecDepth 100000 in
theorem qX1_addJump_7 (d : Nat) (σ : zS) (x1 : Int32) : zM (d + 1) mX1_addJump [.inr (.inr 7), .inl x1] σ = zexec zc_X1_addJump zu_X1_addJump (zM d) (999999 + 1) 0 [.inr (.inr 7), .inl x1] σ := zM_eq (zat_X1_addJump) rfl (Nat.le_of_ble_eq_true rfl)
set_option maxRecDepth 100000 in
theorem qX1_size_7_0 (d n : Nat) (σ : zS) : zexec zc_X1_size zu_X1_size (zM d) (n + 1) 0 [.inr (.inr 7)] σ = some (1, σ 7 7, σ) := rfl
set_option maxRecDepth 100000 in
theorem qX1_size_7 (d : Nat) (σ : zS) : zM (d + 1) mX1_size [.inr (.inr 7)] σ = zexec zc_X1_size zu_X1_size (zM d) (999999 + 1) 0 [.inr (.inr 7)] σ := zM_eq (zat_X1_size) rfl (Nat.le_of_ble_eq_true rfl)
set_option maxRecDepth 100000 in
theorem qX1_setFirst_7_0 (d n : Nat) (σ : zS) (x1 x2 : Int32) : zexec zc_X1_setFirst zu_X1_setFirst (zM d) (n + 1) 0 [.inr (.inr 7), .inl x1, .inl x2] σ = zbI (zM d mX1_holds [.inr (.inr 7), .inl x1] σ) (fun r1 s1 => if r1 = 0 then (some (0, 0, s1)) else (if x1 < 0 ∨ 200 ≤ x1.toNatClampNeg then none else (some (0, 0, wr s1 10 x1.toNatClampNeg x2)))) := rfl
set_option maxRecDepth 100000 in
theorem qX1_setFirst_7 (d : Nat) (σ : zS) (x1 x2 : Int32) : zM (d + 1) mX1_setFirst [.inr (.inr 7), .inl x1, .inl x2] σ = zexec zc_X1_setFirst zu_X1_setFirst (zM d) (999999 + 1) 0 [.inr (.inr 7), .inl x1, .inl x2] σ := zM_eq (zat_X1_setFirst) rfl (Nat.le_of_ble_eq_true rfl)
set_option maxRecDepth 100000 in
theorem qX1_itemEnd_15_0 (d n : Nat) (σ : zS) (x1 : Int32) : zexec zc_X1_itemEnd zu_X1_itemEnd (zM d) (n + 1) 0 [.inr (.inr 15), .inl x1] σ = zbI (zM d mX1_holds [.inr (.inr 15), .inl (x1 + 1)] σ) (fun r1 s1 => if r1 = 0 then (some (1, s1 15 8, s1)) else (if (x1 + 1) < 0 ∨ 200 ≤ (x1 + 1).toNatClampNeg then none else (some (1, s1 20 ((x1 + 1).toNatClampNeg), s1)))) := rfl
set_option maxRecDepth 100000 in
theorem qX1_itemEnd_15 (d : Nat) (σ : zS) (x1 : Int32) : zM (d + 1) mX1_itemEnd [.inr (.inr 15), .inl x1] σ = zexec zc_X1_itemEnd zu_X1_itemEnd (zM d) (999999 + 1) 0 [.inr (.inr 15), .inl x1] σ := zM_eq (zat_X1_itemEnd) rfl (Nat.le_of_ble_eq_true rfl)
set_option maxRecDepth 100000 in
theorem qX1_firstItem_15_0 (d n : Nat) (σ : zS) (x1 : Int32) : zexec zc_X1_firstItem zu_X1_firstItem (zM d) (n + 1) 0 [.inr (.inr 15), .inl x1] σ = zbI (zM d mX1_holds [.inr (.inr 15), .inl x1] σ) (fun r1 s1 => if r1 = 0 then (some (1, 0, s1)) else (if x1 < 0 ∨ 200 ≤ x1.toNatClampNeg then none else (some (1, s1 20 x1.toNatClampNeg, s1)))) := rfl
set_option maxRecDepth 100000 in
theorem qX1_firstItem_15 (d : Nat) (σ : zS) (x1 : Int32) : zM (d + 1) mX1_firstItem [.inr (.inr 15), .inl x1] σ = zexec zc_X1_firstItem zu_X1_firstItem (zM d) (999999 + 1) 0 [.inr (.inr 15), .inl x1] σ := zM_eq (zat_X1_firstItem) rfl (Nat.le_of_ble_eq_true rfl)
set_option maxRecDepth 100000 in
theorem qX4_pop_34_0 (d n : Nat) (σ : zS) : zexec zc_X4_pop zu_X4_pop (zM d) (n + 1) 0 [.inr (.inr 34)] σ = if (σ 34 5) < 1 then (some (1, 0, σ)) else (if 34 < (σ 34 5) then (some (1, 0, σ)) else (if ((σ 34 5) - 1) < 0 ∨ 34 ≤ ((σ 34 5) - 1).toNatClampNeg then none else (some (1, σ 37 (((σ 34 5) - 1).toNatClampNeg), wr σ 34 5 ((σ 34 5) - 1))))) := rfl
set_option maxRecDepth 100000 in
theorem qX4_pop_34 (d : Nat) (σ : zS) : zM (d + 1) mX4_pop [.inr (.inr 34)] σ = zexec zc_X4_pop zu_X4_pop (zM d) (999999 + 1) 0 [.inr (.inr 34)] σ := zM_eq (zat_X4_pop) rfl (Nat.le_of_ble_eq_true rfl)
set_option maxRecDepth 100000 in
theorem qX1_itemSort_15_0 (d n : Nat) (σ : zS) (x1 : Int32) : zexec zc_X1_itemSort zu_X1_itemSort (zM d) (n + 1) 0 [.inr (.inr 15), .inl x1] σ = if x1 < 0 then (some (1, 0, σ)) else (if x1 < (σ 15 8) then (if x1 < 0 ∨ 400 ≤ x1.toNatClampNeg then none else (some (1, σ 21 x1.toNatClampNeg, σ))) else (some (1, 0, σ))) := rfl
set_option maxRecDepth 100000 in
theorem qX1_itemSort_15 (d : Nat) (σ : zS) (x1 : Int32) : zM (d + 1) mX1_itemSort [.inr (.inr 15), .inl x1] σ = zexec zc_X1_itemSort zu_X1_itemSort (zM d) (999999 + 1) 0 [.inr (.inr 15), .inl x1] σ := zM_eq (zat_X1_itemSort) rfl (Nat.le_of_ble_eq_true rfl)
set_option maxRecDepth 100000 in
theorem qX1_itemValue_15_0 (d n : Nat) (σ : zS) (x1 : Int32) : zexec zc_X1_itemValue zu_X1_itemValue (zM d) (n + 1) 0 [.inr (.inr 15), .inl x1] σ = if x1 < 0 then (some (1, 0, σ)) else (if x1 < (σ 15 8) then (if x1 < 0 ∨ 400 ≤ x1.toNatClampNeg then none else (some (1, σ 22 x1.toNatClampNeg, σ))) else (some (1, 0, σ))) := rfl
set_option maxRecDepth 100000 in
theorem qX1_itemValue_15 (d : Nat) (σ : zS) (x1 : Int32) : zM (d + 1) mX1_itemValue [.inr (.inr 15), .inl x1] σ = zexec zc_X1_itemValue zu_X1_itemValue (zM d) (999999 + 1) 0 [.inr (.inr 15), .inl x1] σ := zM_eq (zat_X1_itemValue) rfl (Nat.le_of_ble_eq_true rfl)
set_option maxRecDepth 100000 in
theorem qX4_work_34_0 (d n : Nat) (σ : zS) (x1 x2 : Int32) : zexec zc_X4_work zu_X4_work (zM d) (n + 1) 0 [.inr (.inr 34), .inl x1, .inl x2] σ = if x1 = 0 then (zbV (zM d mX4_push [.inr (.inr 34), .inl x2] σ) (fun s9 => some (0, 0, s9))) else (if x1 = 1 then (zbI (zM d mX3_get [.inr (.inr 30), .inl x2] σ) (fun r7 s7 => zbV (zM d mX4_push [.inr (.inr 34), .inl r7] s7) (fun s8 => some (0, 0, s8)))) else (if x1 = 2 then (zbI (zM d mX4_pop [.inr (.inr 34)] σ) (fun r5 s5 => zbV (zM d mX4_push [.inr (.inr 34), .inl (-r5)] s5) (fun s6 => some (0, 0, s6)))) else (zbI (zM d mX4_pop [.inr (.inr 34)] σ) (fun r1 s1 => zbI (zM d mX4_pop [.inr (.inr 34)] s1) (fun r2 s2 => zbI (zM d mX4_join [.inl x1, .inl r2, .inl r1] s2) (fun r3 s3 => zbV (zM d mX4_push [.inr (.inr 34), .inl r3] s3) (fun s4 => some (0, 0, s4)))))))) := rfl
set_option maxRecDepth 100000 in
theorem qX4_work_34 (d : Nat) (σ : zS) (x1 x2 : Int32) : zM (d + 1) mX4_work [.inr (.inr 34), .inl x1, .inl x2] σ = zexec zc_X4_work zu_X4_work (zM d) (999999 + 1) 0 [.inr (.inr 34), .inl x1, .inl x2] σ := zM_eq (zat_X4_work) rfl (Nat.le_of_ble_eq_true rfl)
set_option maxRecDepth 100000 in
theorem qX4_want_34_0 (d n : Nat) (σ : zS) (x1 x2 x3 : Int32) : zexec zc_X4_want zu_X4_want (zM d) (n + 1) 0 [.inr (.inr 34), .inl x1, .inl x2, .inl x3] σ = if (σ 34 9) = 0 then (if (σ 34 7) < (σ 34 8) then (zbI (zM d mX0_isAt [.inr (.inr 24), .inl (σ 34 7), .inl x1, .inl x2, .inl x3] σ) (fun r2 s2 => if r2 = 0 then (zbV (zM d mX4_differ [.inr (.inr 34)] s2) (fun s3 => some (1, 0, s3))) else (some (1, 1, wr s2 34 7 ((s2 34 7) + 1))))) else (zbV (zM d mX4_differ [.inr (.inr 34)] σ) (fun s1 => some (1, 0, s1)))) else (zbI (zM d mX0_add [.inr (.inr 24), .inl x1, .inl x2, .inl x3] σ) (fun r4 s4 => if r4 = 0 then (some (1, 0, wr s4 34 11 5)) else (some (1, 1, wr s4 34 7 ((s4 34 7) + 1))))) := rfl
set_option maxRecDepth 100000 in
theorem qX4_want_34 (d : Nat) (σ : zS) (x1 x2 x3 : Int32) : zM (d + 1) mX4_want [.inr (.inr 34), .inl x1, .inl x2, .inl x3] σ = zexec zc_X4_want zu_X4_want (zM d) (999999 + 1) 0 [.inr (.inr 34), .inl x1, .inl x2, .inl x3] σ := zM_eq (zat_X4_want) rfl (Nat.le_of_ble_eq_true rfl)
set_option maxRecDepth 100000 in
theorem qX0_isAt_24_0 (d n : Nat) (σ : zS) (x1 x2 x3 x4 : Int32) : zexec zc_X0_isAt zu_X0_isAt (zM d) (n + 1) 0 [.inr (.inr 24), .inl x1, .inl x2, .inl x3, .inl x4] σ = zbI (zM d mX0_holds [.inr (.inr 24), .inl x1] σ) (fun r1 s1 => if r1 = 0 then (some (1, 0, s1)) else (if x1 < 0 ∨ 200 ≤ x1.toNatClampNeg then none else (if (s1 25 x1.toNatClampNeg) = x2 then (if x1 < 0 ∨ 200 ≤ x1.toNatClampNeg then none else (if (s1 26 x1.toNatClampNeg) = x3 then (if x1 < 0 ∨ 200 ≤ x1.toNatClampNeg then none else (if (s1 27 x1.toNatClampNeg) = x4 then (some (1, 1, s1)) else (some (1, 0, s1)))) else (some (1, 0, s1)))) else (some (1, 0, s1))))) := rfl
set_option maxRecDepth 100000 in
theorem qX0_isAt_24 (d : Nat) (σ : zS) (x1 x2 x3 x4 : Int32) : zM (d + 1) mX0_isAt [.inr (.inr 24), .inl x1, .inl x2, .inl x3, .inl x4] σ = zexec zc_X0_isAt zu_X0_isAt (zM d) (999999 + 1) 0 [.inr (.inr 24), .inl x1, .inl x2, .inl x3, .inl x4] σ := zM_eq (zat_X0_isAt) rfl (Nat.le_of_ble_eq_true rfl)
set_option maxRecDepth 100000 in
theorem qX1_targetAt_15_0 (d n : Nat) (σ : zS) (x1 : Int32) : zexec zc_X1_targetAt zu_X1_targetAt (zM d) (n + 1) 0 [.inr (.inr 15), .inl x1] σ = zbI (zM d mX1_holds [.inr (.inr 15), .inl x1] σ) (fun r1 s1 => if r1 = 0 then (some (1, 0, s1)) else (if x1 < 0 ∨ 200 ≤ x1.toNatClampNeg then none else (some (1, s1 17 x1.toNatClampNeg, s1)))) := rfl
set_option maxRecDepth 100000 in
theorem qX1_targetAt_15 (d : Nat) (σ : zS) (x1 : Int32) : zM (d + 1) mX1_targetAt [.inr (.inr 15), .inl x1] σ = zexec zc_X1_targetAt zu_X1_targetAt (zM d) (999999 + 1) 0 [.inr (.inr 15), .inl x1] σ := zM_eq (zat_X1_targetAt) rfl (Nat.le_of_ble_eq_true rfl)
set_option maxRecDepth 100000 in
theorem qX3_set_30_0 (d n : Nat) (σ : zS) (x1 x2 : Int32) : zexec zc_X3_set zu_X3_set (zM d) (n + 1) 0 [.inr (.inr 30), .inl x1, .inl x2] σ = if x1 < 0 then (some (0, 0, σ)) else (if x1 < 8 then (if x1 < 0 ∨ 8 ≤ x1.toNatClampNeg then none else (some (0, 0, wr σ 31 x1.toNatClampNeg x2))) else (some (0, 0, σ))) := rfl
set_option maxRecDepth 100000 in
theorem qX3_set_30 (d : Nat) (σ : zS) (x1 x2 : Int32) : zM (d + 1) mX3_set [.inr (.inr 30), .inl x1, .inl x2] σ = zexec zc_X3_set zu_X3_set (zM d) (999999 + 1) 0 [.inr (.inr 30), .inl x1, .inl x2] σ := zM_eq (zat_X3_set) rfl (Nat.le_of_ble_eq_true rfl)
set_option maxRecDepth 100000 in
theorem qX0_signal_24_0 (d n : Nat) (σ : zS) (x1 x2 : Int32) : zexec zc_X0_signal zu_X0_signal (zM d) (n + 1) 0 [.inr (.inr 24), .inl x1, .inl x2] σ = if x1 < 0 then (some (1, (-1), σ)) else (if x1 < (σ 24 6) then (if x1 < 0 ∨ 200 ≤ x1.toNatClampNeg then none else (if (σ 29 x1.toNatClampNeg) < x2 then (if x1 < 0 ∨ 200 ≤ x1.toNatClampNeg then none else (some (1, σ 29 x1.toNatClampNeg, σ))) else (some (1, (-1), σ)))) else (some (1, (-1), σ))) := rfl
set_option maxRecDepth 100000 in
theorem qX0_signal_24 (d : Nat) (σ : zS) (x1 x2 : Int32) : zM (d + 1) mX0_signal [.inr (.inr 24), .inl x1, .inl x2] σ = zexec zc_X0_signal zu_X0_signal (zM d) (999999 + 1) 0 [.inr (.inr 24), .inl x1, .inl x2] σ := zM_eq (zat_X0_signal) rfl (Nat.le_of_ble_eq_true rfl)
set_option maxRecDepth 100000 in
theorem qX0_endOf_24_0 (d n : Nat) (σ : zS) (x1 x2 : Int32) : zexec zc_X0_endOf zu_X0_endOf (zM d) (n + 1) 0 [.inr (.inr 24), .inl x1, .inl x2] σ = zbI (zM d mX0_holds [.inr (.inr 24), .inl x1] σ) (fun r1 s1 => if r1 = 0 then (some (1, (-1), s1)) else (if x1 < 0 ∨ 200 ≤ x1.toNatClampNeg then none else (if (s1 28 x1.toNatClampNeg) < x2 then (if x1 < 0 ∨ 200 ≤ x1.toNatClampNeg then none else (some (1, s1 28 x1.toNatClampNeg, s1))) else (some (1, (-1), s1))))) := rfl
set_option maxRecDepth 100000 in
theorem qX0_endOf_24 (d : Nat) (σ : zS) (x1 x2 : Int32) : zM (d + 1) mX0_endOf [.inr (.inr 24), .inl x1, .inl x2] σ = zexec zc_X0_endOf zu_X0_endOf (zM d) (999999 + 1) 0 [.inr (.inr 24), .inl x1, .inl x2] σ := zM_eq (zat_X0_endOf) rfl (Nat.le_of_ble_eq_true rfl)
set_option maxRecDepth 100000 in
theorem qX2_readPart_23_0 (d n : Nat) (σ : zS) (x1 : Int32) : zexec zc_X2_readPart zu_X2_readPart (zM d) (n + 1) 0 [.inr (.inr 23), .inl x1] σ = zbI (zM d mX2_readTerm [.inr (.inr 23), .inl x1] σ) (fun r1 s1 => if r1 = 0 then (some (1, 0, s1)) else (zexec zc_X2_readPart zu_X2_readPart (zM d) n 12 [.inr (.inr 23), .inl x1, .inl 0] s1)) := rfl
set_option maxRecDepth 100000 in
theorem qX2_readPart_23 (d : Nat) (σ : zS) (x1 : Int32) : zM (d + 1) mX2_readPart [.inr (.inr 23), .inl x1] σ = zexec zc_X2_readPart zu_X2_readPart (zM d) (999999 + 1) 0 [.inr (.inr 23), .inl x1] σ := zM_eq (zat_X2_readPart) rfl (Nat.le_of_ble_eq_true rfl)
set_option maxRecDepth 100000 in
theorem qX2_readPart_23_12 (d n : Nat) (σ : zS) (x1 x2 : Int32) : zexec zc_X2_readPart zu_X2_readPart (zM d) (n + 1) 12 [.inr (.inr 23), .inl x1, .inl x2] σ = if x2 < 400 then (zbI (zM d mX6_kind [.inr (.inr 3)] σ) (fun r1 s1 => if r1 = 43 then (zbI (zM d mX6_kind [.inr (.inr 3)] s1) (fun r2 s2 => if r2 = 43 then (zbV (zM d mX6_skip [.inr (.inr 3)] s2) (fun s6 => zbI (zM d mX2_readTerm [.inr (.inr 23), .inl x1] s6) (fun r7 s7 => if r7 = 0 then (some (1, 0, s7)) else (zbV (zM d mX1_addItem [.inr (.inr 7), .inl 4, .inl 0] s7) (fun s8 => zexec zc_X2_readPart zu_X2_readPart (zM d) n 12 [.inr (.inr 23), .inl x1, .inl (x2 + 1)] s8))))) else (zbV (zM d mX6_skip [.inr (.inr 3)] s2) (fun s3 => zbI (zM d mX2_readTerm [.inr (.inr 23), .inl x1] s3) (fun r4 s4 => if r4 = 0 then (some (1, 0, s4)) else (zbV (zM d mX1_addItem [.inr (.inr 7), .inl 5, .inl 0] s4) (fun s5 => zexec zc_X2_readPart zu_X2_readPart (zM d) n 12 [.inr (.inr 23), .inl x1, .inl (x2 + 1)] s5))))))) else (zbI (zM d mX6_kind [.inr (.inr 3)] s1) (fun r9 s9 => if r9 = 45 then (zbI (zM d mX6_kind [.inr (.inr 3)] s9) (fun r10 s10 => if r10 = 43 then (zbV (zM d mX6_skip [.inr (.inr 3)] s10) (fun s14 => zbI (zM d mX2_readTerm [.inr (.inr 23), .inl x1] s14) (fun r15 s15 => if r15 = 0 then (some (1, 0, s15)) else (zbV (zM d mX1_addItem [.inr (.inr 7), .inl 4, .inl 0] s15) (fun s16 => zexec zc_X2_readPart zu_X2_readPart (zM d) n 12 [.inr (.inr 23), .inl x1, .inl (x2 + 1)] s16))))) else (zbV (zM d mX6_skip [.inr (.inr 3)] s10) (fun s11 => zbI (zM d mX2_readTerm [.inr (.inr 23), .inl x1] s11) (fun r12 s12 => if r12 = 0 then (some (1, 0, s12)) else (zbV (zM d mX1_addItem [.inr (.inr 7), .inl 5, .inl 0] s12) (fun s13 => zexec zc_X2_readPart zu_X2_readPart (zM d) n 12 [.inr (.inr 23), .inl x1, .inl (x2 + 1)] s13))))))) else (some (1, 1, s9)))))) else (some (1, 1, σ)) := rfl
set_option maxRecDepth 100000 in
theorem qX1_addItem_7_0 (d n : Nat) (σ : zS) (x1 x2 : Int32) : zexec zc_X1_addItem zu_X1_addItem (zM d) (n + 1) 0 [.inr (.inr 7), .inl x1, .inl x2] σ = if (σ 7 8) < 400 then (if (σ 7 8) < 0 ∨ 400 ≤ (σ 7 8).toNatClampNeg then none else (if (σ 7 8) < 0 ∨ 400 ≤ (σ 7 8).toNatClampNeg then none else (some (0, 0, wr (wr (wr σ 13 ((σ 7 8).toNatClampNeg) x1) 14 ((σ 7 8).toNatClampNeg) x2) 7 8 ((σ 7 8) + 1))))) else (some (0, 0, σ)) := rfl
set_option maxRecDepth 100000 in
theorem qX1_addItem_7 (d : Nat) (σ : zS) (x1 x2 : Int32) : zM (d + 1) mX1_addItem [.inr (.inr 7), .inl x1, .inl x2] σ = zexec zc_X1_addItem zu_X1_addItem (zM d) (999999 + 1) 0 [.inr (.inr 7), .inl x1, .inl x2] σ := zM_eq (zat_X1_addItem) rfl (Nat.le_of_ble_eq_true rfl)
set_option maxRecDepth 100000 in
theorem qX1_holds_7_0 (d n : Nat) (σ : zS) (x1 : Int32) : zexec zc_X1_holds zu_X1_holds (zM d) (n + 1) 0 [.inr (.inr 7), .inl x1] σ = if x1 < 0 then (some (1, 0, σ)) else (if x1 < (σ 7 7) then (some (1, 1, σ)) else (some (1, 0, σ))) := rfl
set_option maxRecDepth 100000 in
theorem qX1_holds_7 (d : Nat) (σ : zS) (x1 : Int32) : zM (d + 1) mX1_holds [.inr (.inr 7), .inl x1] σ = zexec zc_X1_holds zu_X1_holds (zM d) (999999 + 1) 0 [.inr (.inr 7), .inl x1] σ := zM_eq (zat_X1_holds) rfl (Nat.le_of_ble_eq_true rfl)
set_option maxRecDepth 100000 in
theorem qX2_readFirst_23_0 (d n : Nat) (σ : zS) (x1 x2 : Int32) : zexec zc_X2_readFirst zu_X2_readFirst (zM d) (n + 1) 0 [.inr (.inr 23), .inl x1, .inl x2] σ = zbI (zM d mX6_value [.inr (.inr 3)] σ) (fun r1 s1 => zbV (zM d mX1_setFirst [.inr (.inr 7), .inl x1, .inl r1] s1) (fun s2 => zbI (zM d mX6_take [.inr (.inr 3), .inl x2] s2) (fun r3 s3 => if r3 = 0 ∨ r3 = 1 then some (1, r3, s3) else none))) := rfl
set_option maxRecDepth 100000 in
theorem qX2_readFirst_23 (d : Nat) (σ : zS) (x1 x2 : Int32) : zM (d + 1) mX2_readFirst [.inr (.inr 23), .inl x1, .inl x2] σ = zexec zc_X2_readFirst zu_X2_readFirst (zM d) (999999 + 1) 0 [.inr (.inr 23), .inl x1, .inl x2] σ := zM_eq (zat_X2_readFirst) rfl (Nat.le_of_ble_eq_true rfl)
set_option maxRecDepth 100000 in
theorem qX2_readSecond_23_0 (d n : Nat) (σ : zS) (x1 : Int32) : zexec zc_X2_readSecond zu_X2_readSecond (zM d) (n + 1) 0 [.inr (.inr 23), .inl x1] σ = zbI (zM d mX6_value [.inr (.inr 3)] σ) (fun r1 s1 => zbV (zM d mX1_setSecond [.inr (.inr 7), .inl x1, .inl r1] s1) (fun s2 => zbI (zM d mX6_take [.inr (.inr 3), .inl 2] s2) (fun r3 s3 => if r3 = 0 ∨ r3 = 1 then some (1, r3, s3) else none))) := rfl
set_option maxRecDepth 100000 in
theorem qX2_readSecond_23 (d : Nat) (σ : zS) (x1 : Int32) : zM (d + 1) mX2_readSecond [.inr (.inr 23), .inl x1] σ = zexec zc_X2_readSecond zu_X2_readSecond (zM d) (999999 + 1) 0 [.inr (.inr 23), .inl x1] σ := zM_eq (zat_X2_readSecond) rfl (Nat.le_of_ble_eq_true rfl)
set_option maxRecDepth 100000 in
theorem qX4_join_0 (d n : Nat) (σ : zS) (x0 x1 x2 : Int32) : zexec zc_X4_join zu_X4_join (zM d) (n + 1) 0 [.inl x0, .inl x1, .inl x2] σ = if x0 = 3 then (if x1 < x2 then (some (1, 1, σ)) else (some (1, 0, σ))) else (if x0 = 4 then (some (1, x1 + x2, σ)) else (if x0 = 5 then (some (1, x1 - x2, σ)) else (some (1, x1 * x2, σ)))) := rfl
set_option maxRecDepth 100000 in
theorem qX4_join (d : Nat) (σ : zS) (x0 x1 x2 : Int32) : zM (d + 1) mX4_join [.inl x0, .inl x1, .inl x2] σ = zexec zc_X4_join zu_X4_join (zM d) (999999 + 1) 0 [.inl x0, .inl x1, .inl x2] σ := zM_eq (zat_X4_join) rfl (Nat.le_of_ble_eq_true rfl)
set_option maxRecDepth 100000 in
theorem qX4_push_34_0 (d n : Nat) (σ : zS) (x1 : Int32) : zexec zc_X4_push zu_X4_push (zM d) (n + 1) 0 [.inr (.inr 34), .inl x1] σ = if (σ 34 5) < 0 then (some (0, 0, σ)) else (if (σ 34 5) < 34 then (if (σ 34 5) < 0 ∨ 34 ≤ (σ 34 5).toNatClampNeg then none else (some (0, 0, wr (wr σ 37 ((σ 34 5).toNatClampNeg) x1) 34 5 ((σ 34 5) + 1)))) else (some (0, 0, σ))) := rfl
set_option maxRecDepth 100000 in
theorem qX4_push_34 (d : Nat) (σ : zS) (x1 : Int32) : zM (d + 1) mX4_push [.inr (.inr 34), .inl x1] σ = zexec zc_X4_push zu_X4_push (zM d) (999999 + 1) 0 [.inr (.inr 34), .inl x1] σ := zM_eq (zat_X4_push) rfl (Nat.le_of_ble_eq_true rfl)
set_option maxRecDepth 100000 in
theorem qX2_readTerm_23_0 (d n : Nat) (σ : zS) (x1 : Int32) : zexec zc_X2_readTerm zu_X2_readTerm (zM d) (n + 1) 0 [.inr (.inr 23), .inl x1] σ = zbI (zM d mX2_readFactor [.inr (.inr 23), .inl x1] σ) (fun r1 s1 => if r1 = 0 then (some (1, 0, s1)) else (zexec zc_X2_readTerm zu_X2_readTerm (zM d) n 12 [.inr (.inr 23), .inl x1, .inl 0] s1)) := rfl
set_option maxRecDepth 100000 in
theorem qX2_readTerm_23 (d : Nat) (σ : zS) (x1 : Int32) : zM (d + 1) mX2_readTerm [.inr (.inr 23), .inl x1] σ = zexec zc_X2_readTerm zu_X2_readTerm (zM d) (999999 + 1) 0 [.inr (.inr 23), .inl x1] σ := zM_eq (zat_X2_readTerm) rfl (Nat.le_of_ble_eq_true rfl)
set_option maxRecDepth 100000 in
theorem qX2_readTerm_23_12 (d n : Nat) (σ : zS) (x1 x2 : Int32) : zexec zc_X2_readTerm zu_X2_readTerm (zM d) (n + 1) 12 [.inr (.inr 23), .inl x1, .inl x2] σ = if x2 < 400 then (zbI (zM d mX6_kind [.inr (.inr 3)] σ) (fun r1 s1 => if r1 = 42 then (zbV (zM d mX6_skip [.inr (.inr 3)] s1) (fun s2 => zbI (zM d mX2_readFactor [.inr (.inr 23), .inl x1] s2) (fun r3 s3 => if r3 = 0 then (some (1, 0, s3)) else (zbV (zM d mX1_addItem [.inr (.inr 7), .inl 6, .inl 0] s3) (fun s4 => zexec zc_X2_readTerm zu_X2_readTerm (zM d) n 12 [.inr (.inr 23), .inl x1, .inl (x2 + 1)] s4))))) else (some (1, 1, s1)))) else (some (1, 1, σ)) := rfl
set_option maxRecDepth 100000 in
theorem qX1_setSecond_7_0 (d n : Nat) (σ : zS) (x1 x2 : Int32) : zexec zc_X1_setSecond zu_X1_setSecond (zM d) (n + 1) 0 [.inr (.inr 7), .inl x1, .inl x2] σ = zbI (zM d mX1_holds [.inr (.inr 7), .inl x1] σ) (fun r1 s1 => if r1 = 0 then (some (0, 0, s1)) else (if x1 < 0 ∨ 200 ≤ x1.toNatClampNeg then none else (some (0, 0, wr s1 11 x1.toNatClampNeg x2)))) := rfl
set_option maxRecDepth 100000 in
theorem qX1_setSecond_7 (d : Nat) (σ : zS) (x1 x2 : Int32) : zM (d + 1) mX1_setSecond [.inr (.inr 7), .inl x1, .inl x2] σ = zexec zc_X1_setSecond zu_X1_setSecond (zM d) (999999 + 1) 0 [.inr (.inr 7), .inl x1, .inl x2] σ := zM_eq (zat_X1_setSecond) rfl (Nat.le_of_ble_eq_true rfl)
set_option maxRecDepth 100000 in
theorem qX2_readFactor_23_0 (d n : Nat) (σ : zS) (x1 : Int32) : zexec zc_X2_readFactor zu_X2_readFactor (zM d) (n + 1) 0 [.inr (.inr 23), .inl x1] σ = zbI (zM d mX6_kind [.inr (.inr 3)] σ) (fun r1 s1 => if r1 = 3 then (if r1 = 3 then (zbI (zM d mX6_value [.inr (.inr 3)] s1) (fun r5 s5 => zbV (zM d mX1_addItem [.inr (.inr 7), .inl 0, .inl r5] s5) (fun s6 => zbV (zM d mX6_skip [.inr (.inr 3)] s6) (fun s7 => some (1, 1, s7))))) else (zbI (zM d mX6_value [.inr (.inr 3)] s1) (fun r2 s2 => zbV (zM d mX1_addItem [.inr (.inr 7), .inl 1, .inl r2] s2) (fun s3 => zbV (zM d mX6_skip [.inr (.inr 3)] s3) (fun s4 => some (1, 1, s4)))))) else (if r1 = 2 then (if r1 = 3 then (zbI (zM d mX6_value [.inr (.inr 3)] s1) (fun r21 s21 => zbV (zM d mX1_addItem [.inr (.inr 7), .inl 0, .inl r21] s21) (fun s22 => zbV (zM d mX6_skip [.inr (.inr 3)] s22) (fun s23 => some (1, 1, s23))))) else (zbI (zM d mX6_value [.inr (.inr 3)] s1) (fun r18 s18 => zbV (zM d mX1_addItem [.inr (.inr 7), .inl 1, .inl r18] s18) (fun s19 => zbV (zM d mX6_skip [.inr (.inr 3)] s19) (fun s20 => some (1, 1, s20)))))) else (if r1 = 45 then (if x1 < 10 then (zbV (zM d mX6_skip [.inr (.inr 3)] s1) (fun s8 => if r1 = 40 then (zbI (zM d mX2_readX [.inr (.inr 23), .inl (x1 + 1)] s8) (fun r11 s11 => if r11 = 0 then (some (1, 0, s11)) else (zbI (zM d mX6_take [.inr (.inr 3), .inl 41] s11) (fun r12 s12 => if r12 = 0 then (some (1, 0, s12)) else (some (1, 1, s12)))))) else (zbI (zM d mX2_readFactor [.inr (.inr 23), .inl (x1 + 1)] s8) (fun r9 s9 => if r9 = 0 then (some (1, 0, s9)) else (zbV (zM d mX1_addItem [.inr (.inr 7), .inl 2, .inl 0] s9) (fun s10 => some (1, 1, s10))))))) else (some (1, 0, s1))) else (if r1 = 40 then (if x1 < 10 then (zbV (zM d mX6_skip [.inr (.inr 3)] s1) (fun s13 => if r1 = 40 then (zbI (zM d mX2_readX [.inr (.inr 23), .inl (x1 + 1)] s13) (fun r16 s16 => if r16 = 0 then (some (1, 0, s16)) else (zbI (zM d mX6_take [.inr (.inr 3), .inl 41] s16) (fun r17 s17 => if r17 = 0 then (some (1, 0, s17)) else (some (1, 1, s17)))))) else (zbI (zM d mX2_readFactor [.inr (.inr 23), .inl (x1 + 1)] s13) (fun r14 s14 => if r14 = 0 then (some (1, 0, s14)) else (zbV (zM d mX1_addItem [.inr (.inr 7), .inl 2, .inl 0] s14) (fun s15 => some (1, 1, s15))))))) else (some (1, 0, s1))) else (some (1, 0, s1)))))) := rfl
set_option maxRecDepth 100000 in
theorem qX2_readFactor_23 (d : Nat) (σ : zS) (x1 : Int32) : zM (d + 1) mX2_readFactor [.inr (.inr 23), .inl x1] σ = zexec zc_X2_readFactor zu_X2_readFactor (zM d) (999999 + 1) 0 [.inr (.inr 23), .inl x1] σ := zM_eq (zat_X2_readFactor) rfl (Nat.le_of_ble_eq_true rfl)
