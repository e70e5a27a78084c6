-- every method: its code stands in the tables, and each of its instructions is what the image says
set_option maxRecDepth 100000 in
theorem zk_X0_wipe : zmt_ok ze_X0_wipe = true := by decide +kernel
set_option maxRecDepth 100000 in
theorem zk_X0_size : zmt_ok ze_X0_size = true := by decide +kernel
set_option maxRecDepth 100000 in
theorem zk_X0_holds : zmt_ok ze_X0_holds = true := by decide +kernel
set_option maxRecDepth 100000 in
theorem zk_X0_kindAt : zmt_ok ze_X0_kindAt = true := by decide +kernel
set_option maxRecDepth 100000 in
theorem zk_X0_refAt : zmt_ok ze_X0_refAt = true := by decide +kernel
set_option maxRecDepth 100000 in
theorem zk_X0_valueAt : zmt_ok ze_X0_valueAt = true := by decide +kernel
set_option maxRecDepth 100000 in
theorem zk_X0_count : zmt_ok ze_X0_count = true := by decide +kernel
set_option maxRecDepth 100000 in
theorem zk_X0_add : zmt_ok ze_X0_add = true := by decide +kernel
set_option maxRecDepth 100000 in
theorem zk_X0_addOfOthers : zmt_ok ze_X0_addOfOthers = true := by decide +kernel
set_option maxRecDepth 100000 in
theorem zk_X0_dropDecision : zmt_ok ze_X0_dropDecision = true := by decide +kernel
set_option maxRecDepth 100000 in
theorem zk_X0_decisionEnd : zmt_ok ze_X0_decisionEnd = true := by decide +kernel
set_option maxRecDepth 100000 in
theorem zk_X0_isAt : zmt_ok ze_X0_isAt = true := by decide +kernel
set_option maxRecDepth 100000 in
theorem zk_X0_endOf : zmt_ok ze_X0_endOf = true := by decide +kernel
set_option maxRecDepth 100000 in
theorem zk_X0_signal : zmt_ok ze_X0_signal = true := by decide +kernel
set_option maxRecDepth 100000 in
theorem zk_X0_addSignal : zmt_ok ze_X0_addSignal = true := by decide +kernel
set_option maxRecDepth 100000 in
theorem zk_X0_fits : zmt_ok ze_X0_fits = true := by decide +kernel
set_option maxRecDepth 100000 in
theorem zk_X0_isOpen : zmt_ok ze_X0_isOpen = true := by decide +kernel
set_option maxRecDepth 100000 in
theorem zk_X1_wipe : zmt_ok ze_X1_wipe = true := by decide +kernel
set_option maxRecDepth 100000 in
theorem zk_X1_copyFrom : zmt_ok ze_X1_copyFrom = true := by decide +kernel
set_option maxRecDepth 100000 in
theorem zk_X1_size : zmt_ok ze_X1_size = true := by decide +kernel
set_option maxRecDepth 100000 in
theorem zk_X1_statementCount : zmt_ok ze_X1_statementCount = true := by decide +kernel
set_option maxRecDepth 100000 in
theorem zk_X1_add : zmt_ok ze_X1_add = true := by decide +kernel
set_option maxRecDepth 100000 in
theorem zk_X1_addJump : zmt_ok ze_X1_addJump = true := by decide +kernel
set_option maxRecDepth 100000 in
theorem zk_X1_addItem : zmt_ok ze_X1_addItem = true := by decide +kernel
set_option maxRecDepth 100000 in
theorem zk_X1_setSort : zmt_ok ze_X1_setSort = true := by decide +kernel
set_option maxRecDepth 100000 in
theorem zk_X1_setFirst : zmt_ok ze_X1_setFirst = true := by decide +kernel
set_option maxRecDepth 100000 in
theorem zk_X1_setSecond : zmt_ok ze_X1_setSecond = true := by decide +kernel
set_option maxRecDepth 100000 in
theorem zk_X1_sortAt : zmt_ok ze_X1_sortAt = true := by decide +kernel
set_option maxRecDepth 100000 in
theorem zk_X1_targetAt : zmt_ok ze_X1_targetAt = true := by decide +kernel
set_option maxRecDepth 100000 in
theorem zk_X1_firstAt : zmt_ok ze_X1_firstAt = true := by decide +kernel
set_option maxRecDepth 100000 in
theorem zk_X1_secondAt : zmt_ok ze_X1_secondAt = true := by decide +kernel
set_option maxRecDepth 100000 in
theorem zk_X1_firstItem : zmt_ok ze_X1_firstItem = true := by decide +kernel
set_option maxRecDepth 100000 in
theorem zk_X1_itemEnd : zmt_ok ze_X1_itemEnd = true := by decide +kernel
set_option maxRecDepth 100000 in
theorem zk_X1_itemSort : zmt_ok ze_X1_itemSort = true := by decide +kernel
set_option maxRecDepth 100000 in
theorem zk_X1_itemValue : zmt_ok ze_X1_itemValue = true := by decide +kernel
set_option maxRecDepth 100000 in
theorem zk_X1_holds : zmt_ok ze_X1_holds = true := by decide +kernel
set_option maxRecDepth 100000 in
theorem zk_X2_read : zmt_ok ze_X2_read = true := by decide +kernel
set_option maxRecDepth 100000 in
theorem zk_X2_readStatements : zmt_ok ze_X2_readStatements = true := by decide +kernel
set_option maxRecDepth 100000 in
theorem zk_X2_isBlockEnd : zmt_ok ze_X2_isBlockEnd = true := by decide +kernel
set_option maxRecDepth 100000 in
theorem zk_X2_readStatement : zmt_ok ze_X2_readStatement = true := by decide +kernel
set_option maxRecDepth 100000 in
theorem zk_X2_readChoice : zmt_ok ze_X2_readChoice = true := by decide +kernel
set_option maxRecDepth 100000 in
theorem zk_X2_readLoop : zmt_ok ze_X2_readLoop = true := by decide +kernel
set_option maxRecDepth 100000 in
theorem zk_X2_readStop : zmt_ok ze_X2_readStop = true := by decide +kernel
set_option maxRecDepth 100000 in
theorem zk_X2_readAssignment : zmt_ok ze_X2_readAssignment = true := by decide +kernel
set_option maxRecDepth 100000 in
theorem zk_X2_readRest : zmt_ok ze_X2_readRest = true := by decide +kernel
set_option maxRecDepth 100000 in
theorem zk_X2_readFirst : zmt_ok ze_X2_readFirst = true := by decide +kernel
set_option maxRecDepth 100000 in
theorem zk_X2_readSecond : zmt_ok ze_X2_readSecond = true := by decide +kernel
set_option maxRecDepth 100000 in
theorem zk_X2_readX : zmt_ok ze_X2_readX = true := by decide +kernel
set_option maxRecDepth 100000 in
theorem zk_X2_readPart : zmt_ok ze_X2_readPart = true := by decide +kernel
set_option maxRecDepth 100000 in
theorem zk_X2_readTerm : zmt_ok ze_X2_readTerm = true := by decide +kernel
set_option maxRecDepth 100000 in
theorem zk_X2_readFactor : zmt_ok ze_X2_readFactor = true := by decide +kernel
set_option maxRecDepth 100000 in
theorem zk_X3_restart : zmt_ok ze_X3_restart = true := by decide +kernel
set_option maxRecDepth 100000 in
theorem zk_X3_copyFrom : zmt_ok ze_X3_copyFrom = true := by decide +kernel
set_option maxRecDepth 100000 in
theorem zk_X3_get : zmt_ok ze_X3_get = true := by decide +kernel
set_option maxRecDepth 100000 in
theorem zk_X3_set : zmt_ok ze_X3_set = true := by decide +kernel
set_option maxRecDepth 100000 in
theorem zk_X4_catchUp : zmt_ok ze_X4_catchUp = true := by decide +kernel
set_option maxRecDepth 100000 in
theorem zk_X4_addDecision : zmt_ok ze_X4_addDecision = true := by decide +kernel
set_option maxRecDepth 100000 in
theorem zk_X4_runDecision : zmt_ok ze_X4_runDecision = true := by decide +kernel
set_option maxRecDepth 100000 in
theorem zk_X4_turn : zmt_ok ze_X4_turn = true := by decide +kernel
set_option maxRecDepth 100000 in
theorem zk_X4_finish : zmt_ok ze_X4_finish = true := by decide +kernel
set_option maxRecDepth 100000 in
theorem zk_X4_order : zmt_ok ze_X4_order = true := by decide +kernel
set_option maxRecDepth 100000 in
theorem zk_X4_stop : zmt_ok ze_X4_stop = true := by decide +kernel
set_option maxRecDepth 100000 in
theorem zk_X4_patch : zmt_ok ze_X4_patch = true := by decide +kernel
set_option maxRecDepth 100000 in
theorem zk_X4_want : zmt_ok ze_X4_want = true := by decide +kernel
set_option maxRecDepth 100000 in
theorem zk_X4_differ : zmt_ok ze_X4_differ = true := by decide +kernel
set_option maxRecDepth 100000 in
theorem zk_X4_waitFor : zmt_ok ze_X4_waitFor = true := by decide +kernel
set_option maxRecDepth 100000 in
theorem zk_X4_waitForAny : zmt_ok ze_X4_waitForAny = true := by decide +kernel
set_option maxRecDepth 100000 in
theorem zk_X4_takeSignal : zmt_ok ze_X4_takeSignal = true := by decide +kernel
set_option maxRecDepth 100000 in
theorem zk_X4_endOf : zmt_ok ze_X4_endOf = true := by decide +kernel
set_option maxRecDepth 100000 in
theorem zk_X4_workOut : zmt_ok ze_X4_workOut = true := by decide +kernel
set_option maxRecDepth 100000 in
theorem zk_X4_work : zmt_ok ze_X4_work = true := by decide +kernel
set_option maxRecDepth 100000 in
theorem zk_X4_join : zmt_ok ze_X4_join = true := by decide +kernel
set_option maxRecDepth 100000 in
theorem zk_X4_push : zmt_ok ze_X4_push = true := by decide +kernel
set_option maxRecDepth 100000 in
theorem zk_X4_pop : zmt_ok ze_X4_pop = true := by decide +kernel
set_option maxRecDepth 100000 in
theorem zk_X5_put : zmt_ok ze_X5_put = true := by decide +kernel
set_option maxRecDepth 100000 in
theorem zk_X5_wipe : zmt_ok ze_X5_wipe = true := by decide +kernel
set_option maxRecDepth 100000 in
theorem zk_X5_length : zmt_ok ze_X5_length = true := by decide +kernel
set_option maxRecDepth 100000 in
theorem zk_X5_at : zmt_ok ze_X5_at = true := by decide +kernel
set_option maxRecDepth 100000 in
theorem zk_X5_byteOf : zmt_ok ze_X5_byteOf = true := by decide +kernel
set_option maxRecDepth 100000 in
theorem zk_X6_scan : zmt_ok ze_X6_scan = true := by decide +kernel
set_option maxRecDepth 100000 in
theorem zk_X6_kind : zmt_ok ze_X6_kind = true := by decide +kernel
set_option maxRecDepth 100000 in
theorem zk_X6_place : zmt_ok ze_X6_place = true := by decide +kernel
set_option maxRecDepth 100000 in
theorem zk_X6_value : zmt_ok ze_X6_value = true := by decide +kernel
set_option maxRecDepth 100000 in
theorem zk_X6_skip : zmt_ok ze_X6_skip = true := by decide +kernel
set_option maxRecDepth 100000 in
theorem zk_X6_take : zmt_ok ze_X6_take = true := by decide +kernel
set_option maxRecDepth 100000 in
theorem zk_X6_isWord : zmt_ok ze_X6_isWord = true := by decide +kernel
set_option maxRecDepth 100000 in
theorem zk_X6_add : zmt_ok ze_X6_add = true := by decide +kernel
set_option maxRecDepth 100000 in
theorem zk_X6_addFrom : zmt_ok ze_X6_addFrom = true := by decide +kernel
set_option maxRecDepth 100000 in
theorem zk_X6_addName : zmt_ok ze_X6_addName = true := by decide +kernel
set_option maxRecDepth 100000 in
theorem zk_X6_addNumber : zmt_ok ze_X6_addNumber = true := by decide +kernel
set_option maxRecDepth 100000 in
theorem zk_X6_isStart : zmt_ok ze_X6_isStart = true := by decide +kernel
set_option maxRecDepth 100000 in
theorem zk_X6_isLetter : zmt_ok ze_X6_isLetter = true := by decide +kernel
set_option maxRecDepth 100000 in
theorem zk_X6_isDigit : zmt_ok ze_X6_isDigit = true := by decide +kernel
set_option maxRecDepth 100000 in
theorem zk_X6_sortOfWord : zmt_ok ze_X6_sortOfWord = true := by decide +kernel
set_option maxRecDepth 100000 in
theorem zk_X6_spells : zmt_ok ze_X6_spells = true := by decide +kernel
set_option maxRecDepth 100000 in
theorem zk_X7_type : zmt_ok ze_X7_type = true := by decide +kernel
set_option maxRecDepth 100000 in
theorem zk_X7_program : zmt_ok ze_X7_program = true := by decide +kernel
set_option maxRecDepth 100000 in
theorem zk_X7_fault : zmt_ok ze_X7_fault = true := by decide +kernel
set_option maxRecDepth 100000 in
theorem zk_X7_decide : zmt_ok ze_X7_decide = true := by decide +kernel
set_option maxRecDepth 100000 in
theorem zk_X7_refused : zmt_ok ze_X7_refused = true := by decide +kernel
set_option maxRecDepth 100000 in
theorem zk_X7_differs : zmt_ok ze_X7_differs = true := by decide +kernel
set_option maxRecDepth 100000 in
theorem zk_X7_happen : zmt_ok ze_X7_happen = true := by decide +kernel
set_option maxRecDepth 100000 in
theorem zk_X7_crash : zmt_ok ze_X7_crash = true := by decide +kernel
set_option maxRecDepth 100000 in
theorem zk_X7_clear : zmt_ok ze_X7_clear = true := by decide +kernel
set_option maxRecDepth 100000 in
theorem zk_X7_event : zmt_ok ze_X7_event = true := by decide +kernel
set_option maxRecDepth 100000 in
theorem zk_X7_register : zmt_ok ze_X7_register = true := by decide +kernel
set_option maxRecDepth 100000 in
theorem zk_X7_total : zmt_ok ze_X7_total = true := by decide +kernel
set_option maxRecDepth 100000 in
theorem zk_X8_thrown : zmt_ok ze_X8_thrown = true := by decide +kernel
set_option maxRecDepth 100000 in
theorem zk_X8_raise : zmt_ok ze_X8_raise = true := by decide +kernel
set_option maxRecDepth 100000 in
theorem zk_X8_type : zmt_ok ze_X8_type = true := by decide +kernel
set_option maxRecDepth 100000 in
theorem zk_X8_see : zmt_ok ze_X8_see = true := by decide +kernel
set_option maxRecDepth 100000 in
theorem zk_X8_isDigit : zmt_ok ze_X8_isDigit = true := by decide +kernel
set_option maxRecDepth 100000 in
theorem zk_X8_isLetter : zmt_ok ze_X8_isLetter = true := by decide +kernel
set_option maxRecDepth 100000 in
theorem zk_X8_isSign : zmt_ok ze_X8_isSign = true := by decide +kernel
set_option maxRecDepth 100000 in
theorem zk_X8_token : zmt_ok ze_X8_token = true := by decide +kernel
set_option maxRecDepth 100000 in
theorem zk_X8_spelt : zmt_ok ze_X8_spelt = true := by decide +kernel
set_option maxRecDepth 100000 in
theorem zk_X8_nameOf : zmt_ok ze_X8_nameOf = true := by decide +kernel
set_option maxRecDepth 100000 in
theorem zk_X8_tokenize : zmt_ok ze_X8_tokenize = true := by decide +kernel
set_option maxRecDepth 100000 in
theorem zk_X8_refuse : zmt_ok ze_X8_refuse = true := by decide +kernel
set_option maxRecDepth 100000 in
theorem zk_X8_is : zmt_ok ze_X8_is = true := by decide +kernel
set_option maxRecDepth 100000 in
theorem zk_X8_takes : zmt_ok ze_X8_takes = true := by decide +kernel
set_option maxRecDepth 100000 in
theorem zk_X8_want : zmt_ok ze_X8_want = true := by decide +kernel
set_option maxRecDepth 100000 in
theorem zk_X8_deeper : zmt_ok ze_X8_deeper = true := by decide +kernel
set_option maxRecDepth 100000 in
theorem zk_X8_node : zmt_ok ze_X8_node = true := by decide +kernel
set_option maxRecDepth 100000 in
theorem zk_X8_readX : zmt_ok ze_X8_readX = true := by decide +kernel
set_option maxRecDepth 100000 in
theorem zk_X8_readSum : zmt_ok ze_X8_readSum = true := by decide +kernel
set_option maxRecDepth 100000 in
theorem zk_X8_readTerm : zmt_ok ze_X8_readTerm = true := by decide +kernel
set_option maxRecDepth 100000 in
theorem zk_X8_readFactor : zmt_ok ze_X8_readFactor = true := by decide +kernel
set_option maxRecDepth 100000 in
theorem zk_X8_readRegister : zmt_ok ze_X8_readRegister = true := by decide +kernel
set_option maxRecDepth 100000 in
theorem zk_X8_readNumber : zmt_ok ze_X8_readNumber = true := by decide +kernel
set_option maxRecDepth 100000 in
theorem zk_X8_readList : zmt_ok ze_X8_readList = true := by decide +kernel
set_option maxRecDepth 100000 in
theorem zk_X8_readStatement : zmt_ok ze_X8_readStatement = true := by decide +kernel
set_option maxRecDepth 100000 in
theorem zk_X8_readTurn : zmt_ok ze_X8_readTurn = true := by decide +kernel
set_option maxRecDepth 100000 in
theorem zk_X8_program : zmt_ok ze_X8_program = true := by decide +kernel
set_option maxRecDepth 100000 in
theorem zk_X8_fault : zmt_ok ze_X8_fault = true := by decide +kernel
set_option maxRecDepth 100000 in
theorem zk_X8_work : zmt_ok ze_X8_work = true := by decide +kernel
set_option maxRecDepth 100000 in
theorem zk_X8_isCommand : zmt_ok ze_X8_isCommand = true := by decide +kernel
set_option maxRecDepth 100000 in
theorem zk_X8_begins : zmt_ok ze_X8_begins = true := by decide +kernel
set_option maxRecDepth 100000 in
theorem zk_X8_append : zmt_ok ze_X8_append = true := by decide +kernel
set_option maxRecDepth 100000 in
theorem zk_X8_goOn : zmt_ok ze_X8_goOn = true := by decide +kernel
set_option maxRecDepth 100000 in
theorem zk_X8_step : zmt_ok ze_X8_step = true := by decide +kernel
set_option maxRecDepth 100000 in
theorem zk_X8_command : zmt_ok ze_X8_command = true := by decide +kernel
set_option maxRecDepth 100000 in
theorem zk_X8_isDone : zmt_ok ze_X8_isDone = true := by decide +kernel
set_option maxRecDepth 100000 in
theorem zk_X8_hasSignal : zmt_ok ze_X8_hasSignal = true := by decide +kernel
set_option maxRecDepth 100000 in
theorem zk_X8_isReady : zmt_ok ze_X8_isReady = true := by decide +kernel
set_option maxRecDepth 100000 in
theorem zk_X8_list : zmt_ok ze_X8_list = true := by decide +kernel
set_option maxRecDepth 100000 in
theorem zk_X8_turn : zmt_ok ze_X8_turn = true := by decide +kernel
set_option maxRecDepth 100000 in
theorem zk_X8_statement : zmt_ok ze_X8_statement = true := by decide +kernel
set_option maxRecDepth 100000 in
theorem zk_X8_patch : zmt_ok ze_X8_patch = true := by decide +kernel
set_option maxRecDepth 100000 in
theorem zk_X8_waits : zmt_ok ze_X8_waits = true := by decide +kernel
set_option maxRecDepth 100000 in
theorem zk_X8_stop : zmt_ok ze_X8_stop = true := by decide +kernel
set_option maxRecDepth 100000 in
theorem zk_X8_run : zmt_ok ze_X8_run = true := by decide +kernel
set_option maxRecDepth 100000 in
theorem zk_X8_decide : zmt_ok ze_X8_decide = true := by decide +kernel
set_option maxRecDepth 100000 in
theorem zk_X8_refused : zmt_ok ze_X8_refused = true := by decide +kernel
set_option maxRecDepth 100000 in
theorem zk_X8_differs : zmt_ok ze_X8_differs = true := by decide +kernel
set_option maxRecDepth 100000 in
theorem zk_X8_isGone : zmt_ok ze_X8_isGone = true := by decide +kernel
set_option maxRecDepth 100000 in
theorem zk_X8_happen : zmt_ok ze_X8_happen = true := by decide +kernel
set_option maxRecDepth 100000 in
theorem zk_X8_crash : zmt_ok ze_X8_crash = true := by decide +kernel
set_option maxRecDepth 100000 in
theorem zk_X8_clear : zmt_ok ze_X8_clear = true := by decide +kernel
set_option maxRecDepth 100000 in
theorem zk_X8_event : zmt_ok ze_X8_event = true := by decide +kernel
set_option maxRecDepth 100000 in
theorem zk_X8_register : zmt_ok ze_X8_register = true := by decide +kernel
set_option maxRecDepth 100000 in
theorem zk_X8_total : zmt_ok ze_X8_total = true := by decide +kernel
theorem zk_0 : ∀ q ∈ zMT_0, zmt_ok q = true := List.forall_mem_cons.mpr ⟨zk_X0_wipe, List.forall_mem_cons.mpr ⟨zk_X0_size, List.forall_mem_cons.mpr ⟨zk_X0_holds, List.forall_mem_cons.mpr ⟨zk_X0_kindAt, List.forall_mem_cons.mpr ⟨zk_X0_refAt, List.forall_mem_cons.mpr ⟨zk_X0_valueAt, List.forall_mem_cons.mpr ⟨zk_X0_count, List.forall_mem_cons.mpr ⟨zk_X0_add, List.forall_mem_cons.mpr ⟨zk_X0_addOfOthers, List.forall_mem_cons.mpr ⟨zk_X0_dropDecision, List.forall_mem_cons.mpr ⟨zk_X0_decisionEnd, List.forall_mem_cons.mpr ⟨zk_X0_isAt, List.forall_mem_cons.mpr ⟨zk_X0_endOf, List.forall_mem_cons.mpr ⟨zk_X0_signal, List.forall_mem_cons.mpr ⟨zk_X0_addSignal, List.forall_mem_cons.mpr ⟨zk_X0_fits, List.forall_mem_cons.mpr ⟨zk_X0_isOpen, List.forall_mem_cons.mpr ⟨zk_X1_wipe, List.forall_mem_cons.mpr ⟨zk_X1_copyFrom, List.forall_mem_cons.mpr ⟨zk_X1_size, fun _ h => nomatch h⟩⟩⟩⟩⟩⟩⟩⟩⟩⟩⟩⟩⟩⟩⟩⟩⟩⟩⟩⟩
theorem zk_1 : ∀ q ∈ zMT_1, zmt_ok q = true := List.forall_mem_cons.mpr ⟨zk_X1_statementCount, List.forall_mem_cons.mpr ⟨zk_X1_add, List.forall_mem_cons.mpr ⟨zk_X1_addJump, List.forall_mem_cons.mpr ⟨zk_X1_addItem, List.forall_mem_cons.mpr ⟨zk_X1_setSort, List.forall_mem_cons.mpr ⟨zk_X1_setFirst, List.forall_mem_cons.mpr ⟨zk_X1_setSecond, List.forall_mem_cons.mpr ⟨zk_X1_sortAt, List.forall_mem_cons.mpr ⟨zk_X1_targetAt, List.forall_mem_cons.mpr ⟨zk_X1_firstAt, List.forall_mem_cons.mpr ⟨zk_X1_secondAt, List.forall_mem_cons.mpr ⟨zk_X1_firstItem, List.forall_mem_cons.mpr ⟨zk_X1_itemEnd, List.forall_mem_cons.mpr ⟨zk_X1_itemSort, List.forall_mem_cons.mpr ⟨zk_X1_itemValue, List.forall_mem_cons.mpr ⟨zk_X1_holds, List.forall_mem_cons.mpr ⟨zk_X2_read, List.forall_mem_cons.mpr ⟨zk_X2_readStatements, List.forall_mem_cons.mpr ⟨zk_X2_isBlockEnd, List.forall_mem_cons.mpr ⟨zk_X2_readStatement, fun _ h => nomatch h⟩⟩⟩⟩⟩⟩⟩⟩⟩⟩⟩⟩⟩⟩⟩⟩⟩⟩⟩⟩
theorem zk_2 : ∀ q ∈ zMT_2, zmt_ok q = true := List.forall_mem_cons.mpr ⟨zk_X2_readChoice, List.forall_mem_cons.mpr ⟨zk_X2_readLoop, List.forall_mem_cons.mpr ⟨zk_X2_readStop, List.forall_mem_cons.mpr ⟨zk_X2_readAssignment, List.forall_mem_cons.mpr ⟨zk_X2_readRest, List.forall_mem_cons.mpr ⟨zk_X2_readFirst, List.forall_mem_cons.mpr ⟨zk_X2_readSecond, List.forall_mem_cons.mpr ⟨zk_X2_readX, List.forall_mem_cons.mpr ⟨zk_X2_readPart, List.forall_mem_cons.mpr ⟨zk_X2_readTerm, List.forall_mem_cons.mpr ⟨zk_X2_readFactor, List.forall_mem_cons.mpr ⟨zk_X3_restart, List.forall_mem_cons.mpr ⟨zk_X3_copyFrom, List.forall_mem_cons.mpr ⟨zk_X3_get, List.forall_mem_cons.mpr ⟨zk_X3_set, List.forall_mem_cons.mpr ⟨zk_X4_catchUp, List.forall_mem_cons.mpr ⟨zk_X4_addDecision, List.forall_mem_cons.mpr ⟨zk_X4_runDecision, List.forall_mem_cons.mpr ⟨zk_X4_turn, List.forall_mem_cons.mpr ⟨zk_X4_finish, fun _ h => nomatch h⟩⟩⟩⟩⟩⟩⟩⟩⟩⟩⟩⟩⟩⟩⟩⟩⟩⟩⟩⟩
theorem zk_3 : ∀ q ∈ zMT_3, zmt_ok q = true := List.forall_mem_cons.mpr ⟨zk_X4_order, List.forall_mem_cons.mpr ⟨zk_X4_stop, List.forall_mem_cons.mpr ⟨zk_X4_patch, List.forall_mem_cons.mpr ⟨zk_X4_want, List.forall_mem_cons.mpr ⟨zk_X4_differ, List.forall_mem_cons.mpr ⟨zk_X4_waitFor, List.forall_mem_cons.mpr ⟨zk_X4_waitForAny, List.forall_mem_cons.mpr ⟨zk_X4_takeSignal, List.forall_mem_cons.mpr ⟨zk_X4_endOf, List.forall_mem_cons.mpr ⟨zk_X4_workOut, List.forall_mem_cons.mpr ⟨zk_X4_work, List.forall_mem_cons.mpr ⟨zk_X4_join, List.forall_mem_cons.mpr ⟨zk_X4_push, List.forall_mem_cons.mpr ⟨zk_X4_pop, List.forall_mem_cons.mpr ⟨zk_X5_put, List.forall_mem_cons.mpr ⟨zk_X5_wipe, List.forall_mem_cons.mpr ⟨zk_X5_length, List.forall_mem_cons.mpr ⟨zk_X5_at, List.forall_mem_cons.mpr ⟨zk_X5_byteOf, List.forall_mem_cons.mpr ⟨zk_X6_scan, fun _ h => nomatch h⟩⟩⟩⟩⟩⟩⟩⟩⟩⟩⟩⟩⟩⟩⟩⟩⟩⟩⟩⟩
theorem zk_4 : ∀ q ∈ zMT_4, zmt_ok q = true := List.forall_mem_cons.mpr ⟨zk_X6_kind, List.forall_mem_cons.mpr ⟨zk_X6_place, List.forall_mem_cons.mpr ⟨zk_X6_value, List.forall_mem_cons.mpr ⟨zk_X6_skip, List.forall_mem_cons.mpr ⟨zk_X6_take, List.forall_mem_cons.mpr ⟨zk_X6_isWord, List.forall_mem_cons.mpr ⟨zk_X6_add, List.forall_mem_cons.mpr ⟨zk_X6_addFrom, List.forall_mem_cons.mpr ⟨zk_X6_addName, List.forall_mem_cons.mpr ⟨zk_X6_addNumber, List.forall_mem_cons.mpr ⟨zk_X6_isStart, List.forall_mem_cons.mpr ⟨zk_X6_isLetter, List.forall_mem_cons.mpr ⟨zk_X6_isDigit, List.forall_mem_cons.mpr ⟨zk_X6_sortOfWord, List.forall_mem_cons.mpr ⟨zk_X6_spells, List.forall_mem_cons.mpr ⟨zk_X7_type, List.forall_mem_cons.mpr ⟨zk_X7_program, List.forall_mem_cons.mpr ⟨zk_X7_fault, List.forall_mem_cons.mpr ⟨zk_X7_decide, List.forall_mem_cons.mpr ⟨zk_X7_refused, fun _ h => nomatch h⟩⟩⟩⟩⟩⟩⟩⟩⟩⟩⟩⟩⟩⟩⟩⟩⟩⟩⟩⟩
theorem zk_5 : ∀ q ∈ zMT_5, zmt_ok q = true := List.forall_mem_cons.mpr ⟨zk_X7_differs, List.forall_mem_cons.mpr ⟨zk_X7_happen, List.forall_mem_cons.mpr ⟨zk_X7_crash, List.forall_mem_cons.mpr ⟨zk_X7_clear, List.forall_mem_cons.mpr ⟨zk_X7_event, List.forall_mem_cons.mpr ⟨zk_X7_register, List.forall_mem_cons.mpr ⟨zk_X7_total, List.forall_mem_cons.mpr ⟨zk_X8_thrown, List.forall_mem_cons.mpr ⟨zk_X8_raise, List.forall_mem_cons.mpr ⟨zk_X8_type, List.forall_mem_cons.mpr ⟨zk_X8_see, List.forall_mem_cons.mpr ⟨zk_X8_isDigit, List.forall_mem_cons.mpr ⟨zk_X8_isLetter, List.forall_mem_cons.mpr ⟨zk_X8_isSign, List.forall_mem_cons.mpr ⟨zk_X8_token, List.forall_mem_cons.mpr ⟨zk_X8_spelt, List.forall_mem_cons.mpr ⟨zk_X8_nameOf, List.forall_mem_cons.mpr ⟨zk_X8_tokenize, List.forall_mem_cons.mpr ⟨zk_X8_refuse, List.forall_mem_cons.mpr ⟨zk_X8_is, fun _ h => nomatch h⟩⟩⟩⟩⟩⟩⟩⟩⟩⟩⟩⟩⟩⟩⟩⟩⟩⟩⟩⟩
theorem zk_6 : ∀ q ∈ zMT_6, zmt_ok q = true := List.forall_mem_cons.mpr ⟨zk_X8_takes, List.forall_mem_cons.mpr ⟨zk_X8_want, List.forall_mem_cons.mpr ⟨zk_X8_deeper, List.forall_mem_cons.mpr ⟨zk_X8_node, List.forall_mem_cons.mpr ⟨zk_X8_readX, List.forall_mem_cons.mpr ⟨zk_X8_readSum, List.forall_mem_cons.mpr ⟨zk_X8_readTerm, List.forall_mem_cons.mpr ⟨zk_X8_readFactor, List.forall_mem_cons.mpr ⟨zk_X8_readRegister, List.forall_mem_cons.mpr ⟨zk_X8_readNumber, List.forall_mem_cons.mpr ⟨zk_X8_readList, List.forall_mem_cons.mpr ⟨zk_X8_readStatement, List.forall_mem_cons.mpr ⟨zk_X8_readTurn, List.forall_mem_cons.mpr ⟨zk_X8_program, List.forall_mem_cons.mpr ⟨zk_X8_fault, List.forall_mem_cons.mpr ⟨zk_X8_work, List.forall_mem_cons.mpr ⟨zk_X8_isCommand, List.forall_mem_cons.mpr ⟨zk_X8_begins, List.forall_mem_cons.mpr ⟨zk_X8_append, List.forall_mem_cons.mpr ⟨zk_X8_goOn, fun _ h => nomatch h⟩⟩⟩⟩⟩⟩⟩⟩⟩⟩⟩⟩⟩⟩⟩⟩⟩⟩⟩⟩
theorem zk_7 : ∀ q ∈ zMT_7, zmt_ok q = true := List.forall_mem_cons.mpr ⟨zk_X8_step, List.forall_mem_cons.mpr ⟨zk_X8_command, List.forall_mem_cons.mpr ⟨zk_X8_isDone, List.forall_mem_cons.mpr ⟨zk_X8_hasSignal, List.forall_mem_cons.mpr ⟨zk_X8_isReady, List.forall_mem_cons.mpr ⟨zk_X8_list, List.forall_mem_cons.mpr ⟨zk_X8_turn, List.forall_mem_cons.mpr ⟨zk_X8_statement, List.forall_mem_cons.mpr ⟨zk_X8_patch, List.forall_mem_cons.mpr ⟨zk_X8_waits, List.forall_mem_cons.mpr ⟨zk_X8_stop, List.forall_mem_cons.mpr ⟨zk_X8_run, List.forall_mem_cons.mpr ⟨zk_X8_decide, List.forall_mem_cons.mpr ⟨zk_X8_refused, List.forall_mem_cons.mpr ⟨zk_X8_differs, List.forall_mem_cons.mpr ⟨zk_X8_isGone, List.forall_mem_cons.mpr ⟨zk_X8_happen, List.forall_mem_cons.mpr ⟨zk_X8_crash, List.forall_mem_cons.mpr ⟨zk_X8_clear, List.forall_mem_cons.mpr ⟨zk_X8_event, fun _ h => nomatch h⟩⟩⟩⟩⟩⟩⟩⟩⟩⟩⟩⟩⟩⟩⟩⟩⟩⟩⟩⟩
theorem zk_8 : ∀ q ∈ zMT_8, zmt_ok q = true := List.forall_mem_cons.mpr ⟨zk_X8_register, List.forall_mem_cons.mpr ⟨zk_X8_total, fun _ h => nomatch h⟩⟩
theorem zk_all : ∀ q ∈ zMT, zmt_ok q = true := List.forall_mem_append.mpr ⟨zk_0, List.forall_mem_append.mpr ⟨zk_1, List.forall_mem_append.mpr ⟨zk_2, List.forall_mem_append.mpr ⟨zk_3, List.forall_mem_append.mpr ⟨zk_4, List.forall_mem_append.mpr ⟨zk_5, List.forall_mem_append.mpr ⟨zk_6, List.forall_mem_append.mpr ⟨zk_7, zk_8⟩⟩⟩⟩⟩⟩⟩⟩
