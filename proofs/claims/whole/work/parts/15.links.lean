/-! PART 15: the methods, the links -/
abbrev M_J7_fill_53178 : z_M := (yJ7_fill_53178, cJ7_fill_53178, 4, none)
theorem pn_J7_fill_53178 : plainName M_J7_fill_53178.1.cls = true := by decide +kernel
abbrev M_J9_floorMod_7cf53 : z_M := (yJ9_floorMod_7cf53, cJ9_floorMod_7cf53, 3, (some .int))
abbrev M_X0_append : z_M := (yX0_append, cX0_append, 3, none)
theorem pn_X0_append : plainName M_X0_append.1.cls = true := by decide +kernel
abbrev M_X0_init : z_M := (yX0_init, cX0_init, 1, none)
theorem pn_X0_init : plainName M_X0_init.1.cls = true := by decide +kernel
abbrev M_X0_isInstruction : z_M := (yX0_isInstruction, cX0_isInstruction, 2, (some .boolean))
theorem pn_X0_isInstruction : plainName M_X0_isInstruction.1.cls = true := by decide +kernel
abbrev M_X0_isSound : z_M := (yX0_isSound, cX0_isSound, 3, (some .boolean))
theorem pn_X0_isSound : plainName M_X0_isSound.1.cls = true := by decide +kernel
abbrev M_X0_leadsOnWell : z_M := (yX0_leadsOnWell, cX0_leadsOnWell, 7, (some .boolean))
theorem pn_X0_leadsOnWell : plainName M_X0_leadsOnWell.1.cls = true := by decide +kernel
abbrev M_X0_reach : z_M := (yX0_reach, cX0_reach, 3, (some .boolean))
theorem pn_X0_reach : plainName M_X0_reach.1.cls = true := by decide +kernel
abbrev M_X10_add : z_M := (yX10_add, cX10_add, 3, (some .int))
theorem pn_X10_add : plainName M_X10_add.1.cls = true := by decide +kernel
abbrev M_X10_begin : z_M := (yX10_begin, cX10_begin, 5, (some .boolean))
theorem pn_X10_begin : plainName M_X10_begin.1.cls = true := by decide +kernel
abbrev M_X10_clear : z_M := (yX10_clear, cX10_clear, 2, (some .int))
theorem pn_X10_clear : plainName M_X10_clear.1.cls = true := by decide +kernel
abbrev M_X10_count : z_M := (yX10_count, cX10_count, 2, (some .int))
theorem pn_X10_count : plainName M_X10_count.1.cls = true := by decide +kernel
abbrev M_X10_countJumpTo : z_M := (yX10_countJumpTo, cX10_countJumpTo, 2, none)
theorem pn_X10_countJumpTo : plainName M_X10_countJumpTo.1.cls = true := by decide +kernel
abbrev M_X10_execute : z_M := (yX10_execute, cX10_execute, 6, (some .boolean))
theorem pn_X10_execute : plainName M_X10_execute.1.cls = true := by decide +kernel
abbrev M_X10_forgetProgram : z_M := (yX10_forgetProgram, cX10_forgetProgram, 1, none)
theorem pn_X10_forgetProgram : plainName M_X10_forgetProgram.1.cls = true := by decide +kernel
abbrev M_X10_giveUpRecording : z_M := (yX10_giveUpRecording, cX10_giveUpRecording, 1, none)
theorem pn_X10_giveUpRecording : plainName M_X10_giveUpRecording.1.cls = true := by decide +kernel
abbrev M_X10_halt : z_M := (yX10_halt, cX10_halt, 1, none)
theorem pn_X10_halt : plainName M_X10_halt.1.cls = true := by decide +kernel
abbrev M_X10_init : z_M := (yX10_init, cX10_init, 2, none)
theorem pn_X10_init : plainName M_X10_init.1.cls = true := by decide +kernel
abbrev M_X10_interpret : z_M := (yX10_interpret, cX10_interpret, 3, none)
theorem pn_X10_interpret : plainName M_X10_interpret.1.cls = true := by decide +kernel
abbrev M_X10_keepTrace : z_M := (yX10_keepTrace, cX10_keepTrace, 1, none)
theorem pn_X10_keepTrace : plainName M_X10_keepTrace.1.cls = true := by decide +kernel
abbrev M_X10_local : z_M := (yX10_local, cX10_local, 2, (some .int))
theorem pn_X10_local : plainName M_X10_local.1.cls = true := by decide +kernel
abbrev M_X10_out : z_M := (yX10_out, cX10_out, 2, (some .int))
theorem pn_X10_out : plainName M_X10_out.1.cls = true := by decide +kernel
abbrev M_X10_outs : z_M := (yX10_outs, cX10_outs, 1, (some .int))
theorem pn_X10_outs : plainName M_X10_outs.1.cls = true := by decide +kernel
abbrev M_X10_place : z_M := (yX10_place, cX10_place, 3, (some .int))
theorem pn_X10_place : plainName M_X10_place.1.cls = true := by decide +kernel
abbrev M_X10_run : z_M := (yX10_run, cX10_run, 3, (some .int))
theorem pn_X10_run : plainName M_X10_run.1.cls = true := by decide +kernel
abbrev M_X10_step : z_M := (yX10_step, cX10_step, 2, none)
theorem pn_X10_step : plainName M_X10_step.1.cls = true := by decide +kernel
abbrev M_X10_takeTurn : z_M := (yX10_takeTurn, cX10_takeTurn, 4, none)
theorem pn_X10_takeTurn : plainName M_X10_takeTurn.1.cls = true := by decide +kernel
abbrev M_X10_top : z_M := (yX10_top, cX10_top, 2, (some .int))
theorem pn_X10_top : plainName M_X10_top.1.cls = true := by decide +kernel
abbrev M_X10_trace : z_M := (yX10_trace, cX10_trace, 4, (some .int))
theorem pn_X10_trace : plainName M_X10_trace.1.cls = true := by decide +kernel
abbrev M_X11_add : z_M := (yX11_add, cX11_add, 4, (some .int))
theorem pn_X11_add : plainName M_X11_add.1.cls = true := by decide +kernel
abbrev M_X11_begin : z_M := (yX11_begin, cX11_begin, 5, (some .boolean))
theorem pn_X11_begin : plainName M_X11_begin.1.cls = true := by decide +kernel
abbrev M_X11_calculated : z_M := (yX11_calculated, cX11_calculated, 4, (some .int))
theorem pn_X11_calculated : plainName M_X11_calculated.1.cls = true := by decide +kernel
abbrev M_X11_clear : z_M := (yX11_clear, cX11_clear, 2, (some .int))
theorem pn_X11_clear : plainName M_X11_clear.1.cls = true := by decide +kernel
abbrev M_X11_count : z_M := (yX11_count, cX11_count, 2, (some .int))
theorem pn_X11_count : plainName M_X11_count.1.cls = true := by decide +kernel
abbrev M_X11_does : z_M := (yX11_does, cX11_does, 5, (some .int))
theorem pn_X11_does : plainName M_X11_does.1.cls = true := by decide +kernel
abbrev M_X11_fail : z_M := (yX11_fail, cX11_fail, 2, (some .int))
theorem pn_X11_fail : plainName M_X11_fail.1.cls = true := by decide +kernel
abbrev M_X11_fresh : z_M := (yX11_fresh, cX11_fresh, 2, none)
theorem pn_X11_fresh : plainName M_X11_fresh.1.cls = true := by decide +kernel
abbrev M_X11_give : z_M := (yX11_give, cX11_give, 3, none)
theorem pn_X11_give : plainName M_X11_give.1.cls = true := by decide +kernel
abbrev M_X11_giveUp : z_M := (yX11_giveUp, cX11_giveUp, 2, none)
theorem pn_X11_giveUp : plainName M_X11_giveUp.1.cls = true := by decide +kernel
abbrev M_X11_hot : z_M := (yX11_hot, cX11_hot, 2, none)
theorem pn_X11_hot : plainName M_X11_hot.1.cls = true := by decide +kernel
abbrev M_X11_init : z_M := (yX11_init, cX11_init, 1, none)
theorem pn_X11_init : plainName M_X11_init.1.cls = true := by decide +kernel
abbrev M_X11_interpret : z_M := (yX11_interpret, cX11_interpret, 5, none)
theorem pn_X11_interpret : plainName M_X11_interpret.1.cls = true := by decide +kernel
abbrev M_X11_keep : z_M := (yX11_keep, cX11_keep, 5, none)
theorem pn_X11_keep : plainName M_X11_keep.1.cls = true := by decide +kernel
abbrev M_X11_leads : z_M := (yX11_leads, cX11_leads, 3, (some .boolean))
theorem pn_X11_leads : plainName M_X11_leads.1.cls = true := by decide +kernel
abbrev M_X11_leaves : z_M := (yX11_leaves, cX11_leaves, 1, (some .int))
theorem pn_X11_leaves : plainName M_X11_leaves.1.cls = true := by decide +kernel
abbrev M_X11_local : z_M := (yX11_local, cX11_local, 2, (some .int))
theorem pn_X11_local : plainName M_X11_local.1.cls = true := by decide +kernel
abbrev M_X11_makeTrace : z_M := (yX11_makeTrace, cX11_makeTrace, 3, none)
theorem pn_X11_makeTrace : plainName M_X11_makeTrace.1.cls = true := by decide +kernel
abbrev M_X11_out : z_M := (yX11_out, cX11_out, 2, (some .int))
theorem pn_X11_out : plainName M_X11_out.1.cls = true := by decide +kernel
abbrev M_X11_outs : z_M := (yX11_outs, cX11_outs, 1, (some .int))
theorem pn_X11_outs : plainName M_X11_outs.1.cls = true := by decide +kernel
abbrev M_X11_picture : z_M := (yX11_picture, cX11_picture, 2, none)
theorem pn_X11_picture : plainName M_X11_picture.1.cls = true := by decide +kernel
abbrev M_X11_place : z_M := (yX11_place, cX11_place, 3, (some .int))
theorem pn_X11_place : plainName M_X11_place.1.cls = true := by decide +kernel
abbrev M_X11_pop : z_M := (yX11_pop, cX11_pop, 1, (some .int))
theorem pn_X11_pop : plainName M_X11_pop.1.cls = true := by decide +kernel
abbrev M_X11_push : z_M := (yX11_push, cX11_push, 2, none)
theorem pn_X11_push : plainName M_X11_push.1.cls = true := by decide +kernel
abbrev M_X11_run : z_M := (yX11_run, cX11_run, 4, (some .int))
theorem pn_X11_run : plainName M_X11_run.1.cls = true := by decide +kernel
abbrev M_X11_sound : z_M := (yX11_sound, cX11_sound, 6, (some .boolean))
theorem pn_X11_sound : plainName M_X11_sound.1.cls = true := by decide +kernel
abbrev M_X11_takes : z_M := (yX11_takes, cX11_takes, 1, (some .int))
theorem pn_X11_takes : plainName M_X11_takes.1.cls = true := by decide +kernel
abbrev M_X11_through : z_M := (yX11_through, cX11_through, 8, (some .int))
theorem pn_X11_through : plainName M_X11_through.1.cls = true := by decide +kernel
abbrev M_X11_thrown : z_M := (yX11_thrown, cX11_thrown, 1, (some .int))
theorem pn_X11_thrown : plainName M_X11_thrown.1.cls = true := by decide +kernel
abbrev M_X11_top : z_M := (yX11_top, cX11_top, 2, (some .int))
theorem pn_X11_top : plainName M_X11_top.1.cls = true := by decide +kernel
abbrev M_X11_trace : z_M := (yX11_trace, cX11_trace, 3, (some .int))
theorem pn_X11_trace : plainName M_X11_trace.1.cls = true := by decide +kernel
abbrev M_X11_traceOf : z_M := (yX11_traceOf, cX11_traceOf, 4, (some .int))
theorem pn_X11_traceOf : plainName M_X11_traceOf.1.cls = true := by decide +kernel
abbrev M_X11_turn : z_M := (yX11_turn, cX11_turn, 7, none)
theorem pn_X11_turn : plainName M_X11_turn.1.cls = true := by decide +kernel
abbrev M_X11_valueOf : z_M := (yX11_valueOf, cX11_valueOf, 6, (some .int))
theorem pn_X11_valueOf : plainName M_X11_valueOf.1.cls = true := by decide +kernel
abbrev M_X11_within : z_M := (yX11_within, cX11_within, 3, (some .boolean))
theorem pn_X11_within : plainName M_X11_within.1.cls = true := by decide +kernel
abbrev M_X11_worked : z_M := (yX11_worked, cX11_worked, 3, (some .int))
theorem pn_X11_worked : plainName M_X11_worked.1.cls = true := by decide +kernel
abbrev M_X1_init : z_M := (yX1_init, cX1_init, 1, none)
theorem pn_X1_init : plainName M_X1_init.1.cls = true := by decide +kernel
abbrev M_X1_move : z_M := (yX1_move, cX1_move, 6, none)
theorem pn_X1_move : plainName M_X1_move.1.cls = true := by decide +kernel
abbrev M_X1_pop : z_M := (yX1_pop, cX1_pop, 1, (some .int))
theorem pn_X1_pop : plainName M_X1_pop.1.cls = true := by decide +kernel
abbrev M_X1_push : z_M := (yX1_push, cX1_push, 2, none)
theorem pn_X1_push : plainName M_X1_push.1.cls = true := by decide +kernel
abbrev M_X1_reset : z_M := (yX1_reset, cX1_reset, 1, none)
theorem pn_X1_reset : plainName M_X1_reset.1.cls = true := by decide +kernel
abbrev M_X2_back : z_M := (yX2_back, cX2_back, 2, (some .int))
theorem pn_X2_back : plainName M_X2_back.1.cls = true := by decide +kernel
abbrev M_X2_give : z_M := (yX2_give, cX2_give, 2, none)
theorem pn_X2_give : plainName M_X2_give.1.cls = true := by decide +kernel
abbrev M_X2_init : z_M := (yX2_init, cX2_init, 1, none)
theorem pn_X2_init : plainName M_X2_init.1.cls = true := by decide +kernel
abbrev M_X2_keeps : z_M := (yX2_keeps, cX2_keeps, 2, (some .boolean))
theorem pn_X2_keeps : plainName M_X2_keeps.1.cls = true := by decide +kernel
abbrev M_X2_reset : z_M := (yX2_reset, cX2_reset, 1, none)
theorem pn_X2_reset : plainName M_X2_reset.1.cls = true := by decide +kernel
abbrev M_X3_has : z_M := (yX3_has, cX3_has, 4, (some .boolean))
theorem pn_X3_has : plainName M_X3_has.1.cls = true := by decide +kernel
abbrev M_X3_holds : z_M := (yX3_holds, cX3_holds, 3, (some .boolean))
theorem pn_X3_holds : plainName M_X3_holds.1.cls = true := by decide +kernel
abbrev M_X3_init : z_M := (yX3_init, cX3_init, 1, none)
theorem pn_X3_init : plainName M_X3_init.1.cls = true := by decide +kernel
abbrev M_X3_put : z_M := (yX3_put, cX3_put, 6, (some .int))
theorem pn_X3_put : plainName M_X3_put.1.cls = true := by decide +kernel
abbrev M_X3_restore : z_M := (yX3_restore, cX3_restore, 6, none)
theorem pn_X3_restore : plainName M_X3_restore.1.cls = true := by decide +kernel
abbrev M_X4_init : z_M := (yX4_init, cX4_init, 1, none)
theorem pn_X4_init : plainName M_X4_init.1.cls = true := by decide +kernel
abbrev M_X4_reset : z_M := (yX4_reset, cX4_reset, 1, none)
theorem pn_X4_reset : plainName M_X4_reset.1.cls = true := by decide +kernel
abbrev M_X5_closesAt : z_M := (yX5_closesAt, cX5_closesAt, 2, (some .boolean))
theorem pn_X5_closesAt : plainName M_X5_closesAt.1.cls = true := by decide +kernel
abbrev M_X5_init : z_M := (yX5_init, cX5_init, 1, none)
theorem pn_X5_init : plainName M_X5_init.1.cls = true := by decide +kernel
abbrev M_X5_isFull : z_M := (yX5_isFull, cX5_isFull, 1, (some .boolean))
theorem pn_X5_isFull : plainName M_X5_isFull.1.cls = true := by decide +kernel
abbrev M_X5_isOn : z_M := (yX5_isOn, cX5_isOn, 1, (some .boolean))
theorem pn_X5_isOn : plainName M_X5_isOn.1.cls = true := by decide +kernel
abbrev M_X5_note : z_M := (yX5_note, cX5_note, 3, none)
theorem pn_X5_note : plainName M_X5_note.1.cls = true := by decide +kernel
abbrev M_X5_startAt : z_M := (yX5_startAt, cX5_startAt, 2, none)
theorem pn_X5_startAt : plainName M_X5_startAt.1.cls = true := by decide +kernel
abbrev M_X5_stop : z_M := (yX5_stop, cX5_stop, 1, none)
theorem pn_X5_stop : plainName M_X5_stop.1.cls = true := by decide +kernel
abbrev M_X6_init : z_M := (yX6_init, cX6_init, 1, none)
theorem pn_X6_init : plainName M_X6_init.1.cls = true := by decide +kernel
abbrev M_X6_reset : z_M := (yX6_reset, cX6_reset, 1, none)
theorem pn_X6_reset : plainName M_X6_reset.1.cls = true := by decide +kernel
abbrev M_X7_bodyOperations : z_M := (yX7_bodyOperations, cX7_bodyOperations, 1, (some .int))
theorem pn_X7_bodyOperations : plainName M_X7_bodyOperations.1.cls = true := by decide +kernel
abbrev M_X7_countStaying : z_M := (yX7_countStaying, cX7_countStaying, 3, (some .int))
theorem pn_X7_countStaying : plainName M_X7_countStaying.1.cls = true := by decide +kernel
abbrev M_X7_doBody : z_M := (yX7_doBody, cX7_doBody, 6, (some .boolean))
theorem pn_X7_doBody : plainName M_X7_doBody.1.cls = true := by decide +kernel
abbrev M_X7_doHead : z_M := (yX7_doHead, cX7_doHead, 3, none)
theorem pn_X7_doHead : plainName M_X7_doHead.1.cls = true := by decide +kernel
abbrev M_X7_init : z_M := (yX7_init, cX7_init, 1, none)
theorem pn_X7_init : plainName M_X7_init.1.cls = true := by decide +kernel
abbrev M_X7_putInBody : z_M := (yX7_putInBody, cX7_putInBody, 3, none)
theorem pn_X7_putInBody : plainName M_X7_putInBody.1.cls = true := by decide +kernel
abbrev M_X7_putInHead : z_M := (yX7_putInHead, cX7_putInHead, 2, none)
theorem pn_X7_putInHead : plainName M_X7_putInHead.1.cls = true := by decide +kernel
abbrev M_X7_resetAt : z_M := (yX7_resetAt, cX7_resetAt, 2, none)
theorem pn_X7_resetAt : plainName M_X7_resetAt.1.cls = true := by decide +kernel
abbrev M_X7_stays : z_M := (yX7_stays, cX7_stays, 2, (some .boolean))
theorem pn_X7_stays : plainName M_X7_stays.1.cls = true := by decide +kernel
abbrev M_X8_came : z_M := (yX8_came, cX8_came, 3, none)
theorem pn_X8_came : plainName M_X8_came.1.cls = true := by decide +kernel
abbrev M_X8_combine : z_M := (yX8_combine, cX8_combine, 7, (some .int))
theorem pn_X8_combine : plainName M_X8_combine.1.cls = true := by decide +kernel
abbrev M_X8_follow : z_M := (yX8_follow, cX8_follow, 10, none)
theorem pn_X8_follow : plainName M_X8_follow.1.cls = true := by decide +kernel
abbrev M_X8_forgetLast : z_M := (yX8_forgetLast, cX8_forgetLast, 2, none)
theorem pn_X8_forgetLast : plainName M_X8_forgetLast.1.cls = true := by decide +kernel
abbrev M_X8_guard : z_M := (yX8_guard, cX8_guard, 6, none)
theorem pn_X8_guard : plainName M_X8_guard.1.cls = true := by decide +kernel
abbrev M_X8_init : z_M := (yX8_init, cX8_init, 1, none)
theorem pn_X8_init : plainName M_X8_init.1.cls = true := by decide +kernel
abbrev M_X8_make : z_M := (yX8_make, cX8_make, 6, none)
theorem pn_X8_make : plainName M_X8_make.1.cls = true := by decide +kernel
abbrev M_X8_markConstant : z_M := (yX8_markConstant, cX8_markConstant, 4, none)
theorem pn_X8_markConstant : plainName M_X8_markConstant.1.cls = true := by decide +kernel
abbrev M_X8_markParts : z_M := (yX8_markParts, cX8_markParts, 3, none)
theorem pn_X8_markParts : plainName M_X8_markParts.1.cls = true := by decide +kernel
abbrev M_X8_sortOut : z_M := (yX8_sortOut, cX8_sortOut, 5, none)
theorem pn_X8_sortOut : plainName M_X8_sortOut.1.cls = true := by decide +kernel
abbrev M_X9_init : z_M := (yX9_init, cX9_init, 1, none)
theorem pn_X9_init : plainName M_X9_init.1.cls = true := by decide +kernel
abbrev M_X9_isNumber : z_M := (yX9_isNumber, cX9_isNumber, 2, (some .boolean))
theorem pn_X9_isNumber : plainName M_X9_isNumber.1.cls = true := by decide +kernel
abbrev M_X9_isOperation : z_M := (yX9_isOperation, cX9_isOperation, 2, (some .boolean))
theorem pn_X9_isOperation : plainName M_X9_isOperation.1.cls = true := by decide +kernel
abbrev M_X9_reset : z_M := (yX9_reset, cX9_reset, 2, none)
theorem pn_X9_reset : plainName M_X9_reset.1.cls = true := by decide +kernel
abbrev M_X9_result : z_M := (yX9_result, cX9_result, 3, (some .int))
theorem pn_X9_result : plainName M_X9_result.1.cls = true := by decide +kernel
abbrev M_X9_share : z_M := (yX9_share, cX9_share, 5, (some .int))
theorem pn_X9_share : plainName M_X9_share.1.cls = true := by decide +kernel
abbrev M_X9_takeLocals : z_M := (yX9_takeLocals, cX9_takeLocals, 2, none)
theorem pn_X9_takeLocals : plainName M_X9_takeLocals.1.cls = true := by decide +kernel
abbrev M_X9_work : z_M := (yX9_work, cX9_work, 2, none)
theorem pn_X9_work : plainName M_X9_work.1.cls = true := by decide +kernel
theorem ol_X10_3 : ∀ w ∈ ([.methodLink RX10 3 Lib.objectInit, .instanceMethod Lib.objectInit, .code Lib.objectInit ⟨#[0xb1]⟩ 1 none] : List Cond), w ∈ z_G := by decide +kernel
theorem nl_X10_9 : ∀ w ∈ ([.classLink RX10 9 (z_R 0), .instantiable (z_R 0) (z_nf 0), .initialized (z_R 0)] : List Cond), w ∈ z_G := by decide +kernel
theorem ml_X10_11 : z_lN RX10 11 M_X0_init 0 := by unfold z_lN z_pl; decide +kernel
theorem fl_X10_12 : z_fl RX10 12 10 0 := by unfold z_fl; decide +kernel
theorem nl_X10_16 : ∀ w ∈ ([.classLink RX10 16 (z_R 1), .instantiable (z_R 1) (z_nf 1), .initialized (z_R 1)] : List Cond), w ∈ z_G := by decide +kernel
theorem ml_X10_18 : z_lN RX10 18 M_X1_init 0 := by unfold z_lN z_pl; decide +kernel
theorem fl_X10_19 : z_fl RX10 19 10 1 := by unfold z_fl; decide +kernel
theorem nl_X10_23 : ∀ w ∈ ([.classLink RX10 23 (z_R 2), .instantiable (z_R 2) (z_nf 2), .initialized (z_R 2)] : List Cond), w ∈ z_G := by decide +kernel
theorem ml_X10_25 : z_lN RX10 25 M_X2_init 0 := by unfold z_lN z_pl; decide +kernel
theorem fl_X10_26 : z_fl RX10 26 10 2 := by unfold z_fl; decide +kernel
theorem nl_X10_30 : ∀ w ∈ ([.classLink RX10 30 (z_R 6), .instantiable (z_R 6) (z_nf 6), .initialized (z_R 6)] : List Cond), w ∈ z_G := by decide +kernel
theorem ml_X10_32 : z_lN RX10 32 M_X6_init 0 := by unfold z_lN z_pl; decide +kernel
theorem fl_X10_33 : z_fl RX10 33 10 3 := by unfold z_fl; decide +kernel
theorem nl_X10_37 : ∀ w ∈ ([.classLink RX10 37 (z_R 4), .instantiable (z_R 4) (z_nf 4), .initialized (z_R 4)] : List Cond), w ∈ z_G := by decide +kernel
theorem ml_X10_39 : z_lN RX10 39 M_X4_init 0 := by unfold z_lN z_pl; decide +kernel
theorem fl_X10_40 : z_fl RX10 40 10 4 := by unfold z_fl; decide +kernel
theorem nl_X10_44 : ∀ w ∈ ([.classLink RX10 44 (z_R 5), .instantiable (z_R 5) (z_nf 5), .initialized (z_R 5)] : List Cond), w ∈ z_G := by decide +kernel
theorem ml_X10_46 : z_lN RX10 46 M_X5_init 0 := by unfold z_lN z_pl; decide +kernel
theorem fl_X10_47 : z_fl RX10 47 10 5 := by unfold z_fl; decide +kernel
theorem nl_X10_51 : ∀ w ∈ ([.classLink RX10 51 (z_R 8), .instantiable (z_R 8) (z_nf 8), .initialized (z_R 8)] : List Cond), w ∈ z_G := by decide +kernel
theorem ml_X10_53 : z_lN RX10 53 M_X8_init 0 := by unfold z_lN z_pl; decide +kernel
theorem fl_X10_54 : z_fl RX10 54 10 6 := by unfold z_fl; decide +kernel
theorem nl_X10_58 : ∀ w ∈ ([.classLink RX10 58 (z_R 7), .instantiable (z_R 7) (z_nf 7), .initialized (z_R 7)] : List Cond), w ∈ z_G := by decide +kernel
theorem fl_X10_60 : z_fl RX10 60 10 7 := by unfold z_fl; decide +kernel
theorem ml_X10_64 : z_lN RX10 64 M_X7_init 0 := by unfold z_lN z_pl; decide +kernel
theorem fl_X10_65 : z_fl RX10 65 10 12 := by unfold z_fl; decide +kernel
theorem ml_X10_69 : z_lS RX10 69 M_X0_isInstruction 2 := by unfold z_lS z_pl; decide +kernel
theorem fl_X10_80 : z_fl RX10 80 10 9 := by unfold z_fl; decide +kernel
theorem fl_X10_84 : z_fl RX10 84 0 2 := by unfold z_fl; decide +kernel
theorem ml_X10_92 : z_lV RX10 92 M_X0_append 2 := by unfold z_lV z_pl; decide +kernel
theorem ml_X10_96 : z_lV RX10 96 M_X0_isSound 0 := by unfold z_lV z_pl; decide +kernel
theorem ml_X10_102 : z_lV RX10 102 M_X10_forgetProgram 0 := by unfold z_lV z_pl; decide +kernel
theorem fl_X10_105 : z_fl RX10 105 1 0 := by unfold z_fl; decide +kernel
theorem fl_X10_109 : z_fl RX10 109 10 11 := by unfold z_fl; decide +kernel
theorem fl_X10_116 : z_fl RX10 116 10 10 := by unfold z_fl; decide +kernel
theorem ml_X10_119 : z_lV RX10 119 M_X10_step 0 := by unfold z_lV z_pl; decide +kernel
theorem fl_X10_127 : z_fl RX10 127 1 2 := by unfold z_fl; decide +kernel
theorem fl_X10_132 : z_fl RX10 132 1 1 := by unfold z_fl; decide +kernel
theorem fl_X10_135 : z_fl RX10 135 2 2 := by unfold z_fl; decide +kernel
theorem ml_X10_138 : z_lV RX10 138 M_X2_keeps 1 := by unfold z_lV z_pl; decide +kernel
theorem ml_X10_144 : z_lV RX10 144 M_X2_back 1 := by unfold z_lV z_pl; decide +kernel
theorem fl_X10_148 : z_fl RX10 148 1 3 := by unfold z_fl; decide +kernel
theorem fl_X10_151 : z_fl RX10 151 6 0 := by unfold z_fl; decide +kernel
theorem fl_X10_154 : z_fl RX10 154 6 1 := by unfold z_fl; decide +kernel
theorem fl_X10_157 : z_fl RX10 157 6 2 := by unfold z_fl; decide +kernel
theorem fl_X10_160 : z_fl RX10 160 6 3 := by unfold z_fl; decide +kernel
theorem fl_X10_163 : z_fl RX10 163 10 8 := by unfold z_fl; decide +kernel
theorem ml_X10_166 : z_lV RX10 166 M_X5_isOn 0 := by unfold z_lV z_pl; decide +kernel
theorem fl_X10_173 : z_fl RX10 173 4 0 := by unfold z_fl; decide +kernel
theorem fl_X10_176 : z_fl RX10 176 4 1 := by unfold z_fl; decide +kernel
theorem fl_X10_181 : z_fl RX10 181 7 3 := by unfold z_fl; decide +kernel
theorem fl_X10_184 : z_fl RX10 184 7 4 := by unfold z_fl; decide +kernel
theorem ml_X10_187 : z_lV RX10 187 M_X7_bodyOperations 0 := by unfold z_lV z_pl; decide +kernel
theorem fl_X10_191 : z_fl RX10 191 7 1 := by unfold z_fl; decide +kernel
theorem fl_X10_195 : z_fl RX10 195 3 5 := by unfold z_fl; decide +kernel
theorem fl_X10_198 : z_fl RX10 198 7 5 := by unfold z_fl; decide +kernel
theorem ml_X10_201 : z_lV RX10 201 M_X7_countStaying 0 := by unfold z_lV z_pl; decide +kernel
theorem ml_X10_206 : z_lV RX10 206 M_X1_reset 0 := by unfold z_lV z_pl; decide +kernel
theorem ml_X10_209 : z_lV RX10 209 M_X2_reset 0 := by unfold z_lV z_pl; decide +kernel
theorem ml_X10_210 : z_lV RX10 210 M_X6_reset 0 := by unfold z_lV z_pl; decide +kernel
theorem ml_X10_211 : z_lV RX10 211 M_X4_reset 0 := by unfold z_lV z_pl; decide +kernel
theorem ml_X10_212 : z_lV RX10 212 M_X5_stop 0 := by unfold z_lV z_pl; decide +kernel
theorem ml_X10_215 : z_lV RX10 215 M_X5_isFull 0 := by unfold z_lV z_pl; decide +kernel
theorem ml_X10_218 : z_lV RX10 218 M_X10_giveUpRecording 0 := by unfold z_lV z_pl; decide +kernel
theorem fl_X10_221 : z_fl RX10 221 4 2 := by unfold z_fl; decide +kernel
theorem ml_X10_224 : z_lV RX10 224 M_X10_interpret 0 := by unfold z_lV z_pl; decide +kernel
theorem ml_X10_227 : z_lV RX10 227 M_X10_takeTurn 1 := by unfold z_lV z_pl; decide +kernel
theorem ml_X10_231 : z_lV RX10 231 M_X5_closesAt 1 := by unfold z_lV z_pl; decide +kernel
theorem ml_X10_234 : z_lV RX10 234 M_X10_keepTrace 0 := by unfold z_lV z_pl; decide +kernel
theorem fl_X10_237 : z_fl RX10 237 7 0 := by unfold z_fl; decide +kernel
theorem ml_X10_241 : z_lV RX10 241 M_X9_takeLocals 1 := by unfold z_lV z_pl; decide +kernel
theorem ml_X10_247 : z_lV RX10 247 M_X7_doHead 1 := by unfold z_lV z_pl; decide +kernel
theorem ml_X10_251 : z_lV RX10 251 M_X7_doBody 3 := by unfold z_lV z_pl; decide +kernel
theorem fl_X10_255 : z_fl RX10 255 0 0 := by unfold z_fl; decide +kernel
theorem fl_X10_258 : z_fl RX10 258 0 1 := by unfold z_fl; decide +kernel
theorem ml_X10_261 : z_lV RX10 261 M_X10_execute 2 := by unfold z_lV z_pl; decide +kernel
theorem ml_X10_264 : z_lV RX10 264 M_X5_note 2 := by unfold z_lV z_pl; decide +kernel
theorem ml_X10_268 : z_lV RX10 268 M_X10_countJumpTo 1 := by unfold z_lV z_pl; decide +kernel
theorem ml_X10_271 : z_lV RX10 271 M_X1_push 1 := by unfold z_lV z_pl; decide +kernel
theorem ml_X10_274 : z_lV RX10 274 M_X1_pop 0 := by unfold z_lV z_pl; decide +kernel
theorem ml_X10_277 : z_lS RX10 277 M_X9_result 3 := by unfold z_lS z_pl; decide +kernel
theorem ml_X10_281 : z_lV RX10 281 M_X2_give 1 := by unfold z_lV z_pl; decide +kernel
theorem ml_X10_284 : z_lV RX10 284 M_X10_halt 0 := by unfold z_lV z_pl; decide +kernel
theorem ml_X10_287 : z_lV RX10 287 M_X1_move 2 := by unfold z_lV z_pl; decide +kernel
theorem ml_X10_290 : z_lV RX10 290 M_X5_startAt 1 := by unfold z_lV z_pl; decide +kernel
theorem fl_X10_293 : z_fl RX10 293 5 2 := by unfold z_fl; decide +kernel
theorem ml_X10_294 : z_lV RX10 294 M_X8_make 3 := by unfold z_lV z_pl; decide +kernel
theorem ol_X0_3 : ∀ w ∈ ([.methodLink RX0 3 Lib.objectInit, .instanceMethod Lib.objectInit, .code Lib.objectInit ⟨#[0xb1]⟩ 1 none] : List Cond), w ∈ z_G := by decide +kernel
theorem fl_X0_9 : z_fl RX0 9 0 0 := by unfold z_fl; decide +kernel
theorem fl_X0_15 : z_fl RX0 15 0 1 := by unfold z_fl; decide +kernel
theorem fl_X0_18 : z_fl RX0 18 0 3 := by unfold z_fl; decide +kernel
theorem fl_X0_21 : z_fl RX0 21 0 4 := by unfold z_fl; decide +kernel
theorem fl_X0_24 : z_fl RX0 24 0 2 := by unfold z_fl; decide +kernel
theorem ml_X0_28 : z_lS RX0 28 M_J7_fill_53178 2 := by unfold z_lS z_pl; decide +kernel
theorem fl_X0_34 : z_fl RX0 34 0 5 := by unfold z_fl; decide +kernel
theorem ml_X0_37 : z_lV RX0 37 M_X0_reach 2 := by unfold z_lV z_pl; decide +kernel
theorem ml_X0_41 : z_lV RX0 41 M_X0_leadsOnWell 1 := by unfold z_lV z_pl; decide +kernel
theorem ol_X1_3 : ∀ w ∈ ([.methodLink RX1 3 Lib.objectInit, .instanceMethod Lib.objectInit, .code Lib.objectInit ⟨#[0xb1]⟩ 1 none] : List Cond), w ∈ z_G := by decide +kernel
theorem fl_X1_9 : z_fl RX1 9 1 0 := by unfold z_fl; decide +kernel
theorem fl_X1_15 : z_fl RX1 15 1 1 := by unfold z_fl; decide +kernel
theorem ml_X1_18 : z_lS RX1 18 M_J7_fill_53178 2 := by unfold z_lS z_pl; decide +kernel
theorem fl_X1_24 : z_fl RX1 24 1 2 := by unfold z_fl; decide +kernel
theorem fl_X1_28 : z_fl RX1 28 1 3 := by unfold z_fl; decide +kernel
theorem ml_X1_31 : z_lV RX1 31 M_X1_push 1 := by unfold z_lV z_pl; decide +kernel
theorem ml_X1_35 : z_lV RX1 35 M_X1_pop 0 := by unfold z_lV z_pl; decide +kernel
theorem ol_X2_3 : ∀ w ∈ ([.methodLink RX2 3 Lib.objectInit, .instanceMethod Lib.objectInit, .code Lib.objectInit ⟨#[0xb1]⟩ 1 none] : List Cond), w ∈ z_G := by decide +kernel
theorem fl_X2_9 : z_fl RX2 9 2 0 := by unfold z_fl; decide +kernel
theorem fl_X2_15 : z_fl RX2 15 2 1 := by unfold z_fl; decide +kernel
theorem fl_X2_19 : z_fl RX2 19 2 2 := by unfold z_fl; decide +kernel
theorem ml_X2_22 : z_lS RX2 22 M_J9_floorMod_7cf53 2 := by unfold z_lS z_pl; decide +kernel
theorem ol_X3_3 : ∀ w ∈ ([.methodLink RX3 3 Lib.objectInit, .instanceMethod Lib.objectInit, .code Lib.objectInit ⟨#[0xb1]⟩ 1 none] : List Cond), w ∈ z_G := by decide +kernel
theorem fl_X3_9 : z_fl RX3 9 3 0 := by unfold z_fl; decide +kernel
theorem fl_X3_15 : z_fl RX3 15 3 1 := by unfold z_fl; decide +kernel
theorem fl_X3_19 : z_fl RX3 19 3 2 := by unfold z_fl; decide +kernel
theorem fl_X3_22 : z_fl RX3 22 3 3 := by unfold z_fl; decide +kernel
theorem fl_X3_25 : z_fl RX3 25 3 4 := by unfold z_fl; decide +kernel
theorem fl_X3_28 : z_fl RX3 28 3 5 := by unfold z_fl; decide +kernel
theorem fl_X3_32 : z_fl RX3 32 1 2 := by unfold z_fl; decide +kernel
theorem fl_X3_37 : z_fl RX3 37 1 0 := by unfold z_fl; decide +kernel
theorem al_X3_40 : ∀ w ∈ ([.methodLink RX3 40 arraycopyName, .native arraycopyName, .static arraycopyName, .initialized "java/lang/System"] : List Cond), w ∈ z_G := by decide +kernel
theorem fl_X3_46 : z_fl RX3 46 1 1 := by unfold z_fl; decide +kernel
theorem fl_X3_49 : z_fl RX3 49 1 3 := by unfold z_fl; decide +kernel
theorem ol_X4_3 : ∀ w ∈ ([.methodLink RX4 3 Lib.objectInit, .instanceMethod Lib.objectInit, .code Lib.objectInit ⟨#[0xb1]⟩ 1 none] : List Cond), w ∈ z_G := by decide +kernel
theorem fl_X4_9 : z_fl RX4 9 4 0 := by unfold z_fl; decide +kernel
theorem fl_X4_15 : z_fl RX4 15 4 1 := by unfold z_fl; decide +kernel
theorem fl_X4_18 : z_fl RX4 18 4 2 := by unfold z_fl; decide +kernel
theorem ml_X4_21 : z_lS RX4 21 M_J7_fill_53178 2 := by unfold z_lS z_pl; decide +kernel
theorem ol_X5_3 : ∀ w ∈ ([.methodLink RX5 3 Lib.objectInit, .instanceMethod Lib.objectInit, .code Lib.objectInit ⟨#[0xb1]⟩ 1 none] : List Cond), w ∈ z_G := by decide +kernel
theorem fl_X5_9 : z_fl RX5 9 5 0 := by unfold z_fl; decide +kernel
theorem fl_X5_15 : z_fl RX5 15 5 1 := by unfold z_fl; decide +kernel
theorem fl_X5_19 : z_fl RX5 19 5 2 := by unfold z_fl; decide +kernel
theorem ml_X5_23 : z_lV RX5 23 M_X5_isOn 0 := by unfold z_lV z_pl; decide +kernel
theorem fl_X5_27 : z_fl RX5 27 5 3 := by unfold z_fl; decide +kernel
theorem ol_X6_1 : ∀ w ∈ ([.methodLink RX6 1 Lib.objectInit, .instanceMethod Lib.objectInit, .code Lib.objectInit ⟨#[0xb1]⟩ 1 none] : List Cond), w ∈ z_G := by decide +kernel
theorem fl_X6_7 : z_fl RX6 7 6 0 := by unfold z_fl; decide +kernel
theorem fl_X6_13 : z_fl RX6 13 6 1 := by unfold z_fl; decide +kernel
theorem fl_X6_16 : z_fl RX6 16 6 2 := by unfold z_fl; decide +kernel
theorem fl_X6_19 : z_fl RX6 19 6 3 := by unfold z_fl; decide +kernel
theorem ol_X7_3 : ∀ w ∈ ([.methodLink RX7 3 Lib.objectInit, .instanceMethod Lib.objectInit, .code Lib.objectInit ⟨#[0xb1]⟩ 1 none] : List Cond), w ∈ z_G := by decide +kernel
theorem nl_X7_9 : ∀ w ∈ ([.classLink RX7 9 (z_R 9), .instantiable (z_R 9) (z_nf 9), .initialized (z_R 9)] : List Cond), w ∈ z_G := by decide +kernel
theorem ml_X7_11 : z_lN RX7 11 M_X9_init 0 := by unfold z_lN z_pl; decide +kernel
theorem fl_X7_12 : z_fl RX7 12 7 0 := by unfold z_fl; decide +kernel
theorem nl_X7_18 : ∀ w ∈ ([.classLink RX7 18 (z_R 3), .instantiable (z_R 3) (z_nf 3), .initialized (z_R 3)] : List Cond), w ∈ z_G := by decide +kernel
theorem ml_X7_20 : z_lN RX7 20 M_X3_init 0 := by unfold z_lN z_pl; decide +kernel
theorem fl_X7_21 : z_fl RX7 21 7 1 := by unfold z_fl; decide +kernel
theorem fl_X7_25 : z_fl RX7 25 7 2 := by unfold z_fl; decide +kernel
theorem fl_X7_29 : z_fl RX7 29 7 6 := by unfold z_fl; decide +kernel
theorem fl_X7_32 : z_fl RX7 32 7 7 := by unfold z_fl; decide +kernel
theorem fl_X7_35 : z_fl RX7 35 7 8 := by unfold z_fl; decide +kernel
theorem ml_X7_38 : z_lV RX7 38 M_X9_reset 0 := by unfold z_lV z_pl; decide +kernel
theorem fl_X7_41 : z_fl RX7 41 3 5 := by unfold z_fl; decide +kernel
theorem fl_X7_45 : z_fl RX7 45 7 3 := by unfold z_fl; decide +kernel
theorem fl_X7_48 : z_fl RX7 48 7 4 := by unfold z_fl; decide +kernel
theorem fl_X7_51 : z_fl RX7 51 7 9 := by unfold z_fl; decide +kernel
theorem fl_X7_54 : z_fl RX7 54 7 5 := by unfold z_fl; decide +kernel
theorem ml_X7_57 : z_lV RX7 57 M_X7_stays 1 := by unfold z_lV z_pl; decide +kernel
theorem ml_X7_61 : z_lV RX7 61 M_X9_work 1 := by unfold z_lV z_pl; decide +kernel
theorem fl_X7_65 : z_fl RX7 65 6 3 := by unfold z_fl; decide +kernel
theorem fl_X7_70 : z_fl RX7 70 9 3 := by unfold z_fl; decide +kernel
theorem ml_X7_73 : z_lV RX7 73 M_X2_give 1 := by unfold z_lV z_pl; decide +kernel
theorem ml_X7_78 : z_lV RX7 78 M_X3_holds 2 := by unfold z_lV z_pl; decide +kernel
theorem ml_X7_82 : z_lV RX7 82 M_X3_restore 3 := by unfold z_lV z_pl; decide +kernel
theorem fl_X7_86 : z_fl RX7 86 1 0 := by unfold z_fl; decide +kernel
theorem ol_X8_3 : ∀ w ∈ ([.methodLink RX8 3 Lib.objectInit, .instanceMethod Lib.objectInit, .code Lib.objectInit ⟨#[0xb1]⟩ 1 none] : List Cond), w ∈ z_G := by decide +kernel
theorem nl_X8_9 : ∀ w ∈ ([.classLink RX8 9 (z_R 1), .instantiable (z_R 1) (z_nf 1), .initialized (z_R 1)] : List Cond), w ∈ z_G := by decide +kernel
theorem ml_X8_11 : z_lN RX8 11 M_X1_init 0 := by unfold z_lN z_pl; decide +kernel
theorem fl_X8_12 : z_fl RX8 12 8 0 := by unfold z_fl; decide +kernel
theorem fl_X8_18 : z_fl RX8 18 8 1 := by unfold z_fl; decide +kernel
theorem fl_X8_22 : z_fl RX8 22 8 2 := by unfold z_fl; decide +kernel
theorem fl_X8_25 : z_fl RX8 25 8 4 := by unfold z_fl; decide +kernel
theorem fl_X8_29 : z_fl RX8 29 8 5 := by unfold z_fl; decide +kernel
theorem fl_X8_32 : z_fl RX8 32 5 2 := by unfold z_fl; decide +kernel
theorem ml_X8_38 : z_lV RX8 38 M_X7_resetAt 1 := by unfold z_lV z_pl; decide +kernel
theorem ml_X8_44 : z_lV RX8 44 M_X8_forgetLast 0 := by unfold z_lV z_pl; decide +kernel
theorem fl_X8_47 : z_fl RX8 47 5 3 := by unfold z_fl; decide +kernel
theorem fl_X8_50 : z_fl RX8 50 5 0 := by unfold z_fl; decide +kernel
theorem fl_X8_53 : z_fl RX8 53 5 1 := by unfold z_fl; decide +kernel
theorem ml_X8_56 : z_lV RX8 56 M_X8_follow 4 := by unfold z_lV z_pl; decide +kernel
theorem fl_X8_60 : z_fl RX8 60 7 2 := by unfold z_fl; decide +kernel
theorem fl_X8_63 : z_fl RX8 63 1 0 := by unfold z_fl; decide +kernel
theorem fl_X8_66 : z_fl RX8 66 7 0 := by unfold z_fl; decide +kernel
theorem ml_X8_70 : z_lV RX8 70 M_X8_markParts 1 := by unfold z_lV z_pl; decide +kernel
theorem ml_X8_74 : z_lV RX8 74 M_X8_markConstant 1 := by unfold z_lV z_pl; decide +kernel
theorem ml_X8_78 : z_lV RX8 78 M_X8_sortOut 1 := by unfold z_lV z_pl; decide +kernel
theorem ml_X8_81 : z_lV RX8 81 M_X1_reset 0 := by unfold z_lV z_pl; decide +kernel
theorem fl_X8_84 : z_fl RX8 84 8 3 := by unfold z_fl; decide +kernel
theorem fl_X8_87 : z_fl RX8 87 0 0 := by unfold z_fl; decide +kernel
theorem fl_X8_92 : z_fl RX8 92 0 1 := by unfold z_fl; decide +kernel
theorem ml_X8_95 : z_lV RX8 95 M_X9_share 3 := by unfold z_lV z_pl; decide +kernel
theorem ml_X8_101 : z_lV RX8 101 M_X1_push 1 := by unfold z_lV z_pl; decide +kernel
theorem ml_X8_104 : z_lV RX8 104 M_X1_pop 0 := by unfold z_lV z_pl; decide +kernel
theorem ml_X8_108 : z_lV RX8 108 M_X8_combine 4 := by unfold z_lV z_pl; decide +kernel
theorem ml_X8_112 : z_lV RX8 112 M_X8_came 2 := by unfold z_lV z_pl; decide +kernel
theorem ml_X8_116 : z_lV RX8 116 M_X8_guard 4 := by unfold z_lV z_pl; decide +kernel
theorem ml_X8_120 : z_lV RX8 120 M_X1_move 2 := by unfold z_lV z_pl; decide +kernel
theorem ml_X8_123 : z_lV RX8 123 M_X9_isNumber 1 := by unfold z_lV z_pl; decide +kernel
theorem fl_X8_127 : z_fl RX8 127 9 1 := by unfold z_fl; decide +kernel
theorem ml_X8_130 : z_lS RX8 130 M_X9_result 3 := by unfold z_lS z_pl; decide +kernel
theorem fl_X8_133 : z_fl RX8 133 9 4 := by unfold z_fl; decide +kernel
theorem fl_X8_136 : z_fl RX8 136 7 1 := by unfold z_fl; decide +kernel
theorem ml_X8_140 : z_lV RX8 140 M_X3_has 2 := by unfold z_lV z_pl; decide +kernel
theorem ml_X8_146 : z_lV RX8 146 M_X3_put 4 := by unfold z_lV z_pl; decide +kernel
theorem fl_X8_150 : z_fl RX8 150 1 2 := by unfold z_fl; decide +kernel
theorem fl_X8_153 : z_fl RX8 153 1 1 := by unfold z_fl; decide +kernel
theorem ml_X8_156 : z_lV RX8 156 M_X9_isOperation 1 := by unfold z_lV z_pl; decide +kernel
theorem fl_X8_159 : z_fl RX8 159 9 2 := by unfold z_fl; decide +kernel
theorem ml_X8_162 : z_lV RX8 162 M_X7_stays 1 := by unfold z_lV z_pl; decide +kernel
theorem ml_X8_165 : z_lV RX8 165 M_X7_putInBody 2 := by unfold z_lV z_pl; decide +kernel
theorem ml_X8_168 : z_lV RX8 168 M_X7_putInHead 1 := by unfold z_lV z_pl; decide +kernel
theorem ol_X9_3 : ∀ w ∈ ([.methodLink RX9 3 Lib.objectInit, .instanceMethod Lib.objectInit, .code Lib.objectInit ⟨#[0xb1]⟩ 1 none] : List Cond), w ∈ z_G := by decide +kernel
theorem fl_X9_9 : z_fl RX9 9 9 0 := by unfold z_fl; decide +kernel
theorem fl_X9_15 : z_fl RX9 15 9 1 := by unfold z_fl; decide +kernel
theorem fl_X9_18 : z_fl RX9 18 9 2 := by unfold z_fl; decide +kernel
theorem fl_X9_21 : z_fl RX9 21 9 3 := by unfold z_fl; decide +kernel
theorem fl_X9_24 : z_fl RX9 24 9 4 := by unfold z_fl; decide +kernel
theorem ml_X9_28 : z_lV RX9 28 M_X9_share 3 := by unfold z_lV z_pl; decide +kernel
theorem al_X9_32 : ∀ w ∈ ([.methodLink RX9 32 arraycopyName, .native arraycopyName, .static arraycopyName, .initialized "java/lang/System"] : List Cond), w ∈ z_G := by decide +kernel
theorem ml_X9_38 : z_lS RX9 38 M_X9_result 3 := by unfold z_lS z_pl; decide +kernel
theorem nl_L_8 : ∀ w ∈ ([.classLink RL 8 (z_R 10), .instantiable (z_R 10) (z_nf 10), .initialized (z_R 10)] : List Cond), w ∈ z_G := by decide +kernel
theorem nl_L_46 : ∀ w ∈ ([.classLink RL 46 (z_R 11), .instantiable (z_R 11) (z_nf 11), .initialized (z_R 11)] : List Cond), w ∈ z_G := by decide +kernel
theorem ol_X11_1 : ∀ w ∈ ([.methodLink RX11 1 Lib.objectInit, .instanceMethod Lib.objectInit, .code Lib.objectInit ⟨#[0xb1]⟩ 1 none] : List Cond), w ∈ z_G := by decide +kernel
theorem fl_X11_7 : z_fl RX11 7 11 2 := by unfold z_fl; decide +kernel
theorem fl_X11_13 : z_fl RX11 13 11 3 := by unfold z_fl; decide +kernel
theorem fl_X11_16 : z_fl RX11 16 11 4 := by unfold z_fl; decide +kernel
theorem fl_X11_19 : z_fl RX11 19 11 7 := by unfold z_fl; decide +kernel
theorem fl_X11_23 : z_fl RX11 23 11 8 := by unfold z_fl; decide +kernel
theorem fl_X11_26 : z_fl RX11 26 11 10 := by unfold z_fl; decide +kernel
theorem fl_X11_29 : z_fl RX11 29 11 12 := by unfold z_fl; decide +kernel
theorem fl_X11_32 : z_fl RX11 32 11 13 := by unfold z_fl; decide +kernel
theorem fl_X11_35 : z_fl RX11 35 11 14 := by unfold z_fl; decide +kernel
theorem fl_X11_38 : z_fl RX11 38 11 15 := by unfold z_fl; decide +kernel
theorem fl_X11_41 : z_fl RX11 41 11 17 := by unfold z_fl; decide +kernel
theorem fl_X11_44 : z_fl RX11 44 11 18 := by unfold z_fl; decide +kernel
theorem fl_X11_48 : z_fl RX11 48 11 20 := by unfold z_fl; decide +kernel
theorem fl_X11_51 : z_fl RX11 51 11 21 := by unfold z_fl; decide +kernel
theorem fl_X11_54 : z_fl RX11 54 11 22 := by unfold z_fl; decide +kernel
theorem fl_X11_57 : z_fl RX11 57 11 23 := by unfold z_fl; decide +kernel
theorem fl_X11_60 : z_fl RX11 60 11 24 := by unfold z_fl; decide +kernel
theorem fl_X11_63 : z_fl RX11 63 11 25 := by unfold z_fl; decide +kernel
theorem fl_X11_66 : z_fl RX11 66 11 26 := by unfold z_fl; decide +kernel
theorem fl_X11_69 : z_fl RX11 69 11 27 := by unfold z_fl; decide +kernel
theorem fl_X11_72 : z_fl RX11 72 11 28 := by unfold z_fl; decide +kernel
theorem fl_X11_75 : z_fl RX11 75 11 29 := by unfold z_fl; decide +kernel
theorem fl_X11_78 : z_fl RX11 78 11 30 := by unfold z_fl; decide +kernel
theorem fl_X11_81 : z_fl RX11 81 11 36 := by unfold z_fl; decide +kernel
theorem fl_X11_84 : z_fl RX11 84 11 37 := by unfold z_fl; decide +kernel
theorem fl_X11_87 : z_fl RX11 87 11 38 := by unfold z_fl; decide +kernel
theorem fl_X11_90 : z_fl RX11 90 11 39 := by unfold z_fl; decide +kernel
theorem fl_X11_93 : z_fl RX11 93 11 40 := by unfold z_fl; decide +kernel
theorem fl_X11_96 : z_fl RX11 96 11 41 := by unfold z_fl; decide +kernel
theorem fl_X11_99 : z_fl RX11 99 11 42 := by unfold z_fl; decide +kernel
theorem fl_X11_102 : z_fl RX11 102 11 43 := by unfold z_fl; decide +kernel
theorem fl_X11_105 : z_fl RX11 105 11 45 := by unfold z_fl; decide +kernel
theorem fl_X11_108 : z_fl RX11 108 11 46 := by unfold z_fl; decide +kernel
theorem fl_X11_111 : z_fl RX11 111 11 0 := by unfold z_fl; decide +kernel
theorem ml_X11_114 : z_lS RX11 114 M_X11_within 3 := by unfold z_lS z_pl; decide +kernel
theorem ml_X11_118 : z_lV RX11 118 M_X11_fail 1 := by unfold z_lV z_pl; decide +kernel
theorem fl_X11_122 : z_fl RX11 122 11 1 := by unfold z_fl; decide +kernel
theorem fl_X11_125 : z_fl RX11 125 11 5 := by unfold z_fl; decide +kernel
theorem ml_X11_129 : z_lV RX11 129 M_X11_leads 2 := by unfold z_lV z_pl; decide +kernel
theorem ml_X11_133 : z_lS RX11 133 M_X11_takes 1 := by unfold z_lS z_pl; decide +kernel
theorem ml_X11_136 : z_lS RX11 136 M_X11_leaves 1 := by unfold z_lS z_pl; decide +kernel
theorem fl_X11_139 : z_fl RX11 139 11 9 := by unfold z_fl; decide +kernel
theorem fl_X11_142 : z_fl RX11 142 11 11 := by unfold z_fl; decide +kernel
theorem fl_X11_145 : z_fl RX11 145 11 19 := by unfold z_fl; decide +kernel
theorem fl_X11_148 : z_fl RX11 148 11 31 := by unfold z_fl; decide +kernel
theorem fl_X11_151 : z_fl RX11 151 11 32 := by unfold z_fl; decide +kernel
theorem fl_X11_154 : z_fl RX11 154 11 33 := by unfold z_fl; decide +kernel
theorem fl_X11_157 : z_fl RX11 157 11 34 := by unfold z_fl; decide +kernel
theorem ml_X11_160 : z_lV RX11 160 M_X11_sound 0 := by unfold z_lV z_pl; decide +kernel
theorem ml_X11_164 : z_lV RX11 164 M_X11_fresh 0 := by unfold z_lV z_pl; decide +kernel
theorem fl_X11_167 : z_fl RX11 167 11 6 := by unfold z_fl; decide +kernel
theorem ml_X11_170 : z_lV RX11 170 M_X11_push 1 := by unfold z_lV z_pl; decide +kernel
theorem ml_X11_174 : z_lV RX11 174 M_X11_pop 0 := by unfold z_lV z_pl; decide +kernel
theorem ml_X11_178 : z_lS RX11 178 M_X11_worked 3 := by unfold z_lS z_pl; decide +kernel
theorem ml_X11_182 : z_lV RX11 182 M_X11_give 1 := by unfold z_lV z_pl; decide +kernel
theorem fl_X11_185 : z_fl RX11 185 11 16 := by unfold z_fl; decide +kernel
theorem ml_X11_188 : z_lV RX11 188 M_X11_does 1 := by unfold z_lV z_pl; decide +kernel
theorem ml_X11_191 : z_lV RX11 191 M_X11_giveUp 1 := by unfold z_lV z_pl; decide +kernel
theorem ml_X11_194 : z_lV RX11 194 M_X11_hot 1 := by unfold z_lV z_pl; decide +kernel
theorem ml_X11_197 : z_lV RX11 197 M_X11_makeTrace 0 := by unfold z_lV z_pl; decide +kernel
theorem ml_X11_200 : z_lV RX11 200 M_X11_traceOf 1 := by unfold z_lV z_pl; decide +kernel
theorem ml_X11_203 : z_lV RX11 203 M_X11_turn 1 := by unfold z_lV z_pl; decide +kernel
theorem ml_X11_206 : z_lV RX11 206 M_X11_interpret 0 := by unfold z_lV z_pl; decide +kernel
theorem fl_X11_209 : z_fl RX11 209 11 35 := by unfold z_fl; decide +kernel
theorem ml_X11_212 : z_lV RX11 212 M_X11_valueOf 4 := by unfold z_lV z_pl; decide +kernel
theorem fl_X11_216 : z_fl RX11 216 11 44 := by unfold z_fl; decide +kernel
theorem ml_X11_219 : z_lV RX11 219 M_X11_calculated 3 := by unfold z_lV z_pl; decide +kernel
theorem ml_X11_222 : z_lV RX11 222 M_X11_picture 0 := by unfold z_lV z_pl; decide +kernel
theorem ml_X11_225 : z_lV RX11 225 M_X11_through 1 := by unfold z_lV z_pl; decide +kernel
theorem ml_X11_228 : z_lV RX11 228 M_X11_keep 1 := by unfold z_lV z_pl; decide +kernel
theorem acI : Cond.arrayClass .int ∈ z_G := by decide +kernel
theorem acZ : Cond.arrayClass .boolean ∈ z_G := by decide +kernel
theorem acL : Cond.arrayClass .long ∈ z_G := by decide +kernel
theorem sl_45 : Cond.fieldLinkNest RX0 45 "TraceTier" "TAKES" "[I" "TraceTier" ∈ z_N := by decide +kernel
theorem sl_48 : Cond.fieldLinkNest RX0 48 "TraceTier" "GIVES" "[I" "TraceTier" ∈ z_N := by decide +kernel
