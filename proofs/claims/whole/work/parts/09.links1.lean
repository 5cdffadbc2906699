/-! LINKS, by program: methods, words of calls, fields, constants -/
abbrev m_X0_init : MI := (yX0_init, RX0, cX0_init, 1, none, { frames := 2, cells := 0, slots := 0, locals := 80 })
theorem n_X0_init : Nm m_X0_init := ⟨by decide +kernel, rfl⟩
abbrev m_X0_evaluate : MI := (yX0_evaluate, RX0, cX0_evaluate, 7, some .int, { frames := 3, cells := 0, slots := 0, locals := 120 })
theorem k_X0_evaluate : LkV m_X0_evaluate 3 := ⟨inU 313 (by decide +kernel) rfl, inU 314 (by decide +kernel) rfl, inU 5 (by decide +kernel) rfl, inU 315 (by decide +kernel) rfl, ⟨by decide +kernel, by decide +kernel, by decide +kernel⟩⟩
theorem n_X0_evaluate : Nm m_X0_evaluate := ⟨by decide +kernel, rfl⟩
abbrev m_X0_valueOf : MI := (yX0_valueOf, RX0, cX0_valueOf, 4, some .int, { frames := 2, cells := 0, slots := 0, locals := 80 })
theorem k_X0_valueOf : LkS m_X0_valueOf 4 := ⟨inU 327 (by decide +kernel) rfl, inU 5 (by decide +kernel) rfl, inU 328 (by decide +kernel) rfl, ⟨by decide +kernel, by decide +kernel, by decide +kernel⟩⟩
theorem n_X0_valueOf : Nm m_X0_valueOf := ⟨by decide +kernel, rfl⟩
abbrev m_X0_apply : MI := (yX0_apply, RX0, cX0_apply, 5, some .long, { frames := 2, cells := 0, slots := 0, locals := 80 })
theorem k_X0_apply : LkS m_X0_apply 3 := ⟨inU 317 (by decide +kernel) rfl, inU 5 (by decide +kernel) rfl, inU 318 (by decide +kernel) rfl, ⟨by decide +kernel, by decide +kernel, by decide +kernel⟩⟩
theorem n_X0_apply : Nm m_X0_apply := ⟨by decide +kernel, rfl⟩
abbrev m_X0_limit : MI := (yX0_limit, RX0, cX0_limit, 2, some .int, { frames := 2, cells := 0, slots := 0, locals := 80 })
theorem k_X0_limit : LkS m_X0_limit 1 := ⟨inU 320 (by decide +kernel) rfl, inU 5 (by decide +kernel) rfl, inU 321 (by decide +kernel) rfl, ⟨by decide +kernel, by decide +kernel, by decide +kernel⟩⟩
theorem n_X0_limit : Nm m_X0_limit := ⟨by decide +kernel, rfl⟩
abbrev m_X1_init : MI := (yX1_init, RX1, cX1_init, 2, none, { frames := 2, cells := 0, slots := 0, locals := 80 })
theorem n_X1_init : Nm m_X1_init := ⟨by decide +kernel, rfl⟩
abbrev m_X1_copyFrom : MI := (yX1_copyFrom, RX1, cX1_copyFrom, 2, none, { frames := 2, cells := 0, slots := 0, locals := 80 })
theorem k_X1_copyFrom : LkV m_X1_copyFrom 1 := ⟨inU 372 (by decide +kernel) rfl, inU 373 (by decide +kernel) rfl, inU 6 (by decide +kernel) rfl, inU 374 (by decide +kernel) rfl, ⟨by decide +kernel, by decide +kernel, by decide +kernel⟩⟩
theorem n_X1_copyFrom : Nm m_X1_copyFrom := ⟨by decide +kernel, rfl⟩
abbrev m_X1_begin : MI := (yX1_begin, RX1, cX1_begin, 2, none, { frames := 5, cells := 0, slots := 0, locals := 200 })
theorem k_X1_begin : LkV m_X1_begin 1 := ⟨inU 684 (by decide +kernel) rfl, inU 685 (by decide +kernel) rfl, inU 6 (by decide +kernel) rfl, inU 686 (by decide +kernel) rfl, ⟨by decide +kernel, by decide +kernel, by decide +kernel⟩⟩
theorem n_X1_begin : Nm m_X1_begin := ⟨by decide +kernel, rfl⟩
abbrev m_X1_setFirstOrders : MI := (yX1_setFirstOrders, RX1, cX1_setFirstOrders, 2, none, { frames := 4, cells := 0, slots := 0, locals := 160 })
theorem k_X1_setFirstOrders : LkV m_X1_setFirstOrders 0 := ⟨inU 439 (by decide +kernel) rfl, inU 440 (by decide +kernel) rfl, inU 6 (by decide +kernel) rfl, inU 441 (by decide +kernel) rfl, ⟨by decide +kernel, by decide +kernel, by decide +kernel⟩⟩
theorem n_X1_setFirstOrders : Nm m_X1_setFirstOrders := ⟨by decide +kernel, rfl⟩
abbrev m_X1_setFirstOrder : MI := (yX1_setFirstOrder, RX1, cX1_setFirstOrder, 6, none, { frames := 3, cells := 0, slots := 0, locals := 120 })
theorem k_X1_setFirstOrder : LkV m_X1_setFirstOrder 1 := ⟨inU 444 (by decide +kernel) rfl, inUp 15 (by decide +kernel) rfl, inU 6 (by decide +kernel) rfl, inU 445 (by decide +kernel) rfl, ⟨by decide +kernel, by decide +kernel, by decide +kernel⟩⟩
theorem n_X1_setFirstOrder : Nm m_X1_setFirstOrder := ⟨by decide +kernel, rfl⟩
abbrev m_X1_positionOf : MI := (yX1_positionOf, RX1, cX1_positionOf, 4, some .int, { frames := 2, cells := 0, slots := 0, locals := 80 })
theorem k_X1_positionOf : LkV m_X1_positionOf 1 := ⟨inU 729 (by decide +kernel) rfl, inU 730 (by decide +kernel) rfl, inU 6 (by decide +kernel) rfl, inU 731 (by decide +kernel) rfl, ⟨by decide +kernel, by decide +kernel, by decide +kernel⟩⟩
theorem n_X1_positionOf : Nm m_X1_positionOf := ⟨by decide +kernel, rfl⟩
abbrev m_X1_exchange : MI := (yX1_exchange, RX1, cX1_exchange, 5, none, { frames := 2, cells := 0, slots := 0, locals := 80 })
theorem k_X1_exchange : LkV m_X1_exchange 2 := ⟨inU 379 (by decide +kernel) rfl, inU 380 (by decide +kernel) rfl, inU 6 (by decide +kernel) rfl, inU 381 (by decide +kernel) rfl, ⟨by decide +kernel, by decide +kernel, by decide +kernel⟩⟩
theorem n_X1_exchange : Nm m_X1_exchange := ⟨by decide +kernel, rfl⟩
abbrev m_X1_move : MI := (yX1_move, RX1, cX1_move, 5, none, { frames := 3, cells := 0, slots := 0, locals := 120 })
theorem k_X1_move : LkV m_X1_move 3 := ⟨inU 886 (by decide +kernel) rfl, inU 887 (by decide +kernel) rfl, inU 6 (by decide +kernel) rfl, inU 888 (by decide +kernel) rfl, ⟨by decide +kernel, by decide +kernel, by decide +kernel⟩⟩
theorem n_X1_move : Nm m_X1_move := ⟨by decide +kernel, rfl⟩
abbrev m_X2_init : MI := (yX2_init, RX2, cX2_init, 2, none, { frames := 3, cells := 0, slots := 0, locals := 120 })
theorem n_X2_init : Nm m_X2_init := ⟨by decide +kernel, rfl⟩
abbrev m_X2_compute : MI := (yX2_compute, RX2, cX2_compute, 4, some .boolean, { frames := 6, cells := 0, slots := 0, locals := 240 })
theorem k_X2_compute : LkV m_X2_compute 0 := ⟨inU 383 (by decide +kernel) rfl, inU 384 (by decide +kernel) rfl, inU 4 (by decide +kernel) rfl, inU 385 (by decide +kernel) rfl, ⟨by decide +kernel, by decide +kernel, by decide +kernel⟩⟩
theorem n_X2_compute : Nm m_X2_compute := ⟨by decide +kernel, rfl⟩
abbrev m_X2_setArcs : MI := (yX2_setArcs, RX2, cX2_setArcs, 7, none, { frames := 3, cells := 0, slots := 0, locals := 120 })
theorem k_X2_setArcs : LkV m_X2_setArcs 1 := ⟨inU 388 (by decide +kernel) rfl, inUp 6 (by decide +kernel) rfl, inU 4 (by decide +kernel) rfl, inU 389 (by decide +kernel) rfl, ⟨by decide +kernel, by decide +kernel, by decide +kernel⟩⟩
theorem n_X2_setArcs : Nm m_X2_setArcs := ⟨by decide +kernel, rfl⟩
abbrev m_X2_unsettleAll : MI := (yX2_unsettleAll, RX2, cX2_unsettleAll, 5, some .int, { frames := 3, cells := 0, slots := 0, locals := 120 })
theorem k_X2_unsettleAll : LkV m_X2_unsettleAll 0 := ⟨inU 396 (by decide +kernel) rfl, inUp 7 (by decide +kernel) rfl, inU 4 (by decide +kernel) rfl, inU 397 (by decide +kernel) rfl, ⟨by decide +kernel, by decide +kernel, by decide +kernel⟩⟩
theorem n_X2_unsettleAll : Nm m_X2_unsettleAll := ⟨by decide +kernel, rfl⟩
abbrev m_X2_settleSome : MI := (yX2_settleSome, RX2, cX2_settleSome, 5, some .int, { frames := 4, cells := 0, slots := 0, locals := 160 })
theorem k_X2_settleSome : LkV m_X2_settleSome 0 := ⟨inU 403 (by decide +kernel) rfl, inUp 8 (by decide +kernel) rfl, inU 4 (by decide +kernel) rfl, inU 404 (by decide +kernel) rfl, ⟨by decide +kernel, by decide +kernel, by decide +kernel⟩⟩
theorem n_X2_settleSome : Nm m_X2_settleSome := ⟨by decide +kernel, rfl⟩
abbrev m_X2_isReady : MI := (yX2_isReady, RX2, cX2_isReady, 2, some .boolean, { frames := 2, cells := 0, slots := 0, locals := 80 })
theorem k_X2_isReady : LkV m_X2_isReady 1 := ⟨inU 407 (by decide +kernel) rfl, inUp 9 (by decide +kernel) rfl, inU 4 (by decide +kernel) rfl, inU 408 (by decide +kernel) rfl, ⟨by decide +kernel, by decide +kernel, by decide +kernel⟩⟩
theorem n_X2_isReady : Nm m_X2_isReady := ⟨by decide +kernel, rfl⟩
abbrev m_X2_earliestStart : MI := (yX2_earliestStart, RX2, cX2_earliestStart, 5, some .int, { frames := 3, cells := 0, slots := 0, locals := 120 })
theorem k_X2_earliestStart : LkV m_X2_earliestStart 1 := ⟨inU 411 (by decide +kernel) rfl, inUp 10 (by decide +kernel) rfl, inU 4 (by decide +kernel) rfl, inU 412 (by decide +kernel) rfl, ⟨by decide +kernel, by decide +kernel, by decide +kernel⟩⟩
theorem n_X2_earliestStart : Nm m_X2_earliestStart := ⟨by decide +kernel, rfl⟩
abbrev m_X2_settleRing : MI := (yX2_settleRing, RX2, cX2_settleRing, 5, some .int, { frames := 5, cells := 0, slots := 0, locals := 200 })
theorem k_X2_settleRing : LkV m_X2_settleRing 0 := ⟨inU 415 (by decide +kernel) rfl, inUp 11 (by decide +kernel) rfl, inU 4 (by decide +kernel) rfl, inU 416 (by decide +kernel) rfl, ⟨by decide +kernel, by decide +kernel, by decide +kernel⟩⟩
theorem n_X2_settleRing : Nm m_X2_settleRing := ⟨by decide +kernel, rfl⟩
abbrev m_X2_sizeOfRing : MI := (yX2_sizeOfRing, RX2, cX2_sizeOfRing, 4, some .int, { frames := 2, cells := 0, slots := 0, locals := 80 })
theorem k_X2_sizeOfRing : LkV m_X2_sizeOfRing 1 := ⟨inU 419 (by decide +kernel) rfl, inUp 12 (by decide +kernel) rfl, inU 4 (by decide +kernel) rfl, inU 420 (by decide +kernel) rfl, ⟨by decide +kernel, by decide +kernel, by decide +kernel⟩⟩
theorem n_X2_sizeOfRing : Nm m_X2_sizeOfRing := ⟨by decide +kernel, rfl⟩
abbrev m_X2_startTogether : MI := (yX2_startTogether, RX2, cX2_startTogether, 6, none, { frames := 4, cells := 0, slots := 0, locals := 160 })
theorem k_X2_startTogether : LkV m_X2_startTogether 2 := ⟨inU 423 (by decide +kernel) rfl, inUp 13 (by decide +kernel) rfl, inU 4 (by decide +kernel) rfl, inU 424 (by decide +kernel) rfl, ⟨by decide +kernel, by decide +kernel, by decide +kernel⟩⟩
theorem n_X2_startTogether : Nm m_X2_startTogether := ⟨by decide +kernel, rfl⟩
abbrev m_X2_completedAt : MI := (yX2_completedAt, RX2, cX2_completedAt, 2, some .int, { frames := 2, cells := 0, slots := 0, locals := 80 })
theorem k_X2_completedAt : LkV m_X2_completedAt 1 := ⟨inU 294 (by decide +kernel) rfl, inU 295 (by decide +kernel) rfl, inU 4 (by decide +kernel) rfl, inU 296 (by decide +kernel) rfl, ⟨by decide +kernel, by decide +kernel, by decide +kernel⟩⟩
theorem n_X2_completedAt : Nm m_X2_completedAt := ⟨by decide +kernel, rfl⟩
abbrev m_X2_leaveOf : MI := (yX2_leaveOf, RX2, cX2_leaveOf, 4, some .int, { frames := 3, cells := 0, slots := 0, locals := 120 })
theorem k_X2_leaveOf : LkV m_X2_leaveOf 2 := ⟨inU 768 (by decide +kernel) rfl, inU 769 (by decide +kernel) rfl, inU 4 (by decide +kernel) rfl, inU 770 (by decide +kernel) rfl, ⟨by decide +kernel, by decide +kernel, by decide +kernel⟩⟩
theorem n_X2_leaveOf : Nm m_X2_leaveOf := ⟨by decide +kernel, rfl⟩
abbrev m_X2_lastOf : MI := (yX2_lastOf, RX2, cX2_lastOf, 2, some .int, { frames := 2, cells := 0, slots := 0, locals := 80 })
theorem k_X2_lastOf : LkV m_X2_lastOf 1 := ⟨inU 291 (by decide +kernel) rfl, inUp 1 (by decide +kernel) rfl, inU 4 (by decide +kernel) rfl, inU 292 (by decide +kernel) rfl, ⟨by decide +kernel, by decide +kernel, by decide +kernel⟩⟩
theorem n_X2_lastOf : Nm m_X2_lastOf := ⟨by decide +kernel, rfl⟩
abbrev m_X2_completionOf : MI := (yX2_completionOf, RX2, cX2_completionOf, 2, some .int, { frames := 3, cells := 0, slots := 0, locals := 120 })
theorem k_X2_completionOf : LkV m_X2_completionOf 1 := ⟨inU 286 (by decide +kernel) rfl, inU 287 (by decide +kernel) rfl, inU 4 (by decide +kernel) rfl, inU 288 (by decide +kernel) rfl, ⟨by decide +kernel, by decide +kernel, by decide +kernel⟩⟩
theorem n_X2_completionOf : Nm m_X2_completionOf := ⟨by decide +kernel, rfl⟩
abbrev m_X2_greatestCompletion : MI := (yX2_greatestCompletion, RX2, cX2_greatestCompletion, 3, some .int, { frames := 4, cells := 0, slots := 0, locals := 160 })
theorem k_X2_greatestCompletion : LkV m_X2_greatestCompletion 0 := ⟨inU 282 (by decide +kernel) rfl, inU 283 (by decide +kernel) rfl, inU 4 (by decide +kernel) rfl, inU 284 (by decide +kernel) rfl, ⟨by decide +kernel, by decide +kernel, by decide +kernel⟩⟩
theorem n_X2_greatestCompletion : Nm m_X2_greatestCompletion := ⟨by decide +kernel, rfl⟩
abbrev m_X2_costOf : MI := (yX2_costOf, RX2, cX2_costOf, 2, some .int, { frames := 4, cells := 0, slots := 0, locals := 160 })
theorem k_X2_costOf : LkV m_X2_costOf 1 := ⟨inU 309 (by decide +kernel) rfl, inU 310 (by decide +kernel) rfl, inU 4 (by decide +kernel) rfl, inU 311 (by decide +kernel) rfl, ⟨by decide +kernel, by decide +kernel, by decide +kernel⟩⟩
theorem n_X2_costOf : Nm m_X2_costOf := ⟨by decide +kernel, rfl⟩
abbrev m_X2_costOfAll : MI := (yX2_costOfAll, RX2, cX2_costOfAll, 3, some .int, { frames := 5, cells := 0, slots := 0, locals := 200 })
theorem k_X2_costOfAll : LkV m_X2_costOfAll 0 := ⟨inU 305 (by decide +kernel) rfl, inU 306 (by decide +kernel) rfl, inU 4 (by decide +kernel) rfl, inU 307 (by decide +kernel) rfl, ⟨by decide +kernel, by decide +kernel, by decide +kernel⟩⟩
theorem n_X2_costOfAll : Nm m_X2_costOfAll := ⟨by decide +kernel, rfl⟩
abbrev m_X2_isBetterThan : MI := (yX2_isBetterThan, RX2, cX2_isBetterThan, 4, some .boolean, { frames := 6, cells := 0, slots := 0, locals := 240 })
theorem k_X2_isBetterThan : LkV m_X2_isBetterThan 2 := ⟨inU 426 (by decide +kernel) rfl, inU 427 (by decide +kernel) rfl, inU 4 (by decide +kernel) rfl, inU 428 (by decide +kernel) rfl, ⟨by decide +kernel, by decide +kernel, by decide +kernel⟩⟩
theorem n_X2_isBetterThan : Nm m_X2_isBetterThan := ⟨by decide +kernel, rfl⟩
abbrev m_X2_traceCriticalPath : MI := (yX2_traceCriticalPath, RX2, cX2_traceCriticalPath, 3, none, { frames := 6, cells := 0, slots := 0, locals := 240 })
theorem k_X2_traceCriticalPath : LkV m_X2_traceCriticalPath 0 := ⟨inU 334 (by decide +kernel) rfl, inU 335 (by decide +kernel) rfl, inU 4 (by decide +kernel) rfl, inU 336 (by decide +kernel) rfl, ⟨by decide +kernel, by decide +kernel, by decide +kernel⟩⟩
theorem n_X2_traceCriticalPath : Nm m_X2_traceCriticalPath := ⟨by decide +kernel, rfl⟩
abbrev m_X2_criticalEnd : MI := (yX2_criticalEnd, RX2, cX2_criticalEnd, 3, some .int, { frames := 5, cells := 0, slots := 0, locals := 200 })
theorem k_X2_criticalEnd : LkV m_X2_criticalEnd 0 := ⟨inU 339 (by decide +kernel) rfl, inUp 2 (by decide +kernel) rfl, inU 4 (by decide +kernel) rfl, inU 340 (by decide +kernel) rfl, ⟨by decide +kernel, by decide +kernel, by decide +kernel⟩⟩
theorem n_X2_criticalEnd : Nm m_X2_criticalEnd := ⟨by decide +kernel, rfl⟩
abbrev m_X2_isOnPath : MI := (yX2_isOnPath, RX2, cX2_isOnPath, 3, some .boolean, { frames := 2, cells := 0, slots := 0, locals := 80 })
theorem k_X2_isOnPath : LkV m_X2_isOnPath 1 := ⟨inU 344 (by decide +kernel) rfl, inUp 3 (by decide +kernel) rfl, inU 4 (by decide +kernel) rfl, inU 345 (by decide +kernel) rfl, ⟨by decide +kernel, by decide +kernel, by decide +kernel⟩⟩
theorem n_X2_isOnPath : Nm m_X2_isOnPath := ⟨by decide +kernel, rfl⟩
abbrev m_X2_criticalSource : MI := (yX2_criticalSource, RX2, cX2_criticalSource, 3, some .int, { frames := 3, cells := 0, slots := 0, locals := 120 })
theorem k_X2_criticalSource : LkV m_X2_criticalSource 1 := ⟨inU 348 (by decide +kernel) rfl, inUp 4 (by decide +kernel) rfl, inU 4 (by decide +kernel) rfl, inU 349 (by decide +kernel) rfl, ⟨by decide +kernel, by decide +kernel, by decide +kernel⟩⟩
theorem n_X2_criticalSource : Nm m_X2_criticalSource := ⟨by decide +kernel, rfl⟩
abbrev m_X2_continuesBlock : MI := (yX2_continuesBlock, RX2, cX2_continuesBlock, 2, some .boolean, { frames := 2, cells := 0, slots := 0, locals := 80 })
theorem k_X2_continuesBlock : LkV m_X2_continuesBlock 1 := ⟨inU 355 (by decide +kernel) rfl, inU 356 (by decide +kernel) rfl, inU 4 (by decide +kernel) rfl, inU 357 (by decide +kernel) rfl, ⟨by decide +kernel, by decide +kernel, by decide +kernel⟩⟩
theorem n_X2_continuesBlock : Nm m_X2_continuesBlock := ⟨by decide +kernel, rfl⟩
abbrev m_X3_init : MI := (yX3_init, RX3, cX3_init, 1, none, { frames := 2, cells := 0, slots := 0, locals := 80 })
theorem n_X3_init : Nm m_X3_init := ⟨by decide +kernel, rfl⟩
abbrev m_X3_readInto : MI := (yX3_readInto, RX3, cX3_readInto, 4, none, { frames := 30, cells := 0, slots := 0, locals := 1200 })
theorem k_X3_readInto : LkV m_X3_readInto 2 := ⟨inU 537 (by decide +kernel) rfl, inU 538 (by decide +kernel) rfl, inU 2 (by decide +kernel) rfl, inU 539 (by decide +kernel) rfl, ⟨by decide +kernel, by decide +kernel, by decide +kernel⟩⟩
theorem n_X3_readInto : Nm m_X3_readInto := ⟨by decide +kernel, rfl⟩
abbrev m_X3_readHead : MI := (yX3_readHead, RX3, cX3_readHead, 2, none, { frames := 9, cells := 0, slots := 0, locals := 360 })
theorem k_X3_readHead : LkV m_X3_readHead 1 := ⟨inU 550 (by decide +kernel) rfl, inUp 18 (by decide +kernel) rfl, inU 2 (by decide +kernel) rfl, inU 551 (by decide +kernel) rfl, ⟨by decide +kernel, by decide +kernel, by decide +kernel⟩⟩
theorem n_X3_readHead : Nm m_X3_readHead := ⟨by decide +kernel, rfl⟩
abbrev m_X3_readJob : MI := (yX3_readJob, RX3, cX3_readJob, 4, none, { frames := 10, cells := 0, slots := 0, locals := 400 })
theorem k_X3_readJob : LkV m_X3_readJob 1 := ⟨inU 629 (by decide +kernel) rfl, inUp 25 (by decide +kernel) rfl, inU 2 (by decide +kernel) rfl, inU 630 (by decide +kernel) rfl, ⟨by decide +kernel, by decide +kernel, by decide +kernel⟩⟩
theorem n_X3_readJob : Nm m_X3_readJob := ⟨by decide +kernel, rfl⟩
abbrev m_X3_readOperation : MI := (yX3_readOperation, RX3, cX3_readOperation, 5, none, { frames := 9, cells := 0, slots := 0, locals := 360 })
theorem k_X3_readOperation : LkV m_X3_readOperation 2 := ⟨inU 633 (by decide +kernel) rfl, inUp 26 (by decide +kernel) rfl, inU 2 (by decide +kernel) rfl, inU 634 (by decide +kernel) rfl, ⟨by decide +kernel, by decide +kernel, by decide +kernel⟩⟩
theorem n_X3_readOperation : Nm m_X3_readOperation := ⟨by decide +kernel, rfl⟩
abbrev m_X3_needsAlready : MI := (yX3_needsAlready, RX3, cX3_needsAlready, 5, some .boolean, { frames := 3, cells := 0, slots := 0, locals := 120 })
theorem k_X3_needsAlready : LkV m_X3_needsAlready 3 := ⟨inU 638 (by decide +kernel) rfl, inUp 27 (by decide +kernel) rfl, inU 2 (by decide +kernel) rfl, inU 639 (by decide +kernel) rfl, ⟨by decide +kernel, by decide +kernel, by decide +kernel⟩⟩
theorem n_X3_needsAlready : Nm m_X3_needsAlready := ⟨by decide +kernel, rfl⟩
abbrev m_X3_readMachine : MI := (yX3_readMachine, RX3, cX3_readMachine, 3, none, { frames := 4, cells := 0, slots := 0, locals := 160 })
theorem k_X3_readMachine : LkV m_X3_readMachine 1 := ⟨inU 644 (by decide +kernel) rfl, inUp 28 (by decide +kernel) rfl, inU 2 (by decide +kernel) rfl, inU 645 (by decide +kernel) rfl, ⟨by decide +kernel, by decide +kernel, by decide +kernel⟩⟩
theorem n_X3_readMachine : Nm m_X3_readMachine := ⟨by decide +kernel, rfl⟩
abbrev m_X3_readSum (d : Nat) : MI := (yX3_readSum, RX3, cX3_readSum, 4, none, { frames := 3 * d + 11, cells := 0, slots := 0, locals := 40 * (3 * d + 11) })
theorem k_X3_readSum0 : LkV (m_X3_readSum 0) 1 := ⟨inU 649 (by decide +kernel) rfl, inUp 29 (by decide +kernel) rfl, inU 2 (by decide +kernel) rfl, inU 650 (by decide +kernel) rfl, ⟨by decide +kernel, by decide +kernel, by decide +kernel⟩⟩
theorem n_X3_readSum0 : Nm (m_X3_readSum 0) := ⟨by decide +kernel, rfl⟩
theorem k_X3_readSum {d : Nat} : LkV (m_X3_readSum d) 1 := k_X3_readSum0
theorem n_X3_readSum {d : Nat} : Nm (m_X3_readSum d) := n_X3_readSum0
abbrev m_X3_readTerm (d : Nat) : MI := (yX3_readTerm, RX3, cX3_readTerm, 4, none, { frames := 3 * d + 10, cells := 0, slots := 0, locals := 40 * (3 * d + 10) })
theorem k_X3_readTerm0 : LkV (m_X3_readTerm 0) 1 := ⟨inU 653 (by decide +kernel) rfl, inUp 30 (by decide +kernel) rfl, inU 2 (by decide +kernel) rfl, inU 654 (by decide +kernel) rfl, ⟨by decide +kernel, by decide +kernel, by decide +kernel⟩⟩
theorem n_X3_readTerm0 : Nm (m_X3_readTerm 0) := ⟨by decide +kernel, rfl⟩
theorem k_X3_readTerm {d : Nat} : LkV (m_X3_readTerm d) 1 := k_X3_readTerm0
theorem n_X3_readTerm {d : Nat} : Nm (m_X3_readTerm d) := n_X3_readTerm0
abbrev m_X3_readFactor (d : Nat) : MI := (yX3_readFactor, RX3, cX3_readFactor, 2, none, { frames := 3 * d + 9, cells := 0, slots := 0, locals := 40 * (3 * d + 9) })
theorem k_X3_readFactor0 : LkV (m_X3_readFactor 0) 1 := ⟨inU 657 (by decide +kernel) rfl, inUp 31 (by decide +kernel) rfl, inU 2 (by decide +kernel) rfl, inU 658 (by decide +kernel) rfl, ⟨by decide +kernel, by decide +kernel, by decide +kernel⟩⟩
theorem n_X3_readFactor0 : Nm (m_X3_readFactor 0) := ⟨by decide +kernel, rfl⟩
theorem k_X3_readFactor {d : Nat} : LkV (m_X3_readFactor d) 1 := k_X3_readFactor0
theorem n_X3_readFactor {d : Nat} : Nm (m_X3_readFactor d) := n_X3_readFactor0
abbrev m_X3_readName : MI := (yX3_readName, RX3, cX3_readName, 1, none, { frames := 8, cells := 0, slots := 0, locals := 320 })
theorem k_X3_readName : LkV m_X3_readName 0 := ⟨inU 665 (by decide +kernel) rfl, inUp 33 (by decide +kernel) rfl, inU 2 (by decide +kernel) rfl, inU 666 (by decide +kernel) rfl, ⟨by decide +kernel, by decide +kernel, by decide +kernel⟩⟩
theorem n_X3_readName : Nm m_X3_readName := ⟨by decide +kernel, rfl⟩
abbrev m_X3_addToCost : MI := (yX3_addToCost, RX3, cX3_addToCost, 2, none, { frames := 2, cells := 0, slots := 0, locals := 80 })
theorem k_X3_addToCost : LkV m_X3_addToCost 1 := ⟨inU 661 (by decide +kernel) rfl, inUp 32 (by decide +kernel) rfl, inU 2 (by decide +kernel) rfl, inU 662 (by decide +kernel) rfl, ⟨by decide +kernel, by decide +kernel, by decide +kernel⟩⟩
theorem n_X3_addToCost : Nm m_X3_addToCost := ⟨by decide +kernel, rfl⟩
abbrev m_X3_valueOfToken : MI := (yX3_valueOfToken, RX3, cX3_valueOfToken, 3, some .int, { frames := 2, cells := 0, slots := 0, locals := 80 })
theorem k_X3_valueOfToken : LkV m_X3_valueOfToken 0 := ⟨inU 619 (by decide +kernel) rfl, inUp 23 (by decide +kernel) rfl, inU 2 (by decide +kernel) rfl, inU 620 (by decide +kernel) rfl, ⟨by decide +kernel, by decide +kernel, by decide +kernel⟩⟩
theorem n_X3_valueOfToken : Nm m_X3_valueOfToken := ⟨by decide +kernel, rfl⟩
abbrev m_X3_readNumber : MI := (yX3_readNumber, RX3, cX3_readNumber, 4, some .int, { frames := 3, cells := 0, slots := 0, locals := 120 })
theorem k_X3_readNumber : LkV m_X3_readNumber 2 := ⟨inU 615 (by decide +kernel) rfl, inUp 22 (by decide +kernel) rfl, inU 2 (by decide +kernel) rfl, inU 616 (by decide +kernel) rfl, ⟨by decide +kernel, by decide +kernel, by decide +kernel⟩⟩
theorem n_X3_readNumber : Nm m_X3_readNumber := ⟨by decide +kernel, rfl⟩
abbrev m_X3_expectWord : MI := (yX3_expectWord, RX3, cX3_expectWord, 2, none, { frames := 8, cells := 0, slots := 0, locals := 320 })
theorem k_X3_expectWord : LkV m_X3_expectWord 1 := ⟨inU 555 (by decide +kernel) rfl, inUp 19 (by decide +kernel) rfl, inU 2 (by decide +kernel) rfl, inU 556 (by decide +kernel) rfl, ⟨by decide +kernel, by decide +kernel, by decide +kernel⟩⟩
theorem n_X3_expectWord : Nm m_X3_expectWord := ⟨by decide +kernel, rfl⟩
abbrev m_X3_expect : MI := (yX3_expect, RX3, cX3_expect, 2, none, { frames := 3, cells := 0, slots := 0, locals := 120 })
theorem k_X3_expect : LkV m_X3_expect 1 := ⟨inU 624 (by decide +kernel) rfl, inUp 24 (by decide +kernel) rfl, inU 2 (by decide +kernel) rfl, inU 625 (by decide +kernel) rfl, ⟨by decide +kernel, by decide +kernel, by decide +kernel⟩⟩
theorem n_X3_expect : Nm m_X3_expect := ⟨by decide +kernel, rfl⟩
abbrev m_X3_isWord : MI := (yX3_isWord, RX3, cX3_isWord, 3, some .boolean, { frames := 7, cells := 0, slots := 0, locals := 280 })
theorem k_X3_isWord : LkV m_X3_isWord 1 := ⟨inU 559 (by decide +kernel) rfl, inUp 20 (by decide +kernel) rfl, inU 2 (by decide +kernel) rfl, inU 560 (by decide +kernel) rfl, ⟨by decide +kernel, by decide +kernel, by decide +kernel⟩⟩
theorem n_X3_isWord : Nm m_X3_isWord := ⟨by decide +kernel, rfl⟩
abbrev m_X3_fail : MI := (yX3_fail, RX3, cX3_fail, 2, none, { frames := 2, cells := 0, slots := 0, locals := 80 })
theorem k_X3_fail : LkV m_X3_fail 1 := ⟨inU 611 (by decide +kernel) rfl, inUp 21 (by decide +kernel) rfl, inU 2 (by decide +kernel) rfl, inU 612 (by decide +kernel) rfl, ⟨by decide +kernel, by decide +kernel, by decide +kernel⟩⟩
theorem n_X3_fail : Nm m_X3_fail := ⟨by decide +kernel, rfl⟩
abbrev m_X3_next : MI := (yX3_next, RX3, cX3_next, 2, none, { frames := 2, cells := 0, slots := 0, locals := 80 })
theorem k_X3_next : LkV m_X3_next 0 := ⟨inU 546 (by decide +kernel) rfl, inUp 17 (by decide +kernel) rfl, inU 2 (by decide +kernel) rfl, inU 547 (by decide +kernel) rfl, ⟨by decide +kernel, by decide +kernel, by decide +kernel⟩⟩
theorem n_X3_next : Nm m_X3_next := ⟨by decide +kernel, rfl⟩
abbrev m_X4_init : MI := (yX4_init, RX4, cX4_init, 1, none, { frames := 2, cells := 0, slots := 0, locals := 80 })
theorem n_X4_init : Nm m_X4_init := ⟨by decide +kernel, rfl⟩
abbrev m_X4_isLast : MI := (yX4_isLast, RX4, cX4_isLast, 2, some .boolean, { frames := 2, cells := 0, slots := 0, locals := 80 })
theorem k_X4_isLast : LkV m_X4_isLast 1 := ⟨inU 391 (by decide +kernel) rfl, inU 392 (by decide +kernel) rfl, inU 3 (by decide +kernel) rfl, inU 393 (by decide +kernel) rfl, ⟨by decide +kernel, by decide +kernel, by decide +kernel⟩⟩
theorem n_X4_isLast : Nm m_X4_isLast := ⟨by decide +kernel, rfl⟩
abbrev m_X5_init : MI := (yX5_init, RX5, cX5_init, 3, none, { frames := 4, cells := 0, slots := 0, locals := 160 })
theorem n_X5_init : Nm m_X5_init := ⟨by decide +kernel, rfl⟩
abbrev m_X5_append : MI := (yX5_append, RX5, cX5_append, 6, some .int, { frames := 3, cells := 0, slots := 0, locals := 120 })
theorem k_X5_append : LkV m_X5_append 5 := ⟨inU 258 (by decide +kernel) rfl, inU 259 (by decide +kernel) rfl, inU 1 (by decide +kernel) rfl, inU 260 (by decide +kernel) rfl, ⟨by decide +kernel, by decide +kernel, by decide +kernel⟩⟩
theorem n_X5_append : Nm m_X5_append := ⟨by decide +kernel, rfl⟩
abbrev m_X5_putWord : MI := (yX5_putWord, RX5, cX5_putWord, 3, none, { frames := 2, cells := 0, slots := 0, locals := 80 })
theorem k_X5_putWord : LkV m_X5_putWord 2 := ⟨inU 263 (by decide +kernel) rfl, inUp 0 (by decide +kernel) rfl, inU 1 (by decide +kernel) rfl, inU 264 (by decide +kernel) rfl, ⟨by decide +kernel, by decide +kernel, by decide +kernel⟩⟩
theorem n_X5_putWord : Nm m_X5_putWord := ⟨by decide +kernel, rfl⟩
abbrev m_X5_load : MI := (yX5_load, RX5, cX5_load, 3, some .int, { frames := 31, cells := 0, slots := 0, locals := 1240 })
theorem k_X5_load : LkV m_X5_load 1 := ⟨inU 465 (by decide +kernel) rfl, inU 466 (by decide +kernel) rfl, inU 1 (by decide +kernel) rfl, inU 467 (by decide +kernel) rfl, ⟨by decide +kernel, by decide +kernel, by decide +kernel⟩⟩
theorem n_X5_load : Nm m_X5_load := ⟨by decide +kernel, rfl⟩
abbrev m_X5_errorOffset : MI := (yX5_errorOffset, RX5, cX5_errorOffset, 1, some .int, { frames := 2, cells := 0, slots := 0, locals := 80 })
theorem k_X5_errorOffset : LkV m_X5_errorOffset 0 := ⟨inU 266 (by decide +kernel) rfl, inU 267 (by decide +kernel) rfl, inU 1 (by decide +kernel) rfl, inU 268 (by decide +kernel) rfl, ⟨by decide +kernel, by decide +kernel, by decide +kernel⟩⟩
theorem n_X5_errorOffset : Nm m_X5_errorOffset := ⟨by decide +kernel, rfl⟩
abbrev m_X5_machineCount : MI := (yX5_machineCount, RX5, cX5_machineCount, 1, some .int, { frames := 2, cells := 0, slots := 0, locals := 80 })
theorem k_X5_machineCount : LkV m_X5_machineCount 0 := ⟨inU 270 (by decide +kernel) rfl, inU 271 (by decide +kernel) rfl, inU 1 (by decide +kernel) rfl, inU 272 (by decide +kernel) rfl, ⟨by decide +kernel, by decide +kernel, by decide +kernel⟩⟩
theorem n_X5_machineCount : Nm m_X5_machineCount := ⟨by decide +kernel, rfl⟩
abbrev m_X5_jobCount : MI := (yX5_jobCount, RX5, cX5_jobCount, 1, some .int, { frames := 2, cells := 0, slots := 0, locals := 80 })
theorem k_X5_jobCount : LkV m_X5_jobCount 0 := ⟨inU 274 (by decide +kernel) rfl, inU 275 (by decide +kernel) rfl, inU 1 (by decide +kernel) rfl, inU 276 (by decide +kernel) rfl, ⟨by decide +kernel, by decide +kernel, by decide +kernel⟩⟩
theorem n_X5_jobCount : Nm m_X5_jobCount := ⟨by decide +kernel, rfl⟩
abbrev m_X5_operationCount : MI := (yX5_operationCount, RX5, cX5_operationCount, 2, some .int, { frames := 3, cells := 0, slots := 0, locals := 120 })
theorem k_X5_operationCount : LkV m_X5_operationCount 1 := ⟨inU 693 (by decide +kernel) rfl, inU 694 (by decide +kernel) rfl, inU 1 (by decide +kernel) rfl, inU 695 (by decide +kernel) rfl, ⟨by decide +kernel, by decide +kernel, by decide +kernel⟩⟩
theorem n_X5_operationCount : Nm m_X5_operationCount := ⟨by decide +kernel, rfl⟩
abbrev m_X5_operation : MI := (yX5_operation, RX5, cX5_operation, 5, some .int, { frames := 4, cells := 0, slots := 0, locals := 160 })
theorem k_X5_operation : LkV m_X5_operation 3 := ⟨inU 720 (by decide +kernel) rfl, inU 721 (by decide +kernel) rfl, inU 1 (by decide +kernel) rfl, inU 722 (by decide +kernel) rfl, ⟨by decide +kernel, by decide +kernel, by decide +kernel⟩⟩
theorem n_X5_operation : Nm m_X5_operation := ⟨by decide +kernel, rfl⟩
abbrev m_X5_orderLength : MI := (yX5_orderLength, RX5, cX5_orderLength, 2, some .int, { frames := 3, cells := 0, slots := 0, locals := 120 })
theorem k_X5_orderLength : LkV m_X5_orderLength 1 := ⟨inU 737 (by decide +kernel) rfl, inU 738 (by decide +kernel) rfl, inU 1 (by decide +kernel) rfl, inU 739 (by decide +kernel) rfl, ⟨by decide +kernel, by decide +kernel, by decide +kernel⟩⟩
theorem n_X5_orderLength : Nm m_X5_orderLength := ⟨by decide +kernel, rfl⟩
abbrev m_X5_orderAt : MI := (yX5_orderAt, RX5, cX5_orderAt, 3, some .int, { frames := 3, cells := 0, slots := 0, locals := 120 })
theorem k_X5_orderAt : LkV m_X5_orderAt 2 := ⟨inU 749 (by decide +kernel) rfl, inU 750 (by decide +kernel) rfl, inU 1 (by decide +kernel) rfl, inU 751 (by decide +kernel) rfl, ⟨by decide +kernel, by decide +kernel, by decide +kernel⟩⟩
theorem n_X5_orderAt : Nm m_X5_orderAt := ⟨by decide +kernel, rfl⟩
abbrev m_X5_start : MI := (yX5_start, RX5, cX5_start, 3, some .int, { frames := 4, cells := 0, slots := 0, locals := 160 })
theorem k_X5_start : LkV m_X5_start 2 := ⟨inU 757 (by decide +kernel) rfl, inU 758 (by decide +kernel) rfl, inU 1 (by decide +kernel) rfl, inU 759 (by decide +kernel) rfl, ⟨by decide +kernel, by decide +kernel, by decide +kernel⟩⟩
theorem n_X5_start : Nm m_X5_start := ⟨by decide +kernel, rfl⟩
abbrev m_X5_leave : MI := (yX5_leave, RX5, cX5_leave, 3, some .int, { frames := 4, cells := 0, slots := 0, locals := 160 })
theorem k_X5_leave : LkV m_X5_leave 2 := ⟨inU 764 (by decide +kernel) rfl, inU 765 (by decide +kernel) rfl, inU 1 (by decide +kernel) rfl, inU 766 (by decide +kernel) rfl, ⟨by decide +kernel, by decide +kernel, by decide +kernel⟩⟩
theorem n_X5_leave : Nm m_X5_leave := ⟨by decide +kernel, rfl⟩
abbrev m_X5_completion : MI := (yX5_completion, RX5, cX5_completion, 2, some .int, { frames := 4, cells := 0, slots := 0, locals := 160 })
theorem k_X5_completion : LkV m_X5_completion 1 := ⟨inU 775 (by decide +kernel) rfl, inU 776 (by decide +kernel) rfl, inU 1 (by decide +kernel) rfl, inU 777 (by decide +kernel) rfl, ⟨by decide +kernel, by decide +kernel, by decide +kernel⟩⟩
theorem n_X5_completion : Nm m_X5_completion := ⟨by decide +kernel, rfl⟩
abbrev m_X5_makespan : MI := (yX5_makespan, RX5, cX5_makespan, 1, some .int, { frames := 5, cells := 0, slots := 0, locals := 200 })
theorem k_X5_makespan : LkV m_X5_makespan 0 := ⟨inU 278 (by decide +kernel) rfl, inU 279 (by decide +kernel) rfl, inU 1 (by decide +kernel) rfl, inU 280 (by decide +kernel) rfl, ⟨by decide +kernel, by decide +kernel, by decide +kernel⟩⟩
theorem n_X5_makespan : Nm m_X5_makespan := ⟨by decide +kernel, rfl⟩
abbrev m_X5_jobCost : MI := (yX5_jobCost, RX5, cX5_jobCost, 2, some .int, { frames := 5, cells := 0, slots := 0, locals := 200 })
theorem k_X5_jobCost : LkV m_X5_jobCost 1 := ⟨inU 783 (by decide +kernel) rfl, inU 784 (by decide +kernel) rfl, inU 1 (by decide +kernel) rfl, inU 785 (by decide +kernel) rfl, ⟨by decide +kernel, by decide +kernel, by decide +kernel⟩⟩
theorem n_X5_jobCost : Nm m_X5_jobCost := ⟨by decide +kernel, rfl⟩
abbrev m_X5_planCost : MI := (yX5_planCost, RX5, cX5_planCost, 1, some .int, { frames := 6, cells := 0, slots := 0, locals := 240 })
theorem k_X5_planCost : LkV m_X5_planCost 0 := ⟨inU 301 (by decide +kernel) rfl, inU 302 (by decide +kernel) rfl, inU 1 (by decide +kernel) rfl, inU 303 (by decide +kernel) rfl, ⟨by decide +kernel, by decide +kernel, by decide +kernel⟩⟩
theorem n_X5_planCost : Nm m_X5_planCost := ⟨by decide +kernel, rfl⟩
abbrev m_X5_blockedTime : MI := (yX5_blockedTime, RX5, cX5_blockedTime, 5, some .int, { frames := 4, cells := 0, slots := 0, locals := 160 })
theorem k_X5_blockedTime : LkV m_X5_blockedTime 1 := ⟨inU 791 (by decide +kernel) rfl, inU 792 (by decide +kernel) rfl, inU 1 (by decide +kernel) rfl, inU 793 (by decide +kernel) rfl, ⟨by decide +kernel, by decide +kernel, by decide +kernel⟩⟩
theorem n_X5_blockedTime : Nm m_X5_blockedTime := ⟨by decide +kernel, rfl⟩
abbrev m_X5_criticalLength : MI := (yX5_criticalLength, RX5, cX5_criticalLength, 1, some .int, { frames := 7, cells := 0, slots := 0, locals := 280 })
theorem k_X5_criticalLength : LkV m_X5_criticalLength 0 := ⟨inU 330 (by decide +kernel) rfl, inU 331 (by decide +kernel) rfl, inU 1 (by decide +kernel) rfl, inU 332 (by decide +kernel) rfl, ⟨by decide +kernel, by decide +kernel, by decide +kernel⟩⟩
theorem n_X5_criticalLength : Nm m_X5_criticalLength := ⟨by decide +kernel, rfl⟩
abbrev m_X5_critical : MI := (yX5_critical, RX5, cX5_critical, 2, some .int, { frames := 7, cells := 0, slots := 0, locals := 280 })
theorem k_X5_critical : LkV m_X5_critical 1 := ⟨inU 800 (by decide +kernel) rfl, inU 801 (by decide +kernel) rfl, inU 1 (by decide +kernel) rfl, inU 802 (by decide +kernel) rfl, ⟨by decide +kernel, by decide +kernel, by decide +kernel⟩⟩
theorem n_X5_critical : Nm m_X5_critical := ⟨by decide +kernel, rfl⟩
abbrev m_X5_blockCount : MI := (yX5_blockCount, RX5, cX5_blockCount, 3, some .int, { frames := 7, cells := 0, slots := 0, locals := 280 })
theorem k_X5_blockCount : LkV m_X5_blockCount 0 := ⟨inU 351 (by decide +kernel) rfl, inU 352 (by decide +kernel) rfl, inU 1 (by decide +kernel) rfl, inU 353 (by decide +kernel) rfl, ⟨by decide +kernel, by decide +kernel, by decide +kernel⟩⟩
theorem n_X5_blockCount : Nm m_X5_blockCount := ⟨by decide +kernel, rfl⟩
abbrev m_X5_longestBlock : MI := (yX5_longestBlock, RX5, cX5_longestBlock, 4, some .int, { frames := 7, cells := 0, slots := 0, locals := 280 })
theorem k_X5_longestBlock : LkV m_X5_longestBlock 0 := ⟨inU 359 (by decide +kernel) rfl, inU 360 (by decide +kernel) rfl, inU 1 (by decide +kernel) rfl, inU 361 (by decide +kernel) rfl, ⟨by decide +kernel, by decide +kernel, by decide +kernel⟩⟩
theorem n_X5_longestBlock : Nm m_X5_longestBlock := ⟨by decide +kernel, rfl⟩
abbrev m_X5_deadlocks : MI := (yX5_deadlocks, RX5, cX5_deadlocks, 3, some .boolean, { frames := 8, cells := 0, slots := 0, locals := 320 })
theorem k_X5_deadlocks : LkV m_X5_deadlocks 2 := ⟨inU 823 (by decide +kernel) rfl, inU 824 (by decide +kernel) rfl, inU 1 (by decide +kernel) rfl, inU 825 (by decide +kernel) rfl, ⟨by decide +kernel, by decide +kernel, by decide +kernel⟩⟩
theorem n_X5_deadlocks : Nm m_X5_deadlocks := ⟨by decide +kernel, rfl⟩
abbrev m_X5_makespanAfter : MI := (yX5_makespanAfter, RX5, cX5_makespanAfter, 3, some .int, { frames := 8, cells := 0, slots := 0, locals := 320 })
theorem k_X5_makespanAfter : LkV m_X5_makespanAfter 2 := ⟨inU 835 (by decide +kernel) rfl, inU 836 (by decide +kernel) rfl, inU 1 (by decide +kernel) rfl, inU 837 (by decide +kernel) rfl, ⟨by decide +kernel, by decide +kernel, by decide +kernel⟩⟩
theorem n_X5_makespanAfter : Nm m_X5_makespanAfter := ⟨by decide +kernel, rfl⟩
abbrev m_X5_bestSwap : MI := (yX5_bestSwap, RX5, cX5_bestSwap, 6, some .int, { frames := 8, cells := 0, slots := 0, locals := 320 })
theorem k_X5_bestSwap : LkV m_X5_bestSwap 0 := ⟨inU 364 (by decide +kernel) rfl, inU 365 (by decide +kernel) rfl, inU 1 (by decide +kernel) rfl, inU 366 (by decide +kernel) rfl, ⟨by decide +kernel, by decide +kernel, by decide +kernel⟩⟩
theorem n_X5_bestSwap : Nm m_X5_bestSwap := ⟨by decide +kernel, rfl⟩
abbrev m_X5_swap : MI := (yX5_swap, RX5, cX5_swap, 3, some .int, { frames := 8, cells := 0, slots := 0, locals := 320 })
theorem k_X5_swap : LkV m_X5_swap 2 := ⟨inU 843 (by decide +kernel) rfl, inU 844 (by decide +kernel) rfl, inU 1 (by decide +kernel) rfl, inU 845 (by decide +kernel) rfl, ⟨by decide +kernel, by decide +kernel, by decide +kernel⟩⟩
theorem n_X5_swap : Nm m_X5_swap := ⟨by decide +kernel, rfl⟩
abbrev m_X5_improve : MI := (yX5_improve, RX5, cX5_improve, 4, some .int, { frames := 9, cells := 0, slots := 0, locals := 360 })
theorem k_X5_improve : LkV m_X5_improve 1 := ⟨inU 870 (by decide +kernel) rfl, inU 871 (by decide +kernel) rfl, inU 1 (by decide +kernel) rfl, inU 872 (by decide +kernel) rfl, ⟨by decide +kernel, by decide +kernel, by decide +kernel⟩⟩
theorem n_X5_improve : Nm m_X5_improve := ⟨by decide +kernel, rfl⟩
abbrev m_X5_place : MI := (yX5_place, RX5, cX5_place, 6, some .int, { frames := 8, cells := 0, slots := 0, locals := 320 })
theorem k_X5_place : LkV m_X5_place 3 := ⟨inU 881 (by decide +kernel) rfl, inU 882 (by decide +kernel) rfl, inU 1 (by decide +kernel) rfl, inU 883 (by decide +kernel) rfl, ⟨by decide +kernel, by decide +kernel, by decide +kernel⟩⟩
theorem n_X5_place : Nm m_X5_place := ⟨by decide +kernel, rfl⟩
abbrev m_X5_setDuration : MI := (yX5_setDuration, RX5, cX5_setDuration, 6, some .int, { frames := 7, cells := 0, slots := 0, locals := 280 })
theorem k_X5_setDuration : LkV m_X5_setDuration 3 := ⟨inU 895 (by decide +kernel) rfl, inU 896 (by decide +kernel) rfl, inU 1 (by decide +kernel) rfl, inU 897 (by decide +kernel) rfl, ⟨by decide +kernel, by decide +kernel, by decide +kernel⟩⟩
theorem n_X5_setDuration : Nm m_X5_setDuration := ⟨by decide +kernel, rfl⟩
abbrev m_X5_restart : MI := (yX5_restart, RX5, cX5_restart, 1, some .int, { frames := 7, cells := 0, slots := 0, locals := 280 })
theorem k_X5_restart : LkV m_X5_restart 0 := ⟨inU 431 (by decide +kernel) rfl, inU 432 (by decide +kernel) rfl, inU 1 (by decide +kernel) rfl, inU 433 (by decide +kernel) rfl, ⟨by decide +kernel, by decide +kernel, by decide +kernel⟩⟩
theorem n_X5_restart : Nm m_X5_restart := ⟨by decide +kernel, rfl⟩
abbrev m_X5_undo : MI := (yX5_undo, RX5, cX5_undo, 2, some .int, { frames := 7, cells := 0, slots := 0, locals := 280 })
theorem k_X5_undo : LkV m_X5_undo 0 := ⟨inU 448 (by decide +kernel) rfl, inU 449 (by decide +kernel) rfl, inU 1 (by decide +kernel) rfl, inU 450 (by decide +kernel) rfl, ⟨by decide +kernel, by decide +kernel, by decide +kernel⟩⟩
theorem n_X5_undo : Nm m_X5_undo := ⟨by decide +kernel, rfl⟩
abbrev m_X5_checksum : MI := (yX5_checksum, RX5, cX5_checksum, 5, some .long, { frames := 6, cells := 0, slots := 0, locals := 240 })
theorem k_X5_checksum : LkV m_X5_checksum 0 := ⟨inU 452 (by decide +kernel) rfl, inU 453 (by decide +kernel) rfl, inU 1 (by decide +kernel) rfl, inU 454 (by decide +kernel) rfl, ⟨by decide +kernel, by decide +kernel, by decide +kernel⟩⟩
theorem n_X5_checksum : Nm m_X5_checksum := ⟨by decide +kernel, rfl⟩
abbrev m_X5_needMachine : MI := (yX5_needMachine, RX5, cX5_needMachine, 2, none, { frames := 2, cells := 0, slots := 0, locals := 80 })
theorem k_X5_needMachine : LkV m_X5_needMachine 1 := ⟨inU 742 (by decide +kernel) rfl, inUp 36 (by decide +kernel) rfl, inU 1 (by decide +kernel) rfl, inU 743 (by decide +kernel) rfl, ⟨by decide +kernel, by decide +kernel, by decide +kernel⟩⟩
theorem n_X5_needMachine : Nm m_X5_needMachine := ⟨by decide +kernel, rfl⟩
abbrev m_X5_needJob : MI := (yX5_needJob, RX5, cX5_needJob, 2, none, { frames := 2, cells := 0, slots := 0, locals := 80 })
theorem k_X5_needJob : LkV m_X5_needJob 1 := ⟨inU 698 (by decide +kernel) rfl, inUp 34 (by decide +kernel) rfl, inU 1 (by decide +kernel) rfl, inU 699 (by decide +kernel) rfl, ⟨by decide +kernel, by decide +kernel, by decide +kernel⟩⟩
theorem n_X5_needJob : Nm m_X5_needJob := ⟨by decide +kernel, rfl⟩
abbrev m_X5_needOperation : MI := (yX5_needOperation, RX5, cX5_needOperation, 3, none, { frames := 3, cells := 0, slots := 0, locals := 120 })
theorem k_X5_needOperation : LkV m_X5_needOperation 2 := ⟨inU 725 (by decide +kernel) rfl, inUp 35 (by decide +kernel) rfl, inU 1 (by decide +kernel) rfl, inU 726 (by decide +kernel) rfl, ⟨by decide +kernel, by decide +kernel, by decide +kernel⟩⟩
theorem n_X5_needOperation : Nm m_X5_needOperation := ⟨by decide +kernel, rfl⟩
abbrev m_X5_needSwap : MI := (yX5_needSwap, RX5, cX5_needSwap, 3, none, { frames := 3, cells := 0, slots := 0, locals := 120 })
theorem k_X5_needSwap : LkV m_X5_needSwap 2 := ⟨inU 828 (by decide +kernel) rfl, inUp 37 (by decide +kernel) rfl, inU 1 (by decide +kernel) rfl, inU 829 (by decide +kernel) rfl, ⟨by decide +kernel, by decide +kernel, by decide +kernel⟩⟩
theorem n_X5_needSwap : Nm m_X5_needSwap := ⟨by decide +kernel, rfl⟩
abbrev m_X5_remember : MI := (yX5_remember, RX5, cX5_remember, 2, none, { frames := 3, cells := 0, slots := 0, locals := 120 })
theorem k_X5_remember : LkV m_X5_remember 0 := ⟨inU 436 (by decide +kernel) rfl, inUp 14 (by decide +kernel) rfl, inU 1 (by decide +kernel) rfl, inU 437 (by decide +kernel) rfl, ⟨by decide +kernel, by decide +kernel, by decide +kernel⟩⟩
theorem n_X5_remember : Nm m_X5_remember := ⟨by decide +kernel, rfl⟩
abbrev m_X5_trySwap : MI := (yX5_trySwap, RX5, cX5_trySwap, 3, some .boolean, { frames := 7, cells := 0, slots := 0, locals := 280 })
theorem k_X5_trySwap : LkV m_X5_trySwap 2 := ⟨inU 369 (by decide +kernel) rfl, inUp 5 (by decide +kernel) rfl, inU 1 (by decide +kernel) rfl, inU 370 (by decide +kernel) rfl, ⟨by decide +kernel, by decide +kernel, by decide +kernel⟩⟩
theorem n_X5_trySwap : Nm m_X5_trySwap := ⟨by decide +kernel, rfl⟩
abbrev m_X5_adoptTrial : MI := (yX5_adoptTrial, RX5, cX5_adoptTrial, 1, none, { frames := 7, cells := 0, slots := 0, locals := 280 })
theorem k_X5_adoptTrial : LkV m_X5_adoptTrial 0 := ⟨inU 864 (by decide +kernel) rfl, inUp 38 (by decide +kernel) rfl, inU 1 (by decide +kernel) rfl, inU 865 (by decide +kernel) rfl, ⟨by decide +kernel, by decide +kernel, by decide +kernel⟩⟩
theorem n_X5_adoptTrial : Nm m_X5_adoptTrial := ⟨by decide +kernel, rfl⟩
abbrev m_X5_idOf : MI := (yX5_idOf, RX5, cX5_idOf, 2, some .int, { frames := 2, cells := 0, slots := 0, locals := 80 })
theorem k_X5_idOf : LkS m_X5_idOf 2 := ⟨inU 399 (by decide +kernel) rfl, inU 1 (by decide +kernel) rfl, inU 400 (by decide +kernel) rfl, ⟨by decide +kernel, by decide +kernel, by decide +kernel⟩⟩
theorem n_X5_idOf : Nm m_X5_idOf := ⟨by decide +kernel, rfl⟩
abbrev m_X5_codeOf : MI := (yX5_codeOf, RX5, cX5_codeOf, 1, some .int, { frames := 2, cells := 0, slots := 0, locals := 80 })
theorem k_X5_codeOf : LkS m_X5_codeOf 1 := ⟨inU 457 (by decide +kernel) rfl, inU 1 (by decide +kernel) rfl, inU 458 (by decide +kernel) rfl, ⟨by decide +kernel, by decide +kernel, by decide +kernel⟩⟩
theorem n_X5_codeOf : Nm m_X5_codeOf := ⟨by decide +kernel, rfl⟩
abbrev m_X6_init : MI := (yX6_init, RX6, cX6_init, 1, none, { frames := 2, cells := 0, slots := 0, locals := 80 })
theorem n_X6_init : Nm m_X6_init := ⟨by decide +kernel, rfl⟩
abbrev m_X6_thrown : MI := (yX6_thrown, RX6, cX6_thrown, 1, some .int, { frames := 2, cells := 0, slots := 0, locals := 80 })
theorem k_X6_thrown : LkV m_X6_thrown 0 := ⟨inU 985 (by decide +kernel) rfl, inU 986 (by decide +kernel) rfl, inU 7 (by decide +kernel) rfl, inU 987 (by decide +kernel) rfl, ⟨by decide +kernel, by decide +kernel, by decide +kernel⟩⟩
theorem n_X6_thrown : Nm m_X6_thrown := ⟨by decide +kernel, rfl⟩
abbrev m_X6_fails : MI := (yX6_fails, RX6, cX6_fails, 3, some .boolean, { frames := 2, cells := 0, slots := 0, locals := 80 })
theorem k_X6_fails : LkV m_X6_fails 2 := ⟨inU 1001 (by decide +kernel) rfl, inUp 39 (by decide +kernel) rfl, inU 7 (by decide +kernel) rfl, inU 1002 (by decide +kernel) rfl, ⟨by decide +kernel, by decide +kernel, by decide +kernel⟩⟩
theorem n_X6_fails : Nm m_X6_fails := ⟨by decide +kernel, rfl⟩
abbrev m_X6_in : MI := (yX6_in, RX6, cX6_in, 3, some .boolean, { frames := 2, cells := 0, slots := 0, locals := 80 })
theorem k_X6_in : LkS m_X6_in 3 := ⟨inU 997 (by decide +kernel) rfl, inU 7 (by decide +kernel) rfl, inU 998 (by decide +kernel) rfl, ⟨by decide +kernel, by decide +kernel, by decide +kernel⟩⟩
theorem n_X6_in : Nm m_X6_in := ⟨by decide +kernel, rfl⟩
abbrev m_X6_min : MI := (yX6_min, RX6, cX6_min, 2, some .int, { frames := 2, cells := 0, slots := 0, locals := 80 })
theorem k_X6_min : LkS m_X6_min 2 := ⟨inU 1035 (by decide +kernel) rfl, inU 7 (by decide +kernel) rfl, inU 1036 (by decide +kernel) rfl, ⟨by decide +kernel, by decide +kernel, by decide +kernel⟩⟩
theorem n_X6_min : Nm m_X6_min := ⟨by decide +kernel, rfl⟩
abbrev m_X6_max : MI := (yX6_max, RX6, cX6_max, 2, some .int, { frames := 2, cells := 0, slots := 0, locals := 80 })
theorem k_X6_max : LkS m_X6_max 2 := ⟨inU 1189 (by decide +kernel) rfl, inU 7 (by decide +kernel) rfl, inU 1190 (by decide +kernel) rfl, ⟨by decide +kernel, by decide +kernel, by decide +kernel⟩⟩
theorem n_X6_max : Nm m_X6_max := ⟨by decide +kernel, rfl⟩
abbrev m_X6_copy : MI := (yX6_copy, RX6, cX6_copy, 3, none, { frames := 2, cells := 0, slots := 0, locals := 80 })
theorem k_X6_copy : LkS m_X6_copy 2 := ⟨inU 1099 (by decide +kernel) rfl, inU 7 (by decide +kernel) rfl, inU 1100 (by decide +kernel) rfl, ⟨by decide +kernel, by decide +kernel, by decide +kernel⟩⟩
theorem n_X6_copy : Nm m_X6_copy := ⟨by decide +kernel, rfl⟩
abbrev m_X6_machine : MI := (yX6_machine, RX6, cX6_machine, 1, some .int, { frames := 2, cells := 0, slots := 0, locals := 80 })
theorem k_X6_machine : LkS m_X6_machine 1 := ⟨inU 1067 (by decide +kernel) rfl, inU 7 (by decide +kernel) rfl, inU 1068 (by decide +kernel) rfl, ⟨by decide +kernel, by decide +kernel, by decide +kernel⟩⟩
theorem n_X6_machine : Nm m_X6_machine := ⟨by decide +kernel, rfl⟩
abbrev m_X6_job : MI := (yX6_job, RX6, cX6_job, 1, some .int, { frames := 2, cells := 0, slots := 0, locals := 80 })
theorem k_X6_job : LkS m_X6_job 1 := ⟨inU 1051 (by decide +kernel) rfl, inU 7 (by decide +kernel) rfl, inU 1052 (by decide +kernel) rfl, ⟨by decide +kernel, by decide +kernel, by decide +kernel⟩⟩
theorem n_X6_job : Nm m_X6_job := ⟨by decide +kernel, rfl⟩
abbrev m_X6_operationAt : MI := (yX6_operationAt, RX6, cX6_operationAt, 1, some .int, { frames := 2, cells := 0, slots := 0, locals := 80 })
theorem k_X6_operationAt : LkS m_X6_operationAt 1 := ⟨inU 1059 (by decide +kernel) rfl, inU 7 (by decide +kernel) rfl, inU 1060 (by decide +kernel) rfl, ⟨by decide +kernel, by decide +kernel, by decide +kernel⟩⟩
theorem n_X6_operationAt : Nm m_X6_operationAt := ⟨by decide +kernel, rfl⟩
abbrev m_X6_append : MI := (yX6_append, RX6, cX6_append, 8, some .int, { frames := 2, cells := 0, slots := 0, locals := 80 })
theorem k_X6_append : LkV m_X6_append 5 := ⟨inU 989 (by decide +kernel) rfl, inU 990 (by decide +kernel) rfl, inU 7 (by decide +kernel) rfl, inU 991 (by decide +kernel) rfl, ⟨by decide +kernel, by decide +kernel, by decide +kernel⟩⟩
theorem n_X6_append : Nm m_X6_append := ⟨by decide +kernel, rfl⟩
abbrev m_X6_byteAt : MI := (yX6_byteAt, RX6, cX6_byteAt, 2, some .int, { frames := 2, cells := 0, slots := 0, locals := 80 })
theorem k_X6_byteAt : LkV m_X6_byteAt 1 := ⟨inU 1018 (by decide +kernel) rfl, inUp 43 (by decide +kernel) rfl, inU 7 (by decide +kernel) rfl, inU 1019 (by decide +kernel) rfl, ⟨by decide +kernel, by decide +kernel, by decide +kernel⟩⟩
theorem n_X6_byteAt : Nm m_X6_byteAt := ⟨by decide +kernel, rfl⟩
abbrev m_X6_next : MI := (yX6_next, RX6, cX6_next, 1, some .int, { frames := 3, cells := 0, slots := 0, locals := 120 })
theorem k_X6_next : LkV m_X6_next 0 := ⟨inU 1014 (by decide +kernel) rfl, inUp 42 (by decide +kernel) rfl, inU 7 (by decide +kernel) rfl, inU 1015 (by decide +kernel) rfl, ⟨by decide +kernel, by decide +kernel, by decide +kernel⟩⟩
theorem n_X6_next : Nm m_X6_next := ⟨by decide +kernel, rfl⟩
abbrev m_X6_isGood : MI := (yX6_isGood, RX6, cX6_isGood, 1, some .boolean, { frames := 2, cells := 0, slots := 0, locals := 80 })
theorem k_X6_isGood : LkV m_X6_isGood 0 := ⟨inU 1010 (by decide +kernel) rfl, inUp 41 (by decide +kernel) rfl, inU 7 (by decide +kernel) rfl, inU 1011 (by decide +kernel) rfl, ⟨by decide +kernel, by decide +kernel, by decide +kernel⟩⟩
theorem n_X6_isGood : Nm m_X6_isGood := ⟨by decide +kernel, rfl⟩
abbrev m_X6_report : MI := (yX6_report, RX6, cX6_report, 3, none, { frames := 2, cells := 0, slots := 0, locals := 80 })
theorem k_X6_report : LkV m_X6_report 2 := ⟨inU 1024 (by decide +kernel) rfl, inUp 44 (by decide +kernel) rfl, inU 7 (by decide +kernel) rfl, inU 1025 (by decide +kernel) rfl, ⟨by decide +kernel, by decide +kernel, by decide +kernel⟩⟩
theorem n_X6_report : Nm m_X6_report := ⟨by decide +kernel, rfl⟩
abbrev m_X6_isDigit : MI := (yX6_isDigit, RX6, cX6_isDigit, 1, some .boolean, { frames := 3, cells := 0, slots := 0, locals := 120 })
theorem k_X6_isDigit : LkS m_X6_isDigit 1 := ⟨inU 1031 (by decide +kernel) rfl, inU 7 (by decide +kernel) rfl, inU 1032 (by decide +kernel) rfl, ⟨by decide +kernel, by decide +kernel, by decide +kernel⟩⟩
theorem n_X6_isDigit : Nm m_X6_isDigit := ⟨by decide +kernel, rfl⟩
abbrev m_X6_takeWord : MI := (yX6_takeWord, RX6, cX6_takeWord, 3, some .boolean, { frames := 7, cells := 0, slots := 0, locals := 280 })
theorem k_X6_takeWord : LkV m_X6_takeWord 1 := ⟨inU 1006 (by decide +kernel) rfl, inUp 40 (by decide +kernel) rfl, inU 7 (by decide +kernel) rfl, inU 1007 (by decide +kernel) rfl, ⟨by decide +kernel, by decide +kernel, by decide +kernel⟩⟩
theorem n_X6_takeWord : Nm m_X6_takeWord := ⟨by decide +kernel, rfl⟩
abbrev m_X6_expect : MI := (yX6_expect, RX6, cX6_expect, 2, none, { frames := 4, cells := 0, slots := 0, locals := 160 })
theorem k_X6_expect : LkV m_X6_expect 1 := ⟨inU 1039 (by decide +kernel) rfl, inUp 46 (by decide +kernel) rfl, inU 7 (by decide +kernel) rfl, inU 1040 (by decide +kernel) rfl, ⟨by decide +kernel, by decide +kernel, by decide +kernel⟩⟩
theorem n_X6_expect : Nm m_X6_expect := ⟨by decide +kernel, rfl⟩
abbrev m_X6_number : MI := (yX6_number, RX6, cX6_number, 4, some .int, { frames := 4, cells := 0, slots := 0, locals := 160 })
theorem k_X6_number : LkV m_X6_number 2 := ⟨inU 1028 (by decide +kernel) rfl, inUp 45 (by decide +kernel) rfl, inU 7 (by decide +kernel) rfl, inU 1029 (by decide +kernel) rfl, ⟨by decide +kernel, by decide +kernel, by decide +kernel⟩⟩
theorem n_X6_number : Nm m_X6_number := ⟨by decide +kernel, rfl⟩
abbrev m_X6_emit : MI := (yX6_emit, RX6, cX6_emit, 2, none, { frames := 3, cells := 0, slots := 0, locals := 120 })
theorem k_X6_emit : LkV m_X6_emit 1 := ⟨inU 1092 (by decide +kernel) rfl, inUp 55 (by decide +kernel) rfl, inU 7 (by decide +kernel) rfl, inU 1093 (by decide +kernel) rfl, ⟨by decide +kernel, by decide +kernel, by decide +kernel⟩⟩
theorem n_X6_emit : Nm m_X6_emit := ⟨by decide +kernel, rfl⟩
abbrev m_X6_factor (d : Nat) : MI := (yX6_factor, RX6, cX6_factor, 4, none, { frames := 3 * d + 8, cells := 0, slots := 0, locals := 40 * (3 * d + 8) })
theorem k_X6_factor0 : LkV (m_X6_factor 0) 0 := ⟨inU 1084 (by decide +kernel) rfl, inUp 54 (by decide +kernel) rfl, inU 7 (by decide +kernel) rfl, inU 1085 (by decide +kernel) rfl, ⟨by decide +kernel, by decide +kernel, by decide +kernel⟩⟩
theorem n_X6_factor0 : Nm (m_X6_factor 0) := ⟨by decide +kernel, rfl⟩
theorem k_X6_factor {d : Nat} : LkV (m_X6_factor d) 0 := k_X6_factor0
theorem n_X6_factor {d : Nat} : Nm (m_X6_factor d) := n_X6_factor0
abbrev m_X6_term (d : Nat) : MI := (yX6_term, RX6, cX6_term, 2, none, { frames := 3 * d + 9, cells := 0, slots := 0, locals := 40 * (3 * d + 9) })
theorem k_X6_term0 : LkV (m_X6_term 0) 0 := ⟨inU 1080 (by decide +kernel) rfl, inUp 53 (by decide +kernel) rfl, inU 7 (by decide +kernel) rfl, inU 1081 (by decide +kernel) rfl, ⟨by decide +kernel, by decide +kernel, by decide +kernel⟩⟩
theorem n_X6_term0 : Nm (m_X6_term 0) := ⟨by decide +kernel, rfl⟩
theorem k_X6_term {d : Nat} : LkV (m_X6_term d) 0 := k_X6_term0
theorem n_X6_term {d : Nat} : Nm (m_X6_term d) := n_X6_term0
abbrev m_X6_sum (d : Nat) : MI := (yX6_sum, RX6, cX6_sum, 2, none, { frames := 3 * d + 10, cells := 0, slots := 0, locals := 40 * (3 * d + 10) })
theorem k_X6_sum0 : LkV (m_X6_sum 0) 0 := ⟨inU 1076 (by decide +kernel) rfl, inUp 52 (by decide +kernel) rfl, inU 7 (by decide +kernel) rfl, inU 1077 (by decide +kernel) rfl, ⟨by decide +kernel, by decide +kernel, by decide +kernel⟩⟩
theorem n_X6_sum0 : Nm (m_X6_sum 0) := ⟨by decide +kernel, rfl⟩
theorem k_X6_sum {d : Nat} : LkV (m_X6_sum d) 0 := k_X6_sum0
theorem n_X6_sum {d : Nat} : Nm (m_X6_sum d) := n_X6_sum0
abbrev m_X6_once : MI := (yX6_once, RX6, cX6_once, 3, none, { frames := 3, cells := 0, slots := 0, locals := 120 })
theorem k_X6_once : LkV m_X6_once 2 := ⟨inU 1072 (by decide +kernel) rfl, inUp 51 (by decide +kernel) rfl, inU 7 (by decide +kernel) rfl, inU 1073 (by decide +kernel) rfl, ⟨by decide +kernel, by decide +kernel, by decide +kernel⟩⟩
theorem n_X6_once : Nm m_X6_once := ⟨by decide +kernel, rfl⟩
abbrev m_X6_readJob : MI := (yX6_readJob, RX6, cX6_readJob, 9, none, { frames := 8, cells := 0, slots := 0, locals := 320 })
theorem k_X6_readJob : LkV m_X6_readJob 1 := ⟨inU 1048 (by decide +kernel) rfl, inUp 48 (by decide +kernel) rfl, inU 7 (by decide +kernel) rfl, inU 1049 (by decide +kernel) rfl, ⟨by decide +kernel, by decide +kernel, by decide +kernel⟩⟩
theorem n_X6_readJob : Nm m_X6_readJob := ⟨by decide +kernel, rfl⟩
abbrev m_X6_readOperation : MI := (yX6_readOperation, RX6, cX6_readOperation, 6, none, { frames := 5, cells := 0, slots := 0, locals := 200 })
theorem k_X6_readOperation : LkV m_X6_readOperation 2 := ⟨inU 1056 (by decide +kernel) rfl, inUp 49 (by decide +kernel) rfl, inU 7 (by decide +kernel) rfl, inU 1057 (by decide +kernel) rfl, ⟨by decide +kernel, by decide +kernel, by decide +kernel⟩⟩
theorem n_X6_readOperation : Nm m_X6_readOperation := ⟨by decide +kernel, rfl⟩
abbrev m_X6_readMachine : MI := (yX6_readMachine, RX6, cX6_readMachine, 4, none, { frames := 5, cells := 0, slots := 0, locals := 200 })
theorem k_X6_readMachine : LkV m_X6_readMachine 0 := ⟨inU 1064 (by decide +kernel) rfl, inUp 50 (by decide +kernel) rfl, inU 7 (by decide +kernel) rfl, inU 1065 (by decide +kernel) rfl, ⟨by decide +kernel, by decide +kernel, by decide +kernel⟩⟩
theorem n_X6_readMachine : Nm m_X6_readMachine := ⟨by decide +kernel, rfl⟩
abbrev m_X6_statement : MI := (yX6_statement, RX6, cX6_statement, 2, none, { frames := 29, cells := 0, slots := 0, locals := 1160 })
theorem k_X6_statement : LkV m_X6_statement 0 := ⟨inU 1043 (by decide +kernel) rfl, inUp 47 (by decide +kernel) rfl, inU 7 (by decide +kernel) rfl, inU 1044 (by decide +kernel) rfl, ⟨by decide +kernel, by decide +kernel, by decide +kernel⟩⟩
theorem n_X6_statement : Nm m_X6_statement := ⟨by decide +kernel, rfl⟩
abbrev m_X6_load : MI := (yX6_load, RX6, cX6_load, 3, some .int, { frames := 30, cells := 0, slots := 0, locals := 1200 })
theorem k_X6_load : LkV m_X6_load 1 := ⟨inU 993 (by decide +kernel) rfl, inU 994 (by decide +kernel) rfl, inU 7 (by decide +kernel) rfl, inU 995 (by decide +kernel) rfl, ⟨by decide +kernel, by decide +kernel, by decide +kernel⟩⟩
theorem n_X6_load : Nm m_X6_load := ⟨by decide +kernel, rfl⟩
abbrev m_X6_errorOffset : MI := (yX6_errorOffset, RX6, cX6_errorOffset, 1, some .int, { frames := 2, cells := 0, slots := 0, locals := 80 })
theorem k_X6_errorOffset : LkV m_X6_errorOffset 0 := ⟨inU 1106 (by decide +kernel) rfl, inU 1107 (by decide +kernel) rfl, inU 7 (by decide +kernel) rfl, inU 1108 (by decide +kernel) rfl, ⟨by decide +kernel, by decide +kernel, by decide +kernel⟩⟩
theorem n_X6_errorOffset : Nm m_X6_errorOffset := ⟨by decide +kernel, rfl⟩
abbrev m_X6_layFirst : MI := (yX6_layFirst, RX6, cX6_layFirst, 4, none, { frames := 3, cells := 0, slots := 0, locals := 120 })
theorem k_X6_layFirst : LkV m_X6_layFirst 0 := ⟨inU 1103 (by decide +kernel) rfl, inUp 57 (by decide +kernel) rfl, inU 7 (by decide +kernel) rfl, inU 1104 (by decide +kernel) rfl, ⟨by decide +kernel, by decide +kernel, by decide +kernel⟩⟩
theorem n_X6_layFirst : Nm m_X6_layFirst := ⟨by decide +kernel, rfl⟩
abbrev m_X6_isThere : MI := (yX6_isThere, RX6, cX6_isThere, 2, some .boolean, { frames := 3, cells := 0, slots := 0, locals := 120 })
theorem k_X6_isThere : LkV m_X6_isThere 1 := ⟨inU 1182 (by decide +kernel) rfl, inUp 68 (by decide +kernel) rfl, inU 7 (by decide +kernel) rfl, inU 1183 (by decide +kernel) rfl, ⟨by decide +kernel, by decide +kernel, by decide +kernel⟩⟩
theorem n_X6_isThere : Nm m_X6_isThere := ⟨by decide +kernel, rfl⟩
abbrev m_X6_isLast : MI := (yX6_isLast, RX6, cX6_isLast, 2, some .boolean, { frames := 3, cells := 0, slots := 0, locals := 120 })
theorem k_X6_isLast : LkV m_X6_isLast 1 := ⟨inU 1174 (by decide +kernel) rfl, inUp 66 (by decide +kernel) rfl, inU 7 (by decide +kernel) rfl, inU 1175 (by decide +kernel) rfl, ⟨by decide +kernel, by decide +kernel, by decide +kernel⟩⟩
theorem n_X6_isLast : Nm m_X6_isLast := ⟨by decide +kernel, rfl⟩
abbrev m_X6_machineOf : MI := (yX6_machineOf, RX6, cX6_machineOf, 2, some .int, { frames := 3, cells := 0, slots := 0, locals := 120 })
theorem k_X6_machineOf : LkV m_X6_machineOf 1 := ⟨inU 1139 (by decide +kernel) rfl, inUp 61 (by decide +kernel) rfl, inU 7 (by decide +kernel) rfl, inU 1140 (by decide +kernel) rfl, ⟨by decide +kernel, by decide +kernel, by decide +kernel⟩⟩
theorem n_X6_machineOf : Nm m_X6_machineOf := ⟨by decide +kernel, rfl⟩
abbrev m_X6_durationOf : MI := (yX6_durationOf, RX6, cX6_durationOf, 2, some .int, { frames := 3, cells := 0, slots := 0, locals := 120 })
theorem k_X6_durationOf : LkV m_X6_durationOf 1 := ⟨inU 1178 (by decide +kernel) rfl, inUp 67 (by decide +kernel) rfl, inU 7 (by decide +kernel) rfl, inU 1179 (by decide +kernel) rfl, ⟨by decide +kernel, by decide +kernel, by decide +kernel⟩⟩
theorem n_X6_durationOf : Nm m_X6_durationOf := ⟨by decide +kernel, rfl⟩
abbrev m_X6_placeOf : MI := (yX6_placeOf, RX6, cX6_placeOf, 4, some .int, { frames := 4, cells := 0, slots := 0, locals := 160 })
theorem k_X6_placeOf : LkV m_X6_placeOf 1 := ⟨inU 1135 (by decide +kernel) rfl, inUp 60 (by decide +kernel) rfl, inU 7 (by decide +kernel) rfl, inU 1136 (by decide +kernel) rfl, ⟨by decide +kernel, by decide +kernel, by decide +kernel⟩⟩
theorem n_X6_placeOf : Nm m_X6_placeOf := ⟨by decide +kernel, rfl⟩
abbrev m_X6_isBlocking : MI := (yX6_isBlocking, RX6, cX6_isBlocking, 2, some .boolean, { frames := 4, cells := 0, slots := 0, locals := 160 })
theorem k_X6_isBlocking : LkV m_X6_isBlocking 1 := ⟨inU 1170 (by decide +kernel) rfl, inUp 65 (by decide +kernel) rfl, inU 7 (by decide +kernel) rfl, inU 1171 (by decide +kernel) rfl, ⟨by decide +kernel, by decide +kernel, by decide +kernel⟩⟩
theorem n_X6_isBlocking : Nm m_X6_isBlocking := ⟨by decide +kernel, rfl⟩
abbrev m_X6_layArcs : MI := (yX6_layArcs, RX6, cX6_layArcs, 6, none, { frames := 5, cells := 0, slots := 0, locals := 200 })
theorem k_X6_layArcs : LkV m_X6_layArcs 0 := ⟨inU 1166 (by decide +kernel) rfl, inUp 64 (by decide +kernel) rfl, inU 7 (by decide +kernel) rfl, inU 1167 (by decide +kernel) rfl, ⟨by decide +kernel, by decide +kernel, by decide +kernel⟩⟩
theorem n_X6_layArcs : Nm m_X6_layArcs := ⟨by decide +kernel, rfl⟩
abbrev m_X6_raises : MI := (yX6_raises, RX6, cX6_raises, 3, some .boolean, { frames := 4, cells := 0, slots := 0, locals := 160 })
theorem k_X6_raises : LkV m_X6_raises 1 := ⟨inU 1186 (by decide +kernel) rfl, inUp 69 (by decide +kernel) rfl, inU 7 (by decide +kernel) rfl, inU 1187 (by decide +kernel) rfl, ⟨by decide +kernel, by decide +kernel, by decide +kernel⟩⟩
theorem n_X6_raises : Nm m_X6_raises := ⟨by decide +kernel, rfl⟩
abbrev m_X6_findStarts : MI := (yX6_findStarts, RX6, cX6_findStarts, 4, some .boolean, { frames := 6, cells := 0, slots := 0, locals := 240 })
theorem k_X6_findStarts : LkV m_X6_findStarts 0 := ⟨inU 1162 (by decide +kernel) rfl, inUp 63 (by decide +kernel) rfl, inU 7 (by decide +kernel) rfl, inU 1163 (by decide +kernel) rfl, ⟨by decide +kernel, by decide +kernel, by decide +kernel⟩⟩
theorem n_X6_findStarts : Nm m_X6_findStarts := ⟨by decide +kernel, rfl⟩
abbrev m_X6_hasCycle : MI := (yX6_hasCycle, RX6, cX6_hasCycle, 4, some .boolean, { frames := 4, cells := 0, slots := 0, locals := 160 })
theorem k_X6_hasCycle : LkV m_X6_hasCycle 0 := ⟨inU 1293 (by decide +kernel) rfl, inUp 82 (by decide +kernel) rfl, inU 7 (by decide +kernel) rfl, inU 1294 (by decide +kernel) rfl, ⟨by decide +kernel, by decide +kernel, by decide +kernel⟩⟩
theorem n_X6_hasCycle : Nm m_X6_hasCycle := ⟨by decide +kernel, rfl⟩
abbrev m_X6_isDeadlocked : MI := (yX6_isDeadlocked, RX6, cX6_isDeadlocked, 1, some .boolean, { frames := 7, cells := 0, slots := 0, locals := 280 })
theorem k_X6_isDeadlocked : LkV m_X6_isDeadlocked 0 := ⟨inU 1289 (by decide +kernel) rfl, inUp 81 (by decide +kernel) rfl, inU 7 (by decide +kernel) rfl, inU 1290 (by decide +kernel) rfl, ⟨by decide +kernel, by decide +kernel, by decide +kernel⟩⟩
theorem n_X6_isDeadlocked : Nm m_X6_isDeadlocked := ⟨by decide +kernel, rfl⟩
abbrev m_X6_completionOf : MI := (yX6_completionOf, RX6, cX6_completionOf, 3, some .int, { frames := 4, cells := 0, slots := 0, locals := 160 })
theorem k_X6_completionOf : LkV m_X6_completionOf 1 := ⟨inU 1205 (by decide +kernel) rfl, inUp 71 (by decide +kernel) rfl, inU 7 (by decide +kernel) rfl, inU 1206 (by decide +kernel) rfl, ⟨by decide +kernel, by decide +kernel, by decide +kernel⟩⟩
theorem n_X6_completionOf : Nm m_X6_completionOf := ⟨by decide +kernel, rfl⟩
abbrev m_X6_makespanOf : MI := (yX6_makespanOf, RX6, cX6_makespanOf, 3, some .int, { frames := 5, cells := 0, slots := 0, locals := 200 })
theorem k_X6_makespanOf : LkV m_X6_makespanOf 0 := ⟨inU 1217 (by decide +kernel) rfl, inUp 73 (by decide +kernel) rfl, inU 7 (by decide +kernel) rfl, inU 1218 (by decide +kernel) rfl, ⟨by decide +kernel, by decide +kernel, by decide +kernel⟩⟩
theorem n_X6_makespanOf : Nm m_X6_makespanOf := ⟨by decide +kernel, rfl⟩
abbrev m_X6_limited : MI := (yX6_limited, RX6, cX6_limited, 2, some .long, { frames := 2, cells := 0, slots := 0, locals := 80 })
theorem k_X6_limited : LkS m_X6_limited 1 := ⟨inU 1231 (by decide +kernel) rfl, inU 7 (by decide +kernel) rfl, inU 1232 (by decide +kernel) rfl, ⟨by decide +kernel, by decide +kernel, by decide +kernel⟩⟩
theorem n_X6_limited : Nm m_X6_limited := ⟨by decide +kernel, rfl⟩
abbrev m_X6_operate : MI := (yX6_operate, RX6, cX6_operate, 5, some .long, { frames := 3, cells := 0, slots := 0, locals := 120 })
theorem k_X6_operate : LkS m_X6_operate 3 := ⟨inU 1228 (by decide +kernel) rfl, inU 7 (by decide +kernel) rfl, inU 1229 (by decide +kernel) rfl, ⟨by decide +kernel, by decide +kernel, by decide +kernel⟩⟩
theorem n_X6_operate : Nm m_X6_operate := ⟨by decide +kernel, rfl⟩
abbrev m_X6_costOf : MI := (yX6_costOf, RX6, cX6_costOf, 7, some .int, { frames := 5, cells := 0, slots := 0, locals := 200 })
theorem k_X6_costOf : LkV m_X6_costOf 1 := ⟨inU 1225 (by decide +kernel) rfl, inUp 74 (by decide +kernel) rfl, inU 7 (by decide +kernel) rfl, inU 1226 (by decide +kernel) rfl, ⟨by decide +kernel, by decide +kernel, by decide +kernel⟩⟩
theorem n_X6_costOf : Nm m_X6_costOf := ⟨by decide +kernel, rfl⟩
abbrev m_X6_costOfPlan : MI := (yX6_costOfPlan, RX6, cX6_costOfPlan, 3, some .int, { frames := 6, cells := 0, slots := 0, locals := 240 })
theorem k_X6_costOfPlan : LkV m_X6_costOfPlan 0 := ⟨inU 1241 (by decide +kernel) rfl, inUp 75 (by decide +kernel) rfl, inU 7 (by decide +kernel) rfl, inU 1242 (by decide +kernel) rfl, ⟨by decide +kernel, by decide +kernel, by decide +kernel⟩⟩
theorem n_X6_costOfPlan : Nm m_X6_costOfPlan := ⟨by decide +kernel, rfl⟩
abbrev m_X6_leaveOf : MI := (yX6_leaveOf, RX6, cX6_leaveOf, 2, some .int, { frames := 5, cells := 0, slots := 0, locals := 200 })
theorem k_X6_leaveOf : LkV m_X6_leaveOf 1 := ⟨inU 1197 (by decide +kernel) rfl, inUp 70 (by decide +kernel) rfl, inU 7 (by decide +kernel) rfl, inU 1198 (by decide +kernel) rfl, ⟨by decide +kernel, by decide +kernel, by decide +kernel⟩⟩
theorem n_X6_leaveOf : Nm m_X6_leaveOf := ⟨by decide +kernel, rfl⟩
abbrev m_X6_exchange : MI := (yX6_exchange, RX6, cX6_exchange, 5, none, { frames := 3, cells := 0, slots := 0, locals := 120 })
theorem k_X6_exchange : LkV m_X6_exchange 2 := ⟨inU 1285 (by decide +kernel) rfl, inUp 80 (by decide +kernel) rfl, inU 7 (by decide +kernel) rfl, inU 1286 (by decide +kernel) rfl, ⟨by decide +kernel, by decide +kernel, by decide +kernel⟩⟩
theorem n_X6_exchange : Nm m_X6_exchange := ⟨by decide +kernel, rfl⟩
abbrev m_X6_findBest : MI := (yX6_findBest, RX6, cX6_findBest, 6, some .int, { frames := 8, cells := 0, slots := 0, locals := 320 })
theorem k_X6_findBest : LkV m_X6_findBest 0 := ⟨inU 1305 (by decide +kernel) rfl, inUp 83 (by decide +kernel) rfl, inU 7 (by decide +kernel) rfl, inU 1306 (by decide +kernel) rfl, ⟨by decide +kernel, by decide +kernel, by decide +kernel⟩⟩
theorem n_X6_findBest : Nm m_X6_findBest := ⟨by decide +kernel, rfl⟩
abbrev m_X6_isBetter : MI := (yX6_isBetter, RX6, cX6_isBetter, 4, some .boolean, { frames := 2, cells := 0, slots := 0, locals := 80 })
theorem k_X6_isBetter : LkS m_X6_isBetter 4 := ⟨inU 1308 (by decide +kernel) rfl, inU 7 (by decide +kernel) rfl, inU 1309 (by decide +kernel) rfl, ⟨by decide +kernel, by decide +kernel, by decide +kernel⟩⟩
theorem n_X6_isBetter : Nm m_X6_isBetter := ⟨by decide +kernel, rfl⟩
abbrev m_X6_findPath : MI := (yX6_findPath, RX6, cX6_findPath, 4, none, { frames := 7, cells := 0, slots := 0, locals := 280 })
theorem k_X6_findPath : LkV m_X6_findPath 0 := ⟨inU 1253 (by decide +kernel) rfl, inUp 76 (by decide +kernel) rfl, inU 7 (by decide +kernel) rfl, inU 1254 (by decide +kernel) rfl, ⟨by decide +kernel, by decide +kernel, by decide +kernel⟩⟩
theorem n_X6_findPath : Nm m_X6_findPath := ⟨by decide +kernel, rfl⟩
abbrev m_X6_isOnPath : MI := (yX6_isOnPath, RX6, cX6_isOnPath, 3, some .boolean, { frames := 2, cells := 0, slots := 0, locals := 80 })
theorem k_X6_isOnPath : LkV m_X6_isOnPath 1 := ⟨inU 1257 (by decide +kernel) rfl, inUp 77 (by decide +kernel) rfl, inU 7 (by decide +kernel) rfl, inU 1258 (by decide +kernel) rfl, ⟨by decide +kernel, by decide +kernel, by decide +kernel⟩⟩
theorem n_X6_isOnPath : Nm m_X6_isOnPath := ⟨by decide +kernel, rfl⟩
abbrev m_X6_told : MI := (yX6_told, RX6, cX6_told, 1, some .int, { frames := 2, cells := 0, slots := 0, locals := 80 })
theorem k_X6_told : LkS m_X6_told 1 := ⟨inU 1154 (by decide +kernel) rfl, inU 7 (by decide +kernel) rfl, inU 1155 (by decide +kernel) rfl, ⟨by decide +kernel, by decide +kernel, by decide +kernel⟩⟩
theorem n_X6_told : Nm m_X6_told := ⟨by decide +kernel, rfl⟩
abbrev m_X6_noMachine : MI := (yX6_noMachine, RX6, cX6_noMachine, 2, some .boolean, { frames := 3, cells := 0, slots := 0, locals := 120 })
theorem k_X6_noMachine : LkV m_X6_noMachine 1 := ⟨inU 1147 (by decide +kernel) rfl, inUp 62 (by decide +kernel) rfl, inU 7 (by decide +kernel) rfl, inU 1148 (by decide +kernel) rfl, ⟨by decide +kernel, by decide +kernel, by decide +kernel⟩⟩
theorem n_X6_noMachine : Nm m_X6_noMachine := ⟨by decide +kernel, rfl⟩
abbrev m_X6_noJob : MI := (yX6_noJob, RX6, cX6_noJob, 2, some .boolean, { frames := 3, cells := 0, slots := 0, locals := 120 })
theorem k_X6_noJob : LkV m_X6_noJob 1 := ⟨inU 1123 (by decide +kernel) rfl, inUp 58 (by decide +kernel) rfl, inU 7 (by decide +kernel) rfl, inU 1124 (by decide +kernel) rfl, ⟨by decide +kernel, by decide +kernel, by decide +kernel⟩⟩
theorem n_X6_noJob : Nm m_X6_noJob := ⟨by decide +kernel, rfl⟩
abbrev m_X6_noOperation : MI := (yX6_noOperation, RX6, cX6_noOperation, 3, some .boolean, { frames := 4, cells := 0, slots := 0, locals := 160 })
theorem k_X6_noOperation : LkV m_X6_noOperation 2 := ⟨inU 1131 (by decide +kernel) rfl, inUp 59 (by decide +kernel) rfl, inU 7 (by decide +kernel) rfl, inU 1132 (by decide +kernel) rfl, ⟨by decide +kernel, by decide +kernel, by decide +kernel⟩⟩
theorem n_X6_noOperation : Nm m_X6_noOperation := ⟨by decide +kernel, rfl⟩
abbrev m_X6_noSwap : MI := (yX6_noSwap, RX6, cX6_noSwap, 3, some .boolean, { frames := 4, cells := 0, slots := 0, locals := 160 })
theorem k_X6_noSwap : LkV m_X6_noSwap 2 := ⟨inU 1277 (by decide +kernel) rfl, inUp 78 (by decide +kernel) rfl, inU 7 (by decide +kernel) rfl, inU 1278 (by decide +kernel) rfl, ⟨by decide +kernel, by decide +kernel, by decide +kernel⟩⟩
theorem n_X6_noSwap : Nm m_X6_noSwap := ⟨by decide +kernel, rfl⟩
abbrev m_X6_machineCount : MI := (yX6_machineCount, RX6, cX6_machineCount, 1, some .int, { frames := 2, cells := 0, slots := 0, locals := 80 })
theorem k_X6_machineCount : LkV m_X6_machineCount 0 := ⟨inU 1110 (by decide +kernel) rfl, inU 1111 (by decide +kernel) rfl, inU 7 (by decide +kernel) rfl, inU 1112 (by decide +kernel) rfl, ⟨by decide +kernel, by decide +kernel, by decide +kernel⟩⟩
theorem n_X6_machineCount : Nm m_X6_machineCount := ⟨by decide +kernel, rfl⟩
abbrev m_X6_jobCount : MI := (yX6_jobCount, RX6, cX6_jobCount, 1, some .int, { frames := 2, cells := 0, slots := 0, locals := 80 })
theorem k_X6_jobCount : LkV m_X6_jobCount 0 := ⟨inU 1114 (by decide +kernel) rfl, inU 1115 (by decide +kernel) rfl, inU 7 (by decide +kernel) rfl, inU 1116 (by decide +kernel) rfl, ⟨by decide +kernel, by decide +kernel, by decide +kernel⟩⟩
theorem n_X6_jobCount : Nm m_X6_jobCount := ⟨by decide +kernel, rfl⟩
abbrev m_X6_operationCount : MI := (yX6_operationCount, RX6, cX6_operationCount, 2, some .int, { frames := 4, cells := 0, slots := 0, locals := 160 })
theorem k_X6_operationCount : LkV m_X6_operationCount 1 := ⟨inU 1118 (by decide +kernel) rfl, inU 1119 (by decide +kernel) rfl, inU 7 (by decide +kernel) rfl, inU 1120 (by decide +kernel) rfl, ⟨by decide +kernel, by decide +kernel, by decide +kernel⟩⟩
theorem n_X6_operationCount : Nm m_X6_operationCount := ⟨by decide +kernel, rfl⟩
abbrev m_X6_operation : MI := (yX6_operation, RX6, cX6_operation, 5, some .int, { frames := 5, cells := 0, slots := 0, locals := 200 })
theorem k_X6_operation : LkV m_X6_operation 3 := ⟨inU 1126 (by decide +kernel) rfl, inU 1127 (by decide +kernel) rfl, inU 7 (by decide +kernel) rfl, inU 1128 (by decide +kernel) rfl, ⟨by decide +kernel, by decide +kernel, by decide +kernel⟩⟩
theorem n_X6_operation : Nm m_X6_operation := ⟨by decide +kernel, rfl⟩
abbrev m_X6_orderLength : MI := (yX6_orderLength, RX6, cX6_orderLength, 2, some .int, { frames := 4, cells := 0, slots := 0, locals := 160 })
theorem k_X6_orderLength : LkV m_X6_orderLength 1 := ⟨inU 1142 (by decide +kernel) rfl, inU 1143 (by decide +kernel) rfl, inU 7 (by decide +kernel) rfl, inU 1144 (by decide +kernel) rfl, ⟨by decide +kernel, by decide +kernel, by decide +kernel⟩⟩
theorem n_X6_orderLength : Nm m_X6_orderLength := ⟨by decide +kernel, rfl⟩
abbrev m_X6_orderAt : MI := (yX6_orderAt, RX6, cX6_orderAt, 3, some .int, { frames := 4, cells := 0, slots := 0, locals := 160 })
theorem k_X6_orderAt : LkV m_X6_orderAt 2 := ⟨inU 1150 (by decide +kernel) rfl, inU 1151 (by decide +kernel) rfl, inU 7 (by decide +kernel) rfl, inU 1152 (by decide +kernel) rfl, ⟨by decide +kernel, by decide +kernel, by decide +kernel⟩⟩
theorem n_X6_orderAt : Nm m_X6_orderAt := ⟨by decide +kernel, rfl⟩
abbrev m_X6_start : MI := (yX6_start, RX6, cX6_start, 3, some .int, { frames := 7, cells := 0, slots := 0, locals := 280 })
theorem k_X6_start : LkV m_X6_start 2 := ⟨inU 1157 (by decide +kernel) rfl, inU 1158 (by decide +kernel) rfl, inU 7 (by decide +kernel) rfl, inU 1159 (by decide +kernel) rfl, ⟨by decide +kernel, by decide +kernel, by decide +kernel⟩⟩
theorem n_X6_start : Nm m_X6_start := ⟨by decide +kernel, rfl⟩
abbrev m_X6_leave : MI := (yX6_leave, RX6, cX6_leave, 3, some .int, { frames := 7, cells := 0, slots := 0, locals := 280 })
theorem k_X6_leave : LkV m_X6_leave 2 := ⟨inU 1192 (by decide +kernel) rfl, inU 1193 (by decide +kernel) rfl, inU 7 (by decide +kernel) rfl, inU 1194 (by decide +kernel) rfl, ⟨by decide +kernel, by decide +kernel, by decide +kernel⟩⟩
theorem n_X6_leave : Nm m_X6_leave := ⟨by decide +kernel, rfl⟩
abbrev m_X6_completion : MI := (yX6_completion, RX6, cX6_completion, 2, some .int, { frames := 7, cells := 0, slots := 0, locals := 280 })
theorem k_X6_completion : LkV m_X6_completion 1 := ⟨inU 1200 (by decide +kernel) rfl, inU 1201 (by decide +kernel) rfl, inU 7 (by decide +kernel) rfl, inU 1202 (by decide +kernel) rfl, ⟨by decide +kernel, by decide +kernel, by decide +kernel⟩⟩
theorem n_X6_completion : Nm m_X6_completion := ⟨by decide +kernel, rfl⟩
abbrev m_X6_spanNow : MI := (yX6_spanNow, RX6, cX6_spanNow, 1, some .int, { frames := 7, cells := 0, slots := 0, locals := 280 })
theorem k_X6_spanNow : LkV m_X6_spanNow 0 := ⟨inU 1213 (by decide +kernel) rfl, inUp 72 (by decide +kernel) rfl, inU 7 (by decide +kernel) rfl, inU 1214 (by decide +kernel) rfl, ⟨by decide +kernel, by decide +kernel, by decide +kernel⟩⟩
theorem n_X6_spanNow : Nm m_X6_spanNow := ⟨by decide +kernel, rfl⟩
abbrev m_X6_makespan : MI := (yX6_makespan, RX6, cX6_makespan, 1, some .int, { frames := 8, cells := 0, slots := 0, locals := 320 })
theorem k_X6_makespan : LkV m_X6_makespan 0 := ⟨inU 1208 (by decide +kernel) rfl, inU 1209 (by decide +kernel) rfl, inU 7 (by decide +kernel) rfl, inU 1210 (by decide +kernel) rfl, ⟨by decide +kernel, by decide +kernel, by decide +kernel⟩⟩
theorem n_X6_makespan : Nm m_X6_makespan := ⟨by decide +kernel, rfl⟩
abbrev m_X6_jobCost : MI := (yX6_jobCost, RX6, cX6_jobCost, 2, some .int, { frames := 7, cells := 0, slots := 0, locals := 280 })
theorem k_X6_jobCost : LkV m_X6_jobCost 1 := ⟨inU 1220 (by decide +kernel) rfl, inU 1221 (by decide +kernel) rfl, inU 7 (by decide +kernel) rfl, inU 1222 (by decide +kernel) rfl, ⟨by decide +kernel, by decide +kernel, by decide +kernel⟩⟩
theorem n_X6_jobCost : Nm m_X6_jobCost := ⟨by decide +kernel, rfl⟩
abbrev m_X6_planCost : MI := (yX6_planCost, RX6, cX6_planCost, 1, some .int, { frames := 7, cells := 0, slots := 0, locals := 280 })
theorem k_X6_planCost : LkV m_X6_planCost 0 := ⟨inU 1236 (by decide +kernel) rfl, inU 1237 (by decide +kernel) rfl, inU 7 (by decide +kernel) rfl, inU 1238 (by decide +kernel) rfl, ⟨by decide +kernel, by decide +kernel, by decide +kernel⟩⟩
theorem n_X6_planCost : Nm m_X6_planCost := ⟨by decide +kernel, rfl⟩
abbrev m_X6_blockedTime : MI := (yX6_blockedTime, RX6, cX6_blockedTime, 5, some .int, { frames := 7, cells := 0, slots := 0, locals := 280 })
theorem k_X6_blockedTime : LkV m_X6_blockedTime 1 := ⟨inU 1244 (by decide +kernel) rfl, inU 1245 (by decide +kernel) rfl, inU 7 (by decide +kernel) rfl, inU 1246 (by decide +kernel) rfl, ⟨by decide +kernel, by decide +kernel, by decide +kernel⟩⟩
theorem n_X6_blockedTime : Nm m_X6_blockedTime := ⟨by decide +kernel, rfl⟩
abbrev m_X6_criticalLength : MI := (yX6_criticalLength, RX6, cX6_criticalLength, 1, some .int, { frames := 8, cells := 0, slots := 0, locals := 320 })
theorem k_X6_criticalLength : LkV m_X6_criticalLength 0 := ⟨inU 1248 (by decide +kernel) rfl, inU 1249 (by decide +kernel) rfl, inU 7 (by decide +kernel) rfl, inU 1250 (by decide +kernel) rfl, ⟨by decide +kernel, by decide +kernel, by decide +kernel⟩⟩
theorem n_X6_criticalLength : Nm m_X6_criticalLength := ⟨by decide +kernel, rfl⟩
abbrev m_X6_critical : MI := (yX6_critical, RX6, cX6_critical, 2, some .int, { frames := 8, cells := 0, slots := 0, locals := 320 })
theorem k_X6_critical : LkV m_X6_critical 1 := ⟨inU 1260 (by decide +kernel) rfl, inU 1261 (by decide +kernel) rfl, inU 7 (by decide +kernel) rfl, inU 1262 (by decide +kernel) rfl, ⟨by decide +kernel, by decide +kernel, by decide +kernel⟩⟩
theorem n_X6_critical : Nm m_X6_critical := ⟨by decide +kernel, rfl⟩
abbrev m_X6_blockCount : MI := (yX6_blockCount, RX6, cX6_blockCount, 3, some .int, { frames := 8, cells := 0, slots := 0, locals := 320 })
theorem k_X6_blockCount : LkV m_X6_blockCount 0 := ⟨inU 1264 (by decide +kernel) rfl, inU 1265 (by decide +kernel) rfl, inU 7 (by decide +kernel) rfl, inU 1266 (by decide +kernel) rfl, ⟨by decide +kernel, by decide +kernel, by decide +kernel⟩⟩
theorem n_X6_blockCount : Nm m_X6_blockCount := ⟨by decide +kernel, rfl⟩
abbrev m_X6_longestBlock : MI := (yX6_longestBlock, RX6, cX6_longestBlock, 4, some .int, { frames := 8, cells := 0, slots := 0, locals := 320 })
theorem k_X6_longestBlock : LkV m_X6_longestBlock 0 := ⟨inU 1268 (by decide +kernel) rfl, inU 1269 (by decide +kernel) rfl, inU 7 (by decide +kernel) rfl, inU 1270 (by decide +kernel) rfl, ⟨by decide +kernel, by decide +kernel, by decide +kernel⟩⟩
theorem n_X6_longestBlock : Nm m_X6_longestBlock := ⟨by decide +kernel, rfl⟩
abbrev m_X6_spanAfter : MI := (yX6_spanAfter, RX6, cX6_spanAfter, 4, some .int, { frames := 8, cells := 0, slots := 0, locals := 320 })
theorem k_X6_spanAfter : LkV m_X6_spanAfter 2 := ⟨inU 1281 (by decide +kernel) rfl, inUp 79 (by decide +kernel) rfl, inU 7 (by decide +kernel) rfl, inU 1282 (by decide +kernel) rfl, ⟨by decide +kernel, by decide +kernel, by decide +kernel⟩⟩
theorem n_X6_spanAfter : Nm m_X6_spanAfter := ⟨by decide +kernel, rfl⟩
abbrev m_X6_deadlocks : MI := (yX6_deadlocks, RX6, cX6_deadlocks, 3, some .boolean, { frames := 9, cells := 0, slots := 0, locals := 360 })
theorem k_X6_deadlocks : LkV m_X6_deadlocks 2 := ⟨inU 1272 (by decide +kernel) rfl, inU 1273 (by decide +kernel) rfl, inU 7 (by decide +kernel) rfl, inU 1274 (by decide +kernel) rfl, ⟨by decide +kernel, by decide +kernel, by decide +kernel⟩⟩
theorem n_X6_deadlocks : Nm m_X6_deadlocks := ⟨by decide +kernel, rfl⟩
abbrev m_X6_makespanAfter : MI := (yX6_makespanAfter, RX6, cX6_makespanAfter, 3, some .int, { frames := 9, cells := 0, slots := 0, locals := 360 })
theorem k_X6_makespanAfter : LkV m_X6_makespanAfter 2 := ⟨inU 1296 (by decide +kernel) rfl, inU 1297 (by decide +kernel) rfl, inU 7 (by decide +kernel) rfl, inU 1298 (by decide +kernel) rfl, ⟨by decide +kernel, by decide +kernel, by decide +kernel⟩⟩
theorem n_X6_makespanAfter : Nm m_X6_makespanAfter := ⟨by decide +kernel, rfl⟩
abbrev m_X6_bestSwap : MI := (yX6_bestSwap, RX6, cX6_bestSwap, 1, some .int, { frames := 9, cells := 0, slots := 0, locals := 360 })
theorem k_X6_bestSwap : LkV m_X6_bestSwap 0 := ⟨inU 1300 (by decide +kernel) rfl, inU 1301 (by decide +kernel) rfl, inU 7 (by decide +kernel) rfl, inU 1302 (by decide +kernel) rfl, ⟨by decide +kernel, by decide +kernel, by decide +kernel⟩⟩
theorem n_X6_bestSwap : Nm m_X6_bestSwap := ⟨by decide +kernel, rfl⟩
abbrev m_X6_remember : MI := (yX6_remember, RX6, cX6_remember, 2, none, { frames := 3, cells := 0, slots := 0, locals := 120 })
theorem k_X6_remember : LkV m_X6_remember 0 := ⟨inU 1096 (by decide +kernel) rfl, inUp 56 (by decide +kernel) rfl, inU 7 (by decide +kernel) rfl, inU 1097 (by decide +kernel) rfl, ⟨by decide +kernel, by decide +kernel, by decide +kernel⟩⟩
theorem n_X6_remember : Nm m_X6_remember := ⟨by decide +kernel, rfl⟩
abbrev m_X6_swap : MI := (yX6_swap, RX6, cX6_swap, 3, some .int, { frames := 9, cells := 0, slots := 0, locals := 360 })
theorem k_X6_swap : LkV m_X6_swap 2 := ⟨inU 1311 (by decide +kernel) rfl, inU 1312 (by decide +kernel) rfl, inU 7 (by decide +kernel) rfl, inU 1313 (by decide +kernel) rfl, ⟨by decide +kernel, by decide +kernel, by decide +kernel⟩⟩
theorem n_X6_swap : Nm m_X6_swap := ⟨by decide +kernel, rfl⟩
abbrev m_X6_improve : MI := (yX6_improve, RX6, cX6_improve, 6, some .int, { frames := 9, cells := 0, slots := 0, locals := 360 })
theorem k_X6_improve : LkV m_X6_improve 1 := ⟨inU 1315 (by decide +kernel) rfl, inU 1316 (by decide +kernel) rfl, inU 7 (by decide +kernel) rfl, inU 1317 (by decide +kernel) rfl, ⟨by decide +kernel, by decide +kernel, by decide +kernel⟩⟩
theorem n_X6_improve : Nm m_X6_improve := ⟨by decide +kernel, rfl⟩
abbrev m_X6_bring : MI := (yX6_bring, RX6, cX6_bring, 5, none, { frames := 5, cells := 0, slots := 0, locals := 200 })
theorem k_X6_bring : LkV m_X6_bring 2 := ⟨inU 1324 (by decide +kernel) rfl, inUp 84 (by decide +kernel) rfl, inU 7 (by decide +kernel) rfl, inU 1325 (by decide +kernel) rfl, ⟨by decide +kernel, by decide +kernel, by decide +kernel⟩⟩
theorem n_X6_bring : Nm m_X6_bring := ⟨by decide +kernel, rfl⟩
abbrev m_X6_place : MI := (yX6_place, RX6, cX6_place, 6, some .int, { frames := 8, cells := 0, slots := 0, locals := 320 })
theorem k_X6_place : LkV m_X6_place 3 := ⟨inU 1319 (by decide +kernel) rfl, inU 1320 (by decide +kernel) rfl, inU 7 (by decide +kernel) rfl, inU 1321 (by decide +kernel) rfl, ⟨by decide +kernel, by decide +kernel, by decide +kernel⟩⟩
theorem n_X6_place : Nm m_X6_place := ⟨by decide +kernel, rfl⟩
abbrev m_X6_setDuration : MI := (yX6_setDuration, RX6, cX6_setDuration, 6, some .int, { frames := 5, cells := 0, slots := 0, locals := 200 })
theorem k_X6_setDuration : LkV m_X6_setDuration 3 := ⟨inU 1327 (by decide +kernel) rfl, inU 1328 (by decide +kernel) rfl, inU 7 (by decide +kernel) rfl, inU 1329 (by decide +kernel) rfl, ⟨by decide +kernel, by decide +kernel, by decide +kernel⟩⟩
theorem n_X6_setDuration : Nm m_X6_setDuration := ⟨by decide +kernel, rfl⟩
abbrev m_X6_restart : MI := (yX6_restart, RX6, cX6_restart, 1, some .int, { frames := 8, cells := 0, slots := 0, locals := 320 })
theorem k_X6_restart : LkV m_X6_restart 0 := ⟨inU 1331 (by decide +kernel) rfl, inU 1332 (by decide +kernel) rfl, inU 7 (by decide +kernel) rfl, inU 1333 (by decide +kernel) rfl, ⟨by decide +kernel, by decide +kernel, by decide +kernel⟩⟩
theorem n_X6_restart : Nm m_X6_restart := ⟨by decide +kernel, rfl⟩
abbrev m_X6_undo : MI := (yX6_undo, RX6, cX6_undo, 1, some .int, { frames := 3, cells := 0, slots := 0, locals := 120 })
theorem k_X6_undo : LkV m_X6_undo 0 := ⟨inU 1335 (by decide +kernel) rfl, inU 1336 (by decide +kernel) rfl, inU 7 (by decide +kernel) rfl, inU 1337 (by decide +kernel) rfl, ⟨by decide +kernel, by decide +kernel, by decide +kernel⟩⟩
theorem n_X6_undo : Nm m_X6_undo := ⟨by decide +kernel, rfl⟩
abbrev m_X6_checksum : MI := (yX6_checksum, RX6, cX6_checksum, 5, some .long, { frames := 8, cells := 0, slots := 0, locals := 320 })
theorem k_X6_checksum : LkV m_X6_checksum 0 := ⟨inU 1339 (by decide +kernel) rfl, inU 1340 (by decide +kernel) rfl, inU 7 (by decide +kernel) rfl, inU 1341 (by decide +kernel) rfl, ⟨by decide +kernel, by decide +kernel, by decide +kernel⟩⟩
theorem n_X6_checksum : Nm m_X6_checksum := ⟨by decide +kernel, rfl⟩
abbrev m_J9_max_7cf53 : MI := (yJ9_max_7cf53, RJ9, cJ9_max_7cf53, 2, some .int, { frames := 2, cells := 0, slots := 0, locals := 80 })
theorem k_J9_max_7cf53 : LkS m_J9_max_7cf53 2 := ⟨inU 298 (by decide +kernel) rfl, inU 12 (by decide +kernel) rfl, inU 299 (by decide +kernel) rfl, ⟨by decide +kernel, by decide +kernel, by decide +kernel⟩⟩
abbrev m_J9_min_7cf53 : MI := (yJ9_min_7cf53, RJ9, cJ9_min_7cf53, 2, some .int, { frames := 2, cells := 0, slots := 0, locals := 80 })
theorem k_J9_min_7cf53 : LkS m_J9_min_7cf53 2 := ⟨inU 541 (by decide +kernel) rfl, inU 12 (by decide +kernel) rfl, inU 542 (by decide +kernel) rfl, ⟨by decide +kernel, by decide +kernel, by decide +kernel⟩⟩
abbrev m_J0_length_8abf5 : MI := (yJ0_length_8abf5, RJ0, cJ0_length_8abf5, 1, some .int, { frames := 3, cells := 0, slots := 0, locals := 120 })
theorem k_J0_length_8abf5 : LkV m_J0_length_8abf5 0 := ⟨inU 562 (by decide +kernel) rfl, inU 563 (by decide +kernel) rfl, inU 13 (by decide +kernel) rfl, inU 564 (by decide +kernel) rfl, ⟨by decide +kernel, by decide +kernel, by decide +kernel⟩⟩
theorem n_J0_length_8abf5 : Nm m_J0_length_8abf5 := ⟨by decide +kernel, rfl⟩
abbrev m_J0_charAt_5068e : MI := (yJ0_charAt_5068e, RJ0, cJ0_charAt_5068e, 2, some .char, { frames := 6, cells := 0, slots := 0, locals := 240 })
theorem k_J0_charAt_5068e : LkV m_J0_charAt_5068e 1 := ⟨inU 572 (by decide +kernel) rfl, inU 573 (by decide +kernel) rfl, inU 13 (by decide +kernel) rfl, inU 574 (by decide +kernel) rfl, ⟨by decide +kernel, by decide +kernel, by decide +kernel⟩⟩
theorem n_J0_charAt_5068e : Nm m_J0_charAt_5068e := ⟨by decide +kernel, rfl⟩
abbrev m_J0_coder_7d493 : MI := (yJ0_coder_7d493, RJ0, cJ0_coder_7d493, 1, some .byte, { frames := 2, cells := 0, slots := 0, locals := 80 })
theorem k_J0_coder_7d493 : LkV m_J0_coder_7d493 0 := ⟨inU 566 (by decide +kernel) rfl, inU 567 (by decide +kernel) rfl, inU 13 (by decide +kernel) rfl, inU 568 (by decide +kernel) rfl, ⟨by decide +kernel, by decide +kernel, by decide +kernel⟩⟩
theorem n_J0_coder_7d493 : Nm m_J0_coder_7d493 := ⟨by decide +kernel, rfl⟩
abbrev m_J0_isLatin1_aae02 : MI := (yJ0_isLatin1_aae02, RJ0, cJ0_isLatin1_aae02, 1, some .boolean, { frames := 2, cells := 0, slots := 0, locals := 80 })
theorem k_J0_isLatin1_aae02 : LkV m_J0_isLatin1_aae02 0 := ⟨inU 576 (by decide +kernel) rfl, inU 577 (by decide +kernel) rfl, inU 13 (by decide +kernel) rfl, inU 578 (by decide +kernel) rfl, ⟨by decide +kernel, by decide +kernel, by decide +kernel⟩⟩
theorem n_J0_isLatin1_aae02 : Nm m_J0_isLatin1_aae02 := ⟨by decide +kernel, rfl⟩
abbrev m_J0_checkIndex_df160 : MI := (yJ0_checkIndex_df160, RJ0, cJ0_checkIndex_df160, 2, none, { frames := 3, cells := 0, slots := 0, locals := 120 })
theorem k_J0_checkIndex_df160 : LkS m_J0_checkIndex_df160 2 := ⟨inU 583 (by decide +kernel) rfl, inU 13 (by decide +kernel) rfl, inU 584 (by decide +kernel) rfl, ⟨by decide +kernel, by decide +kernel, by decide +kernel⟩⟩
theorem n_J0_checkIndex_df160 : Nm m_J0_checkIndex_df160 := ⟨by decide +kernel, rfl⟩
abbrev m_J1_charAt_3b067 : MI := (yJ1_charAt_3b067, RJ1, cJ1_charAt_3b067, 2, some .char, { frames := 4, cells := 0, slots := 0, locals := 160 })
theorem k_J1_charAt_3b067 : LkS m_J1_charAt_3b067 2 := ⟨inU 580 (by decide +kernel) rfl, inU 14 (by decide +kernel) rfl, inU 581 (by decide +kernel) rfl, ⟨by decide +kernel, by decide +kernel, by decide +kernel⟩⟩
theorem n_J1_charAt_3b067 : Nm m_J1_charAt_3b067 := ⟨by decide +kernel, rfl⟩
abbrev m_J2_getChar_3b067 : MI := (yJ2_getChar_3b067, RJ2, cJ2_getChar_3b067, 2, some .char, { frames := 3, cells := 0, slots := 0, locals := 120 })
theorem k_J2_getChar_3b067 : LkS m_J2_getChar_3b067 2 := ⟨inU 601 (by decide +kernel) rfl, inU 16 (by decide +kernel) rfl, inU 602 (by decide +kernel) rfl, ⟨by decide +kernel, by decide +kernel, by decide +kernel⟩⟩
theorem n_J2_getChar_3b067 : Nm m_J2_getChar_3b067 := ⟨by decide +kernel, rfl⟩
abbrev m_J2_length_9d52b : MI := (yJ2_length_9d52b, RJ2, cJ2_length_9d52b, 1, some .int, { frames := 2, cells := 0, slots := 0, locals := 80 })
theorem k_J2_length_9d52b : LkS m_J2_length_9d52b 1 := ⟨inU 597 (by decide +kernel) rfl, inU 16 (by decide +kernel) rfl, inU 598 (by decide +kernel) rfl, ⟨by decide +kernel, by decide +kernel, by decide +kernel⟩⟩
theorem n_J2_length_9d52b : Nm m_J2_length_9d52b := ⟨by decide +kernel, rfl⟩
abbrev m_J2_charAt_3b067 : MI := (yJ2_charAt_3b067, RJ2, cJ2_charAt_3b067, 2, some .char, { frames := 5, cells := 0, slots := 0, locals := 200 })
theorem k_J2_charAt_3b067 : LkS m_J2_charAt_3b067 2 := ⟨inU 591 (by decide +kernel) rfl, inU 16 (by decide +kernel) rfl, inU 592 (by decide +kernel) rfl, ⟨by decide +kernel, by decide +kernel, by decide +kernel⟩⟩
theorem n_J2_charAt_3b067 : Nm m_J2_charAt_3b067 := ⟨by decide +kernel, rfl⟩
abbrev m_J2_checkIndex_2214a : MI := (yJ2_checkIndex_2214a, RJ2, cJ2_checkIndex_2214a, 2, none, { frames := 4, cells := 0, slots := 0, locals := 160 })
theorem k_J2_checkIndex_2214a : LkS m_J2_checkIndex_2214a 2 := ⟨inU 594 (by decide +kernel) rfl, inU 16 (by decide +kernel) rfl, inU 595 (by decide +kernel) rfl, ⟨by decide +kernel, by decide +kernel, by decide +kernel⟩⟩
theorem n_J2_checkIndex_2214a : Nm m_J2_checkIndex_2214a := ⟨by decide +kernel, rfl⟩
abbrev m_J7_copyOf_59c91 : MI := (yJ7_copyOf_59c91, RJ7, cJ7_copyOf_59c91, 3, some (.array .int), { frames := 3, cells := 0, slots := 0, locals := 120 })
theorem k_J7_copyOf_59c91 : LkS m_J7_copyOf_59c91 2 := ⟨inU 672 (by decide +kernel) rfl, inU 17 (by decide +kernel) rfl, inU 673 (by decide +kernel) rfl, ⟨by decide +kernel, by decide +kernel, by decide +kernel⟩⟩
theorem n_J7_copyOf_59c91 : Nm m_J7_copyOf_59c91 := ⟨by decide +kernel, rfl⟩
abbrev m_J3_checkIndex_8e157 : MI := (yJ3_checkIndex_8e157, RJ3, cJ3_checkIndex_8e157, 3, some .int, { frames := 2, cells := 0, slots := 0, locals := 80 })
theorem k_J3_checkIndex_8e157 : LkS m_J3_checkIndex_8e157 3 := ⟨inU 588 (by decide +kernel) rfl, inU 15 (by decide +kernel) rfl, inU 589 (by decide +kernel) rfl, ⟨by decide +kernel, by decide +kernel, by decide +kernel⟩⟩
theorem n_J3_checkIndex_8e157 : Nm m_J3_checkIndex_8e157 := ⟨by decide +kernel, rfl⟩
