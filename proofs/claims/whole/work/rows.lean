section
-- ===== PART A: goes FIRST, ahead of the names: the tables' words, and 'selects' of the private methods out of them =====
/-- a private method of a class that the tables say can be made, by its rows of tables_1 -/
def lw_okq (q : MethodName × Nat) : Prop := (q.1.cls ≠ "java/lang/invoke/MethodHandle" ∧ q.1.cls ≠ "java/lang/invoke/VarHandle") ∧ Cond.instantiable q.1.cls q.2 ∈ tables_1 ∧ Cond.privateMethod q.1 ∈ tables_1 ∧ Cond.instanceMethod q.1 ∈ tables_1
theorem lw_p0 : lw_okq (⟨"LogStore$LiveTable", "freeSeat", "()I"⟩, 2) := ⟨⟨by decide +kernel, by decide +kernel⟩, List.mem_of_getElem? (i := 153) (by decide +kernel), List.mem_of_getElem? (i := 227) (by decide +kernel), List.mem_of_getElem? (i := 228) (by decide +kernel)⟩
theorem lw_p1 : lw_okq (⟨"LogStore$LiveTable", "enter", "(LLogStore$Transaction;)V"⟩, 2) := ⟨⟨by decide +kernel, by decide +kernel⟩, List.mem_of_getElem? (i := 153) (by decide +kernel), List.mem_of_getElem? (i := 276) (by decide +kernel), List.mem_of_getElem? (i := 277) (by decide +kernel)⟩
theorem lw_p2 : lw_okq (⟨"LogStore", "settle", "()V"⟩, 9) := ⟨⟨by decide +kernel, by decide +kernel⟩, List.mem_of_getElem? (i := 12) (by decide +kernel), List.mem_of_getElem? (i := 280) (by decide +kernel), List.mem_of_getElem? (i := 281) (by decide +kernel)⟩
theorem lw_p3 : lw_okq (⟨"LogStore$LiveTable", "leastStableCommit", "(LLogStore$Log;)LLogStore$Transaction;"⟩, 2) := ⟨⟨by decide +kernel, by decide +kernel⟩, List.mem_of_getElem? (i := 153) (by decide +kernel), List.mem_of_getElem? (i := 284) (by decide +kernel), List.mem_of_getElem? (i := 285) (by decide +kernel)⟩
theorem lw_p4 : lw_okq (⟨"LogStore$LiveTable", "leave", "(LLogStore$Transaction;I)V"⟩, 2) := ⟨⟨by decide +kernel, by decide +kernel⟩, List.mem_of_getElem? (i := 153) (by decide +kernel), List.mem_of_getElem? (i := 288) (by decide +kernel), List.mem_of_getElem? (i := 289) (by decide +kernel)⟩
theorem lw_p5 : lw_okq (⟨"LogStore$LiveTable", "firstFitWaiting", "()LLogStore$Transaction;"⟩, 2) := ⟨⟨by decide +kernel, by decide +kernel⟩, List.mem_of_getElem? (i := 153) (by decide +kernel), List.mem_of_getElem? (i := 292) (by decide +kernel), List.mem_of_getElem? (i := 293) (by decide +kernel)⟩
theorem lw_p6 : lw_okq (⟨"LogStore$LiveTable", "isFit", "(LLogStore$Transaction;)Z"⟩, 2) := ⟨⟨by decide +kernel, by decide +kernel⟩, List.mem_of_getElem? (i := 153) (by decide +kernel), List.mem_of_getElem? (i := 296) (by decide +kernel), List.mem_of_getElem? (i := 297) (by decide +kernel)⟩
theorem lw_p7 : lw_okq (⟨"LogStore$LiveTable", "obstacles", "(LLogStore$Transaction;)I"⟩, 2) := ⟨⟨by decide +kernel, by decide +kernel⟩, List.mem_of_getElem? (i := 153) (by decide +kernel), List.mem_of_getElem? (i := 300) (by decide +kernel), List.mem_of_getElem? (i := 301) (by decide +kernel)⟩
theorem lw_p8 : lw_okq (⟨"LogStore", "grant", "(LLogStore$Transaction;)V"⟩, 9) := ⟨⟨by decide +kernel, by decide +kernel⟩, List.mem_of_getElem? (i := 12) (by decide +kernel), List.mem_of_getElem? (i := 307) (by decide +kernel), List.mem_of_getElem? (i := 308) (by decide +kernel)⟩
theorem lw_p9 : lw_okq (⟨"LogStore$LiveTable", "hold", "(LLogStore$Transaction;)V"⟩, 2) := ⟨⟨by decide +kernel, by decide +kernel⟩, List.mem_of_getElem? (i := 153) (by decide +kernel), List.mem_of_getElem? (i := 311) (by decide +kernel), List.mem_of_getElem? (i := 312) (by decide +kernel)⟩
theorem lw_p10 : lw_okq (⟨"LogStore", "readFor", "(LLogStore$Transaction;)V"⟩, 9) := ⟨⟨by decide +kernel, by decide +kernel⟩, List.mem_of_getElem? (i := 12) (by decide +kernel), List.mem_of_getElem? (i := 318) (by decide +kernel), List.mem_of_getElem? (i := 319) (by decide +kernel)⟩
theorem lw_p11 : lw_okq (⟨"LogStore$Pool", "placeOf", "(I)I"⟩, 9) := ⟨⟨by decide +kernel, by decide +kernel⟩, List.mem_of_getElem? (i := 91) (by decide +kernel), List.mem_of_getElem? (i := 322) (by decide +kernel), List.mem_of_getElem? (i := 323) (by decide +kernel)⟩
theorem lw_p12 : lw_okq (⟨"LogStore$Pool", "keyAt", "(I)I"⟩, 9) := ⟨⟨by decide +kernel, by decide +kernel⟩, List.mem_of_getElem? (i := 91) (by decide +kernel), List.mem_of_getElem? (i := 326) (by decide +kernel), List.mem_of_getElem? (i := 327) (by decide +kernel)⟩
theorem lw_p13 : lw_okq (⟨"LogStore$Pool", "seen", "(I)LLogStore$Contents;"⟩, 9) := ⟨⟨by decide +kernel, by decide +kernel⟩, List.mem_of_getElem? (i := 91) (by decide +kernel), List.mem_of_getElem? (i := 330) (by decide +kernel), List.mem_of_getElem? (i := 331) (by decide +kernel)⟩
theorem lw_p14 : lw_okq (⟨"LogStore$Pool", "fetch", "(I)V"⟩, 9) := ⟨⟨by decide +kernel, by decide +kernel⟩, List.mem_of_getElem? (i := 91) (by decide +kernel), List.mem_of_getElem? (i := 334) (by decide +kernel), List.mem_of_getElem? (i := 335) (by decide +kernel)⟩
theorem lw_p15 : lw_okq (⟨"LogStore$Pool", "pageToLeave", "()I"⟩, 9) := ⟨⟨by decide +kernel, by decide +kernel⟩, List.mem_of_getElem? (i := 91) (by decide +kernel), List.mem_of_getElem? (i := 338) (by decide +kernel), List.mem_of_getElem? (i := 339) (by decide +kernel)⟩
def lw_privs_1 : List (MethodName × Nat) := [(⟨"LogStore$LiveTable", "freeSeat", "()I"⟩, 2), (⟨"LogStore$LiveTable", "enter", "(LLogStore$Transaction;)V"⟩, 2), (⟨"LogStore", "settle", "()V"⟩, 9), (⟨"LogStore$LiveTable", "leastStableCommit", "(LLogStore$Log;)LLogStore$Transaction;"⟩, 2), (⟨"LogStore$LiveTable", "leave", "(LLogStore$Transaction;I)V"⟩, 2), (⟨"LogStore$LiveTable", "firstFitWaiting", "()LLogStore$Transaction;"⟩, 2), (⟨"LogStore$LiveTable", "isFit", "(LLogStore$Transaction;)Z"⟩, 2), (⟨"LogStore$LiveTable", "obstacles", "(LLogStore$Transaction;)I"⟩, 2), (⟨"LogStore", "grant", "(LLogStore$Transaction;)V"⟩, 9), (⟨"LogStore$LiveTable", "hold", "(LLogStore$Transaction;)V"⟩, 2), (⟨"LogStore", "readFor", "(LLogStore$Transaction;)V"⟩, 9), (⟨"LogStore$Pool", "placeOf", "(I)I"⟩, 9), (⟨"LogStore$Pool", "keyAt", "(I)I"⟩, 9), (⟨"LogStore$Pool", "seen", "(I)LLogStore$Contents;"⟩, 9), (⟨"LogStore$Pool", "fetch", "(I)V"⟩, 9), (⟨"LogStore$Pool", "pageToLeave", "()I"⟩, 9)]
theorem lw_r1 : ∀ q ∈ lw_privs_1, lw_okq q := List.forall_mem_cons.mpr ⟨lw_p0, List.forall_mem_cons.mpr ⟨lw_p1, List.forall_mem_cons.mpr ⟨lw_p2, List.forall_mem_cons.mpr ⟨lw_p3, List.forall_mem_cons.mpr ⟨lw_p4, List.forall_mem_cons.mpr ⟨lw_p5, List.forall_mem_cons.mpr ⟨lw_p6, List.forall_mem_cons.mpr ⟨lw_p7, List.forall_mem_cons.mpr ⟨lw_p8, List.forall_mem_cons.mpr ⟨lw_p9, List.forall_mem_cons.mpr ⟨lw_p10, List.forall_mem_cons.mpr ⟨lw_p11, List.forall_mem_cons.mpr ⟨lw_p12, List.forall_mem_cons.mpr ⟨lw_p13, List.forall_mem_cons.mpr ⟨lw_p14, List.forall_mem_cons.mpr ⟨lw_p15, fun _ h => absurd h List.not_mem_nil⟩⟩⟩⟩⟩⟩⟩⟩⟩⟩⟩⟩⟩⟩⟩⟩
theorem lw_p16 : lw_okq (⟨"LogStore$Pool", "isDirty", "(I)Z"⟩, 9) := ⟨⟨by decide +kernel, by decide +kernel⟩, List.mem_of_getElem? (i := 91) (by decide +kernel), List.mem_of_getElem? (i := 342) (by decide +kernel), List.mem_of_getElem? (i := 343) (by decide +kernel)⟩
theorem lw_p17 : lw_okq (⟨"LogStore$Pool", "writeOut", "(I)V"⟩, 9) := ⟨⟨by decide +kernel, by decide +kernel⟩, List.mem_of_getElem? (i := 91) (by decide +kernel), List.mem_of_getElem? (i := 346) (by decide +kernel), List.mem_of_getElem? (i := 347) (by decide +kernel)⟩
theorem lw_p18 : lw_okq (⟨"LogStore$Log", "makeStable", "(I)V"⟩, 15) := ⟨⟨by decide +kernel, by decide +kernel⟩, List.mem_of_getElem? (i := 20) (by decide +kernel), List.mem_of_getElem? (i := 350) (by decide +kernel), List.mem_of_getElem? (i := 351) (by decide +kernel)⟩
theorem lw_p19 : lw_okq (⟨"LogStore$Contents", "copy", "(LLogStore$Contents;)V"⟩, 3) := ⟨⟨by decide +kernel, by decide +kernel⟩, List.mem_of_getElem? (i := 98) (by decide +kernel), List.mem_of_getElem? (i := 354) (by decide +kernel), List.mem_of_getElem? (i := 355) (by decide +kernel)⟩
theorem lw_p20 : lw_okq (⟨"LogStore$Pool", "valueAt", "(I)I"⟩, 9) := ⟨⟨by decide +kernel, by decide +kernel⟩, List.mem_of_getElem? (i := 91) (by decide +kernel), List.mem_of_getElem? (i := 358) (by decide +kernel), List.mem_of_getElem? (i := 359) (by decide +kernel)⟩
theorem lw_p21 : lw_okq (⟨"LogStore", "writeFor", "(LLogStore$Transaction;)V"⟩, 9) := ⟨⟨by decide +kernel, by decide +kernel⟩, List.mem_of_getElem? (i := 12) (by decide +kernel), List.mem_of_getElem? (i := 362) (by decide +kernel), List.mem_of_getElem? (i := 363) (by decide +kernel)⟩
theorem lw_p22 : lw_okq (⟨"LogStore$Log", "addUpdate", "(IIIIII)I"⟩, 15) := ⟨⟨by decide +kernel, by decide +kernel⟩, List.mem_of_getElem? (i := 20) (by decide +kernel), List.mem_of_getElem? (i := 367) (by decide +kernel), List.mem_of_getElem? (i := 368) (by decide +kernel)⟩
theorem lw_p23 : lw_okq (⟨"LogStore$Log", "append", "(II)I"⟩, 15) := ⟨⟨by decide +kernel, by decide +kernel⟩, List.mem_of_getElem? (i := 20) (by decide +kernel), List.mem_of_getElem? (i := 371) (by decide +kernel), List.mem_of_getElem? (i := 372) (by decide +kernel)⟩
theorem lw_p24 : lw_okq (⟨"LogStore$Pool", "apply", "(I)V"⟩, 9) := ⟨⟨by decide +kernel, by decide +kernel⟩, List.mem_of_getElem? (i := 91) (by decide +kernel), List.mem_of_getElem? (i := 375) (by decide +kernel), List.mem_of_getElem? (i := 376) (by decide +kernel)⟩
theorem lw_p25 : lw_okq (⟨"LogStore", "request", "(IIII)I"⟩, 9) := ⟨⟨by decide +kernel, by decide +kernel⟩, List.mem_of_getElem? (i := 12) (by decide +kernel), List.mem_of_getElem? (i := 383) (by decide +kernel), List.mem_of_getElem? (i := 384) (by decide +kernel)⟩
theorem lw_p26 : lw_okq (⟨"LogStore", "find", "(I)LLogStore$Transaction;"⟩, 9) := ⟨⟨by decide +kernel, by decide +kernel⟩, List.mem_of_getElem? (i := 12) (by decide +kernel), List.mem_of_getElem? (i := 387) (by decide +kernel), List.mem_of_getElem? (i := 388) (by decide +kernel)⟩
theorem lw_p27 : lw_okq (⟨"LogStore$Transaction", "ask", "(IIII)V"⟩, 9) := ⟨⟨by decide +kernel, by decide +kernel⟩, List.mem_of_getElem? (i := 230) (by decide +kernel), List.mem_of_getElem? (i := 394) (by decide +kernel), List.mem_of_getElem? (i := 395) (by decide +kernel)⟩
theorem lw_p28 : lw_okq (⟨"LogStore$LiveTable", "waitsForItself", "(LLogStore$Transaction;)Z"⟩, 2) := ⟨⟨by decide +kernel, by decide +kernel⟩, List.mem_of_getElem? (i := 153) (by decide +kernel), List.mem_of_getElem? (i := 399) (by decide +kernel), List.mem_of_getElem? (i := 400) (by decide +kernel)⟩
theorem lw_p29 : lw_okq (⟨"LogStore$LiveTable", "stepFrom", "(I)I"⟩, 2) := ⟨⟨by decide +kernel, by decide +kernel⟩, List.mem_of_getElem? (i := 153) (by decide +kernel), List.mem_of_getElem? (i := 403) (by decide +kernel), List.mem_of_getElem? (i := 404) (by decide +kernel)⟩
theorem lw_p30 : lw_okq (⟨"LogStore", "rollBack", "(LLogStore$Transaction;)V"⟩, 9) := ⟨⟨by decide +kernel, by decide +kernel⟩, List.mem_of_getElem? (i := 12) (by decide +kernel), List.mem_of_getElem? (i := 407) (by decide +kernel), List.mem_of_getElem? (i := 408) (by decide +kernel)⟩
theorem lw_p31 : lw_okq (⟨"LogStore$Log", "isOpen", "(I)Z"⟩, 15) := ⟨⟨by decide +kernel, by decide +kernel⟩, List.mem_of_getElem? (i := 20) (by decide +kernel), List.mem_of_getElem? (i := 411) (by decide +kernel), List.mem_of_getElem? (i := 412) (by decide +kernel)⟩
def lw_privs_2 : List (MethodName × Nat) := [(⟨"LogStore$Pool", "isDirty", "(I)Z"⟩, 9), (⟨"LogStore$Pool", "writeOut", "(I)V"⟩, 9), (⟨"LogStore$Log", "makeStable", "(I)V"⟩, 15), (⟨"LogStore$Contents", "copy", "(LLogStore$Contents;)V"⟩, 3), (⟨"LogStore$Pool", "valueAt", "(I)I"⟩, 9), (⟨"LogStore", "writeFor", "(LLogStore$Transaction;)V"⟩, 9), (⟨"LogStore$Log", "addUpdate", "(IIIIII)I"⟩, 15), (⟨"LogStore$Log", "append", "(II)I"⟩, 15), (⟨"LogStore$Pool", "apply", "(I)V"⟩, 9), (⟨"LogStore", "request", "(IIII)I"⟩, 9), (⟨"LogStore", "find", "(I)LLogStore$Transaction;"⟩, 9), (⟨"LogStore$Transaction", "ask", "(IIII)V"⟩, 9), (⟨"LogStore$LiveTable", "waitsForItself", "(LLogStore$Transaction;)Z"⟩, 2), (⟨"LogStore$LiveTable", "stepFrom", "(I)I"⟩, 2), (⟨"LogStore", "rollBack", "(LLogStore$Transaction;)V"⟩, 9), (⟨"LogStore$Log", "isOpen", "(I)Z"⟩, 15)]
theorem lw_r2 : ∀ q ∈ lw_privs_2, lw_okq q := List.forall_mem_cons.mpr ⟨lw_p16, List.forall_mem_cons.mpr ⟨lw_p17, List.forall_mem_cons.mpr ⟨lw_p18, List.forall_mem_cons.mpr ⟨lw_p19, List.forall_mem_cons.mpr ⟨lw_p20, List.forall_mem_cons.mpr ⟨lw_p21, List.forall_mem_cons.mpr ⟨lw_p22, List.forall_mem_cons.mpr ⟨lw_p23, List.forall_mem_cons.mpr ⟨lw_p24, List.forall_mem_cons.mpr ⟨lw_p25, List.forall_mem_cons.mpr ⟨lw_p26, List.forall_mem_cons.mpr ⟨lw_p27, List.forall_mem_cons.mpr ⟨lw_p28, List.forall_mem_cons.mpr ⟨lw_p29, List.forall_mem_cons.mpr ⟨lw_p30, List.forall_mem_cons.mpr ⟨lw_p31, fun _ h => absurd h List.not_mem_nil⟩⟩⟩⟩⟩⟩⟩⟩⟩⟩⟩⟩⟩⟩⟩⟩
theorem lw_p32 : lw_okq (⟨"LogStore$Pool", "takeBack", "(I)V"⟩, 9) := ⟨⟨by decide +kernel, by decide +kernel⟩, List.mem_of_getElem? (i := 91) (by decide +kernel), List.mem_of_getElem? (i := 415) (by decide +kernel), List.mem_of_getElem? (i := 416) (by decide +kernel)⟩
theorem lw_p33 : lw_okq (⟨"LogStore$Log", "addClr", "(I)I"⟩, 15) := ⟨⟨by decide +kernel, by decide +kernel⟩, List.mem_of_getElem? (i := 20) (by decide +kernel), List.mem_of_getElem? (i := 420) (by decide +kernel), List.mem_of_getElem? (i := 421) (by decide +kernel)⟩
theorem lw_p34 : lw_okq (⟨"LogStore$Log", "addCommit", "(I)V"⟩, 15) := ⟨⟨by decide +kernel, by decide +kernel⟩, List.mem_of_getElem? (i := 20) (by decide +kernel), List.mem_of_getElem? (i := 433) (by decide +kernel), List.mem_of_getElem? (i := 434) (by decide +kernel)⟩
theorem lw_p35 : lw_okq (⟨"LogStore$Log", "addCheckpoint", "([I)I"⟩, 15) := ⟨⟨by decide +kernel, by decide +kernel⟩, List.mem_of_getElem? (i := 20) (by decide +kernel), List.mem_of_getElem? (i := 450) (by decide +kernel), List.mem_of_getElem? (i := 451) (by decide +kernel)⟩
theorem lw_p36 : lw_okq (⟨"LogStore$Log", "loseUnstable", "()V"⟩, 15) := ⟨⟨by decide +kernel, by decide +kernel⟩, List.mem_of_getElem? (i := 20) (by decide +kernel), List.mem_of_getElem? (i := 473) (by decide +kernel), List.mem_of_getElem? (i := 474) (by decide +kernel)⟩
theorem lw_p37 : lw_okq (⟨"LogStore$Log", "forget", "(I)V"⟩, 15) := ⟨⟨by decide +kernel, by decide +kernel⟩, List.mem_of_getElem? (i := 20) (by decide +kernel), List.mem_of_getElem? (i := 477) (by decide +kernel), List.mem_of_getElem? (i := 478) (by decide +kernel)⟩
theorem lw_p38 : lw_okq (⟨"LogStore$Pool", "empty", "()V"⟩, 9) := ⟨⟨by decide +kernel, by decide +kernel⟩, List.mem_of_getElem? (i := 91) (by decide +kernel), List.mem_of_getElem? (i := 481) (by decide +kernel), List.mem_of_getElem? (i := 482) (by decide +kernel)⟩
theorem lw_p39 : lw_okq (⟨"LogStore$LiveTable", "leaveAllInDoubt", "()V"⟩, 2) := ⟨⟨by decide +kernel, by decide +kernel⟩, List.mem_of_getElem? (i := 153) (by decide +kernel), List.mem_of_getElem? (i := 485) (by decide +kernel), List.mem_of_getElem? (i := 486) (by decide +kernel)⟩
theorem lw_p40 : lw_okq (⟨"LogStore$Recovery", "startAnew", "()V"⟩, 6) := ⟨⟨by decide +kernel, by decide +kernel⟩, List.mem_of_getElem? (i := 169) (by decide +kernel), List.mem_of_getElem? (i := 490) (by decide +kernel), List.mem_of_getElem? (i := 491) (by decide +kernel)⟩
theorem lw_p41 : lw_okq (⟨"LogStore$Recovery", "makeUnit", "()V"⟩, 6) := ⟨⟨by decide +kernel, by decide +kernel⟩, List.mem_of_getElem? (i := 169) (by decide +kernel), List.mem_of_getElem? (i := 498) (by decide +kernel), List.mem_of_getElem? (i := 499) (by decide +kernel)⟩
theorem lw_p42 : lw_okq (⟨"LogStore$Recovery", "analyse", "()V"⟩, 6) := ⟨⟨by decide +kernel, by decide +kernel⟩, List.mem_of_getElem? (i := 169) (by decide +kernel), List.mem_of_getElem? (i := 502) (by decide +kernel), List.mem_of_getElem? (i := 503) (by decide +kernel)⟩
theorem lw_p43 : lw_okq (⟨"LogStore$Recovery", "fillTable", "()V"⟩, 6) := ⟨⟨by decide +kernel, by decide +kernel⟩, List.mem_of_getElem? (i := 169) (by decide +kernel), List.mem_of_getElem? (i := 506) (by decide +kernel), List.mem_of_getElem? (i := 507) (by decide +kernel)⟩
theorem lw_p44 : lw_okq (⟨"LogStore$Log", "isChange", "(I)Z"⟩, 15) := ⟨⟨by decide +kernel, by decide +kernel⟩, List.mem_of_getElem? (i := 20) (by decide +kernel), List.mem_of_getElem? (i := 510) (by decide +kernel), List.mem_of_getElem? (i := 511) (by decide +kernel)⟩
theorem lw_p45 : lw_okq (⟨"LogStore$Recovery", "repeatNext", "()V"⟩, 6) := ⟨⟨by decide +kernel, by decide +kernel⟩, List.mem_of_getElem? (i := 169) (by decide +kernel), List.mem_of_getElem? (i := 515) (by decide +kernel), List.mem_of_getElem? (i := 516) (by decide +kernel)⟩
theorem lw_p46 : lw_okq (⟨"LogStore$Pool", "redo", "(I)V"⟩, 9) := ⟨⟨by decide +kernel, by decide +kernel⟩, List.mem_of_getElem? (i := 91) (by decide +kernel), List.mem_of_getElem? (i := 519) (by decide +kernel), List.mem_of_getElem? (i := 520) (by decide +kernel)⟩
theorem lw_p47 : lw_okq (⟨"LogStore$Recovery", "takeBackNext", "()V"⟩, 6) := ⟨⟨by decide +kernel, by decide +kernel⟩, List.mem_of_getElem? (i := 169) (by decide +kernel), List.mem_of_getElem? (i := 523) (by decide +kernel), List.mem_of_getElem? (i := 524) (by decide +kernel)⟩
def lw_privs_3 : List (MethodName × Nat) := [(⟨"LogStore$Pool", "takeBack", "(I)V"⟩, 9), (⟨"LogStore$Log", "addClr", "(I)I"⟩, 15), (⟨"LogStore$Log", "addCommit", "(I)V"⟩, 15), (⟨"LogStore$Log", "addCheckpoint", "([I)I"⟩, 15), (⟨"LogStore$Log", "loseUnstable", "()V"⟩, 15), (⟨"LogStore$Log", "forget", "(I)V"⟩, 15), (⟨"LogStore$Pool", "empty", "()V"⟩, 9), (⟨"LogStore$LiveTable", "leaveAllInDoubt", "()V"⟩, 2), (⟨"LogStore$Recovery", "startAnew", "()V"⟩, 6), (⟨"LogStore$Recovery", "makeUnit", "()V"⟩, 6), (⟨"LogStore$Recovery", "analyse", "()V"⟩, 6), (⟨"LogStore$Recovery", "fillTable", "()V"⟩, 6), (⟨"LogStore$Log", "isChange", "(I)Z"⟩, 15), (⟨"LogStore$Recovery", "repeatNext", "()V"⟩, 6), (⟨"LogStore$Pool", "redo", "(I)V"⟩, 9), (⟨"LogStore$Recovery", "takeBackNext", "()V"⟩, 6)]
theorem lw_r3 : ∀ q ∈ lw_privs_3, lw_okq q := List.forall_mem_cons.mpr ⟨lw_p32, List.forall_mem_cons.mpr ⟨lw_p33, List.forall_mem_cons.mpr ⟨lw_p34, List.forall_mem_cons.mpr ⟨lw_p35, List.forall_mem_cons.mpr ⟨lw_p36, List.forall_mem_cons.mpr ⟨lw_p37, List.forall_mem_cons.mpr ⟨lw_p38, List.forall_mem_cons.mpr ⟨lw_p39, List.forall_mem_cons.mpr ⟨lw_p40, List.forall_mem_cons.mpr ⟨lw_p41, List.forall_mem_cons.mpr ⟨lw_p42, List.forall_mem_cons.mpr ⟨lw_p43, List.forall_mem_cons.mpr ⟨lw_p44, List.forall_mem_cons.mpr ⟨lw_p45, List.forall_mem_cons.mpr ⟨lw_p46, List.forall_mem_cons.mpr ⟨lw_p47, fun _ h => absurd h List.not_mem_nil⟩⟩⟩⟩⟩⟩⟩⟩⟩⟩⟩⟩⟩⟩⟩⟩
theorem lw_p48 : lw_okq (⟨"LogStore$Log", "greatestOpen", "()I"⟩, 15) := ⟨⟨by decide +kernel, by decide +kernel⟩, List.mem_of_getElem? (i := 20) (by decide +kernel), List.mem_of_getElem? (i := 527) (by decide +kernel), List.mem_of_getElem? (i := 528) (by decide +kernel)⟩
theorem lw_p49 : lw_okq (⟨"LogStore$Recovery", "isFinished", "()Z"⟩, 6) := ⟨⟨by decide +kernel, by decide +kernel⟩, List.mem_of_getElem? (i := 169) (by decide +kernel), List.mem_of_getElem? (i := 533) (by decide +kernel), List.mem_of_getElem? (i := 534) (by decide +kernel)⟩
theorem lw_p50 : lw_okq (⟨"LogStore", "comeUp", "()V"⟩, 9) := ⟨⟨by decide +kernel, by decide +kernel⟩, List.mem_of_getElem? (i := 12) (by decide +kernel), List.mem_of_getElem? (i := 537) (by decide +kernel), List.mem_of_getElem? (i := 538) (by decide +kernel)⟩
theorem lw_p51 : lw_okq (⟨"LogStore$Pool", "leastKeyAbove", "(I)I"⟩, 9) := ⟨⟨by decide +kernel, by decide +kernel⟩, List.mem_of_getElem? (i := 91) (by decide +kernel), List.mem_of_getElem? (i := 570) (by decide +kernel), List.mem_of_getElem? (i := 571) (by decide +kernel)⟩
theorem lw_p52 : lw_okq (⟨"LogStoreModel", "live", "(I)Z"⟩, 37) := ⟨⟨by decide +kernel, by decide +kernel⟩, List.mem_of_getElem? (i := 582) (by decide +kernel), List.mem_of_getElem? (i := 705) (by decide +kernel), List.mem_of_getElem? (i := 706) (by decide +kernel)⟩
theorem lw_p53 : lw_okq (⟨"LogStoreModel", "request", "(IIII)I"⟩, 37) := ⟨⟨by decide +kernel, by decide +kernel⟩, List.mem_of_getElem? (i := 582) (by decide +kernel), List.mem_of_getElem? (i := 713) (by decide +kernel), List.mem_of_getElem? (i := 714) (by decide +kernel)⟩
theorem lw_p54 : lw_okq (⟨"LogStoreModel", "isIn", "(II)Z"⟩, 37) := ⟨⟨by decide +kernel, by decide +kernel⟩, List.mem_of_getElem? (i := 582) (by decide +kernel), List.mem_of_getElem? (i := 717) (by decide +kernel), List.mem_of_getElem? (i := 718) (by decide +kernel)⟩
theorem lw_p55 : lw_okq (⟨"LogStoreModel", "fit", "(I)Z"⟩, 37) := ⟨⟨by decide +kernel, by decide +kernel⟩, List.mem_of_getElem? (i := 582) (by decide +kernel), List.mem_of_getElem? (i := 721) (by decide +kernel), List.mem_of_getElem? (i := 722) (by decide +kernel)⟩
theorem lw_p56 : lw_okq (⟨"LogStoreModel", "conflicts", "(II)Z"⟩, 37) := ⟨⟨by decide +kernel, by decide +kernel⟩, List.mem_of_getElem? (i := 582) (by decide +kernel), List.mem_of_getElem? (i := 725) (by decide +kernel), List.mem_of_getElem? (i := 726) (by decide +kernel)⟩
theorem lw_p57 : lw_okq (⟨"LogStoreModel", "ahead", "(II)Z"⟩, 37) := ⟨⟨by decide +kernel, by decide +kernel⟩, List.mem_of_getElem? (i := 582) (by decide +kernel), List.mem_of_getElem? (i := 729) (by decide +kernel), List.mem_of_getElem? (i := 730) (by decide +kernel)⟩
theorem lw_p58 : lw_okq (⟨"LogStoreModel", "grant", "(I)V"⟩, 37) := ⟨⟨by decide +kernel, by decide +kernel⟩, List.mem_of_getElem? (i := 582) (by decide +kernel), List.mem_of_getElem? (i := 733) (by decide +kernel), List.mem_of_getElem? (i := 734) (by decide +kernel)⟩
theorem lw_p59 : lw_okq (⟨"LogStoreModel", "find", "(I)I"⟩, 37) := ⟨⟨by decide +kernel, by decide +kernel⟩, List.mem_of_getElem? (i := 582) (by decide +kernel), List.mem_of_getElem? (i := 737) (by decide +kernel), List.mem_of_getElem? (i := 738) (by decide +kernel)⟩
theorem lw_p60 : lw_okq (⟨"LogStoreModel", "keyAt", "(I)I"⟩, 37) := ⟨⟨by decide +kernel, by decide +kernel⟩, List.mem_of_getElem? (i := 582) (by decide +kernel), List.mem_of_getElem? (i := 741) (by decide +kernel), List.mem_of_getElem? (i := 742) (by decide +kernel)⟩
theorem lw_p61 : lw_okq (⟨"LogStoreModel", "fetch", "(I)V"⟩, 37) := ⟨⟨by decide +kernel, by decide +kernel⟩, List.mem_of_getElem? (i := 582) (by decide +kernel), List.mem_of_getElem? (i := 745) (by decide +kernel), List.mem_of_getElem? (i := 746) (by decide +kernel)⟩
theorem lw_p62 : lw_okq (⟨"LogStoreModel", "spill", "(I)V"⟩, 37) := ⟨⟨by decide +kernel, by decide +kernel⟩, List.mem_of_getElem? (i := 582) (by decide +kernel), List.mem_of_getElem? (i := 749) (by decide +kernel), List.mem_of_getElem? (i := 750) (by decide +kernel)⟩
theorem lw_p63 : lw_okq (⟨"LogStoreModel", "countOf", "(I)I"⟩, 37) := ⟨⟨by decide +kernel, by decide +kernel⟩, List.mem_of_getElem? (i := 582) (by decide +kernel), List.mem_of_getElem? (i := 753) (by decide +kernel), List.mem_of_getElem? (i := 754) (by decide +kernel)⟩
def lw_privs_4 : List (MethodName × Nat) := [(⟨"LogStore$Log", "greatestOpen", "()I"⟩, 15), (⟨"LogStore$Recovery", "isFinished", "()Z"⟩, 6), (⟨"LogStore", "comeUp", "()V"⟩, 9), (⟨"LogStore$Pool", "leastKeyAbove", "(I)I"⟩, 9), (⟨"LogStoreModel", "live", "(I)Z"⟩, 37), (⟨"LogStoreModel", "request", "(IIII)I"⟩, 37), (⟨"LogStoreModel", "isIn", "(II)Z"⟩, 37), (⟨"LogStoreModel", "fit", "(I)Z"⟩, 37), (⟨"LogStoreModel", "conflicts", "(II)Z"⟩, 37), (⟨"LogStoreModel", "ahead", "(II)Z"⟩, 37), (⟨"LogStoreModel", "grant", "(I)V"⟩, 37), (⟨"LogStoreModel", "find", "(I)I"⟩, 37), (⟨"LogStoreModel", "keyAt", "(I)I"⟩, 37), (⟨"LogStoreModel", "fetch", "(I)V"⟩, 37), (⟨"LogStoreModel", "spill", "(I)V"⟩, 37), (⟨"LogStoreModel", "countOf", "(I)I"⟩, 37)]
theorem lw_r4 : ∀ q ∈ lw_privs_4, lw_okq q := List.forall_mem_cons.mpr ⟨lw_p48, List.forall_mem_cons.mpr ⟨lw_p49, List.forall_mem_cons.mpr ⟨lw_p50, List.forall_mem_cons.mpr ⟨lw_p51, List.forall_mem_cons.mpr ⟨lw_p52, List.forall_mem_cons.mpr ⟨lw_p53, List.forall_mem_cons.mpr ⟨lw_p54, List.forall_mem_cons.mpr ⟨lw_p55, List.forall_mem_cons.mpr ⟨lw_p56, List.forall_mem_cons.mpr ⟨lw_p57, List.forall_mem_cons.mpr ⟨lw_p58, List.forall_mem_cons.mpr ⟨lw_p59, List.forall_mem_cons.mpr ⟨lw_p60, List.forall_mem_cons.mpr ⟨lw_p61, List.forall_mem_cons.mpr ⟨lw_p62, List.forall_mem_cons.mpr ⟨lw_p63, fun _ h => absurd h List.not_mem_nil⟩⟩⟩⟩⟩⟩⟩⟩⟩⟩⟩⟩⟩⟩⟩⟩
theorem lw_p64 : lw_okq (⟨"LogStoreModel", "put", "(III)I"⟩, 37) := ⟨⟨by decide +kernel, by decide +kernel⟩, List.mem_of_getElem? (i := 582) (by decide +kernel), List.mem_of_getElem? (i := 757) (by decide +kernel), List.mem_of_getElem? (i := 758) (by decide +kernel)⟩
theorem lw_p65 : lw_okq (⟨"LogStoreModel", "apply", "(I)V"⟩, 37) := ⟨⟨by decide +kernel, by decide +kernel⟩, List.mem_of_getElem? (i := 582) (by decide +kernel), List.mem_of_getElem? (i := 761) (by decide +kernel), List.mem_of_getElem? (i := 762) (by decide +kernel)⟩
theorem lw_p66 : lw_okq (⟨"LogStoreModel", "ring", "(I)Z"⟩, 37) := ⟨⟨by decide +kernel, by decide +kernel⟩, List.mem_of_getElem? (i := 582) (by decide +kernel), List.mem_of_getElem? (i := 765) (by decide +kernel), List.mem_of_getElem? (i := 766) (by decide +kernel)⟩
theorem lw_p67 : lw_okq (⟨"LogStoreModel", "waitsFor", "(II)Z"⟩, 37) := ⟨⟨by decide +kernel, by decide +kernel⟩, List.mem_of_getElem? (i := 582) (by decide +kernel), List.mem_of_getElem? (i := 769) (by decide +kernel), List.mem_of_getElem? (i := 770) (by decide +kernel)⟩
theorem lw_p68 : lw_okq (⟨"LogStoreModel", "drop", "(I)V"⟩, 37) := ⟨⟨by decide +kernel, by decide +kernel⟩, List.mem_of_getElem? (i := 582) (by decide +kernel), List.mem_of_getElem? (i := 773) (by decide +kernel), List.mem_of_getElem? (i := 774) (by decide +kernel)⟩
theorem lw_p69 : lw_okq (⟨"LogStoreModel", "open", "(I)I"⟩, 37) := ⟨⟨by decide +kernel, by decide +kernel⟩, List.mem_of_getElem? (i := 582) (by decide +kernel), List.mem_of_getElem? (i := 777) (by decide +kernel), List.mem_of_getElem? (i := 778) (by decide +kernel)⟩
theorem lw_p70 : lw_okq (⟨"LogStoreModel", "committed", "(I)Z"⟩, 37) := ⟨⟨by decide +kernel, by decide +kernel⟩, List.mem_of_getElem? (i := 582) (by decide +kernel), List.mem_of_getElem? (i := 781) (by decide +kernel), List.mem_of_getElem? (i := 782) (by decide +kernel)⟩
theorem lw_p71 : lw_okq (⟨"LogStoreModel", "takeBack", "(I)V"⟩, 37) := ⟨⟨by decide +kernel, by decide +kernel⟩, List.mem_of_getElem? (i := 582) (by decide +kernel), List.mem_of_getElem? (i := 785) (by decide +kernel), List.mem_of_getElem? (i := 786) (by decide +kernel)⟩
theorem lw_p72 : lw_okq (⟨"LogStoreModel", "unlock", "(I)V"⟩, 37) := ⟨⟨by decide +kernel, by decide +kernel⟩, List.mem_of_getElem? (i := 582) (by decide +kernel), List.mem_of_getElem? (i := 789) (by decide +kernel), List.mem_of_getElem? (i := 790) (by decide +kernel)⟩
theorem lw_p73 : lw_okq (⟨"LogStoreModel", "settle", "()V"⟩, 37) := ⟨⟨by decide +kernel, by decide +kernel⟩, List.mem_of_getElem? (i := 582) (by decide +kernel), List.mem_of_getElem? (i := 793) (by decide +kernel), List.mem_of_getElem? (i := 794) (by decide +kernel)⟩
theorem lw_p74 : lw_okq (⟨"LogStoreModel", "firm", "()I"⟩, 37) := ⟨⟨by decide +kernel, by decide +kernel⟩, List.mem_of_getElem? (i := 582) (by decide +kernel), List.mem_of_getElem? (i := 797) (by decide +kernel), List.mem_of_getElem? (i := 798) (by decide +kernel)⟩
theorem lw_p75 : lw_okq (⟨"LogStoreModel", "firstFit", "()I"⟩, 37) := ⟨⟨by decide +kernel, by decide +kernel⟩, List.mem_of_getElem? (i := 582) (by decide +kernel), List.mem_of_getElem? (i := 801) (by decide +kernel), List.mem_of_getElem? (i := 802) (by decide +kernel)⟩
theorem lw_p76 : lw_okq (⟨"LogStoreModel", "unit", "()V"⟩, 37) := ⟨⟨by decide +kernel, by decide +kernel⟩, List.mem_of_getElem? (i := 582) (by decide +kernel), List.mem_of_getElem? (i := 837) (by decide +kernel), List.mem_of_getElem? (i := 838) (by decide +kernel)⟩
theorem lw_p77 : lw_okq (⟨"LogStoreModel", "analyse", "()V"⟩, 37) := ⟨⟨by decide +kernel, by decide +kernel⟩, List.mem_of_getElem? (i := 582) (by decide +kernel), List.mem_of_getElem? (i := 841) (by decide +kernel), List.mem_of_getElem? (i := 842) (by decide +kernel)⟩
theorem lw_p78 : lw_okq (⟨"LogStoreModel", "redo", "(I)V"⟩, 37) := ⟨⟨by decide +kernel, by decide +kernel⟩, List.mem_of_getElem? (i := 582) (by decide +kernel), List.mem_of_getElem? (i := 845) (by decide +kernel), List.mem_of_getElem? (i := 846) (by decide +kernel)⟩
theorem lw_p79 : lw_okq (⟨"LogStoreModel", "finish", "()V"⟩, 37) := ⟨⟨by decide +kernel, by decide +kernel⟩, List.mem_of_getElem? (i := 582) (by decide +kernel), List.mem_of_getElem? (i := 849) (by decide +kernel), List.mem_of_getElem? (i := 850) (by decide +kernel)⟩
def lw_privs_5 : List (MethodName × Nat) := [(⟨"LogStoreModel", "put", "(III)I"⟩, 37), (⟨"LogStoreModel", "apply", "(I)V"⟩, 37), (⟨"LogStoreModel", "ring", "(I)Z"⟩, 37), (⟨"LogStoreModel", "waitsFor", "(II)Z"⟩, 37), (⟨"LogStoreModel", "drop", "(I)V"⟩, 37), (⟨"LogStoreModel", "open", "(I)I"⟩, 37), (⟨"LogStoreModel", "committed", "(I)Z"⟩, 37), (⟨"LogStoreModel", "takeBack", "(I)V"⟩, 37), (⟨"LogStoreModel", "unlock", "(I)V"⟩, 37), (⟨"LogStoreModel", "settle", "()V"⟩, 37), (⟨"LogStoreModel", "firm", "()I"⟩, 37), (⟨"LogStoreModel", "firstFit", "()I"⟩, 37), (⟨"LogStoreModel", "unit", "()V"⟩, 37), (⟨"LogStoreModel", "analyse", "()V"⟩, 37), (⟨"LogStoreModel", "redo", "(I)V"⟩, 37), (⟨"LogStoreModel", "finish", "()V"⟩, 37)]
theorem lw_r5 : ∀ q ∈ lw_privs_5, lw_okq q := List.forall_mem_cons.mpr ⟨lw_p64, List.forall_mem_cons.mpr ⟨lw_p65, List.forall_mem_cons.mpr ⟨lw_p66, List.forall_mem_cons.mpr ⟨lw_p67, List.forall_mem_cons.mpr ⟨lw_p68, List.forall_mem_cons.mpr ⟨lw_p69, List.forall_mem_cons.mpr ⟨lw_p70, List.forall_mem_cons.mpr ⟨lw_p71, List.forall_mem_cons.mpr ⟨lw_p72, List.forall_mem_cons.mpr ⟨lw_p73, List.forall_mem_cons.mpr ⟨lw_p74, List.forall_mem_cons.mpr ⟨lw_p75, List.forall_mem_cons.mpr ⟨lw_p76, List.forall_mem_cons.mpr ⟨lw_p77, List.forall_mem_cons.mpr ⟨lw_p78, List.forall_mem_cons.mpr ⟨lw_p79, fun _ h => absurd h List.not_mem_nil⟩⟩⟩⟩⟩⟩⟩⟩⟩⟩⟩⟩⟩⟩⟩⟩
theorem lw_p80 : lw_okq (⟨"LogStoreModel", "known", "(I)Z"⟩, 37) := ⟨⟨by decide +kernel, by decide +kernel⟩, List.mem_of_getElem? (i := 582) (by decide +kernel), List.mem_of_getElem? (i := 861) (by decide +kernel), List.mem_of_getElem? (i := 862) (by decide +kernel)⟩
theorem lw_p81 : lw_okq (⟨"LogStoreModel", "valueAt", "(I)I"⟩, 37) := ⟨⟨by decide +kernel, by decide +kernel⟩, List.mem_of_getElem? (i := 582) (by decide +kernel), List.mem_of_getElem? (i := 881) (by decide +kernel), List.mem_of_getElem? (i := 882) (by decide +kernel)⟩
def lw_privs_6 : List (MethodName × Nat) := [(⟨"LogStoreModel", "known", "(I)Z"⟩, 37), (⟨"LogStoreModel", "valueAt", "(I)I"⟩, 37)]
theorem lw_r6 : ∀ q ∈ lw_privs_6, lw_okq q := List.forall_mem_cons.mpr ⟨lw_p80, List.forall_mem_cons.mpr ⟨lw_p81, fun _ h => absurd h List.not_mem_nil⟩⟩
def lw_privs : List (MethodName × Nat) := lw_privs_1 ++ (lw_privs_2 ++ (lw_privs_3 ++ (lw_privs_4 ++ (lw_privs_5 ++ (lw_privs_6)))))
def lw_tbl : List Cond := k2_sels lw_privs ++ tables_1
theorem lw_privs_ok : ∀ q ∈ lw_privs, lw_okq q := by
  show ∀ q ∈ lw_privs_1 ++ (lw_privs_2 ++ (lw_privs_3 ++ (lw_privs_4 ++ (lw_privs_5 ++ (lw_privs_6))))), lw_okq q
  exact List.forall_mem_append.mpr ⟨lw_r1, List.forall_mem_append.mpr ⟨lw_r2, List.forall_mem_append.mpr ⟨lw_r3, List.forall_mem_append.mpr ⟨lw_r4, List.forall_mem_append.mpr ⟨lw_r5, lw_r6⟩⟩⟩⟩⟩
end
section
-- ===== the words: AW those that a contract may ask for, NW the links between nest mates =====
def isNst (w : Cond) : Bool := match w with
  | .fieldLinkNest .. => true
  | .methodLinkNest .. => true
  | _ => false
def AW : List Cond := lw_tbl.filter goodWord
def NW : List Cond := lw_tbl.filter isNst
theorem AW_ok : ∀ w ∈ AW, (w.onTables && w.keeps) = true ∨ ∃ ty, w = .arrayClass ty := fun w h => good_of_word (List.mem_filter.mp h).2
theorem NW_ok : ∀ w ∈ NW, isNst w = true := fun w h => (List.mem_filter.mp h).2
theorem aw_in {w : Cond} (h : w ∈ lw_tbl) (g : goodWord w = true) : w ∈ AW := List.mem_filter.mpr ⟨h, g⟩
theorem nw_in {w : Cond} (h : w ∈ lw_tbl) (g : isNst w = true) : w ∈ NW := List.mem_filter.mpr ⟨h, g⟩
theorem nst_on {w : Cond} (h : isNst w = true) : w.onTables = true := by cases w <;> first | rfl | (simp [isNst] at h)
theorem nw_mv {w : Cond} (h : isNst w = true) {s U : State} (hW : s.WarmedH U.vm) (hz : va_Nw w s) : va_Nw w U := by
  cases w <;> first | exact va_Nw.warmF hW hz | exact va_Nw.warmM hW hz | (simp [isNst] at h)
def AIs (U : State) : Prop := ∃ (comp c : ClassId) (k : Class), U.vm.findClass "[I" = some comp ∧ (U.vm.classes.findIdx? fun (x : Class) => match x.kind with | .array component _ => component == comp | _ => false) = some c ∧ U.vm.classes[c]? = some k ∧ k.kind = .array comp (.array .int) ∧ U.vm.findClass "[[I" = some c
theorem AIs_mv {u U : State} (hvm : u.vm.Alike U.vm) (h : AIs u) : AIs U := by
  obtain ⟨comp, c, k, h1, h2, h3, h4, h5⟩ := h
  obtain ⟨k', hk', he⟩ := hvm.2.2 _ _ h3
  refine ⟨comp, c, k', by rw [hvm.findClass]; exact h1, ?_, hk', by rw [he]; exact h4, by rw [hvm.findClass]; exact h5⟩
  have e1 := va_idx_bare U.vm comp
  have e2 := va_idx_bare u.vm comp
  first
    | rw [hvm.bare_eq] at e1; exact (e1.symm.trans e2).trans h2
    | rw [← hvm.bare_eq] at e1; exact (e1.symm.trans e2).trans h2
def AOs (U : State) : Prop := va_AO "LogStore$Transaction" U ∧ va_AO "LogStore$Contents" U ∧ AIs U
theorem AOs_mv {u U : State} (hvm : u.vm.Alike U.vm) (h : AOs u) : AOs U := ⟨h.1.moved hvm, h.2.1.moved hvm, AIs_mv hvm h.2.2⟩
end
section
-- printed by wip/whole/src/walk.py: classes, fields, methods
def R_X : String := "LogStore"
def F_X : u_T := fun k => match k with
  | 0 => ("LogStore", "log", "LLogStore$Log;", true)
  | 1 => ("LogStore", "pool", "LLogStore$Pool;", true)
  | 2 => ("LogStore", "live", "LLogStore$LiveTable;", true)
  | 3 => ("LogStore", "recovery", "LLogStore$Recovery;", true)
  | 4 => ("LogStore", "transactions", "[LLogStore$Transaction;", true)
  | 5 => ("LogStore", "begun", "I", false)
  | 6 => ("LogStore", "requests", "I", false)
  | 7 => ("LogStore", "crashes", "I", false)
  | _ => ("LogStore", "isUp", "Z", false)
def t_X : Nat → FieldType := fun k => match k with
  | 0 => .object "LogStore$Log"
  | 1 => .object "LogStore$Pool"
  | 2 => .object "LogStore$LiveTable"
  | 3 => .object "LogStore$Recovery"
  | 4 => .array (.object "LogStore$Transaction")
  | 5 => .int
  | 6 => .int
  | 7 => .int
  | _ => .boolean
def k_X : List Nat := [2, 2, 2, 2, 2, 0, 0, 0, 1]
def R_XL : String := "LogStore$Log"
def F_XL : u_T := fun k => match k with
  | 0 => ("LogStore$Log", "kinds", "[I", true)
  | 1 => ("LogStore$Log", "owners", "[I", true)
  | 2 => ("LogStore$Log", "places", "[I", true)
  | 3 => ("LogStore$Log", "keysBefore", "[I", true)
  | 4 => ("LogStore$Log", "valuesBefore", "[I", true)
  | 5 => ("LogStore$Log", "keysThen", "[I", true)
  | 6 => ("LogStore$Log", "valuesThen", "[I", true)
  | 7 => ("LogStore$Log", "partners", "[I", true)
  | 8 => ("LogStore$Log", "commits", "[I", true)
  | 9 => ("LogStore$Log", "checkpointLsns", "[I", true)
  | 10 => ("LogStore$Log", "checkpointRecs", "[[I", true)
  | 11 => ("LogStore$Log", "size", "I", false)
  | 12 => ("LogStore$Log", "stable", "I", false)
  | 13 => ("LogStore$Log", "updates", "I", false)
  | _ => ("LogStore$Log", "checkpoints", "I", false)
def t_XL : Nat → FieldType := fun k => match k with
  | 0 => .array .int
  | 1 => .array .int
  | 2 => .array .int
  | 3 => .array .int
  | 4 => .array .int
  | 5 => .array .int
  | 6 => .array .int
  | 7 => .array .int
  | 8 => .array .int
  | 9 => .array .int
  | 10 => .array (.array .int)
  | 11 => .int
  | 12 => .int
  | 13 => .int
  | _ => .int
def k_XL : List Nat := [2, 2, 2, 2, 2, 2, 2, 2, 2, 2, 2, 0, 0, 0, 0]
def R_XP : String := "LogStore$Pool"
def F_XP : u_T := fun k => match k with
  | 0 => ("LogStore$Pool", "log", "LLogStore$Log;", true)
  | 1 => ("LogStore$Pool", "disk", "[LLogStore$Contents;", true)
  | 2 => ("LogStore$Pool", "frames", "[LLogStore$Contents;", true)
  | 3 => ("LogStore$Pool", "isIn", "[Z", true)
  | 4 => ("LogStore$Pool", "recs", "[I", true)
  | 5 => ("LogStore$Pool", "fetchedAt", "[I", true)
  | 6 => ("LogStore$Pool", "fetches", "I", false)
  | 7 => ("LogStore$Pool", "cameIn", "I", false)
  | _ => ("LogStore$Pool", "written", "I", false)
def t_XP : Nat → FieldType := fun k => match k with
  | 0 => .object "LogStore$Log"
  | 1 => .array (.object "LogStore$Contents")
  | 2 => .array (.object "LogStore$Contents")
  | 3 => .array .boolean
  | 4 => .array .int
  | 5 => .array .int
  | 6 => .int
  | 7 => .int
  | _ => .int
def k_XP : List Nat := [2, 2, 2, 2, 2, 2, 0, 0, 0]
def R_XC : String := "LogStore$Contents"
def F_XC : u_T := fun k => match k with
  | 0 => ("LogStore$Contents", "keys", "[I", true)
  | 1 => ("LogStore$Contents", "values", "[I", true)
  | _ => ("LogStore$Contents", "lsn", "I", false)
def t_XC : Nat → FieldType := fun k => match k with
  | 0 => .array .int
  | 1 => .array .int
  | _ => .int
def k_XC : List Nat := [2, 2, 0]
def R_XV : String := "LogStore$LiveTable"
def F_XV : u_T := fun k => match k with
  | 0 => ("LogStore$LiveTable", "seats", "[LLogStore$Transaction;", true)
  | _ => ("LogStore$LiveTable", "held", "[[I", true)
def t_XV : Nat → FieldType := fun k => match k with
  | 0 => .array (.object "LogStore$Transaction")
  | _ => .array (.array .int)
def k_XV : List Nat := [2, 2]
def R_XR : String := "LogStore$Recovery"
def F_XR : u_T := fun k => match k with
  | 0 => ("LogStore$Recovery", "log", "LLogStore$Log;", true)
  | 1 => ("LogStore$Recovery", "pool", "LLogStore$Pool;", true)
  | 2 => ("LogStore$Recovery", "table", "[I", true)
  | 3 => ("LogStore$Recovery", "isAnalysed", "Z", false)
  | 4 => ("LogStore$Recovery", "nextRedo", "I", false)
  | _ => ("LogStore$Recovery", "lastRedo", "I", false)
def t_XR : Nat → FieldType := fun k => match k with
  | 0 => .object "LogStore$Log"
  | 1 => .object "LogStore$Pool"
  | 2 => .array .int
  | 3 => .boolean
  | 4 => .int
  | _ => .int
def k_XR : List Nat := [2, 2, 2, 1, 0, 0]
def R_XT : String := "LogStore$Transaction"
def F_XT : u_T := fun k => match k with
  | 0 => ("LogStore$Transaction", "number", "I", true)
  | 1 => ("LogStore$Transaction", "seat", "I", true)
  | 2 => ("LogStore$Transaction", "state", "I", false)
  | 3 => ("LogStore$Transaction", "outcome", "I", false)
  | 4 => ("LogStore$Transaction", "valueRead", "I", false)
  | 5 => ("LogStore$Transaction", "requestNumber", "I", false)
  | 6 => ("LogStore$Transaction", "key", "I", false)
  | 7 => ("LogStore$Transaction", "lock", "I", false)
  | _ => ("LogStore$Transaction", "newValue", "I", false)
def t_XT : Nat → FieldType := fun k => match k with
  | 0 => .int
  | 1 => .int
  | 2 => .int
  | 3 => .int
  | 4 => .int
  | 5 => .int
  | 6 => .int
  | 7 => .int
  | _ => .int
def k_XT : List Nat := [0, 0, 0, 0, 0, 0, 0, 0, 0]
def R_M : String := "LogStoreModel"
def F_M : u_T := fun k => match k with
  | 0 => ("LogStoreModel", "size", "I", false)
  | 1 => ("LogStoreModel", "stable", "I", false)
  | 2 => ("LogStoreModel", "kind", "[I", true)
  | 3 => ("LogStoreModel", "who", "[I", true)
  | 4 => ("LogStoreModel", "spot", "[I", true)
  | 5 => ("LogStoreModel", "oldKey", "[I", true)
  | 6 => ("LogStoreModel", "oldValue", "[I", true)
  | 7 => ("LogStoreModel", "newKey", "[I", true)
  | 8 => ("LogStoreModel", "newValue", "[I", true)
  | 9 => ("LogStoreModel", "back", "[I", true)
  | 10 => ("LogStoreModel", "named", "[I", true)
  | 11 => ("LogStoreModel", "diskKey", "[I", true)
  | 12 => ("LogStoreModel", "diskValue", "[I", true)
  | 13 => ("LogStoreModel", "diskLsn", "[I", true)
  | 14 => ("LogStoreModel", "poolKey", "[I", true)
  | 15 => ("LogStoreModel", "poolValue", "[I", true)
  | 16 => ("LogStoreModel", "poolLsn", "[I", true)
  | 17 => ("LogStoreModel", "rec", "[I", true)
  | 18 => ("LogStoreModel", "fetched", "[I", true)
  | 19 => ("LogStoreModel", "clock", "I", false)
  | 20 => ("LogStoreModel", "ins", "I", false)
  | 21 => ("LogStoreModel", "outs", "I", false)
  | 22 => ("LogStoreModel", "begun", "I", false)
  | 23 => ("LogStoreModel", "state", "[I", true)
  | 24 => ("LogStoreModel", "outcome", "[I", true)
  | 25 => ("LogStoreModel", "value", "[I", true)
  | 26 => ("LogStoreModel", "wantKey", "[I", true)
  | 27 => ("LogStoreModel", "want", "[I", true)
  | 28 => ("LogStoreModel", "wantValue", "[I", true)
  | 29 => ("LogStoreModel", "made", "[I", true)
  | 30 => ("LogStoreModel", "lock", "[B", true)
  | 31 => ("LogStoreModel", "reach", "[Z", true)
  | 32 => ("LogStoreModel", "down", "Z", false)
  | 33 => ("LogStoreModel", "crashes", "I", false)
  | 34 => ("LogStoreModel", "phase", "I", false)
  | 35 => ("LogStoreModel", "next", "I", false)
  | _ => ("LogStoreModel", "table", "[I", true)
def t_M : Nat → FieldType := fun k => match k with
  | 0 => .int
  | 1 => .int
  | 2 => .array .int
  | 3 => .array .int
  | 4 => .array .int
  | 5 => .array .int
  | 6 => .array .int
  | 7 => .array .int
  | 8 => .array .int
  | 9 => .array .int
  | 10 => .array .int
  | 11 => .array .int
  | 12 => .array .int
  | 13 => .array .int
  | 14 => .array .int
  | 15 => .array .int
  | 16 => .array .int
  | 17 => .array .int
  | 18 => .array .int
  | 19 => .int
  | 20 => .int
  | 21 => .int
  | 22 => .int
  | 23 => .array .int
  | 24 => .array .int
  | 25 => .array .int
  | 26 => .array .int
  | 27 => .array .int
  | 28 => .array .int
  | 29 => .array .int
  | 30 => .array .byte
  | 31 => .array .boolean
  | 32 => .boolean
  | 33 => .int
  | 34 => .int
  | 35 => .int
  | _ => .array .int
def k_M : List Nat := [0, 0, 2, 2, 2, 2, 2, 2, 2, 2, 2, 2, 2, 2, 2, 2, 2, 2, 2, 0, 0, 0, 0, 2, 2, 2, 2, 2, 2, 2, 2, 2, 1, 0, 0, 0, 2]
def R_L : String := "LogStoreLaw"
def CL : List vw_C := [(R_X, F_X, 9), (R_XL, F_XL, 15), (R_XP, F_XP, 9), (R_XC, F_XC, 3), (R_XV, F_XV, 2), (R_XR, F_XR, 6), (R_XT, F_XT, 9), (R_M, F_M, 37)]
abbrev b_X_init : ByteArray := prog_1_method_1_code
def y_X_init : MethodName := ⟨R_X, "<init>", "()V"⟩
abbrev b_X_begin : ByteArray := prog_1_method_2_code
def y_X_begin : MethodName := ⟨R_X, "begin", "()I"⟩
abbrev b_X_read : ByteArray := prog_1_method_3_code
def y_X_read : MethodName := ⟨R_X, "read", "(II)I"⟩
abbrev b_X_write : ByteArray := prog_1_method_4_code
def y_X_write : MethodName := ⟨R_X, "write", "(III)I"⟩
abbrev b_X_commit : ByteArray := prog_1_method_5_code
def y_X_commit : MethodName := ⟨R_X, "commit", "(I)Z"⟩
abbrev b_X_abort : ByteArray := prog_1_method_6_code
def y_X_abort : MethodName := ⟨R_X, "abort", "(I)Z"⟩
abbrev b_X_force : ByteArray := prog_1_method_7_code
def y_X_force : MethodName := ⟨R_X, "force", "()Z"⟩
abbrev b_X_checkpoint : ByteArray := prog_1_method_8_code
def y_X_checkpoint : MethodName := ⟨R_X, "checkpoint", "()I"⟩
abbrev b_X_flush : ByteArray := prog_1_method_9_code
def y_X_flush : MethodName := ⟨R_X, "flush", "(I)Z"⟩
abbrev b_X_crash : ByteArray := prog_1_method_10_code
def y_X_crash : MethodName := ⟨R_X, "crash", "(I)I"⟩
abbrev b_X_restart : ByteArray := prog_1_method_11_code
def y_X_restart : MethodName := ⟨R_X, "restart", "(I)I"⟩
abbrev b_X_up : ByteArray := prog_1_method_12_code
def y_X_up : MethodName := ⟨R_X, "up", "()Z"⟩
abbrev b_X_state : ByteArray := prog_1_method_13_code
def y_X_state : MethodName := ⟨R_X, "state", "(I)I"⟩
abbrev b_X_outcome : ByteArray := prog_1_method_14_code
def y_X_outcome : MethodName := ⟨R_X, "outcome", "(I)I"⟩
abbrev b_X_value : ByteArray := prog_1_method_15_code
def y_X_value : MethodName := ⟨R_X, "value", "(I)I"⟩
abbrev b_X_stored : ByteArray := prog_1_method_16_code
def y_X_stored : MethodName := ⟨R_X, "stored", "(I)I"⟩
abbrev b_X_place : ByteArray := prog_1_method_17_code
def y_X_place : MethodName := ⟨R_X, "place", "(I)I"⟩
abbrev b_X_after : ByteArray := prog_1_method_18_code
def y_X_after : MethodName := ⟨R_X, "after", "(I)I"⟩
abbrev b_X_count : ByteArray := prog_1_method_19_code
def y_X_count : MethodName := ⟨R_X, "count", "(I)I"⟩
abbrev b_X_page : ByteArray := prog_1_method_20_code
def y_X_page : MethodName := ⟨R_X, "page", "(II)I"⟩
abbrev b_X_isKey : ByteArray := prog_1_method_21_code
def y_X_isKey : MethodName := ⟨R_X, "isKey", "(I)Z"⟩
abbrev b_X_isPage : ByteArray := prog_1_method_22_code
def y_X_isPage : MethodName := ⟨R_X, "isPage", "(I)Z"⟩
abbrev b_X_find : ByteArray := prog_1_method_23_code
def y_X_find : MethodName := ⟨R_X, "find", "(I)LLogStore$Transaction;"⟩
abbrev b_X_request : ByteArray := prog_1_method_24_code
def y_X_request : MethodName := ⟨R_X, "request", "(IIII)I"⟩
abbrev b_X_grant : ByteArray := prog_1_method_25_code
def y_X_grant : MethodName := ⟨R_X, "grant", "(LLogStore$Transaction;)V"⟩
abbrev b_X_readFor : ByteArray := prog_1_method_26_code
def y_X_readFor : MethodName := ⟨R_X, "readFor", "(LLogStore$Transaction;)V"⟩
abbrev b_X_writeFor : ByteArray := prog_1_method_27_code
def y_X_writeFor : MethodName := ⟨R_X, "writeFor", "(LLogStore$Transaction;)V"⟩
abbrev b_X_rollBack : ByteArray := prog_1_method_28_code
def y_X_rollBack : MethodName := ⟨R_X, "rollBack", "(LLogStore$Transaction;)V"⟩
abbrev b_X_settle : ByteArray := prog_1_method_29_code
def y_X_settle : MethodName := ⟨R_X, "settle", "()V"⟩
abbrev b_X_comeUp : ByteArray := prog_1_method_30_code
def y_X_comeUp : MethodName := ⟨R_X, "comeUp", "()V"⟩
abbrev b_M_init : ByteArray := prog_9_method_1_code
def y_M_init : MethodName := ⟨R_M, "<init>", "()V"⟩
abbrev b_M_keyAt : ByteArray := prog_9_method_2_code
def y_M_keyAt : MethodName := ⟨R_M, "keyAt", "(I)I"⟩
abbrev b_M_valueAt : ByteArray := prog_9_method_3_code
def y_M_valueAt : MethodName := ⟨R_M, "valueAt", "(I)I"⟩
abbrev b_M_find : ByteArray := prog_9_method_4_code
def y_M_find : MethodName := ⟨R_M, "find", "(I)I"⟩
abbrev b_M_spill : ByteArray := prog_9_method_5_code
def y_M_spill : MethodName := ⟨R_M, "spill", "(I)V"⟩
abbrev b_M_fetch : ByteArray := prog_9_method_6_code
def y_M_fetch : MethodName := ⟨R_M, "fetch", "(I)V"⟩
abbrev b_M_apply : ByteArray := prog_9_method_7_code
def y_M_apply : MethodName := ⟨R_M, "apply", "(I)V"⟩
abbrev b_M_put : ByteArray := prog_9_method_8_code
def y_M_put : MethodName := ⟨R_M, "put", "(III)I"⟩
abbrev b_M_countOf : ByteArray := prog_9_method_9_code
def y_M_countOf : MethodName := ⟨R_M, "countOf", "(I)I"⟩
abbrev b_M_committed : ByteArray := prog_9_method_10_code
def y_M_committed : MethodName := ⟨R_M, "committed", "(I)Z"⟩
abbrev b_M_open : ByteArray := prog_9_method_11_code
def y_M_open : MethodName := ⟨R_M, "open", "(I)I"⟩
abbrev b_M_takeBack : ByteArray := prog_9_method_12_code
def y_M_takeBack : MethodName := ⟨R_M, "takeBack", "(I)V"⟩
abbrev b_M_live : ByteArray := prog_9_method_13_code
def y_M_live : MethodName := ⟨R_M, "live", "(I)Z"⟩
abbrev b_M_unlock : ByteArray := prog_9_method_14_code
def y_M_unlock : MethodName := ⟨R_M, "unlock", "(I)V"⟩
abbrev b_M_conflicts : ByteArray := prog_9_method_15_code
def y_M_conflicts : MethodName := ⟨R_M, "conflicts", "(II)Z"⟩
abbrev b_M_ahead : ByteArray := prog_9_method_16_code
def y_M_ahead : MethodName := ⟨R_M, "ahead", "(II)Z"⟩
abbrev b_M_waitsFor : ByteArray := prog_9_method_17_code
def y_M_waitsFor : MethodName := ⟨R_M, "waitsFor", "(II)Z"⟩
abbrev b_M_fit : ByteArray := prog_9_method_18_code
def y_M_fit : MethodName := ⟨R_M, "fit", "(I)Z"⟩
abbrev b_M_ring : ByteArray := prog_9_method_19_code
def y_M_ring : MethodName := ⟨R_M, "ring", "(I)Z"⟩
abbrev b_M_grant : ByteArray := prog_9_method_20_code
def y_M_grant : MethodName := ⟨R_M, "grant", "(I)V"⟩
abbrev b_M_drop : ByteArray := prog_9_method_21_code
def y_M_drop : MethodName := ⟨R_M, "drop", "(I)V"⟩
abbrev b_M_firm : ByteArray := prog_9_method_22_code
def y_M_firm : MethodName := ⟨R_M, "firm", "()I"⟩
abbrev b_M_firstFit : ByteArray := prog_9_method_23_code
def y_M_firstFit : MethodName := ⟨R_M, "firstFit", "()I"⟩
abbrev b_M_settle : ByteArray := prog_9_method_24_code
def y_M_settle : MethodName := ⟨R_M, "settle", "()V"⟩
abbrev b_M_isIn : ByteArray := prog_9_method_25_code
def y_M_isIn : MethodName := ⟨R_M, "isIn", "(II)Z"⟩
abbrev b_M_begin : ByteArray := prog_9_method_26_code
def y_M_begin : MethodName := ⟨R_M, "begin", "()I"⟩
abbrev b_M_request : ByteArray := prog_9_method_27_code
def y_M_request : MethodName := ⟨R_M, "request", "(IIII)I"⟩
abbrev b_M_read : ByteArray := prog_9_method_28_code
def y_M_read : MethodName := ⟨R_M, "read", "(II)I"⟩
abbrev b_M_write : ByteArray := prog_9_method_29_code
def y_M_write : MethodName := ⟨R_M, "write", "(III)I"⟩
abbrev b_M_commit : ByteArray := prog_9_method_30_code
def y_M_commit : MethodName := ⟨R_M, "commit", "(I)Z"⟩
abbrev b_M_abort : ByteArray := prog_9_method_31_code
def y_M_abort : MethodName := ⟨R_M, "abort", "(I)Z"⟩
abbrev b_M_force : ByteArray := prog_9_method_32_code
def y_M_force : MethodName := ⟨R_M, "force", "()Z"⟩
abbrev b_M_checkpoint : ByteArray := prog_9_method_33_code
def y_M_checkpoint : MethodName := ⟨R_M, "checkpoint", "()I"⟩
abbrev b_M_flush : ByteArray := prog_9_method_34_code
def y_M_flush : MethodName := ⟨R_M, "flush", "(I)Z"⟩
abbrev b_M_crash : ByteArray := prog_9_method_35_code
def y_M_crash : MethodName := ⟨R_M, "crash", "(I)I"⟩
abbrev b_M_analyse : ByteArray := prog_9_method_36_code
def y_M_analyse : MethodName := ⟨R_M, "analyse", "()V"⟩
abbrev b_M_redo : ByteArray := prog_9_method_37_code
def y_M_redo : MethodName := ⟨R_M, "redo", "(I)V"⟩
abbrev b_M_finish : ByteArray := prog_9_method_38_code
def y_M_finish : MethodName := ⟨R_M, "finish", "()V"⟩
abbrev b_M_unit : ByteArray := prog_9_method_39_code
def y_M_unit : MethodName := ⟨R_M, "unit", "()V"⟩
abbrev b_M_restart : ByteArray := prog_9_method_40_code
def y_M_restart : MethodName := ⟨R_M, "restart", "(I)I"⟩
abbrev b_M_up : ByteArray := prog_9_method_41_code
def y_M_up : MethodName := ⟨R_M, "up", "()Z"⟩
abbrev b_M_known : ByteArray := prog_9_method_42_code
def y_M_known : MethodName := ⟨R_M, "known", "(I)Z"⟩
abbrev b_M_state : ByteArray := prog_9_method_43_code
def y_M_state : MethodName := ⟨R_M, "state", "(I)I"⟩
abbrev b_M_outcome : ByteArray := prog_9_method_44_code
def y_M_outcome : MethodName := ⟨R_M, "outcome", "(I)I"⟩
abbrev b_M_value : ByteArray := prog_9_method_45_code
def y_M_value : MethodName := ⟨R_M, "value", "(I)I"⟩
abbrev b_M_stored : ByteArray := prog_9_method_46_code
def y_M_stored : MethodName := ⟨R_M, "stored", "(I)I"⟩
abbrev b_M_place : ByteArray := prog_9_method_47_code
def y_M_place : MethodName := ⟨R_M, "place", "(I)I"⟩
abbrev b_M_after : ByteArray := prog_9_method_48_code
def y_M_after : MethodName := ⟨R_M, "after", "(I)I"⟩
abbrev b_M_count : ByteArray := prog_9_method_49_code
def y_M_count : MethodName := ⟨R_M, "count", "(I)I"⟩
abbrev b_M_page : ByteArray := prog_9_method_50_code
def y_M_page : MethodName := ⟨R_M, "page", "(II)I"⟩
abbrev b_XC_init : ByteArray := prog_2_method_1_code
def y_XC_init : MethodName := ⟨R_XC, "<init>", "()V"⟩
abbrev b_XC_copy : ByteArray := prog_2_method_2_code
def y_XC_copy : MethodName := ⟨R_XC, "copy", "(LLogStore$Contents;)V"⟩
abbrev b_XV_init : ByteArray := prog_3_method_1_code
def y_XV_init : MethodName := ⟨R_XV, "<init>", "()V"⟩
abbrev b_XV_freeSeat : ByteArray := prog_3_method_2_code
def y_XV_freeSeat : MethodName := ⟨R_XV, "freeSeat", "()I"⟩
abbrev b_XV_enter : ByteArray := prog_3_method_3_code
def y_XV_enter : MethodName := ⟨R_XV, "enter", "(LLogStore$Transaction;)V"⟩
abbrev b_XV_leave : ByteArray := prog_3_method_4_code
def y_XV_leave : MethodName := ⟨R_XV, "leave", "(LLogStore$Transaction;I)V"⟩
abbrev b_XV_leaveAllInDoubt : ByteArray := prog_3_method_5_code
def y_XV_leaveAllInDoubt : MethodName := ⟨R_XV, "leaveAllInDoubt", "()V"⟩
abbrev b_XV_hold : ByteArray := prog_3_method_6_code
def y_XV_hold : MethodName := ⟨R_XV, "hold", "(LLogStore$Transaction;)V"⟩
abbrev b_XV_isFit : ByteArray := prog_3_method_7_code
def y_XV_isFit : MethodName := ⟨R_XV, "isFit", "(LLogStore$Transaction;)Z"⟩
abbrev b_XV_obstacles : ByteArray := prog_3_method_8_code
def y_XV_obstacles : MethodName := ⟨R_XV, "obstacles", "(LLogStore$Transaction;)I"⟩
abbrev b_XV_conflicts : ByteArray := prog_3_method_9_code
def y_XV_conflicts : MethodName := ⟨R_XV, "conflicts", "(II)Z"⟩
abbrev b_XV_waitsForItself : ByteArray := prog_3_method_10_code
def y_XV_waitsForItself : MethodName := ⟨R_XV, "waitsForItself", "(LLogStore$Transaction;)Z"⟩
abbrev b_XV_stepFrom : ByteArray := prog_3_method_11_code
def y_XV_stepFrom : MethodName := ⟨R_XV, "stepFrom", "(I)I"⟩
abbrev b_XV_leastStableCommit : ByteArray := prog_3_method_12_code
def y_XV_leastStableCommit : MethodName := ⟨R_XV, "leastStableCommit", "(LLogStore$Log;)LLogStore$Transaction;"⟩
abbrev b_XV_firstFitWaiting : ByteArray := prog_3_method_13_code
def y_XV_firstFitWaiting : MethodName := ⟨R_XV, "firstFitWaiting", "()LLogStore$Transaction;"⟩
abbrev b_XL_init : ByteArray := prog_4_method_1_code
def y_XL_init : MethodName := ⟨R_XL, "<init>", "()V"⟩
abbrev b_XL_append : ByteArray := prog_4_method_2_code
def y_XL_append : MethodName := ⟨R_XL, "append", "(II)I"⟩
abbrev b_XL_addUpdate : ByteArray := prog_4_method_3_code
def y_XL_addUpdate : MethodName := ⟨R_XL, "addUpdate", "(IIIIII)I"⟩
abbrev b_XL_addClr : ByteArray := prog_4_method_4_code
def y_XL_addClr : MethodName := ⟨R_XL, "addClr", "(I)I"⟩
abbrev b_XL_addCommit : ByteArray := prog_4_method_5_code
def y_XL_addCommit : MethodName := ⟨R_XL, "addCommit", "(I)V"⟩
abbrev b_XL_addCheckpoint : ByteArray := prog_4_method_6_code
def y_XL_addCheckpoint : MethodName := ⟨R_XL, "addCheckpoint", "([I)I"⟩
abbrev b_XL_isChange : ByteArray := prog_4_method_7_code
def y_XL_isChange : MethodName := ⟨R_XL, "isChange", "(I)Z"⟩
abbrev b_XL_isOpen : ByteArray := prog_4_method_8_code
def y_XL_isOpen : MethodName := ⟨R_XL, "isOpen", "(I)Z"⟩
abbrev b_XL_greatestOpen : ByteArray := prog_4_method_9_code
def y_XL_greatestOpen : MethodName := ⟨R_XL, "greatestOpen", "()I"⟩
abbrev b_XL_makeStable : ByteArray := prog_4_method_10_code
def y_XL_makeStable : MethodName := ⟨R_XL, "makeStable", "(I)V"⟩
abbrev b_XL_loseUnstable : ByteArray := prog_4_method_11_code
def y_XL_loseUnstable : MethodName := ⟨R_XL, "loseUnstable", "()V"⟩
abbrev b_XL_forget : ByteArray := prog_4_method_12_code
def y_XL_forget : MethodName := ⟨R_XL, "forget", "(I)V"⟩
abbrev b_XP_init : ByteArray := prog_5_method_1_code
def y_XP_init : MethodName := ⟨R_XP, "<init>", "(LLogStore$Log;)V"⟩
abbrev b_XP_isDirty : ByteArray := prog_5_method_2_code
def y_XP_isDirty : MethodName := ⟨R_XP, "isDirty", "(I)Z"⟩
abbrev b_XP_writeOut : ByteArray := prog_5_method_3_code
def y_XP_writeOut : MethodName := ⟨R_XP, "writeOut", "(I)V"⟩
abbrev b_XP_fetch : ByteArray := prog_5_method_4_code
def y_XP_fetch : MethodName := ⟨R_XP, "fetch", "(I)V"⟩
abbrev b_XP_pageToLeave : ByteArray := prog_5_method_5_code
def y_XP_pageToLeave : MethodName := ⟨R_XP, "pageToLeave", "()I"⟩
abbrev b_XP_empty : ByteArray := prog_5_method_6_code
def y_XP_empty : MethodName := ⟨R_XP, "empty", "()V"⟩
abbrev b_XP_seen : ByteArray := prog_5_method_7_code
def y_XP_seen : MethodName := ⟨R_XP, "seen", "(I)LLogStore$Contents;"⟩
abbrev b_XP_keyAt : ByteArray := prog_5_method_8_code
def y_XP_keyAt : MethodName := ⟨R_XP, "keyAt", "(I)I"⟩
abbrev b_XP_valueAt : ByteArray := prog_5_method_9_code
def y_XP_valueAt : MethodName := ⟨R_XP, "valueAt", "(I)I"⟩
abbrev b_XP_placeOf : ByteArray := prog_5_method_10_code
def y_XP_placeOf : MethodName := ⟨R_XP, "placeOf", "(I)I"⟩
abbrev b_XP_leastKeyAbove : ByteArray := prog_5_method_11_code
def y_XP_leastKeyAbove : MethodName := ⟨R_XP, "leastKeyAbove", "(I)I"⟩
abbrev b_XP_takeBack : ByteArray := prog_5_method_12_code
def y_XP_takeBack : MethodName := ⟨R_XP, "takeBack", "(I)V"⟩
abbrev b_XP_redo : ByteArray := prog_5_method_13_code
def y_XP_redo : MethodName := ⟨R_XP, "redo", "(I)V"⟩
abbrev b_XP_apply : ByteArray := prog_5_method_14_code
def y_XP_apply : MethodName := ⟨R_XP, "apply", "(I)V"⟩
abbrev b_XR_init : ByteArray := prog_6_method_1_code
def y_XR_init : MethodName := ⟨R_XR, "<init>", "(LLogStore$Log;LLogStore$Pool;)V"⟩
abbrev b_XR_startAnew : ByteArray := prog_6_method_2_code
def y_XR_startAnew : MethodName := ⟨R_XR, "startAnew", "()V"⟩
abbrev b_XR_isFinished : ByteArray := prog_6_method_3_code
def y_XR_isFinished : MethodName := ⟨R_XR, "isFinished", "()Z"⟩
abbrev b_XR_makeUnit : ByteArray := prog_6_method_4_code
def y_XR_makeUnit : MethodName := ⟨R_XR, "makeUnit", "()V"⟩
abbrev b_XR_analyse : ByteArray := prog_6_method_5_code
def y_XR_analyse : MethodName := ⟨R_XR, "analyse", "()V"⟩
abbrev b_XR_fillTable : ByteArray := prog_6_method_6_code
def y_XR_fillTable : MethodName := ⟨R_XR, "fillTable", "()V"⟩
abbrev b_XR_repeatNext : ByteArray := prog_6_method_7_code
def y_XR_repeatNext : MethodName := ⟨R_XR, "repeatNext", "()V"⟩
abbrev b_XR_takeBackNext : ByteArray := prog_6_method_8_code
def y_XR_takeBackNext : MethodName := ⟨R_XR, "takeBackNext", "()V"⟩
abbrev b_XT_init : ByteArray := prog_7_method_1_code
def y_XT_init : MethodName := ⟨R_XT, "<init>", "(II)V"⟩
abbrev b_XT_ask : ByteArray := prog_7_method_2_code
def y_XT_ask : MethodName := ⟨R_XT, "ask", "(IIII)V"⟩
end
section
-- ===== abstract values, heaps, cells: every number is an Int, every reference an Int (0: null; v: cell v of 1 .. n) =====
abbrev AV : Type := Int ⊕ Int
abbrev Hp : Type := Int → Int → Int
abbrev LK : Type := (Nat × List Nat) ⊕ (Nat × Nat)
def iI (x : Int) : Int32 := Int32.ofInt x
abbrev R3 (x : Int) : Prop := -2147483648 ≤ x ∧ x ≤ 2147483647
theorem iI_t {x : Int} (h : R3 x) : (iI x).toInt = x := Int32.toInt_ofInt_of_le (by have := h.1; omega) (by have := h.2; omega)
theorem iI_lt {x y : Int} (hx : R3 x) (hy : R3 y) : iI x < iI y ↔ x < y := by rw [Int32.lt_iff_toInt_lt, iI_t hx, iI_t hy]
theorem iI_le {x y : Int} (hx : R3 x) (hy : R3 y) : iI x ≤ iI y ↔ x ≤ y := by rw [Int32.le_iff_toInt_le, iI_t hx, iI_t hy]
theorem iI_eq {x y : Int} (hx : R3 x) (hy : R3 y) : iI x = iI y ↔ x = y := by rw [← Int32.toInt_inj, iI_t hx, iI_t hy]
theorem iI_0 : iI 0 = 0 := by decide
theorem iI_of (x : Int32) : iI x.toInt = x := Int32.ofInt_toInt x
theorem iI_R (x : Int32) : R3 x.toInt := ⟨by have := x.le_toInt; omega, by have := x.toInt_lt; omega⟩
theorem iI_add (x y : Int) : iI x + iI y = iI (x + y) := (Int32.ofInt_add x y).symm
theorem iI_sub (x y : Int) : iI x - iI y = iI (x - y) := (Int32.ofInt_sub x y).symm
theorem iI_mul (x y : Int) : iI x * iI y = iI (x * y) := (Int32.ofInt_mul x y).symm
theorem iI_cl {x : Int} (h : R3 x) : (iI x).toNatClampNeg = x.toNat := Int32.toNatClampNeg_ofInt_of_le (by have := h.1; omega) (by have := h.2; omega)
theorem iI_in {x : Int} {len : Nat} (h : R3 x) (h0 : 0 ≤ x) (h1 : x < (len : Int)) : vp_in (iI x) len := vp_in_iff.mpr ⟨by rw [iI_t h]; exact h0, by rw [iI_t h]; exact h1⟩
theorem iI_div {x y : Int} (hx : R3 x) (hy : R3 y) (h0 : 0 ≤ x) (h1 : 0 < y) : iI x / iI y = iI (x / y) := by
  have hr : R3 (x / y) := ⟨by have := Int.ediv_nonneg h0 (Int.le_of_lt h1); omega, by have := Int.ediv_le_self y h0; omega⟩
  apply Int32.toInt_inj.mp
  rw [iI_t hr, Int32.toInt_div_of_ne_right _ _ (fun h => ?_), iI_t hx, iI_t hy, Int.tdiv_eq_ediv_of_nonneg h0]
  have h2 := congrArg Int32.toInt h
  rw [iI_t hy] at h2
  have h3 : (-1 : Int32).toInt = -1 := by decide
  omega
theorem iI_rem {x y : Int} (hx : R3 x) (hy : R3 y) (h0 : 0 ≤ x) (h1 : 0 < y) : iI x - iI x / iI y * iI y = iI (x % y) := by
  rw [iI_div hx hy h0 h1, iI_mul, iI_sub]
  congr 1
  have := Int.emod_add_mul_ediv x y
  have h2 : x / y * y = y * (x / y) := Int.mul_comm _ _
  omega
def cv (ad : Int → Nat) (v : AV) : Value := match v with
  | .inl x => .int (iI x)
  | .inr k => if k = 0 then .null else .ref (ad k)
theorem cv_r {ad : Int → Nat} {v : Int} (h : ¬ v = 0) : cv ad (.inr v) = .ref (ad v) := if_neg h
theorem cv_cat (ad : Int → Nat) (v : AV) : (cv ad v).category = 1 := by
  cases v with
  | inl x => rfl
  | inr k => by_cases h : k = 0 <;> simp [cv, h, Value.category]
def orf (ad : Int → Nat) (v : Int) : Option Nat := if v = 0 then none else some (ad v)
theorem rf_orf (ad : Int → Nat) (v : Int) : va_rf (orf ad v) = cv ad (.inr v) := by
  by_cases h : v = 0 <;> simp [orf, cv, va_rf, h]
def ov (n : Nat) (v : AV) : Prop := match v with
  | .inl x => R3 x
  | .inr k => 0 ≤ k ∧ k ≤ (n : Int)
theorem ov_up {n n' : Nat} {v : AV} (h : n ≤ n') (hv : ov n v) : ov n' v := by
  cases v with
  | inl x => exact hv
  | inr k => exact ⟨hv.1, by have := hv.2; omega⟩
def agr (n : Nat) (ad ad' : Int → Nat) : Prop := ∀ v : Int, 1 ≤ v → v ≤ (n : Int) → ad' v = ad v
theorem cv_ag {n : Nat} {ad ad' : Int → Nat} (h : agr n ad ad') {v : AV} (hv : ov n v) : cv ad' v = cv ad v := by
  cases v with
  | inl x => rfl
  | inr k =>
    by_cases h0 : k = 0
    · simp [cv, h0]
    · rw [cv_r h0, cv_r h0, h k (by have := hv.1; omega) hv.2]
def oks (n : Nat) (st : List AV) : Prop := ∀ v ∈ st, ov n v
theorem oks_c {n : Nat} {v : AV} {st : List AV} : oks n (v :: st) ↔ ov n v ∧ oks n st := List.forall_mem_cons
theorem oks_up {n n' : Nat} {st : List AV} (h : n ≤ n') (hs : oks n st) : oks n' st := fun v hv => ov_up h (hs v hv)
theorem map_ag {n : Nat} {ad ad' : Int → Nat} (h : agr n ad ad') {st : List AV} (hs : oks n st) : st.map (cv ad') = st.map (cv ad) :=
  List.map_congr_left fun v hv => cv_ag h (hs v hv)
theorem sum_cat (ad : Int → Nat) (st : List AV) : ((st.map (cv ad)).map fun v => v.category).sum = st.length := by
  induction st with
  | nil => rfl
  | cons a t ih => simp only [List.map_cons, List.sum_cons, List.length_cons, ih, cv_cat]; omega
-- what a cell holds
def fvl (ad : Int → Nat) (t : Nat) (v : Int) : Value := if t = 2 then cv ad (.inr v) else .int (iI v)
def ctn (ca : Nat → ClassId) (lk : LK) (ad : Int → Nat) (f : Int → Int) : va_E := match lk with
  | .inl (ci, ts) => .inr (ci, ts.zipIdx.map fun q => fvl ad q.1 (f (q.2 : Nat)))
  | .inr (a, len) => .inl (ca a, len, if a ≤ 2 then .inl (fun i => iI (f (i : Nat))) else .inr (.inr (.inr (.inr (fun i => orf ad (f (i : Nat)))))))
def cls (ca : Nat → ClassId) (Ly : Int → LK) (ad : Int → Nat) (n : Nat) (σ : Hp) : va_W := (List.range n).map fun (k : Nat) => (ad ((k : Int) + 1), ctn ca (Ly ((k : Int) + 1)) ad (σ ((k : Int) + 1)))
theorem cls_at {ca : Nat → ClassId} {Ly : Int → LK} {ad : Int → Nat} {n : Nat} {σ : Hp} {v : Int} (h1 : 1 ≤ v) (h2 : v ≤ (n : Int)) : (cls ca Ly ad n σ)[(v - 1).toNat]? = some (ad v, ctn ca (Ly v) ad (σ v)) := by
  have h3 : (v - 1).toNat < n := by omega
  have h4 : (((v - 1).toNat : Nat) : Int) + 1 = v := by omega
  unfold cls
  rw [List.getElem?_map, List.getElem?_range h3, Option.map_some, h4]
theorem cls_set {ca : Nat → ClassId} {Ly : Int → LK} {ad : Int → Nat} {n : Nat} {σ σ' : Hp} {v : Int} (h1 : 1 ≤ v) (h2 : v ≤ (n : Int)) {e : va_E} (he : ctn ca (Ly v) ad (σ' v) = e) (ho : ∀ u : Int, u ≠ v → σ' u = σ u) : (cls ca Ly ad n σ).set (v - 1).toNat (ad v, e) = cls ca Ly ad n σ' := by
  have hl : ∀ τ : Hp, (cls ca Ly ad n τ).length = n := fun τ => by simp [cls]
  apply List.ext_getElem?
  intro i
  by_cases hi : i = (v - 1).toNat
  · subst hi
    rw [List.getElem?_set_self (by rw [hl]; omega), cls_at h1 h2, he]
  · rw [List.getElem?_set_ne (Ne.symm hi)]
    by_cases hin : i < n
    · have h5 : (i : Int) + 1 ≠ v := by omega
      have h6 := cls_at (ca := ca) (Ly := Ly) (ad := ad) (n := n) (σ := σ) (v := (i : Int) + 1) (by omega) (by omega)
      have h7 := cls_at (ca := ca) (Ly := Ly) (ad := ad) (n := n) (σ := σ') (v := (i : Int) + 1) (by omega) (by omega)
      have h8 : ((i : Int) + 1 - 1).toNat = i := by omega
      rw [h8] at h6 h7
      rw [h6, h7, ho _ h5]
    · rw [List.getElem?_eq_none (by rw [hl]; omega), List.getElem?_eq_none (by rw [hl]; omega)]
def st2 (σ : Hp) (k i v : Int) : Hp := fun a b => if a = k then (if b = i then v else σ a b) else σ a b
theorem st2_ne {σ : Hp} {k i v u : Int} (h : u ≠ k) : st2 σ k i v u = σ u := by
  funext b; simp [st2, h]
theorem st2_eq {σ : Hp} {k i v : Int} : st2 σ k i v k i = v := by simp [st2]
theorem st2_ii {σ : Hp} {k i v b : Int} (h : b ≠ i) : st2 σ k i v k b = σ k b := by simp [st2, h]
theorem st2_at {σ : Hp} {k i v b : Int} : st2 σ k i v k b = if b = i then v else σ k b := by simp [st2]
-- the kinds of the places: 0 an int, 1 a boolean, 2 a reference, 3 a byte
def kdA (a : Nat) : Nat := if a = 0 then 0 else if a = 1 then 3 else if a = 2 then 1 else 2
def kdL (lk : LK) (i : Int) : Nat := match lk with
  | .inl (_, ts) => ts.getD i.toNat 0
  | .inr (a, _) => kdA a
def okh (Ly : Int → LK) (n : Nat) (σ : Hp) : Prop := ∀ v i : Int, 1 ≤ v → v ≤ (n : Int) → 0 ≤ i → R3 (σ v i) ∧ (kdL (Ly v) i = 2 → 0 ≤ σ v i ∧ σ v i ≤ (n : Int))
def fxd (T : Int → Int → Option Int) (n : Nat) (σ : Hp) : Prop := ∀ v i t : Int, 1 ≤ v → v ≤ (n : Int) → T v i = some t → σ v i = t
theorem okh_st {Ly : Int → LK} {n : Nat} {σ : Hp} (h : okh Ly n σ) {k i v : Int} (hr : R3 v) (hk : kdL (Ly k) i = 2 → 0 ≤ v ∧ v ≤ (n : Int)) : okh Ly n (st2 σ k i v) := by
  intro a b h1 h2 h3
  by_cases ha : a = k
  · subst ha
    by_cases hb : b = i
    · subst hb; rw [st2_eq]; exact ⟨hr, hk⟩
    · rw [st2_ii hb]; exact h a b h1 h2 h3
  · rw [st2_ne ha]; exact h a b h1 h2 h3
theorem fxd_st {T : Int → Int → Option Int} {n : Nat} {σ : Hp} (h : fxd T n σ) {k i v : Int} (ht : T k i = none) : fxd T n (st2 σ k i v) := by
  intro a b t h1 h2 h3
  by_cases ha : a = k
  · subst ha
    by_cases hb : b = i
    · subst hb; rw [ht] at h3; cases h3
    · rw [st2_ii hb]; exact h a b t h1 h2 h3
  · rw [st2_ne ha]; exact h a b t h1 h2 h3
-- the locals
def lvs (n : Nat) (ad : Int → Nat) (ls : Array Slot) (nL : Nat) (lv : List (Option AV)) : Prop := lv.length = nL ∧ ls.size = nL ∧ lv_wf ls ∧ ∀ (i : Nat) (v : AV), lv[i]? = some (some v) → ls[i]? = some (.val (cv ad v)) ∧ ov n v
def lvp (ad : Int → Nat) (lv : List (Option AV)) : List (Nat × Value) := (List.range lv.length).filterMap fun i => match lv[i]? with
  | some (some v) => some (i, cv ad v)
  | _ => none
theorem lvp_in {ad : Int → Nat} {lv : List (Option AV)} {q : Nat × Value} : q ∈ lvp ad lv ↔ ∃ v, lv[q.1]? = some (some v) ∧ q.2 = cv ad v := by
  unfold lvp
  rw [List.mem_filterMap]
  constructor
  · rintro ⟨i, hi, h⟩
    cases hq : lv[i]? with
    | none => rw [hq] at h; cases h
    | some o =>
      cases o with
      | none => rw [hq] at h; cases h
      | some v => rw [hq] at h; cases h; exact ⟨v, hq, rfl⟩
  · rintro ⟨v, h1, h2⟩
    refine ⟨q.1, List.mem_range.mpr (List.getElem?_eq_some_iff.mp h1).1, ?_⟩
    rw [h1]
    show some (q.1, cv ad v) = some q
    rw [← h2]
theorem lvs_has {n : Nat} {ad : Int → Nat} {ls : Array Slot} {nL : Nat} {lv : List (Option AV)} (h : lvs n ad ls nL lv) : lv_has ls nL (lvp ad lv) :=
  ⟨h.2.1, h.2.2.1, fun q hq => by
    obtain ⟨v, h1, h2⟩ := lvp_in.mp hq
    rw [h2]; exact (h.2.2.2 _ _ h1).1⟩
theorem lvs_set {n : Nat} {ad : Int → Nat} {ls ls' : Array Slot} {nL : Nat} {lv : List (Option AV)} {i : Nat} {v : AV} {w : Value} (h : lvs n ad ls nL lv) (hi : i < nL) (hv : ov n v) (hw : w = cv ad v) (h' : lv_has ls' nL ((i, w) :: (lvp ad lv).filter (fun q => !(q.1 == i) && !(q.1 + 1 == i && q.2.category == 2)))) : lvs n ad ls' nL (lv.set i (some v)) := by
  subst hw
  refine ⟨by rw [List.length_set]; exact h.1, h'.1, h'.2.1, fun j u hj => ?_⟩
  by_cases hji : j = i
  · subst hji
    rw [List.getElem?_set_self (by rw [h.1]; exact hi)] at hj
    cases hj
    exact ⟨h'.2.2 (j, cv ad v) List.mem_cons_self, hv⟩
  · rw [List.getElem?_set_ne (Ne.symm hji)] at hj
    refine ⟨h'.2.2 (j, cv ad u) (List.mem_cons_of_mem _ (List.mem_filter.mpr ⟨lvp_in.mpr ⟨u, hj, rfl⟩, ?_⟩)), (h.2.2.2 j u hj).2⟩
    simp [hji, cv_cat]
theorem lvs_up {n n' : Nat} {ad ad' : Int → Nat} {ls : Array Slot} {nL : Nat} {lv : List (Option AV)} (h : lvs n ad ls nL lv) (hn : n ≤ n') (ha : agr n ad ad') : lvs n' ad' ls nL lv :=
  ⟨h.1, h.2.1, h.2.2.1, fun i v hi => ⟨by rw [cv_ag ha (h.2.2.2 i v hi).2]; exact (h.2.2.2 i v hi).1, ov_up hn (h.2.2.2 i v hi).2⟩⟩
end
section

-- small facts that the rows use
theorem r3_0 : R3 0 := ⟨by decide, by decide⟩
theorem iI_b {x : Int} (h1 : -128 ≤ x) (h2 : x ≤ 127) : (iI x).toInt8.toInt32 = iI x := by
  apply Int32.toInt_inj.mp
  have hr : R3 x := ⟨by omega, by omega⟩
  rw [Int8.toInt_toInt32, Int32.toInt_toInt8, iI_t hr]
  rw [Int.bmod_eq_of_le (by omega) (by omega)]
theorem iI_nb {x : Int} (h1 : -128 ≤ x) (h2 : x ≤ 127) : vp_nar .byte (iI x) = iI x := iI_b h1 h2
theorem iI_nz {x : Int} (h1 : 0 ≤ x) (h2 : x ≤ 1) : vp_nar .boolean (iI x) = iI x := by
  rcases (show x = 0 ∨ x = 1 by omega) with rfl | rfl <;> decide
theorem iI_z {x : Int} (h1 : 0 ≤ x) (h2 : x ≤ 1) : narrow .boolean (.int (iI x)) = .int (iI x) ∧ fits .boolean (.int (iI x)) = true := by
  rcases (show x = 0 ∨ x = 1 by omega) with rfl | rfl <;> exact ⟨by decide, by decide⟩
def fav (t : Nat) (x : Int) : AV := if t = 2 then .inr x else .inl x
theorem cv_fav (ad : Int → Nat) (t : Nat) (x : Int) : cv ad (fav t x) = fvl ad t x := by
  by_cases h : t = 2 <;> simp [fav, fvl, h, cv]
theorem ctn_obj {ad : Int → Nat} {ts : List Nat} {j t : Nat} {x : Int} {f f' : Int → Int} (hj : ts[j]? = some t) (hf : ∀ b : Int, f' b = if b = (j : Int) then x else f b) : (ts.zipIdx.map fun q => fvl ad q.1 (f' (q.2 : Nat))) = (ts.zipIdx.map fun q => fvl ad q.1 (f (q.2 : Nat))).set j (fvl ad t x) := by
  apply List.ext_getElem?
  intro i
  by_cases hi : i = j
  · subst hi
    have hl : i < (ts.zipIdx.map fun q => fvl ad q.1 (f (q.2 : Nat))).length := by simp; exact (List.getElem?_eq_some_iff.mp hj).1
    rw [List.getElem?_set_self hl, List.getElem?_map, List.getElem?_zipIdx, hj]
    simp [hf]
  · rw [List.getElem?_set_ne (Ne.symm hi), List.getElem?_map, List.getElem?_map, List.getElem?_zipIdx]
    cases ts[i]? with
    | none => rfl
    | some t' =>
      have h5 : ¬ ((i : Nat) : Int) = (j : Int) := by omega
      simp [hf, h5]
theorem ctn_arr {f f' : Int → Int} {i x : Int} (hr : R3 i) (h0 : 0 ≤ i) (hf : ∀ b : Int, f' b = if b = i then x else f b) : (fun q : Nat => iI (f' (q : Nat))) = upd (fun q => iI (f (q : Nat))) (iI i).toNatClampNeg (iI x) := by
  funext q
  rw [iI_cl hr]
  by_cases h : q = i.toNat
  · have h2 : ((q : Nat) : Int) = i := by omega
    show iI (f' (q : Nat)) = _
    rw [hf, if_pos h2]
    simp [upd, h]
  · have h2 : ¬ ((q : Nat) : Int) = i := by omega
    show iI (f' (q : Nat)) = _
    rw [hf, if_neg h2]
    simp [upd, h]
theorem ad_inj {ca : Nat → ClassId} {Ly : Int → LK} {ad : Int → Nat} {n : Nat} {σ : Hp} {A : Nat → Prop} (hD : va_D A (cls ca Ly ad n σ)) {v w : Int} (v1 : 1 ≤ v) (v2 : v ≤ (n : Int)) (w1 : 1 ≤ w) (w2 : w ≤ (n : Int)) (h : ad v = ad w) : v = w := by
  have := hD.1 _ _ _ _ (cls_at v1 v2) (cls_at w1 w2) h
  omega
theorem orf_inj {ca : Nat → ClassId} {Ly : Int → LK} {ad : Int → Nat} {n : Nat} {σ : Hp} {A : Nat → Prop} (hD : va_D A (cls ca Ly ad n σ)) {v w : Int} (hv : ov n (.inr v)) (hw : ov n (.inr w)) (h : orf ad v = orf ad w) : v = w := by
  unfold orf at h
  by_cases h0 : v = 0
  · rw [if_pos h0] at h
    by_cases h1 : w = 0
    · omega
    · rw [if_neg h1] at h; cases h
  · rw [if_neg h0] at h
    by_cases h1 : w = 0
    · rw [if_pos h1] at h; cases h
    · rw [if_neg h1] at h
      exact ad_inj hD (by have := hv.1; omega) hv.2 (by have := hw.1; omega) hw.2 (Option.some.inj h)
-- what is known of a class, and of a place where a field is named
def CF (ci : Nat) (cn : String) (F : u_T) (N : Nat) (ts : List Nat) (ty : Nat → FieldType) : Prop := CL[ci]? = some (cn, F, N) ∧ (∀ w ∈ u_ws cn F N, w ∈ AW) ∧ ts.length = N ∧ (∀ k, k < N → parseFieldDescriptor (F k).2.2.1 = some (ty k)) ∧ (∀ a, a < N → ∀ b, b < N → a ≠ b → (F a).2.1 ≠ (F b).2.1) ∧ ∀ k, k < N → (F k).1 = cn
def FLk (own : String) (idx : Nat) (cn : String) (F : u_T) (j : Nat) : Prop := Cond.fieldLink own idx cn (F j).2.1 (F j).2.2.1 ∈ AW ∨ ∃ host, Cond.fieldLinkNest own idx cn (F j).2.1 (F j).2.2.1 host ∈ NW

-- ===== the walk's own judgement: XW (a frame at pc with abstract locals and stack over an abstract heap comes to its end) =====
def tysL (ca : Nat → ClassId) : List (ClassId × FieldType) := [(ca 0, .int), (ca 1, .byte), (ca 2, .boolean), (ca 3, .object "LogStore$Transaction"), (ca 4, .object "LogStore$Contents"), (ca 5, .array .int)]
def rmd (d mc ms : Nat) : Room := { frames := d, cells := mc, slots := ms, locals := 28 * d + 30 }
abbrev XK : Type := Program × Launch × Env × Room × State × MethodId × Array Value × List Frame × Method × Code × (State → Prop) × va_G × (Nat → ClassId) × (Nat → Prop) × Heap × (Int → Nat) × Nat
def Wd (Ly : Int → LK) (T : Int → Int → Option Int) (D : va_G) (ca : Nat → ClassId) (A : Nat → Prop) (H0 : Heap) (ad0 : Int → Nat) (n0 n : Nat) (σ : Hp) (ad : Int → Nat) (H : Heap) (locs : List Loc) : Prop :=
  va_P D CL (cls ca Ly ad n σ) H ∧ va_D A (cls ca Ly ad n σ) ∧ va_S A H0 H locs ∧ okh Ly n σ ∧ fxd T n σ ∧ n0 ≤ n ∧ agr n0 ad0 ad
def XW (Ly : Int → LK) (T : Int → Int → Option Int) (K : XK) (n : Nat) (σ : Hp) (bc bs pc : Nat) (lv : List (Option AV)) (st : List AV) : Prop := match K with
  | (p, l, e, R, s, m, args, below, meth, c, Q, D, ca, A, H0, ad0, n0) => ∀ (ad : Int → Nat) (H : Heap) (locs : List Loc) (ls : Array Slot), Wd Ly T D ca A H0 ad0 n0 n σ ad H locs → lvs n ad ls c.maxLocals lv → oks n st → W p l e R s m args below meth c H locs bc bs Q (F0 m pc ls (st.map (cv ad)))
def Gst (D : va_G) (ca : Nat → ClassId) (U : State) : Prop := va_K D CL (tysL ca) U ∧ (∀ w ∈ NW, va_Nw w U) ∧ AOs U
def Cx (K : XK) (cc : ByteArray) (nL : Nat) (own : String) (d mc ms : Nat) : Prop := match K with
  | (p, _, _, R, s, m, args, _, meth, c, _, D, ca, A, H0, _, _) => p.tables.exec = Jvm.exec ∧ c.code = cc ∧ c.maxLocals = nL ∧ s.vm.findClass own = some m.cls ∧ (∀ w ∈ AW, w.before args s = true) ∧ Gst D ca s ∧ (∀ q, H0.size ≤ q → A q) ∧ meth.locks = false ∧ R = rmd d mc ms
section XR
variable {Ly : Int → LK} {T : Int → Int → Option Int} {K : XK} {n : Nat} {σ : Hp} {bc bs pc nL d mc ms : Nat} {lv : List (Option AV)} {st : List AV} {cc : ByteArray} {own : String}
theorem x_iconst (C : Cx K cc nL own d mc ms) {z : Int} (hd : decode cc pc = .ok (.iconst z, 1)) (hr : R3 z) (k : XW Ly T K n σ bc bs (pc + 1) lv (.inl z :: st)) : XW Ly T K n σ bc bs pc lv st := by
  obtain ⟨p, l, e, R, s, m, args, below, meth, c, Q, D, ca, A, H0, ad0, n0⟩ := K
  obtain ⟨hx, hb, hml, ho, hts, ⟨hK, hN, hO⟩, hA, hlk, hR⟩ := C
  intro ad H locs ls hW hl hs
  exact lv_iconst hx hb hd rfl (k ad H locs ls hW hl (oks_c.mpr ⟨hr, hs⟩))

theorem x_bipush (C : Cx K cc nL own d mc ms) {z : Int} (hd : decode cc pc = .ok (.bipush z, 2)) (hv : (Int8.ofInt z).toInt32 = iI z) (hr : R3 z) (k : XW Ly T K n σ bc bs (pc + 2) lv (.inl z :: st)) : XW Ly T K n σ bc bs pc lv st := by
  obtain ⟨p, l, e, R, s, m, args, below, meth, c, Q, D, ca, A, H0, ad0, n0⟩ := K
  obtain ⟨hx, hb, hml, ho, hts, ⟨hK, hN, hO⟩, hA, hlk, hR⟩ := C
  intro ad H locs ls hW hl hs
  exact lv_bipush hx hb hd hv (k ad H locs ls hW hl (oks_c.mpr ⟨hr, hs⟩))

theorem x_sipush (C : Cx K cc nL own d mc ms) {z : Int} (hd : decode cc pc = .ok (.sipush z, 3)) (hv : (Int16.ofInt z).toInt32 = iI z) (hr : R3 z) (k : XW Ly T K n σ bc bs (pc + 3) lv (.inl z :: st)) : XW Ly T K n σ bc bs pc lv st := by
  obtain ⟨p, l, e, R, s, m, args, below, meth, c, Q, D, ca, A, H0, ad0, n0⟩ := K
  obtain ⟨hx, hb, hml, ho, hts, ⟨hK, hN, hO⟩, hA, hlk, hR⟩ := C
  intro ad H locs ls hW hl hs
  exact lv_sipush hx hb hd hv (k ad H locs ls hW hl (oks_c.mpr ⟨hr, hs⟩))

theorem x_null (C : Cx K cc nL own d mc ms) (hd : decode cc pc = .ok (.aconst_null, 1)) (k : XW Ly T K n σ bc bs (pc + 1) lv (.inr 0 :: st)) : XW Ly T K n σ bc bs pc lv st := by
  obtain ⟨p, l, e, R, s, m, args, below, meth, c, Q, D, ca, A, H0, ad0, n0⟩ := K
  obtain ⟨hx, hb, hml, ho, hts, ⟨hK, hN, hO⟩, hA, hlk, hR⟩ := C
  intro ad H locs ls hW hl hs
  exact lv_null hx hb hd (k ad H locs ls hW hl (oks_c.mpr ⟨⟨Int.le_refl 0, by omega⟩, hs⟩))

theorem x_iload_n (C : Cx K cc nL own d mc ms) {q : Fin 4} {i : Nat} (hd : decode cc pc = .ok (.iload_n q, 1)) (hi : (q : Nat) = i) {x : Int} (hv : lv[i]? = some (some (.inl x))) (k : XW Ly T K n σ bc bs (pc + 1) lv (.inl x :: st)) : XW Ly T K n σ bc bs pc lv st := by
  obtain ⟨p, l, e, R, s, m, args, below, meth, c, Q, D, ca, A, H0, ad0, n0⟩ := K
  obtain ⟨hx, hb, hml, ho, hts, ⟨hK, hN, hO⟩, hA, hlk, hR⟩ := C
  intro ad H locs ls hW hl hs
  obtain ⟨h1, h2⟩ := hl.2.2.2 i _ hv
  exact lv_iload_n hx hb hd hi h1 (k ad H locs ls hW hl (oks_c.mpr ⟨h2, hs⟩))

theorem x_iload (C : Cx K cc nL own d mc ms) {i : Nat} (hd : decode cc pc = .ok (.iload i, 2))  {x : Int} (hv : lv[i]? = some (some (.inl x))) (k : XW Ly T K n σ bc bs (pc + 2) lv (.inl x :: st)) : XW Ly T K n σ bc bs pc lv st := by
  obtain ⟨p, l, e, R, s, m, args, below, meth, c, Q, D, ca, A, H0, ad0, n0⟩ := K
  obtain ⟨hx, hb, hml, ho, hts, ⟨hK, hN, hO⟩, hA, hlk, hR⟩ := C
  intro ad H locs ls hW hl hs
  obtain ⟨h1, h2⟩ := hl.2.2.2 i _ hv
  exact lv_iload hx hb hd  h1 (k ad H locs ls hW hl (oks_c.mpr ⟨h2, hs⟩))

theorem x_aload_n (C : Cx K cc nL own d mc ms) {q : Fin 4} {i : Nat} (hd : decode cc pc = .ok (.aload_n q, 1)) (hi : (q : Nat) = i) {v : Int} (hv : lv[i]? = some (some (.inr v))) (k : XW Ly T K n σ bc bs (pc + 1) lv (.inr v :: st)) : XW Ly T K n σ bc bs pc lv st := by
  obtain ⟨p, l, e, R, s, m, args, below, meth, c, Q, D, ca, A, H0, ad0, n0⟩ := K
  obtain ⟨hx, hb, hml, ho, hts, ⟨hK, hN, hO⟩, hA, hlk, hR⟩ := C
  intro ad H locs ls hW hl hs
  obtain ⟨h1, h2⟩ := hl.2.2.2 i _ hv
  have k1 := k ad H locs ls hW hl (oks_c.mpr ⟨h2, hs⟩)
  by_cases h0 : v = 0
  · subst h0
    exact lv_aload_nN hx hb hd hi h1 k1
  · rw [cv_r h0] at h1
    have k1 : W p l e R s m args below meth c H locs bc bs Q (F0 m (pc + 1) ls (cv ad (.inr v) :: st.map (cv ad))) := k1
    rw [cv_r h0] at k1
    exact lv_aload_n hx hb hd hi h1 k1

theorem x_aload (C : Cx K cc nL own d mc ms) {i : Nat} (hd : decode cc pc = .ok (.aload i, 2))  {v : Int} (hv : lv[i]? = some (some (.inr v))) (k : XW Ly T K n σ bc bs (pc + 2) lv (.inr v :: st)) : XW Ly T K n σ bc bs pc lv st := by
  obtain ⟨p, l, e, R, s, m, args, below, meth, c, Q, D, ca, A, H0, ad0, n0⟩ := K
  obtain ⟨hx, hb, hml, ho, hts, ⟨hK, hN, hO⟩, hA, hlk, hR⟩ := C
  intro ad H locs ls hW hl hs
  obtain ⟨h1, h2⟩ := hl.2.2.2 i _ hv
  have k1 := k ad H locs ls hW hl (oks_c.mpr ⟨h2, hs⟩)
  by_cases h0 : v = 0
  · subst h0
    exact lv_aloadN hx hb hd  h1 k1
  · rw [cv_r h0] at h1
    have k1 : W p l e R s m args below meth c H locs bc bs Q (F0 m (pc + 2) ls (cv ad (.inr v) :: st.map (cv ad))) := k1
    rw [cv_r h0] at k1
    exact lv_aload hx hb hd  h1 k1

theorem x_istore_n (C : Cx K cc nL own d mc ms) {q : Fin 4} {i : Nat} (hd : decode cc pc = .ok (.istore_n q, 1)) (hi : (q : Nat) = i) (hn : i < nL) {x : Int} (k : XW Ly T K n σ bc bs (pc + 1) (lv.set i (some (.inl x))) st) : XW Ly T K n σ bc bs pc lv (.inl x :: st) := by
  obtain ⟨p, l, e, R, s, m, args, below, meth, c, Q, D, ca, A, H0, ad0, n0⟩ := K
  obtain ⟨hx, hb, hml, ho, hts, ⟨hK, hN, hO⟩, hA, hlk, hR⟩ := C
  intro ad H locs ls hW hl hs
  obtain ⟨h2, hs⟩ := oks_c.mp hs
  refine lv_istore_n hx hb hd hi (lvs_has hl) (by rw [hml]; exact hn) rfl (fun ls' hl' => k ad H locs ls' hW (lvs_set hl (by rw [hml]; exact hn) h2 rfl hl') hs)

theorem x_istore (C : Cx K cc nL own d mc ms) {i : Nat} (hd : decode cc pc = .ok (.istore i, 2))  (hn : i < nL) {x : Int} (k : XW Ly T K n σ bc bs (pc + 2) (lv.set i (some (.inl x))) st) : XW Ly T K n σ bc bs pc lv (.inl x :: st) := by
  obtain ⟨p, l, e, R, s, m, args, below, meth, c, Q, D, ca, A, H0, ad0, n0⟩ := K
  obtain ⟨hx, hb, hml, ho, hts, ⟨hK, hN, hO⟩, hA, hlk, hR⟩ := C
  intro ad H locs ls hW hl hs
  obtain ⟨h2, hs⟩ := oks_c.mp hs
  refine lv_istore hx hb hd  (lvs_has hl) (by rw [hml]; exact hn) rfl (fun ls' hl' => k ad H locs ls' hW (lvs_set hl (by rw [hml]; exact hn) h2 rfl hl') hs)

theorem x_astore_n (C : Cx K cc nL own d mc ms) {q : Fin 4} {i : Nat} (hd : decode cc pc = .ok (.astore_n q, 1)) (hi : (q : Nat) = i) (hn : i < nL) {v : Int} (k : XW Ly T K n σ bc bs (pc + 1) (lv.set i (some (.inr v))) st) : XW Ly T K n σ bc bs pc lv (.inr v :: st) := by
  obtain ⟨p, l, e, R, s, m, args, below, meth, c, Q, D, ca, A, H0, ad0, n0⟩ := K
  obtain ⟨hx, hb, hml, ho, hts, ⟨hK, hN, hO⟩, hA, hlk, hR⟩ := C
  intro ad H locs ls hW hl hs
  obtain ⟨h2, hs2⟩ := oks_c.mp hs
  by_cases h0 : v = 0
  · subst h0
    exact lv_astore_nN hx hb hd hi (lvs_has hl) (by rw [hml]; exact hn) rfl (fun ls' hl' => k ad H locs ls' hW (lvs_set hl (by rw [hml]; exact hn) h2 rfl hl') hs2)
  · show W p l e R s m args below meth c H locs bc bs Q (F0 m pc ls (cv ad (.inr v) :: st.map (cv ad)))
    rw [cv_r h0]
    exact lv_astore_n hx hb hd hi (lvs_has hl) (by rw [hml]; exact hn) rfl (fun ls' hl' => k ad H locs ls' hW (lvs_set hl (by rw [hml]; exact hn) h2 (cv_r h0).symm hl') hs2)

theorem x_astore (C : Cx K cc nL own d mc ms) {i : Nat} (hd : decode cc pc = .ok (.astore i, 2))  (hn : i < nL) {v : Int} (k : XW Ly T K n σ bc bs (pc + 2) (lv.set i (some (.inr v))) st) : XW Ly T K n σ bc bs pc lv (.inr v :: st) := by
  obtain ⟨p, l, e, R, s, m, args, below, meth, c, Q, D, ca, A, H0, ad0, n0⟩ := K
  obtain ⟨hx, hb, hml, ho, hts, ⟨hK, hN, hO⟩, hA, hlk, hR⟩ := C
  intro ad H locs ls hW hl hs
  obtain ⟨h2, hs2⟩ := oks_c.mp hs
  by_cases h0 : v = 0
  · subst h0
    exact lv_astoreN hx hb hd  (lvs_has hl) (by rw [hml]; exact hn) rfl (fun ls' hl' => k ad H locs ls' hW (lvs_set hl (by rw [hml]; exact hn) h2 rfl hl') hs2)
  · show W p l e R s m args below meth c H locs bc bs Q (F0 m pc ls (cv ad (.inr v) :: st.map (cv ad)))
    rw [cv_r h0]
    exact lv_astore hx hb hd  (lvs_has hl) (by rw [hml]; exact hn) rfl (fun ls' hl' => k ad H locs ls' hW (lvs_set hl (by rw [hml]; exact hn) h2 (cv_r h0).symm hl') hs2)

theorem x_iinc (C : Cx K cc nL own d mc ms) {i : Nat} {z : Int} (hd : decode cc pc = .ok (.iinc i z, 3)) (hn : i < nL) {x : Int} (hv : lv[i]? = some (some (.inl x))) (hr : R3 (x + z)) (k : XW Ly T K n σ bc bs (pc + 3) (lv.set i (some (.inl (x + z)))) st) : XW Ly T K n σ bc bs pc lv st := by
  obtain ⟨p, l, e, R, s, m, args, below, meth, c, Q, D, ca, A, H0, ad0, n0⟩ := K
  obtain ⟨hx, hb, hml, ho, hts, ⟨hK, hN, hO⟩, hA, hlk, hR⟩ := C
  intro ad H locs ls hW hl hs
  obtain ⟨kk, hkk⟩ := List.getElem?_of_mem (lvp_in (ad := ad) (q := (i, .int (iI x))).mpr ⟨_, hv, rfl⟩)
  exact lv_iinc hx hb hd (lvs_has hl) hkk (iI_add x z) (by rw [hml]; exact hn) rfl (fun ls' hl' => k ad H locs ls' hW (lvs_set hl (by rw [hml]; exact hn) (show ov n (.inl (x + z)) from hr) rfl hl') hs)

theorem x_iadd (C : Cx K cc nL own d mc ms) {x y : Int} (hd : decode cc pc = .ok (.iadd, 1)) (hr : R3 (x + y)) (k : XW Ly T K n σ bc bs (pc + 1) lv (.inl (x + y) :: st)) : XW Ly T K n σ bc bs pc lv (.inl y :: .inl x :: st) := by
  obtain ⟨p, l, e, R, s, m, args, below, meth, c, Q, D, ca, A, H0, ad0, n0⟩ := K
  obtain ⟨hx, hb, hml, ho, hts, ⟨hK, hN, hO⟩, hA, hlk, hR⟩ := C
  intro ad H locs ls hW hl hs
  have k1 : W p l e R s m args below meth c H locs bc bs Q (F0 m (pc + 1) ls (.int (iI (x + y)) :: st.map (cv ad))) := k ad H locs ls hW hl (oks_c.mpr ⟨hr, (oks_c.mp (oks_c.mp hs).2).2⟩)
  rw [← iI_add] at k1
  exact lv_iadd hx hb hd k1

theorem x_isub (C : Cx K cc nL own d mc ms) {x y : Int} (hd : decode cc pc = .ok (.isub, 1)) (hr : R3 (x - y)) (k : XW Ly T K n σ bc bs (pc + 1) lv (.inl (x - y) :: st)) : XW Ly T K n σ bc bs pc lv (.inl y :: .inl x :: st) := by
  obtain ⟨p, l, e, R, s, m, args, below, meth, c, Q, D, ca, A, H0, ad0, n0⟩ := K
  obtain ⟨hx, hb, hml, ho, hts, ⟨hK, hN, hO⟩, hA, hlk, hR⟩ := C
  intro ad H locs ls hW hl hs
  have k1 : W p l e R s m args below meth c H locs bc bs Q (F0 m (pc + 1) ls (.int (iI (x - y)) :: st.map (cv ad))) := k ad H locs ls hW hl (oks_c.mpr ⟨hr, (oks_c.mp (oks_c.mp hs).2).2⟩)
  rw [← iI_sub] at k1
  exact lv_isub hx hb hd k1

theorem x_imul (C : Cx K cc nL own d mc ms) {x y : Int} (hd : decode cc pc = .ok (.imul, 1)) (hr : R3 (x * y)) (k : XW Ly T K n σ bc bs (pc + 1) lv (.inl (x * y) :: st)) : XW Ly T K n σ bc bs pc lv (.inl y :: .inl x :: st) := by
  obtain ⟨p, l, e, R, s, m, args, below, meth, c, Q, D, ca, A, H0, ad0, n0⟩ := K
  obtain ⟨hx, hb, hml, ho, hts, ⟨hK, hN, hO⟩, hA, hlk, hR⟩ := C
  intro ad H locs ls hW hl hs
  have k1 : W p l e R s m args below meth c H locs bc bs Q (F0 m (pc + 1) ls (.int (iI (x * y)) :: st.map (cv ad))) := k ad H locs ls hW hl (oks_c.mpr ⟨hr, (oks_c.mp (oks_c.mp hs).2).2⟩)
  rw [← iI_mul] at k1
  exact lv_imul hx hb hd k1

theorem x_idiv (C : Cx K cc nL own d mc ms) {x y : Int} (hd : decode cc pc = .ok (.idiv, 1)) (h0 : 0 ≤ x) (h1 : 0 < y) (k : XW Ly T K n σ bc bs (pc + 1) lv (.inl (x / y) :: st)) : XW Ly T K n σ bc bs pc lv (.inl y :: .inl x :: st) := by
  obtain ⟨p, l, e, R, s, m, args, below, meth, c, Q, D, ca, A, H0, ad0, n0⟩ := K
  obtain ⟨hx, hb, hml, ho, hts, ⟨hK, hN, hO⟩, hA, hlk, hR⟩ := C
  intro ad H locs ls hW hl hs
  obtain ⟨hy, hs⟩ := oks_c.mp hs
  obtain ⟨hxx, hs⟩ := oks_c.mp hs
  have hr : R3 (x / y) := ⟨by have := Int.ediv_nonneg h0 (Int.le_of_lt h1); omega, by have := Int.ediv_le_self y h0; have := hxx.2; omega⟩
  have k1 : W p l e R s m args below meth c H locs bc bs Q (F0 m (pc + 1) ls (.int (iI (x / y)) :: st.map (cv ad))) := k ad H locs ls hW hl (oks_c.mpr ⟨hr, hs⟩)
  rw [← iI_div hxx hy h0 h1] at k1
  refine lv_idiv hx hb hd (fun h => ?_) k1
  rw [← iI_0, iI_eq hy ⟨by decide, by decide⟩] at h
  omega

theorem x_irem (C : Cx K cc nL own d mc ms) {x y : Int} (hd : decode cc pc = .ok (.irem, 1)) (h0 : 0 ≤ x) (h1 : 0 < y) (k : XW Ly T K n σ bc bs (pc + 1) lv (.inl (x % y) :: st)) : XW Ly T K n σ bc bs pc lv (.inl y :: .inl x :: st) := by
  obtain ⟨p, l, e, R, s, m, args, below, meth, c, Q, D, ca, A, H0, ad0, n0⟩ := K
  obtain ⟨hx, hb, hml, ho, hts, ⟨hK, hN, hO⟩, hA, hlk, hR⟩ := C
  intro ad H locs ls hW hl hs
  obtain ⟨hy, hs⟩ := oks_c.mp hs
  obtain ⟨hxx, hs⟩ := oks_c.mp hs
  have hr : R3 (x % y) := ⟨by have := Int.emod_nonneg x (by omega : y ≠ 0); omega, by have := Int.emod_lt_of_pos x h1; have := hy.2; omega⟩
  have k1 : W p l e R s m args below meth c H locs bc bs Q (F0 m (pc + 1) ls (.int (iI (x % y)) :: st.map (cv ad))) := k ad H locs ls hW hl (oks_c.mpr ⟨hr, hs⟩)
  rw [← iI_rem hxx hy h0 h1] at k1
  refine lv_irem hx hb hd (fun h => ?_) k1
  rw [← iI_0, iI_eq hy ⟨by decide, by decide⟩] at h
  omega

theorem x_i2b (C : Cx K cc nL own d mc ms) {x : Int} (hd : decode cc pc = .ok (.i2b, 1)) (h1 : -128 ≤ x) (h2 : x ≤ 127) (k : XW Ly T K n σ bc bs (pc + 1) lv (.inl x :: st)) : XW Ly T K n σ bc bs pc lv (.inl x :: st) := by
  obtain ⟨p, l, e, R, s, m, args, below, meth, c, Q, D, ca, A, H0, ad0, n0⟩ := K
  obtain ⟨hx, hb, hml, ho, hts, ⟨hK, hN, hO⟩, hA, hlk, hR⟩ := C
  intro ad H locs ls hW hl hs
  exact lv_i2b hx hb hd (iI_b h1 h2) (k ad H locs ls hW hl hs)

theorem x_dup (C : Cx K cc nL own d mc ms) {v : AV} (hd : decode cc pc = .ok (.dup, 1)) (k : XW Ly T K n σ bc bs (pc + 1) lv (v :: v :: st)) : XW Ly T K n σ bc bs pc lv (v :: st) := by
  obtain ⟨p, l, e, R, s, m, args, below, meth, c, Q, D, ca, A, H0, ad0, n0⟩ := K
  obtain ⟨hx, hb, hml, ho, hts, ⟨hK, hN, hO⟩, hA, hlk, hR⟩ := C
  intro ad H locs ls hW hl hs
  exact lv_dup hx hb hd (cv_cat ad v) (k ad H locs ls hW hl (oks_c.mpr ⟨(oks_c.mp hs).1, hs⟩))

theorem x_pop (C : Cx K cc nL own d mc ms) {v : AV} (hd : decode cc pc = .ok (.pop, 1)) (k : XW Ly T K n σ bc bs (pc + 1) lv st) : XW Ly T K n σ bc bs pc lv (v :: st) := by
  obtain ⟨p, l, e, R, s, m, args, below, meth, c, Q, D, ca, A, H0, ad0, n0⟩ := K
  obtain ⟨hx, hb, hml, ho, hts, ⟨hK, hN, hO⟩, hA, hlk, hR⟩ := C
  intro ad H locs ls hW hl hs
  exact lv_pop hx hb hd (cv_cat ad v) (k ad H locs ls hW hl (oks_c.mp hs).2)

theorem x_dup_x1 (C : Cx K cc nL own d mc ms) {v w : AV} (hd : decode cc pc = .ok (.dup_x1, 1)) (k : XW Ly T K n σ bc bs (pc + 1) lv (v :: w :: v :: st)) : XW Ly T K n σ bc bs pc lv (v :: w :: st) := by
  obtain ⟨p, l, e, R, s, m, args, below, meth, c, Q, D, ca, A, H0, ad0, n0⟩ := K
  obtain ⟨hx, hb, hml, ho, hts, ⟨hK, hN, hO⟩, hA, hlk, hR⟩ := C
  intro ad H locs ls hW hl hs
  obtain ⟨a1, hs⟩ := oks_c.mp hs
  obtain ⟨a2, hs⟩ := oks_c.mp hs
  exact lv_dup_x1 hx hb hd (cv_cat ad v) (cv_cat ad w) (k ad H locs ls hW hl (oks_c.mpr ⟨a1, oks_c.mpr ⟨a2, oks_c.mpr ⟨a1, hs⟩⟩⟩))

theorem x_dup2 (C : Cx K cc nL own d mc ms) {v w : AV} (hd : decode cc pc = .ok (.dup2, 1)) (k : XW Ly T K n σ bc bs (pc + 1) lv (v :: w :: v :: w :: st)) : XW Ly T K n σ bc bs pc lv (v :: w :: st) := by
  obtain ⟨p, l, e, R, s, m, args, below, meth, c, Q, D, ca, A, H0, ad0, n0⟩ := K
  obtain ⟨hx, hb, hml, ho, hts, ⟨hK, hN, hO⟩, hA, hlk, hR⟩ := C
  intro ad H locs ls hW hl hs
  obtain ⟨a1, hs1⟩ := oks_c.mp hs
  obtain ⟨a2, hs2⟩ := oks_c.mp hs1
  exact lv_dup2_11 hx hb hd (cv_cat ad v) (cv_cat ad w) (k ad H locs ls hW hl (oks_c.mpr ⟨a1, oks_c.mpr ⟨a2, hs⟩⟩))

theorem x_icmp_eq (C : Cx K cc nL own d mc ms) {x y off : Int} {tgt : Nat} (hd : decode cc pc = .ok (.if_icmp .eq off, 3)) (ht : (pc : Int) + off = (tgt : Int)) (kt : x = y → XW Ly T K n σ bc bs tgt lv st) (kf : ¬ x = y → XW Ly T K n σ bc bs (pc + 3) lv st) : XW Ly T K n σ bc bs pc lv (.inl y :: .inl x :: st) := by
  obtain ⟨p, l, e, R, s, m, args, below, meth, c, Q, D, ca, A, H0, ad0, n0⟩ := K
  obtain ⟨hx, hb, hml, ho, hts, ⟨hK, hN, hO⟩, hA, hlk, hR⟩ := C
  intro ad H locs ls hW hl hs
  obtain ⟨hy, hs⟩ := oks_c.mp hs
  obtain ⟨hxx, hs⟩ := oks_c.mp hs
  exact lv_icmp_eq hx hb hd ht (fun h => kt ((iI_eq hxx hy).mp h) ad H locs ls hW hl hs) (fun h => kf (fun q => h ((iI_eq hxx hy).mpr q)) ad H locs ls hW hl hs)

theorem x_if_eq (C : Cx K cc nL own d mc ms) {x off : Int} {tgt : Nat} (hd : decode cc pc = .ok (.ifCond .eq off, 3)) (ht : (pc : Int) + off = (tgt : Int)) (kt : x = 0 → XW Ly T K n σ bc bs tgt lv st) (kf : ¬ x = 0 → XW Ly T K n σ bc bs (pc + 3) lv st) : XW Ly T K n σ bc bs pc lv (.inl x :: st) := by
  obtain ⟨p, l, e, R, s, m, args, below, meth, c, Q, D, ca, A, H0, ad0, n0⟩ := K
  obtain ⟨hx, hb, hml, ho, hts, ⟨hK, hN, hO⟩, hA, hlk, hR⟩ := C
  intro ad H locs ls hW hl hs
  obtain ⟨hxx, hs⟩ := oks_c.mp hs
  exact lv_if_eq hx hb hd ht (fun h => kt ((iI_eq hxx r3_0).mp h) ad H locs ls hW hl hs) (fun h => kf (fun q => h ((iI_eq hxx r3_0).mpr q)) ad H locs ls hW hl hs)

theorem x_icmp_ne (C : Cx K cc nL own d mc ms) {x y off : Int} {tgt : Nat} (hd : decode cc pc = .ok (.if_icmp .ne off, 3)) (ht : (pc : Int) + off = (tgt : Int)) (kt : ¬ x = y → XW Ly T K n σ bc bs tgt lv st) (kf : x = y → XW Ly T K n σ bc bs (pc + 3) lv st) : XW Ly T K n σ bc bs pc lv (.inl y :: .inl x :: st) := by
  obtain ⟨p, l, e, R, s, m, args, below, meth, c, Q, D, ca, A, H0, ad0, n0⟩ := K
  obtain ⟨hx, hb, hml, ho, hts, ⟨hK, hN, hO⟩, hA, hlk, hR⟩ := C
  intro ad H locs ls hW hl hs
  obtain ⟨hy, hs⟩ := oks_c.mp hs
  obtain ⟨hxx, hs⟩ := oks_c.mp hs
  exact lv_icmp_ne hx hb hd ht (fun h => kt (fun q => h ((iI_eq hxx hy).mpr q)) ad H locs ls hW hl hs) (fun h => kf ((iI_eq hxx hy).mp h) ad H locs ls hW hl hs)

theorem x_if_ne (C : Cx K cc nL own d mc ms) {x off : Int} {tgt : Nat} (hd : decode cc pc = .ok (.ifCond .ne off, 3)) (ht : (pc : Int) + off = (tgt : Int)) (kt : ¬ x = 0 → XW Ly T K n σ bc bs tgt lv st) (kf : x = 0 → XW Ly T K n σ bc bs (pc + 3) lv st) : XW Ly T K n σ bc bs pc lv (.inl x :: st) := by
  obtain ⟨p, l, e, R, s, m, args, below, meth, c, Q, D, ca, A, H0, ad0, n0⟩ := K
  obtain ⟨hx, hb, hml, ho, hts, ⟨hK, hN, hO⟩, hA, hlk, hR⟩ := C
  intro ad H locs ls hW hl hs
  obtain ⟨hxx, hs⟩ := oks_c.mp hs
  exact lv_if_ne hx hb hd ht (fun h => kt (fun q => h ((iI_eq hxx r3_0).mpr q)) ad H locs ls hW hl hs) (fun h => kf ((iI_eq hxx r3_0).mp h) ad H locs ls hW hl hs)

theorem x_icmp_lt (C : Cx K cc nL own d mc ms) {x y off : Int} {tgt : Nat} (hd : decode cc pc = .ok (.if_icmp .lt off, 3)) (ht : (pc : Int) + off = (tgt : Int)) (kt : x < y → XW Ly T K n σ bc bs tgt lv st) (kf : y ≤ x → XW Ly T K n σ bc bs (pc + 3) lv st) : XW Ly T K n σ bc bs pc lv (.inl y :: .inl x :: st) := by
  obtain ⟨p, l, e, R, s, m, args, below, meth, c, Q, D, ca, A, H0, ad0, n0⟩ := K
  obtain ⟨hx, hb, hml, ho, hts, ⟨hK, hN, hO⟩, hA, hlk, hR⟩ := C
  intro ad H locs ls hW hl hs
  obtain ⟨hy, hs⟩ := oks_c.mp hs
  obtain ⟨hxx, hs⟩ := oks_c.mp hs
  exact lv_icmp_lt hx hb hd ht (fun h => kt ((iI_lt hxx hy).mp h) ad H locs ls hW hl hs) (fun h => kf (Int.not_lt.mp (fun q => h ((iI_lt hxx hy).mpr q))) ad H locs ls hW hl hs)

theorem x_if_lt (C : Cx K cc nL own d mc ms) {x off : Int} {tgt : Nat} (hd : decode cc pc = .ok (.ifCond .lt off, 3)) (ht : (pc : Int) + off = (tgt : Int)) (kt : x < 0 → XW Ly T K n σ bc bs tgt lv st) (kf : 0 ≤ x → XW Ly T K n σ bc bs (pc + 3) lv st) : XW Ly T K n σ bc bs pc lv (.inl x :: st) := by
  obtain ⟨p, l, e, R, s, m, args, below, meth, c, Q, D, ca, A, H0, ad0, n0⟩ := K
  obtain ⟨hx, hb, hml, ho, hts, ⟨hK, hN, hO⟩, hA, hlk, hR⟩ := C
  intro ad H locs ls hW hl hs
  obtain ⟨hxx, hs⟩ := oks_c.mp hs
  exact lv_if_lt hx hb hd ht (fun h => kt ((iI_lt hxx r3_0).mp h) ad H locs ls hW hl hs) (fun h => kf (Int.not_lt.mp (fun q => h ((iI_lt hxx r3_0).mpr q))) ad H locs ls hW hl hs)

theorem x_icmp_ge (C : Cx K cc nL own d mc ms) {x y off : Int} {tgt : Nat} (hd : decode cc pc = .ok (.if_icmp .ge off, 3)) (ht : (pc : Int) + off = (tgt : Int)) (kt : y ≤ x → XW Ly T K n σ bc bs tgt lv st) (kf : x < y → XW Ly T K n σ bc bs (pc + 3) lv st) : XW Ly T K n σ bc bs pc lv (.inl y :: .inl x :: st) := by
  obtain ⟨p, l, e, R, s, m, args, below, meth, c, Q, D, ca, A, H0, ad0, n0⟩ := K
  obtain ⟨hx, hb, hml, ho, hts, ⟨hK, hN, hO⟩, hA, hlk, hR⟩ := C
  intro ad H locs ls hW hl hs
  obtain ⟨hy, hs⟩ := oks_c.mp hs
  obtain ⟨hxx, hs⟩ := oks_c.mp hs
  exact lv_icmp_ge hx hb hd ht (fun h => kt ((iI_le hy hxx).mp h) ad H locs ls hW hl hs) (fun h => kf (Int.not_le.mp (fun q => h ((iI_le hy hxx).mpr q))) ad H locs ls hW hl hs)

theorem x_if_ge (C : Cx K cc nL own d mc ms) {x off : Int} {tgt : Nat} (hd : decode cc pc = .ok (.ifCond .ge off, 3)) (ht : (pc : Int) + off = (tgt : Int)) (kt : 0 ≤ x → XW Ly T K n σ bc bs tgt lv st) (kf : x < 0 → XW Ly T K n σ bc bs (pc + 3) lv st) : XW Ly T K n σ bc bs pc lv (.inl x :: st) := by
  obtain ⟨p, l, e, R, s, m, args, below, meth, c, Q, D, ca, A, H0, ad0, n0⟩ := K
  obtain ⟨hx, hb, hml, ho, hts, ⟨hK, hN, hO⟩, hA, hlk, hR⟩ := C
  intro ad H locs ls hW hl hs
  obtain ⟨hxx, hs⟩ := oks_c.mp hs
  exact lv_if_ge hx hb hd ht (fun h => kt ((iI_le r3_0 hxx).mp h) ad H locs ls hW hl hs) (fun h => kf (Int.not_le.mp (fun q => h ((iI_le r3_0 hxx).mpr q))) ad H locs ls hW hl hs)

theorem x_icmp_gt (C : Cx K cc nL own d mc ms) {x y off : Int} {tgt : Nat} (hd : decode cc pc = .ok (.if_icmp .gt off, 3)) (ht : (pc : Int) + off = (tgt : Int)) (kt : y < x → XW Ly T K n σ bc bs tgt lv st) (kf : x ≤ y → XW Ly T K n σ bc bs (pc + 3) lv st) : XW Ly T K n σ bc bs pc lv (.inl y :: .inl x :: st) := by
  obtain ⟨p, l, e, R, s, m, args, below, meth, c, Q, D, ca, A, H0, ad0, n0⟩ := K
  obtain ⟨hx, hb, hml, ho, hts, ⟨hK, hN, hO⟩, hA, hlk, hR⟩ := C
  intro ad H locs ls hW hl hs
  obtain ⟨hy, hs⟩ := oks_c.mp hs
  obtain ⟨hxx, hs⟩ := oks_c.mp hs
  exact lv_icmp_gt hx hb hd ht (fun h => kt ((iI_lt hy hxx).mp h) ad H locs ls hW hl hs) (fun h => kf (Int.not_lt.mp (fun q => h ((iI_lt hy hxx).mpr q))) ad H locs ls hW hl hs)

theorem x_if_gt (C : Cx K cc nL own d mc ms) {x off : Int} {tgt : Nat} (hd : decode cc pc = .ok (.ifCond .gt off, 3)) (ht : (pc : Int) + off = (tgt : Int)) (kt : 0 < x → XW Ly T K n σ bc bs tgt lv st) (kf : x ≤ 0 → XW Ly T K n σ bc bs (pc + 3) lv st) : XW Ly T K n σ bc bs pc lv (.inl x :: st) := by
  obtain ⟨p, l, e, R, s, m, args, below, meth, c, Q, D, ca, A, H0, ad0, n0⟩ := K
  obtain ⟨hx, hb, hml, ho, hts, ⟨hK, hN, hO⟩, hA, hlk, hR⟩ := C
  intro ad H locs ls hW hl hs
  obtain ⟨hxx, hs⟩ := oks_c.mp hs
  exact lv_if_gt hx hb hd ht (fun h => kt ((iI_lt r3_0 hxx).mp h) ad H locs ls hW hl hs) (fun h => kf (Int.not_lt.mp (fun q => h ((iI_lt r3_0 hxx).mpr q))) ad H locs ls hW hl hs)

theorem x_icmp_le (C : Cx K cc nL own d mc ms) {x y off : Int} {tgt : Nat} (hd : decode cc pc = .ok (.if_icmp .le off, 3)) (ht : (pc : Int) + off = (tgt : Int)) (kt : x ≤ y → XW Ly T K n σ bc bs tgt lv st) (kf : y < x → XW Ly T K n σ bc bs (pc + 3) lv st) : XW Ly T K n σ bc bs pc lv (.inl y :: .inl x :: st) := by
  obtain ⟨p, l, e, R, s, m, args, below, meth, c, Q, D, ca, A, H0, ad0, n0⟩ := K
  obtain ⟨hx, hb, hml, ho, hts, ⟨hK, hN, hO⟩, hA, hlk, hR⟩ := C
  intro ad H locs ls hW hl hs
  obtain ⟨hy, hs⟩ := oks_c.mp hs
  obtain ⟨hxx, hs⟩ := oks_c.mp hs
  exact lv_icmp_le hx hb hd ht (fun h => kt ((iI_le hxx hy).mp h) ad H locs ls hW hl hs) (fun h => kf (Int.not_le.mp (fun q => h ((iI_le hxx hy).mpr q))) ad H locs ls hW hl hs)

theorem x_if_le (C : Cx K cc nL own d mc ms) {x off : Int} {tgt : Nat} (hd : decode cc pc = .ok (.ifCond .le off, 3)) (ht : (pc : Int) + off = (tgt : Int)) (kt : x ≤ 0 → XW Ly T K n σ bc bs tgt lv st) (kf : 0 < x → XW Ly T K n σ bc bs (pc + 3) lv st) : XW Ly T K n σ bc bs pc lv (.inl x :: st) := by
  obtain ⟨p, l, e, R, s, m, args, below, meth, c, Q, D, ca, A, H0, ad0, n0⟩ := K
  obtain ⟨hx, hb, hml, ho, hts, ⟨hK, hN, hO⟩, hA, hlk, hR⟩ := C
  intro ad H locs ls hW hl hs
  obtain ⟨hxx, hs⟩ := oks_c.mp hs
  exact lv_if_le hx hb hd ht (fun h => kt ((iI_le hxx r3_0).mp h) ad H locs ls hW hl hs) (fun h => kf (Int.not_le.mp (fun q => h ((iI_le hxx r3_0).mpr q))) ad H locs ls hW hl hs)

theorem x_goto (C : Cx K cc nL own d mc ms) {off : Int} {tgt : Nat} (hd : decode cc pc = .ok (.goto off, 3)) (ht : (pc : Int) + off = (tgt : Int)) (k : XW Ly T K n σ bc bs tgt lv st) : XW Ly T K n σ bc bs pc lv st := by
  obtain ⟨p, l, e, R, s, m, args, below, meth, c, Q, D, ca, A, H0, ad0, n0⟩ := K
  obtain ⟨hx, hb, hml, ho, hts, ⟨hK, hN, hO⟩, hA, hlk, hR⟩ := C
  intro ad H locs ls hW hl hs
  exact lv_goto hx hb hd ht (k ad H locs ls hW hl hs)

theorem x_ifnull (C : Cx K cc nL own d mc ms) {v off : Int} {tgt : Nat} (hd : decode cc pc = .ok (.ifnull off, 3)) (ht : (pc : Int) + off = (tgt : Int)) (kt : v = 0 → XW Ly T K n σ bc bs tgt lv st) (kf : ¬ v = 0 → XW Ly T K n σ bc bs (pc + 3) lv st) : XW Ly T K n σ bc bs pc lv (.inr v :: st) := by
  obtain ⟨p, l, e, R, s, m, args, below, meth, c, Q, D, ca, A, H0, ad0, n0⟩ := K
  obtain ⟨hx, hb, hml, ho, hts, ⟨hK, hN, hO⟩, hA, hlk, hR⟩ := C
  intro ad H locs ls hW hl hs
  obtain ⟨h2, hs2⟩ := oks_c.mp hs
  by_cases h0 : v = 0
  · subst h0
    exact lv_ifnullN hx hb hd ht (kt rfl ad H locs ls hW hl hs2)
  · show W p l e R s m args below meth c H locs bc bs Q (F0 m pc ls (cv ad (.inr v) :: st.map (cv ad)))
    rw [cv_r h0]
    exact lv_ifnull hx hb hd (kf h0 ad H locs ls hW hl hs2)

theorem x_ifnonnull (C : Cx K cc nL own d mc ms) {v off : Int} {tgt : Nat} (hd : decode cc pc = .ok (.ifnonnull off, 3)) (ht : (pc : Int) + off = (tgt : Int)) (kt : ¬ v = 0 → XW Ly T K n σ bc bs tgt lv st) (kf : v = 0 → XW Ly T K n σ bc bs (pc + 3) lv st) : XW Ly T K n σ bc bs pc lv (.inr v :: st) := by
  obtain ⟨p, l, e, R, s, m, args, below, meth, c, Q, D, ca, A, H0, ad0, n0⟩ := K
  obtain ⟨hx, hb, hml, ho, hts, ⟨hK, hN, hO⟩, hA, hlk, hR⟩ := C
  intro ad H locs ls hW hl hs
  obtain ⟨h2, hs2⟩ := oks_c.mp hs
  by_cases h0 : v = 0
  · subst h0
    exact lv_ifnonnullN hx hb hd (kf rfl ad H locs ls hW hl hs2)
  · show W p l e R s m args below meth c H locs bc bs Q (F0 m pc ls (cv ad (.inr v) :: st.map (cv ad)))
    rw [cv_r h0]
    exact lv_ifnonnull hx hb hd ht (kt h0 ad H locs ls hW hl hs2)

theorem x_acmp_eq (C : Cx K cc nL own d mc ms) {v w off : Int} {tgt : Nat} (hd : decode cc pc = .ok (.if_acmp .eq off, 3)) (ht : (pc : Int) + off = (tgt : Int)) (kt : v = w → XW Ly T K n σ bc bs tgt lv st) (kf : ¬ v = w → XW Ly T K n σ bc bs (pc + 3) lv st) : XW Ly T K n σ bc bs pc lv (.inr w :: .inr v :: st) := by
  obtain ⟨p, l, e, R, s, m, args, below, meth, c, Q, D, ca, A, H0, ad0, n0⟩ := K
  obtain ⟨hx, hb, hml, ho, hts, ⟨hK, hN, hO⟩, hA, hlk, hR⟩ := C
  intro ad H locs ls hW hl hs
  obtain ⟨h3, hs⟩ := oks_c.mp hs
  obtain ⟨h2, hs⟩ := oks_c.mp hs
  show W p l e R s m args below meth c H locs bc bs Q (F0 m pc ls (cv ad (.inr w) :: cv ad (.inr v) :: st.map (cv ad)))
  rw [← rf_orf, ← rf_orf]
  exact lv_acmp_eq hx hb hd ht (fun h => kt (orf_inj hW.2.1 h2 h3 h) ad H locs ls hW hl hs) (fun h => kf (fun q => h (by rw [q])) ad H locs ls hW hl hs)

theorem x_acmp_ne (C : Cx K cc nL own d mc ms) {v w off : Int} {tgt : Nat} (hd : decode cc pc = .ok (.if_acmp .ne off, 3)) (ht : (pc : Int) + off = (tgt : Int)) (kt : ¬ v = w → XW Ly T K n σ bc bs tgt lv st) (kf : v = w → XW Ly T K n σ bc bs (pc + 3) lv st) : XW Ly T K n σ bc bs pc lv (.inr w :: .inr v :: st) := by
  obtain ⟨p, l, e, R, s, m, args, below, meth, c, Q, D, ca, A, H0, ad0, n0⟩ := K
  obtain ⟨hx, hb, hml, ho, hts, ⟨hK, hN, hO⟩, hA, hlk, hR⟩ := C
  intro ad H locs ls hW hl hs
  obtain ⟨h3, hs⟩ := oks_c.mp hs
  obtain ⟨h2, hs⟩ := oks_c.mp hs
  show W p l e R s m args below meth c H locs bc bs Q (F0 m pc ls (cv ad (.inr w) :: cv ad (.inr v) :: st.map (cv ad)))
  rw [← rf_orf, ← rf_orf]
  exact lv_acmp_ne hx hb hd ht (fun h => kt (fun q => h (by rw [q])) ad H locs ls hW hl hs) (fun h => kf (orf_inj hW.2.1 h2 h3 h) ad H locs ls hW hl hs)



theorem x_getf (C : Cx K cc nL own d mc ms) {ci idx j t N : Nat} {cn : String} {F : u_T} {ts : List Nat} {ty : Nat → FieldType} {v : Int} (cf : CF ci cn F N ts ty) (fl : FLk own idx cn F j) (hd : decode cc pc = .ok (.getfield idx, 3)) (hj : ts[j]? = some t) (hL : Ly v = .inl (ci, ts)) (h1 : 1 ≤ v) (h2 : v ≤ (n : Int)) (k : ov n (fav t (σ v j)) → (∀ u : Int, T v j = some u → σ v j = u) → XW Ly T K n σ bc bs (pc + 3) lv (fav t (σ v j) :: st)) : XW Ly T K n σ bc bs pc lv (.inr v :: st) := by
  obtain ⟨p, l, e, R, s, m, args, below, meth, c, Q, D, ca, A, H0, ad0, n0⟩ := K
  obtain ⟨hx, hb, hml, ho, hts, ⟨hK, hN, hO⟩, hA, hlk, hR⟩ := C
  intro ad H locs ls hW hl hs
  obtain ⟨-, hs⟩ := oks_c.mp hs
  obtain ⟨c1, c2, c3, c4, c5, c6⟩ := cf
  have hjN : j < N := by rw [← c3]; exact (List.getElem?_eq_some_iff.mp hj).1
  obtain ⟨hP, hD, hS, hok, hrest⟩ := hW
  have hov : ov n (fav t (σ v j)) := by
    obtain ⟨r1, r2⟩ := hok v j h1 h2 (by omega)
    unfold fav
    by_cases ht : t = 2
    · rw [if_pos ht]
      exact r2 (by rw [hL]; simp [kdL, hj, ht])
    · rw [if_neg ht]; exact r1
  have he := cls_at (ca := ca) (Ly := Ly) (ad := ad) (σ := σ) h1 h2
  rw [hL] at he
  have hv : (ts.zipIdx.map fun q => fvl ad q.1 (σ v (q.2 : Nat)))[j]? = some (cv ad (fav t (σ v j))) := by
    rw [List.getElem?_map, List.getElem?_zipIdx, hj, cv_fav]; simp
  have k1 := k hov (fun u hu => hrest.1 v j u h1 h2 hu) ad H locs ls ⟨hP, hD, hS, hok, hrest⟩ hl (oks_c.mpr ⟨hov, hs⟩)
  show W p l e R s m args below meth c H locs bc bs Q (F0 m pc ls (cv ad (.inr v) :: st.map (cv ad)))
  rw [cv_r (by omega)]
  rcases fl with fl | ⟨host, fl⟩
  · exact va_get hx hb hts c2 ho hK hP _ he c1 j hjN (hts _ fl) (fun x h => by rw [c6 j hjN] at h; exact h) hv hd k1
  · exact va_getN hx hb hts c2 ho hK hP _ he c1 j hjN (va_Nw.use rfl (hN _ fl)) (fun x h => by rw [c6 j hjN] at h; exact h) hv hd k1

theorem x_putI (C : Cx K cc nL own d mc ms) {ci idx j t N : Nat} {cn : String} {F : u_T} {ts : List Nat} {ty : Nat → FieldType} {v x : Int} (ji : Int) (hji : (j : Int) = ji) (cf : CF ci cn F N ts ty) (fl : FLk own idx cn F j) (hd : decode cc pc = .ok (.putfield idx, 3)) (hj : ts[j]? = some t) (ht : ty j = .int ∧ t = 0 ∨ ty j = .boolean ∧ t = 1 ∧ 0 ≤ x ∧ x ≤ 1) (hfin : (F j).2.2.2 = false) (hT : T v ji = none) (hL : Ly v = .inl (ci, ts)) (h1 : 1 ≤ v) (h2 : v ≤ (n : Int)) (k : XW Ly T K n (st2 σ v ji x) bc bs (pc + 3) lv st) : XW Ly T K n σ bc bs pc lv (.inl x :: .inr v :: st) := by
  obtain ⟨p, l, e, R, s, m, args, below, meth, c, Q, D, ca, A, H0, ad0, n0⟩ := K
  obtain ⟨hx, hb, hml, ho, hts, ⟨hK, hN, hO⟩, hA, hlk, hR⟩ := C
  intro ad H locs ls hW hl hs
  subst hji
  obtain ⟨hr, hs⟩ := oks_c.mp hs
  obtain ⟨-, hs⟩ := oks_c.mp hs
  obtain ⟨c1, c2, c3, c4, c5, c6⟩ := cf
  have hjN : j < N := by rw [← c3]; exact (List.getElem?_eq_some_iff.mp hj).1
  obtain ⟨hP, hD, hS, hok, hfx, hn0, hag⟩ := hW
  have ht2 : ¬ t = 2 := by rcases ht with ⟨-, h⟩ | ⟨-, h, -⟩ <;> omega
  have he := cls_at (ca := ca) (Ly := Ly) (ad := ad) (σ := σ) h1 h2
  rw [hL] at he
  have hnf : narrow (ty j) (.int (iI x)) = .int (iI x) ∧ fits (ty j) (.int (iI x)) = true := by
    rcases ht with ⟨h, -⟩ | ⟨h, -, ha, hb⟩
    · rw [h]; exact ⟨rfl, rfl⟩
    · rw [h]; exact iI_z ha hb
  have hset : ctn ca (Ly v) ad (st2 σ v j x v) = .inr (ci, (ts.zipIdx.map fun q => fvl ad q.1 (σ v (q.2 : Nat))).set j (.int (iI x))) := by
    rw [hL]
    show Sum.inr (ci, _) = Sum.inr (ci, _)
    rw [ctn_obj hj (f := σ v) (f' := st2 σ v j x v) (fun b => st2_at)]
    simp [fvl, ht2]
  show W p l e R s m args below meth c H locs bc bs Q (F0 m pc ls (.int (iI x) :: cv ad (.inr v) :: st.map (cv ad)))
  rw [cv_r (by omega)]
  have kk : ∀ (H1 : Heap) (locs1 : List Loc), va_P D CL ((cls ca Ly ad n σ).set (v - 1).toNat (ad v, .inr (ci, (ts.zipIdx.map fun q => fvl ad q.1 (σ v (q.2 : Nat))).set j (.int (iI x))))) H1 → va_D A ((cls ca Ly ad n σ).set (v - 1).toNat (ad v, .inr (ci, (ts.zipIdx.map fun q => fvl ad q.1 (σ v (q.2 : Nat))).set j (.int (iI x))))) → va_S A H0 H1 locs1 → W p l e R s m args below meth c H1 locs1 bc bs Q (F0 m (pc + 3) ls (st.map (cv ad))) := by
    intro H1 locs1 hP1 hD1 hS1
    rw [cls_set h1 h2 hset (fun u hu => st2_ne hu)] at hP1 hD1
    exact k ad H1 locs1 ls ⟨hP1, hD1, hS1, okh_st hok hr (fun h => by rw [hL] at h; simp [kdL, hj] at h; omega), fxd_st hfx hT, hn0, hag⟩ hl hs
  have hlen : j < (ts.zipIdx.map fun q => fvl ad q.1 (σ v (q.2 : Nat))).length := by simp; omega
  rcases fl with fl | ⟨host, fl⟩
  · exact va_put hx hb hts c2 ty c4 c5 ho hK hP hD hS _ he c1 j hjN (hts _ fl) (fun x h => by rw [c6 j hjN] at h; exact h) hfin (c4 j hjN) hnf.1 hnf.2 hlen hd kk
  · exact va_putN hx hb hts c2 ty c4 c5 ho hK hP hD hS _ he c1 j hjN (va_Nw.use rfl (hN _ fl)) (fun x h => by rw [c6 j hjN] at h; exact h) hfin (c4 j hjN) hnf.1 hnf.2 hlen hd kk

theorem x_getI (C : Cx K cc nL own d mc ms) {ci idx j t N : Nat} {cn : String} {F : u_T} {ts : List Nat} {ty : Nat → FieldType} {v : Int} (ji : Int) (cf : CF ci cn F N ts ty) (fl : FLk own idx cn F j) (hd : decode cc pc = .ok (.getfield idx, 3)) (hj : ts[j]? = some t) (ht : ¬ t = 2) (hji : (j : Int) = ji) (hL : Ly v = .inl (ci, ts)) (h1 : 1 ≤ v) (h2 : v ≤ (n : Int)) (k : R3 (σ v ji) → XW Ly T K n σ bc bs (pc + 3) lv (.inl (σ v ji) :: st)) : XW Ly T K n σ bc bs pc lv (.inr v :: st) := by
  subst hji
  refine x_getf C cf fl hd hj hL h1 h2 (fun h _ => ?_)
  have e : fav t (σ v (j : Int)) = .inl (σ v (j : Int)) := if_neg ht
  rw [e] at h ⊢
  exact k h
theorem x_getC (C : Cx K cc nL own d mc ms) {ci idx j N : Nat} {cn : String} {F : u_T} {ts : List Nat} {ty : Nat → FieldType} {v : Int} (ji u : Int) (cf : CF ci cn F N ts ty) (fl : FLk own idx cn F j) (hd : decode cc pc = .ok (.getfield idx, 3)) (hj : ts[j]? = some 2) (hji : (j : Int) = ji) (hL : Ly v = .inl (ci, ts)) (h1 : 1 ≤ v) (h2 : v ≤ (n : Int)) (hT : T v ji = some u) (k : XW Ly T K n σ bc bs (pc + 3) lv (.inr u :: st)) : XW Ly T K n σ bc bs pc lv (.inr v :: st) := by
  subst hji
  refine x_getf C cf fl hd hj hL h1 h2 (fun h hf => ?_)
  have e : fav 2 (σ v (j : Int)) = .inr (σ v (j : Int)) := if_pos rfl
  rw [e, hf u hT]
  exact k

theorem x_iald (C : Cx K cc nL own d mc ms) {len : Nat} {v i : Int} (hd : decode cc pc = .ok (.iaload, 1)) (hL : Ly v = .inr (0, len)) (h1 : 1 ≤ v) (h2 : v ≤ (n : Int)) (i0 : 0 ≤ i) (i1 : i < (len : Int)) (k : R3 (σ v i) → XW Ly T K n σ bc bs (pc + 1) lv (.inl (σ v i) :: st)) : XW Ly T K n σ bc bs pc lv (.inl i :: .inr v :: st) := by
  obtain ⟨p, l, e, R, s, m, args, below, meth, c, Q, D, ca, A, H0, ad0, n0⟩ := K
  obtain ⟨hx, hb, hml, ho, hts, ⟨hK, hN, hO⟩, hA, hlk, hR⟩ := C
  intro ad H locs ls hW hl hs
  obtain ⟨hr, hs⟩ := oks_c.mp hs
  obtain ⟨-, hs⟩ := oks_c.mp hs
  obtain ⟨hP, hD, hS, hok, hrest⟩ := hW
  have he := cls_at (ca := ca) (Ly := Ly) (ad := ad) (σ := σ) h1 h2
  rw [hL] at he
  have he : (cls ca Ly ad n σ)[(v - 1).toNat]? = some (ad v, .inl (ca 0, len, .inl (fun i => iI (σ v (i : Nat))))) := he
  have hR1 := (hok v i h1 h2 i0).1
  have k1 : W p l e R s m args below meth c H locs bc bs Q (F0 m (pc + 1) ls (.int (iI (σ v i)) :: st.map (cv ad))) := k hR1 ad H locs ls ⟨hP, hD, hS, hok, hrest⟩ hl (oks_c.mpr ⟨hR1, hs⟩)
  show W p l e R s m args below meth c H locs bc bs Q (F0 m pc ls (.int (iI i) :: cv ad (.inr v) :: st.map (cv ad)))
  rw [cv_r (by omega)]
  refine va_iald hx hb hK hP _ 0 he rfl (iI_in hr i0 i1) hd ?_
  rw [iI_cl hr, Int.toNat_of_nonneg i0]
  exact k1

theorem x_bald (C : Cx K cc nL own d mc ms) {len : Nat} {v i : Int} (hd : decode cc pc = .ok (.baload, 1)) (hL : Ly v = .inr (1, len)) (h1 : 1 ≤ v) (h2 : v ≤ (n : Int)) (i0 : 0 ≤ i) (i1 : i < (len : Int)) (k : R3 (σ v i) → XW Ly T K n σ bc bs (pc + 1) lv (.inl (σ v i) :: st)) : XW Ly T K n σ bc bs pc lv (.inl i :: .inr v :: st) := by
  obtain ⟨p, l, e, R, s, m, args, below, meth, c, Q, D, ca, A, H0, ad0, n0⟩ := K
  obtain ⟨hx, hb, hml, ho, hts, ⟨hK, hN, hO⟩, hA, hlk, hR⟩ := C
  intro ad H locs ls hW hl hs
  obtain ⟨hr, hs⟩ := oks_c.mp hs
  obtain ⟨-, hs⟩ := oks_c.mp hs
  obtain ⟨hP, hD, hS, hok, hrest⟩ := hW
  have he := cls_at (ca := ca) (Ly := Ly) (ad := ad) (σ := σ) h1 h2
  rw [hL] at he
  have he : (cls ca Ly ad n σ)[(v - 1).toNat]? = some (ad v, .inl (ca 1, len, .inl (fun i => iI (σ v (i : Nat))))) := he
  have hR1 := (hok v i h1 h2 i0).1
  have k1 : W p l e R s m args below meth c H locs bc bs Q (F0 m (pc + 1) ls (.int (iI (σ v i)) :: st.map (cv ad))) := k hR1 ad H locs ls ⟨hP, hD, hS, hok, hrest⟩ hl (oks_c.mpr ⟨hR1, hs⟩)
  show W p l e R s m args below meth c H locs bc bs Q (F0 m pc ls (.int (iI i) :: cv ad (.inr v) :: st.map (cv ad)))
  rw [cv_r (by omega)]
  refine va_bald hx hb hK hP _ 1 he rfl (iI_in hr i0 i1) hd ?_
  rw [iI_cl hr, Int.toNat_of_nonneg i0]
  exact k1

theorem x_zald (C : Cx K cc nL own d mc ms) {len : Nat} {v i : Int} (hd : decode cc pc = .ok (.baload, 1)) (hL : Ly v = .inr (2, len)) (h1 : 1 ≤ v) (h2 : v ≤ (n : Int)) (i0 : 0 ≤ i) (i1 : i < (len : Int)) (k : R3 (σ v i) → XW Ly T K n σ bc bs (pc + 1) lv (.inl (σ v i) :: st)) : XW Ly T K n σ bc bs pc lv (.inl i :: .inr v :: st) := by
  obtain ⟨p, l, e, R, s, m, args, below, meth, c, Q, D, ca, A, H0, ad0, n0⟩ := K
  obtain ⟨hx, hb, hml, ho, hts, ⟨hK, hN, hO⟩, hA, hlk, hR⟩ := C
  intro ad H locs ls hW hl hs
  obtain ⟨hr, hs⟩ := oks_c.mp hs
  obtain ⟨-, hs⟩ := oks_c.mp hs
  obtain ⟨hP, hD, hS, hok, hrest⟩ := hW
  have he := cls_at (ca := ca) (Ly := Ly) (ad := ad) (σ := σ) h1 h2
  rw [hL] at he
  have he : (cls ca Ly ad n σ)[(v - 1).toNat]? = some (ad v, .inl (ca 2, len, .inl (fun i => iI (σ v (i : Nat))))) := he
  have hR1 := (hok v i h1 h2 i0).1
  have k1 : W p l e R s m args below meth c H locs bc bs Q (F0 m (pc + 1) ls (.int (iI (σ v i)) :: st.map (cv ad))) := k hR1 ad H locs ls ⟨hP, hD, hS, hok, hrest⟩ hl (oks_c.mpr ⟨hR1, hs⟩)
  show W p l e R s m args below meth c H locs bc bs Q (F0 m pc ls (.int (iI i) :: cv ad (.inr v) :: st.map (cv ad)))
  rw [cv_r (by omega)]
  refine va_zald hx hb hK hP _ 2 he rfl (iI_in hr i0 i1) hd ?_
  rw [iI_cl hr, Int.toNat_of_nonneg i0]
  exact k1

theorem x_iast (C : Cx K cc nL own d mc ms) {len : Nat} {v i x : Int} (hd : decode cc pc = .ok (.iastore, 1)) (hL : Ly v = .inr (0, len)) (hT : T v i = none) (h1 : 1 ≤ v) (h2 : v ≤ (n : Int)) (i0 : 0 ≤ i) (i1 : i < (len : Int)) (k : XW Ly T K n (st2 σ v i x) bc bs (pc + 1) lv st) : XW Ly T K n σ bc bs pc lv (.inl x :: .inl i :: .inr v :: st) := by
  obtain ⟨p, l, e, R, s, m, args, below, meth, c, Q, D, ca, A, H0, ad0, n0⟩ := K
  obtain ⟨hx, hb, hml, ho, hts, ⟨hK, hN, hO⟩, hA, hlk, hR⟩ := C
  intro ad H locs ls hW hl hs
  obtain ⟨hxr, hs⟩ := oks_c.mp hs
  obtain ⟨hr, hs⟩ := oks_c.mp hs
  obtain ⟨-, hs⟩ := oks_c.mp hs
  obtain ⟨hP, hD, hS, hok, hfx, hn0, hag⟩ := hW
  have he := cls_at (ca := ca) (Ly := Ly) (ad := ad) (σ := σ) h1 h2
  rw [hL] at he
  have he : (cls ca Ly ad n σ)[(v - 1).toNat]? = some (ad v, .inl (ca 0, len, .inl (fun i => iI (σ v (i : Nat))))) := he
  have hset : ctn ca (Ly v) ad (st2 σ v i x v) = .inl (ca 0, len, .inl (upd (fun i => iI (σ v (i : Nat))) (iI i).toNatClampNeg (iI x))) := by
    rw [hL]
    show Sum.inl (ca 0, len, Sum.inl _) = Sum.inl (ca 0, len, Sum.inl _)
    rw [ctn_arr hr i0 (fun b => st2_at)]
  show W p l e R s m args below meth c H locs bc bs Q (F0 m pc ls (.int (iI x) :: .int (iI i) :: cv ad (.inr v) :: st.map (cv ad)))
  rw [cv_r (by omega)]
  refine va_iast hx hb hK hP hD hS _ 0 he rfl (iI_in hr i0 i1) hd (fun H1 locs1 hP1 hD1 hS1 => ?_)
  rw [cls_set h1 h2 hset (fun u hu => st2_ne hu)] at hP1 hD1
  exact k ad H1 locs1 ls ⟨hP1, hD1, hS1, okh_st hok hxr (fun h => by rw [hL] at h; simp [kdL, kdA] at h), fxd_st hfx hT, hn0, hag⟩ hl hs

theorem x_bast (C : Cx K cc nL own d mc ms) {len : Nat} {v i x : Int} (hd : decode cc pc = .ok (.bastore, 1)) (hL : Ly v = .inr (1, len)) (hT : T v i = none) (h1 : 1 ≤ v) (h2 : v ≤ (n : Int)) (i0 : 0 ≤ i) (i1 : i < (len : Int)) (x0 : -128 ≤ x) (x1 : x ≤ 127) (k : XW Ly T K n (st2 σ v i x) bc bs (pc + 1) lv st) : XW Ly T K n σ bc bs pc lv (.inl x :: .inl i :: .inr v :: st) := by
  obtain ⟨p, l, e, R, s, m, args, below, meth, c, Q, D, ca, A, H0, ad0, n0⟩ := K
  obtain ⟨hx, hb, hml, ho, hts, ⟨hK, hN, hO⟩, hA, hlk, hR⟩ := C
  intro ad H locs ls hW hl hs
  obtain ⟨hxr, hs⟩ := oks_c.mp hs
  obtain ⟨hr, hs⟩ := oks_c.mp hs
  obtain ⟨-, hs⟩ := oks_c.mp hs
  obtain ⟨hP, hD, hS, hok, hfx, hn0, hag⟩ := hW
  have he := cls_at (ca := ca) (Ly := Ly) (ad := ad) (σ := σ) h1 h2
  rw [hL] at he
  have he : (cls ca Ly ad n σ)[(v - 1).toNat]? = some (ad v, .inl (ca 1, len, .inl (fun i => iI (σ v (i : Nat))))) := he
  have hset : ctn ca (Ly v) ad (st2 σ v i x v) = .inl (ca 1, len, .inl (upd (fun i => iI (σ v (i : Nat))) (iI i).toNatClampNeg (iI x))) := by
    rw [hL]
    show Sum.inl (ca 1, len, Sum.inl _) = Sum.inl (ca 1, len, Sum.inl _)
    rw [ctn_arr hr i0 (fun b => st2_at)]
  show W p l e R s m args below meth c H locs bc bs Q (F0 m pc ls (.int (iI x) :: .int (iI i) :: cv ad (.inr v) :: st.map (cv ad)))
  rw [cv_r (by omega)]
  refine va_bast hx hb hK hP hD hS _ 1 he rfl (iI_in hr i0 i1) hd (fun H1 locs1 hP1 hD1 hS1 => ?_)
  rw [iI_nb x0 x1] at hP1 hD1
  rw [cls_set h1 h2 hset (fun u hu => st2_ne hu)] at hP1 hD1
  exact k ad H1 locs1 ls ⟨hP1, hD1, hS1, okh_st hok hxr (fun h => by rw [hL] at h; simp [kdL, kdA] at h), fxd_st hfx hT, hn0, hag⟩ hl hs

theorem x_zast (C : Cx K cc nL own d mc ms) {len : Nat} {v i x : Int} (hd : decode cc pc = .ok (.bastore, 1)) (hL : Ly v = .inr (2, len)) (hT : T v i = none) (h1 : 1 ≤ v) (h2 : v ≤ (n : Int)) (i0 : 0 ≤ i) (i1 : i < (len : Int)) (x0 : 0 ≤ x) (x1 : x ≤ 1) (k : XW Ly T K n (st2 σ v i x) bc bs (pc + 1) lv st) : XW Ly T K n σ bc bs pc lv (.inl x :: .inl i :: .inr v :: st) := by
  obtain ⟨p, l, e, R, s, m, args, below, meth, c, Q, D, ca, A, H0, ad0, n0⟩ := K
  obtain ⟨hx, hb, hml, ho, hts, ⟨hK, hN, hO⟩, hA, hlk, hR⟩ := C
  intro ad H locs ls hW hl hs
  obtain ⟨hxr, hs⟩ := oks_c.mp hs
  obtain ⟨hr, hs⟩ := oks_c.mp hs
  obtain ⟨-, hs⟩ := oks_c.mp hs
  obtain ⟨hP, hD, hS, hok, hfx, hn0, hag⟩ := hW
  have he := cls_at (ca := ca) (Ly := Ly) (ad := ad) (σ := σ) h1 h2
  rw [hL] at he
  have he : (cls ca Ly ad n σ)[(v - 1).toNat]? = some (ad v, .inl (ca 2, len, .inl (fun i => iI (σ v (i : Nat))))) := he
  have hset : ctn ca (Ly v) ad (st2 σ v i x v) = .inl (ca 2, len, .inl (upd (fun i => iI (σ v (i : Nat))) (iI i).toNatClampNeg (iI x))) := by
    rw [hL]
    show Sum.inl (ca 2, len, Sum.inl _) = Sum.inl (ca 2, len, Sum.inl _)
    rw [ctn_arr hr i0 (fun b => st2_at)]
  show W p l e R s m args below meth c H locs bc bs Q (F0 m pc ls (.int (iI x) :: .int (iI i) :: cv ad (.inr v) :: st.map (cv ad)))
  rw [cv_r (by omega)]
  refine va_zast hx hb hK hP hD hS _ 2 he rfl (iI_in hr i0 i1) hd (fun H1 locs1 hP1 hD1 hS1 => ?_)
  rw [iI_nz x0 x1] at hP1 hD1
  rw [cls_set h1 h2 hset (fun u hu => st2_ne hu)] at hP1 hD1
  exact k ad H1 locs1 ls ⟨hP1, hD1, hS1, okh_st hok hxr (fun h => by rw [hL] at h; simp [kdL, kdA] at h), fxd_st hfx hT, hn0, hag⟩ hl hs

theorem x_aald (C : Cx K cc nL own d mc ms) {a len : Nat} {v i : Int} (hd : decode cc pc = .ok (.aaload, 1)) (hL : Ly v = .inr (a, len)) (ha : a = 3 ∨ a = 4 ∨ a = 5) (h1 : 1 ≤ v) (h2 : v ≤ (n : Int)) (i0 : 0 ≤ i) (i1 : i < (len : Int)) (k : 0 ≤ σ v i ∧ σ v i ≤ (n : Int) → XW Ly T K n σ bc bs (pc + 1) lv (.inr (σ v i) :: st)) : XW Ly T K n σ bc bs pc lv (.inl i :: .inr v :: st) := by
  obtain ⟨p, l, e, R, s, m, args, below, meth, c, Q, D, ca, A, H0, ad0, n0⟩ := K
  obtain ⟨hx, hb, hml, ho, hts, ⟨hK, hN, hO⟩, hA, hlk, hR⟩ := C
  intro ad H locs ls hW hl hs
  obtain ⟨hr, hs⟩ := oks_c.mp hs
  obtain ⟨-, hs⟩ := oks_c.mp hs
  obtain ⟨hP, hD, hS, hok, hrest⟩ := hW
  have he := cls_at (ca := ca) (Ly := Ly) (ad := ad) (σ := σ) h1 h2
  rw [hL] at he
  have he : (cls ca Ly ad n σ)[(v - 1).toNat]? = some (ad v, .inl (ca a, len, .inr (.inr (.inr (.inr (fun i => orf ad (σ v (i : Nat)))))))) := by
    rw [he]; simp only [ctn]; rw [if_neg (by omega)]
  have hR1 := (hok v i h1 h2 i0).2 (by rw [hL]; rcases ha with rfl | rfl | rfl <;> rfl)
  have k1 : W p l e R s m args below meth c H locs bc bs Q (F0 m (pc + 1) ls (cv ad (.inr (σ v i)) :: st.map (cv ad))) := k hR1 ad H locs ls ⟨hP, hD, hS, hok, hrest⟩ hl (oks_c.mpr ⟨hR1, hs⟩)
  show W p l e R s m args below meth c H locs bc bs Q (F0 m pc ls (.int (iI i) :: cv ad (.inr v) :: st.map (cv ad)))
  rw [cv_r (by omega)]
  have hlt : (iI i).toNatClampNeg < len := by rw [iI_cl hr]; omega
  have hin := iI_in hr i0 i1
  have hv : (arrV (ca a) len (fun j => va_rf (orf ad (σ v (j : Nat))))).slots[(iI i).toNatClampNeg]? = some (cv ad (.inr (σ v i))) := by
    rw [arrV_read _ _ hlt, rf_orf, iI_cl hr, Int.toNat_of_nonneg i0]
  rcases ha with rfl | rfl | rfl
  · exact W.aald (ty := .object "LogStore$Transaction") hx hb (hP _ _ he) ((hK.2 3 _ rfl).1 len (fun j => va_rf (orf ad (σ v (j : Nat))))) rfl (fun q => by cases q) (by show ¬ (iI i < 0 ∨ (arrV _ _ _).slots.size ≤ _); rw [arrV_size]; exact hin) hv rfl rfl hd k1
  · exact W.aald (ty := .object "LogStore$Contents") hx hb (hP _ _ he) ((hK.2 4 _ rfl).1 len (fun j => va_rf (orf ad (σ v (j : Nat))))) rfl (fun q => by cases q) (by show ¬ (iI i < 0 ∨ (arrV _ _ _).slots.size ≤ _); rw [arrV_size]; exact hin) hv rfl rfl hd k1
  · exact W.aald (ty := .array .int) hx hb (hP _ _ he) ((hK.2 5 _ rfl).1 len (fun j => va_rf (orf ad (σ v (j : Nat))))) rfl (fun q => by cases q) (by show ¬ (iI i < 0 ∨ (arrV _ _ _).slots.size ≤ _); rw [arrV_size]; exact hin) hv rfl rfl hd k1

end XR
end
section
-- ===== contracts and calls =====
def MWd (y : MethodName) (cc : ByteArray) (maxL : Nat) (ret : Option FieldType) : List Cond := .code y cc maxL ret :: AW
def PP (Ly : Int → LK) (T : Int → Int → Option Int) (D : va_G) (ca : Nat → ClassId) (ad : Int → Nat) (n : Nat) (σ : Hp) (sz : Nat) : State → Prop := fun U => U.heap.size = sz ∧ va_P D CL (cls ca Ly ad n σ) U.heap ∧ Gst D ca U ∧ va_D (fun _ => True) (cls ca Ly ad n σ) ∧ okh Ly n σ ∧ fxd T n σ
def QQ (Ly : Int → LK) (T : Int → Int → Option Int) (D : va_G) (ca : Nat → ClassId) (ad : Int → Nat) (n : Nat) (σ : Hp) (sz : Nat) (Post : Option AV → Nat → Hp → Prop) : Array Value → State → Outcome → State → Prop := fun _ st oc t =>
  (∃ (r : Option AV) (ad' : Int → Nat) (n' : Nat) (σ' : Hp), oc = .returned (r.map (cv ad')) ∧ Post r n' σ' ∧ n ≤ n' ∧ agr n ad ad' ∧ oks n' r.toList ∧ va_P D CL (cls ca Ly ad' n' σ') t.heap ∧ va_D (va_A (cls ca Ly ad n σ) sz) (cls ca Ly ad' n' σ') ∧ okh Ly n' σ' ∧ fxd T n' σ') ∧ va_F (va_A (cls ca Ly ad n σ) sz) st t
/-- the contract of a method: from the heap (n, σ) with these arguments it returns with Post -/
def Ok (Ly : Int → LK) (T : Int → Int → Option Int) (y : MethodName) (cc : ByteArray) (maxL : Nat) (ret : Option FieldType) (d mc ms : Nat) (as : List AV) (n : Nat) (σ : Hp) (Post : Option AV → Nat → Hp → Prop) : Prop :=
  oks n as → ∀ (l : Launch) (D : va_G) (ca : Nat → ClassId) (ad : Int → Nat) (sz : Nat), Met l y (MWd y cc maxL ret) (rmd d mc ms) (va_Pc (as.map (cv ad)) (PP Ly T D ca ad n σ sz)) (QQ Ly T D ca ad n σ sz Post) mc ms (va_A (cls ca Ly ad n σ) sz)
theorem agr_rf {n : Nat} {ad : Int → Nat} : agr n ad ad := fun _ _ _ => rfl
theorem agr_tr {n n' : Nat} {a b c : Int → Nat} (h1 : agr n a b) (h2 : agr n' b c) (h : n ≤ n') : agr n a c := fun v h3 h4 => (h2 v h3 (by omega)).trans (h1 v h3 h4)
theorem Gst.calling {D : va_G} {ca : Nat → ClassId} {U : State} {g : JFrame} {mk : MethodId} {a : Array Value} (h : Gst D ca U) : Gst D ca (U.calling g mk a) :=
  ⟨va_K.moved (u := U) (U := U.calling g mk a) (Vm.Alike.refl U.vm) h.1, fun w hw => va_Nw.same (nst_on (NW_ok w hw)) (show U.vm = (U.calling g mk a).vm from rfl) (h.2.1 w hw), AOs_mv (u := U) (U := U.calling g mk a) (Vm.Alike.refl U.vm) h.2.2⟩
theorem Gst.warm {D : va_G} {ca : Nat → ClassId} {s U : State} (hW : s.WarmedH U.vm) (h : Gst D ca s) : Gst D ca U :=
  ⟨va_K.moved hW.alike h.1, fun w hw => nw_mv (NW_ok w hw) hW (h.2.1 w hw), AOs_mv hW.alike h.2.2⟩
theorem PP.blind {Ly : Int → LK} {T : Int → Int → Option Int} {D : va_G} {ca : Nat → ClassId} {ad : Int → Nat} {n : Nat} {σ : Hp} {sz : Nat} {av : List Value} : FrameBlind (va_Pc av (PP Ly T D ca ad n σ sz)) := by
  rintro a U g mk ⟨q0, q1, qP, qG, qr⟩
  exact ⟨q0, q1, qP, qG.calling, qr⟩
section XC
variable {Ly : Int → LK} {T : Int → Int → Option Int} {n : Nat} {σ : Hp} {bc bs pc nL d mc ms : Nat} {lv : List (Option AV)} {st : List AV} {cc : ByteArray} {own : String}
theorem x_back {p : Program} {l : Launch} {e : Env} {R : Room} {s : State} {m : MethodId} {args : Array Value} {below : List Frame} {meth : Method} {c : Code} {Q : State → Prop} {D : va_G} {ca : Nat → ClassId} {A : Nat → Prop} {H0 : Heap} {ad0 : Int → Nat} {n0 : Nat} {ad : Int → Nat} {H : Heap} {locs : List Loc} {ls : Array Slot} {mc' ms' : Nat} {st0 : List Value} {a : Array Value} {Post : Option AV → Nat → Hp → Prop}
    (hr : va_Run p l e R s m args below meth c H locs bc bs mc' ms' (F0 m pc ls st0) (st.map (cv ad)) (QQ Ly T D ca ad n σ H.size Post a) (va_A (cls ca Ly ad n σ) H.size))
    (hA : ∀ q, H0.size ≤ q → A q) (hW : Wd Ly T D ca A H0 ad0 n0 n σ ad H locs) (hl : lvs n ad ls c.maxLocals lv) (hs : oks n st)
    (k : ∀ (r : Option AV) (n' : Nat) (σ' : Hp), Post r n' σ' → n ≤ n' → XW Ly T (p, l, e, R, s, m, args, below, meth, c, Q, D, ca, A, H0, ad0, n0) n' σ' (bc + mc') (bs + ms') (pc + 3) lv (r.toList ++ st)) :
    W p l e R s m args below meth c H locs bc bs Q (F0 m pc ls st0) := by
  intro T0 hT X
  obtain ⟨v, st₀, t, T', L, h0, X', hL, e1, e2, ⟨⟨r, ad', n', σ', hv, hp, hn, hag, hov, hP1, hD1, ho1, hf1⟩, hz, hk⟩, stp⟩ := hr T0 hT X
  cases hv
  rw [h0] at hz hk
  obtain ⟨hP, hD, hS, hok, hfx, hn0, hag0⟩ := hW
  have hF : ∀ q, va_A (cls ca Ly ad n σ) H.size q → A q := fun q h => by
    rcases h with ⟨i, e, h⟩ | h
    · exact hD.2 i (q, e) h
    · exact hA q (Nat.le_trans hS.1 h)
  have hS1 : va_S A H0 T'.heap (locs ++ L) := ⟨Nat.le_trans hS.1 (by rw [e1]; exact hz), fun q h1 h2 => by rw [e1, hk q (Nat.lt_of_lt_of_le h1 hS.1) (fun z => h2 (hF q z))]; exact hS.2.1 q h1 h2, fun q hq => by
      rcases List.mem_append.mp hq with h | h
      · exact hS.2.2 q h
      · exact hF _ (hL q h)⟩
  have hso : oks n' (r.toList ++ st) := fun u hu => by
    rcases List.mem_append.mp hu with h | h
    · exact hov u h
    · exact ov_up hn (hs u h)
  obtain ⟨t2, a1, b1⟩ := k r n' σ' hp hn ad' T'.heap (locs ++ L) ls ⟨by rw [e1]; exact hP1, hD1.weaken (fun _ _ _ h => hF _ h), hS1, ho1, hf1, Nat.le_trans hn0 hn, agr_tr hag0 hag hn0⟩ (lvs_up hl hn hag) hso T' rfl X'
  have hm : (r.toList ++ st).map (cv ad') = (r.map (cv ad')).toList ++ st.map (cv ad) := by
    rw [List.map_append, map_ag hag hs]
    cases r <;> rfl
  rw [hm] at a1
  exact ⟨t2, stp t2 a1, b1⟩
def CSb (y : MethodName) (cc : ByteArray) (maxL : Nat) (ret : Option FieldType) (np : Nat) : Prop := Cond.initialized y.cls ∈ AW ∧ Cond.code y cc maxL ret ∈ AW ∧ (y.cls ≠ "java/lang/invoke/MethodHandle" ∧ y.cls ≠ "java/lang/invoke/VarHandle" ∧ (parseMethodDescriptor y.desc).map (fun d => d.parameters.length) = some np)
def CLk (own : String) (idx : Nat) (y : MethodName) : Prop := Cond.methodLink own idx y ∈ AW ∨ ∃ host, Cond.methodLinkNest own idx y host ∈ NW
def CSv (y : MethodName) : Prop := Cond.instanceMethod y ∈ AW ∧ Cond.selects y.cls y y ∈ AW
theorem gd_aw {y : MethodName} {cc : ByteArray} {maxL : Nat} {ret : Option FieldType} (h : Cond.code y cc maxL ret ∈ AW) : GoodIn AW (MWd y cc maxL ret) := fun w hw => by
  rcases List.mem_cons.mp hw with h1 | h1
  · rw [h1]; exact ⟨h, AW_ok _ h⟩
  · exact ⟨h1, AW_ok _ h1⟩
theorem x_callV {K : XK} (C : Cx K cc nL own d mc ms) {y : MethodName} {cc' : ByteArray} {maxL' idx np d' mc' ms' ci : Nat} {ret' : Option FieldType} {as st0 : List AV} {v : Int} {q : vw_C} {ts : List Nat} {Post : Option AV → Nat → Hp → Prop}
    (cl : CLk own idx y) (cb : CSb y cc' maxL' ret' np) (cs : CSv y) (hd : decode cc pc = .ok (.invokevirtual idx, 3)) (hM : Ok Ly T y cc' maxL' ret' d' mc' ms' (.inr v :: as) n σ Post) (hst0 : as.reverse ++ .inr v :: st = st0) (hnp : as.length = np)
    (hq : CL[ci]? = some q) (hqc : q.1 = y.cls) (hL : Ly v = .inl (ci, ts)) (h1 : 1 ≤ v) (h2 : v ≤ (n : Int)) (hdd : d' + 1 ≤ d) (hmL : maxL' ≤ 9) (hsl : st.length ≤ 8) (hb1 : bc + mc' ≤ mc) (hb2 : bs + ms' ≤ ms)
    (k : ∀ (r : Option AV) (n' : Nat) (σ' : Hp), Post r n' σ' → n ≤ n' → XW Ly T K n' σ' (bc + mc') (bs + ms') (pc + 3) lv (r.toList ++ st)) : XW Ly T K n σ bc bs pc lv st0 := by
  obtain ⟨p, l, e, R, s, m, args, below, meth, c, Q, D, ca, A, H0, ad0, n0⟩ := K
  obtain ⟨hx, hb, hml, ho, hts, hG, hA, hlk, hR⟩ := C
  intro ad H locs ls hW hl hs
  subst hst0
  subst hR
  obtain ⟨cb1, cb2, cb3⟩ := cb
  have hsa : oks n as := fun u hu => hs u (List.mem_append_left _ (List.mem_reverse.mpr hu))
  have hsv : ov n (.inr v) := hs _ (List.mem_append_right _ List.mem_cons_self)
  have hss : oks n st := fun u hu => hs u (List.mem_append_right _ (List.mem_cons_of_mem _ hu))
  have hMet := hM (oks_c.mpr ⟨hsv, hsa⟩) l D ca ad H.size
  have hv0 : cv ad (.inr v) = .ref (ad v) := cv_r (by omega)
  have hW' := hW
  obtain ⟨hP, hD, hS, hok, hfx, hn0, hag⟩ := hW'
  have hPre : PreV s H y.cls (ad v) (va_Pc ((.inr v :: as).map (cv ad)) (PP Ly T D ca ad n σ H.size)) (as.map (cv ad)) := by
    refine ⟨PP.blind, ?_, fun U hU hWm => ⟨?_, by rw [hU], by rw [hU]; exact hP, hG.warm hWm, hD.weaken (fun _ _ _ _ => trivial), hok, hfx⟩⟩
    · have he := cls_at (ca := ca) (Ly := Ly) (ad := ad) (σ := σ) h1 h2
      rw [hL] at he
      rw [← hqc]
      exact va_recv hG.1 hP hq he
    · rw [List.map_cons, hv0]
  have hstk : (F0 m pc ls ((as.reverse ++ .inr v :: st).map (cv ad))).stack = (as.map (cv ad)).reverse ++ .ref (ad v) :: st.map (cv ad) := by
    show (as.reverse ++ .inr v :: st).map (cv ad) = _
    rw [List.map_append, List.map_reverse, List.map_cons, hv0]
  have hrm : (rmd d' mc' ms').frames + 1 ≤ (rmd d mc ms).frames ∧ 8 + (maxL' + 11) + (rmd d' mc' ms').locals ≤ (rmd d mc ms).locals := ⟨hdd, by show 8 + (maxL' + 11) + 28 * d' + 30 ≤ 28 * d + 30; omega⟩
  have hsz : ls.size = nL := hl.2.1.trans hml
  have hro : 2 * (F0 m pc ls ((as.reverse ++ .inr v :: st).map (cv ad))).monitorRoom + ((st.map (cv ad)).map fun v => v.category).sum ≤ 8 := lv_room (by rw [sum_cat]; exact hsl)
  have hlen : (as.map (cv ad)).length = np := by rw [List.length_map]; exact hnp
  rcases cl with cl | ⟨host, cl⟩
  · exact x_back (va_runV (Ts := AW) (nL := nL) ⟨hx, hb, hml, ho, hts⟩ hMet ⟨callB_of np hts (gd_aw cb2) rfl rfl rfl (hts _ cb1) (hts _ cl) cb3 hrm, hts _ cs.1, hts _ cs.2⟩ hPre rfl hlen hsz hstk hro hd ⟨hb1, hb2⟩) hA hW hl hss k
  · exact x_back (va_runVN (Ts := AW) (nL := nL) ⟨hx, hb, hml, ho, hts⟩ hMet ⟨va_cnB np hts (gd_aw cb2) rfl rfl rfl (hG.2.1 _ cl) (hts _ cb1) cb3 hrm, hts _ cs.1, hts _ cs.2⟩ hPre rfl hlen hsz hstk hro hd ⟨hb1, hb2⟩) hA hW hl hss k
theorem x_callS {K : XK} (C : Cx K cc nL own d mc ms) {y : MethodName} {cc' : ByteArray} {maxL' idx np d' mc' ms' : Nat} {ret' : Option FieldType} {as st0 : List AV} {Post : Option AV → Nat → Hp → Prop}
    (cl : CLk own idx y) (cb : CSb y cc' maxL' ret' np) (cs : Cond.static y ∈ AW) (hd : decode cc pc = .ok (.invokestatic idx, 3)) (hM : Ok Ly T y cc' maxL' ret' d' mc' ms' as n σ Post) (hst0 : as.reverse ++ st = st0) (hnp : as.length = np)
    (hdd : d' + 1 ≤ d) (hmL : maxL' ≤ 9) (hsl : st.length ≤ 8) (hb1 : bc + mc' ≤ mc) (hb2 : bs + ms' ≤ ms)
    (k : ∀ (r : Option AV) (n' : Nat) (σ' : Hp), Post r n' σ' → n ≤ n' → XW Ly T K n' σ' (bc + mc') (bs + ms') (pc + 3) lv (r.toList ++ st)) : XW Ly T K n σ bc bs pc lv st0 := by
  obtain ⟨p, l, e, R, s, m, args, below, meth, c, Q, D, ca, A, H0, ad0, n0⟩ := K
  obtain ⟨hx, hb, hml, ho, hts, hG, hA, hlk, hR⟩ := C
  intro ad H locs ls hW hl hs
  subst hst0
  subst hR
  obtain ⟨cb1, cb2, cb3⟩ := cb
  have hsa : oks n as := fun u hu => hs u (List.mem_append_left _ (List.mem_reverse.mpr hu))
  have hss : oks n st := fun u hu => hs u (List.mem_append_right _ hu)
  have hMet := hM hsa l D ca ad H.size
  have hW' := hW
  obtain ⟨hP, hD, hS, hok, hfx, hn0, hag⟩ := hW'
  have hPre : PreS s H (va_Pc (as.map (cv ad)) (PP Ly T D ca ad n σ H.size)) (as.map (cv ad)) :=
    ⟨PP.blind, fun U hU hWm => ⟨rfl, by rw [hU], by rw [hU]; exact hP, hG.warm hWm, hD.weaken (fun _ _ _ _ => trivial), hok, hfx⟩⟩
  have hstk : (F0 m pc ls ((as.reverse ++ st).map (cv ad))).stack = (as.map (cv ad)).reverse ++ st.map (cv ad) := by
    show (as.reverse ++ st).map (cv ad) = _
    rw [List.map_append, List.map_reverse]
  have hrm : (rmd d' mc' ms').frames + 1 ≤ (rmd d mc ms).frames ∧ 8 + (maxL' + 11) + (rmd d' mc' ms').locals ≤ (rmd d mc ms).locals := ⟨hdd, by show 8 + (maxL' + 11) + 28 * d' + 30 ≤ 28 * d + 30; omega⟩
  have hsz : ls.size = nL := hl.2.1.trans hml
  have hro : 2 * (F0 m pc ls ((as.reverse ++ st).map (cv ad))).monitorRoom + ((st.map (cv ad)).map fun v => v.category).sum ≤ 8 := lv_room (by rw [sum_cat]; exact hsl)
  have hlen : (as.map (cv ad)).length = np := by rw [List.length_map]; exact hnp
  rcases cl with cl | ⟨host, cl⟩
  · exact x_back (va_runS (Ts := AW) (nL := nL) ⟨hx, hb, hml, ho, hts⟩ hMet ⟨callB_of np hts (gd_aw cb2) rfl rfl rfl (hts _ cb1) (hts _ cl) cb3 hrm, hts _ cs⟩ hPre rfl hlen hsz hstk hro hd ⟨hb1, hb2⟩) hA hW hl hss k
  · exact x_back (va_runSN (Ts := AW) (nL := nL) ⟨hx, hb, hml, ho, hts⟩ hMet ⟨va_cnB np hts (gd_aw cb2) rfl rfl rfl (hG.2.1 _ cl) (hts _ cb1) cb3 hrm, hts _ cs, trivial⟩ hPre rfl hlen hsz hstk hro hd ⟨hb1, hb2⟩) hA hW hl hss k
theorem x_callI {K : XK} (C : Cx K cc nL own d mc ms) {y : MethodName} {cc' : ByteArray} {maxL' idx np d' mc' ms' : Nat} {as st0 : List AV} {v : Int} {Post : Option AV → Nat → Hp → Prop}
    (cl : CLk own idx y) (cb : CSb y cc' maxL' none np) (cs : Cond.instanceMethod y ∈ AW) (hy : y.name = "<init>") (hd : decode cc pc = .ok (.invokespecial idx, 3)) (hM : Ok Ly T y cc' maxL' none d' mc' ms' (.inr v :: as) n σ Post) (hst0 : as.reverse ++ .inr v :: st = st0) (hnp : as.length = np)
    (h1 : 1 ≤ v) (h2 : v ≤ (n : Int)) (hdd : d' + 1 ≤ d) (hmL : maxL' ≤ 9) (hsl : st.length ≤ 8) (hb1 : bc + mc' ≤ mc) (hb2 : bs + ms' ≤ ms)
    (k : ∀ (r : Option AV) (n' : Nat) (σ' : Hp), Post r n' σ' → n ≤ n' → XW Ly T K n' σ' (bc + mc') (bs + ms') (pc + 3) lv (r.toList ++ st)) : XW Ly T K n σ bc bs pc lv st0 := by
  obtain ⟨p, l, e, R, s, m, args, below, meth, c, Q, D, ca, A, H0, ad0, n0⟩ := K
  obtain ⟨hx, hb, hml, ho, hts, hG, hA, hlk, hR⟩ := C
  intro ad H locs ls hW hl hs
  subst hst0
  subst hR
  obtain ⟨cb1, cb2, cb3⟩ := cb
  have hsa : oks n as := fun u hu => hs u (List.mem_append_left _ (List.mem_reverse.mpr hu))
  have hsv : ov n (.inr v) := hs _ (List.mem_append_right _ List.mem_cons_self)
  have hss : oks n st := fun u hu => hs u (List.mem_append_right _ (List.mem_cons_of_mem _ hu))
  have hMet := hM (oks_c.mpr ⟨hsv, hsa⟩) l D ca ad H.size
  have hv0 : cv ad (.inr v) = .ref (ad v) := cv_r (by omega)
  have hW' := hW
  obtain ⟨hP, hD, hS, hok, hfx, hn0, hag⟩ := hW'
  have hPre : PreS s H (va_Pc ((.inr v :: as).map (cv ad)) (PP Ly T D ca ad n σ H.size)) (.ref (ad v) :: as.map (cv ad)) := by
    refine ⟨PP.blind, fun U hU hWm => ⟨?_, by rw [hU], by rw [hU]; exact hP, hG.warm hWm, hD.weaken (fun _ _ _ _ => trivial), hok, hfx⟩⟩
    rw [List.map_cons, hv0]
  have hstk : (F0 m pc ls ((as.reverse ++ .inr v :: st).map (cv ad))).stack = (as.map (cv ad)).reverse ++ .ref (ad v) :: st.map (cv ad) := by
    show (as.reverse ++ .inr v :: st).map (cv ad) = _
    rw [List.map_append, List.map_reverse, List.map_cons, hv0]
  have hrm : (rmd d' mc' ms').frames + 1 ≤ (rmd d mc ms).frames ∧ 8 + (maxL' + 11) + (rmd d' mc' ms').locals ≤ (rmd d mc ms).locals := ⟨hdd, by show 8 + (maxL' + 11) + 28 * d' + 30 ≤ 28 * d + 30; omega⟩
  have hsz : ls.size = nL := hl.2.1.trans hml
  have hro : 2 * (F0 m pc ls ((as.reverse ++ .inr v :: st).map (cv ad))).monitorRoom + ((st.map (cv ad)).map fun v => v.category).sum ≤ 8 := lv_room (by rw [sum_cat]; exact hsl)
  have hlen : (as.map (cv ad)).length = np := by rw [List.length_map]; exact hnp
  rcases cl with cl | ⟨host, cl⟩
  · exact x_back (va_runI (Ts := AW) (nL := nL) ⟨hx, hb, hml, ho, hts⟩ hMet ⟨callB_of np hts (gd_aw cb2) rfl rfl rfl (hts _ cb1) (hts _ cl) cb3 hrm, hy, hts _ cs⟩ hPre rfl hlen hsz hstk hro hd ⟨hb1, hb2⟩) hA hW hl hss k
  · exact x_back (va_runIN (Ts := AW) (nL := nL) ⟨hx, hb, hml, ho, hts⟩ hMet ⟨va_cnB np hts (gd_aw cb2) rfl rfl rfl (hG.2.1 _ cl) (hts _ cb1) cb3 hrm, hy, hts _ cs⟩ hPre rfl hlen hsz hstk hro hd ⟨hb1, hb2⟩) hA hW hl hss k
end XC
/-- the ends that a method may have -/
def RetK (Ly : Int → LK) (T : Int → Int → Option Int) (K : XK) (cc : ByteArray) (ret : Option FieldType) (mc ms : Nat) (Post : Option AV → Nat → Hp → Prop) : Prop :=
  (∀ (pc n' : Nat) (σ' : Hp) (bc bs : Nat) (lv : List (Option AV)) (r : Int), ret = some .int ∨ (ret = some .boolean ∧ 0 ≤ r ∧ r ≤ 1) → decode cc pc = .ok (.ireturn, 1) → bc ≤ mc → bs ≤ ms → Post (some (.inl r)) n' σ' → XW Ly T K n' σ' bc bs pc lv [.inl r]) ∧
  (∀ (pc n' : Nat) (σ' : Hp) (bc bs : Nat) (lv : List (Option AV)), ret = none → decode cc pc = .ok (.return_, 1) → bc ≤ mc → bs ≤ ms → Post none n' σ' → XW Ly T K n' σ' bc bs pc lv []) ∧
  ∀ (pc n' : Nat) (σ' : Hp) (bc bs : Nat) (lv : List (Option AV)) (r : Int) (nm : String), ret = some (.object nm) → decode cc pc = .ok (.areturn, 1) → bc ≤ mc → bs ≤ ms → Post (some (.inr r)) n' σ' → XW Ly T K n' σ' bc bs pc lv [.inr r]
theorem lva_in {ad : Int → Nat} : ∀ (as : List AV) (k i : Nat) (v : AV), as[i]? = some v → (k + i, cv ad v) ∈ lv_args k (as.map (cv ad))
  | [], k, i, v, h => by simp at h
  | a :: t, k, 0, v, h => by
    cases h
    exact List.mem_cons_self
  | a :: t, k, i + 1, v, h => by
    have h1 := lva_in (ad := ad) t (k + 1) i v h
    show _ ∈ (k, cv ad a) :: lv_args (if (cv ad a).category = 2 then k + 2 else k + 1) (t.map (cv ad))
    rw [cv_cat]
    rw [show k + (i + 1) = k + 1 + i by omega]
    exact List.mem_cons_of_mem _ h1
theorem lg_len {ad : Int → Nat} (as : List AV) : (lg_sl (as.map (cv ad))).length = as.length := by
  induction as with
  | nil => rfl
  | cons a t ih =>
    have : lg_sl ((a :: t).map (cv ad)) = [.val (cv ad a)] ++ lg_sl (t.map (cv ad)) := by
      simp [lg_sl, cv_cat]
    rw [this, List.length_append, ih]
    simp; omega
theorem ok_mk {Ly : Int → LK} {T : Int → Int → Option Int} {y : MethodName} {cc : ByteArray} {maxL : Nat} {ret : Option FieldType} {d mc ms : Nat} {as : List AV} {n : Nat} {σ : Hp} {Post : Option AV → Nat → Hp → Prop} (hy : plainName y.cls = true) (hlen : as.length ≤ maxL)
    (body : ∀ K : XK, Cx K cc maxL y.cls d mc ms → RetK Ly T K cc ret mc ms Post → oks n as → okh Ly n σ → fxd T n σ → XW Ly T K n σ 0 0 0 (as.map some ++ List.replicate (maxL - as.length) none) []) : Ok Ly T y cc maxL ret d mc ms as n σ Post := by
  intro has l D ca ad sz
  refine Met.ofW (cc := cc) (maxL := maxL) (ret := ret) hy rfl ?_
  intro p e s m args below meth c s₁ B hml hv
  obtain ⟨rfl, hsz, hP, hG, hD0, hok, hfx⟩ := hv
  have hx := B.exec
  have hb := B.bytes
  have hr := B.returns
  have hts0 := atoms_spec (ws := MWd y cc maxL ret) B.pre
  have hts : ∀ w ∈ AW, w.before (as.map (cv ad)).toArray s = true := fun w hw => hts0 w (List.mem_cons_of_mem _ hw)
  have hown : s.vm.findClass y.cls = some m.cls := findClass_of_methodNamed B.named
  have hlk := B.notSynchronized
  subst hsz
  have hD := hD0.self (sz := s.heap.size)
  have hA : ∀ q, s.heap.size ≤ q → va_A (cls ca Ly ad n σ) s.heap.size q := fun q h => Or.inr h
  have hl := lv_entry (as.map (cv ad)) (n := maxL) (by rw [lg_len]; exact hlen)
  rw [lg_entry_eq]
  have hlv : lvs n ad (lg_sl (as.map (cv ad)) ++ List.replicate (maxL - (lg_sl (as.map (cv ad))).length) Slot.unset).toArray c.maxLocals (as.map some ++ List.replicate (maxL - as.length) none) := by
    refine ⟨by rw [hml]; simp; omega, by rw [hml]; exact hl.1, hl.2.1, fun i v hi => ?_⟩
    by_cases hil : i < as.length
    · rw [List.getElem?_append_left (by simpa using hil), List.getElem?_map] at hi
      cases ha : as[i]? with
      | none => rw [ha] at hi; cases hi
      | some w =>
        rw [ha] at hi
        cases hi
        have h1 := hl.2.2 _ (lva_in (ad := ad) as 0 i v ha)
        rw [Nat.zero_add] at h1
        exact ⟨h1, has v (List.mem_of_getElem? ha)⟩
    · rw [List.getElem?_append_right (by simpa using hil)] at hi
      have := List.mem_of_getElem? hi
      rw [List.mem_replicate] at this
      exact absurd this.2 (by simp)
  refine body (p, l, e, rmd d mc ms, s, m, _, below, meth, c, MQ below (QQ Ly T D ca ad n σ s.heap.size Post) _ s mc ms (va_A (cls ca Ly ad n σ) s.heap.size), D, ca, va_A (cls ca Ly ad n σ) s.heap.size, s.heap, ad, n) ⟨hx, hb, hml, hown, hts, hG, hA, hlk, rfl⟩ ?_ has hok hfx ad s.heap [] _ ⟨hP, hD, va_S.rf, hok, hfx, Nat.le_refl _, agr_rf⟩ hlv (fun v h => by cases h)
  refine ⟨?_, ?_, ?_⟩
  · intro pc n' σ' bc bs lv r hrt hd hc1 hc2 hp ad' H' locs' ls' hW' hl' hs'
    obtain ⟨hP', hD', hS', hok', hfx', hn', hag'⟩ := hW'
    refine W.widen (k := mc) (n := ms) hc1 hc2 ?_
    have hq : ∀ t : State, t.heap = H' → s.WarmedH t.vm → QQ Ly T D ca ad n σ s.heap.size Post (as.map (cv ad)).toArray s (.returned (some (.int (iI r)))) t := fun t ht _ =>
      ⟨⟨some (.inl r), ad', n', σ', rfl, hp, hn', hag', hs', by rw [ht]; exact hP', hD', hok', hfx'⟩, hS'.F ht⟩
    rcases hrt with hrt | ⟨hrt, r0, r1⟩
    · exact W.iret hx hb (by rw [hr]; exact hrt) hq hS'.2.2 hd hlk
    · exact W.zret hx hb (by rw [hr]; exact hrt) (iI_z r0 r1).1 hq hS'.2.2 hd hlk
  · intro pc n' σ' bc bs lv hrt hd hc1 hc2 hp ad' H' locs' ls' hW' hl' hs'
    obtain ⟨hP', hD', hS', hok', hfx', hn', hag'⟩ := hW'
    refine W.widen (k := mc) (n := ms) hc1 hc2 ?_
    exact W.vret hx hb (by rw [hr]; exact hrt) (fun t ht _ => ⟨⟨none, ad', n', σ', rfl, hp, hn', hag', (fun v h => by cases h), by rw [ht]; exact hP', hD', hok', hfx'⟩, hS'.F ht⟩) hS'.2.2 hd hlk
  · intro pc n' σ' bc bs lv r nm hrt hd hc1 hc2 hp ad' H' locs' ls' hW' hl' hs'
    obtain ⟨hP', hD', hS', hok', hfx', hn', hag'⟩ := hW'
    refine W.widen (k := mc) (n := ms) hc1 hc2 ?_
    refine W.aret hx hb (by rw [hr]; exact hrt) (Or.inl ⟨nm, rfl⟩) ?_ (fun t ht _ => ⟨⟨some (.inr r), ad', n', σ', rfl, hp, hn', hag', hs', by rw [ht]; exact hP', hD', hok', hfx'⟩, hS'.F ht⟩) hS'.2.2 hd hlk
    by_cases h0 : r = 0
    · left; simp [cv, h0]
    · right; exact ⟨ad' r, cv_r h0⟩
end
section
-- printed by wip/whole/src/walk.py: what the tables say of classes, fields, methods, calls
theorem tb_1 {w : Cond} (h : w ∈ tables_1_1) : w ∈ lw_tbl := List.mem_append_right _ (List.mem_append_left _ h)
theorem tb_2 {w : Cond} (h : w ∈ tables_1_2) : w ∈ lw_tbl := List.mem_append_right _ (List.mem_append_right _ (List.mem_append_left _ h))
theorem tb_3 {w : Cond} (h : w ∈ tables_1_3) : w ∈ lw_tbl := List.mem_append_right _ (List.mem_append_right _ (List.mem_append_right _ (List.mem_append_left _ h)))
theorem tb_4 {w : Cond} (h : w ∈ tables_1_4) : w ∈ lw_tbl := List.mem_append_right _ (List.mem_append_right _ (List.mem_append_right _ (List.mem_append_right _ h)))
set_option maxRecDepth 20000 in
theorem cw_X : ∀ w ∈ u_ws R_X F_X 9, w ∈ AW := fun w h => List.mem_filter.mpr (by
  have := List.all_eq_true.mp (show (u_ws R_X F_X 9).all (fun w => decide (w ∈ lw_tbl) && goodWord w) = true by decide +kernel) w h
  simpa using this)
set_option maxRecDepth 20000 in
theorem cf_X : CF 0 R_X F_X 9 k_X t_X := ⟨rfl, cw_X, rfl, by decide +kernel, by decide +kernel, by decide +kernel⟩
set_option maxRecDepth 20000 in
theorem cw_XL : ∀ w ∈ u_ws R_XL F_XL 15, w ∈ AW := fun w h => List.mem_filter.mpr (by
  have := List.all_eq_true.mp (show (u_ws R_XL F_XL 15).all (fun w => decide (w ∈ lw_tbl) && goodWord w) = true by decide +kernel) w h
  simpa using this)
set_option maxRecDepth 20000 in
theorem cf_XL : CF 1 R_XL F_XL 15 k_XL t_XL := ⟨rfl, cw_XL, rfl, by decide +kernel, by decide +kernel, by decide +kernel⟩
set_option maxRecDepth 20000 in
theorem cw_XP : ∀ w ∈ u_ws R_XP F_XP 9, w ∈ AW := fun w h => List.mem_filter.mpr (by
  have := List.all_eq_true.mp (show (u_ws R_XP F_XP 9).all (fun w => decide (w ∈ lw_tbl) && goodWord w) = true by decide +kernel) w h
  simpa using this)
set_option maxRecDepth 20000 in
theorem cf_XP : CF 2 R_XP F_XP 9 k_XP t_XP := ⟨rfl, cw_XP, rfl, by decide +kernel, by decide +kernel, by decide +kernel⟩
set_option maxRecDepth 20000 in
theorem cw_XC : ∀ w ∈ u_ws R_XC F_XC 3, w ∈ AW := fun w h => List.mem_filter.mpr (by
  have := List.all_eq_true.mp (show (u_ws R_XC F_XC 3).all (fun w => decide (w ∈ lw_tbl) && goodWord w) = true by decide +kernel) w h
  simpa using this)
set_option maxRecDepth 20000 in
theorem cf_XC : CF 3 R_XC F_XC 3 k_XC t_XC := ⟨rfl, cw_XC, rfl, by decide +kernel, by decide +kernel, by decide +kernel⟩
set_option maxRecDepth 20000 in
theorem cw_XV : ∀ w ∈ u_ws R_XV F_XV 2, w ∈ AW := fun w h => List.mem_filter.mpr (by
  have := List.all_eq_true.mp (show (u_ws R_XV F_XV 2).all (fun w => decide (w ∈ lw_tbl) && goodWord w) = true by decide +kernel) w h
  simpa using this)
set_option maxRecDepth 20000 in
theorem cf_XV : CF 4 R_XV F_XV 2 k_XV t_XV := ⟨rfl, cw_XV, rfl, by decide +kernel, by decide +kernel, by decide +kernel⟩
set_option maxRecDepth 20000 in
theorem cw_XR : ∀ w ∈ u_ws R_XR F_XR 6, w ∈ AW := fun w h => List.mem_filter.mpr (by
  have := List.all_eq_true.mp (show (u_ws R_XR F_XR 6).all (fun w => decide (w ∈ lw_tbl) && goodWord w) = true by decide +kernel) w h
  simpa using this)
set_option maxRecDepth 20000 in
theorem cf_XR : CF 5 R_XR F_XR 6 k_XR t_XR := ⟨rfl, cw_XR, rfl, by decide +kernel, by decide +kernel, by decide +kernel⟩
set_option maxRecDepth 20000 in
theorem cw_XT : ∀ w ∈ u_ws R_XT F_XT 9, w ∈ AW := fun w h => List.mem_filter.mpr (by
  have := List.all_eq_true.mp (show (u_ws R_XT F_XT 9).all (fun w => decide (w ∈ lw_tbl) && goodWord w) = true by decide +kernel) w h
  simpa using this)
set_option maxRecDepth 20000 in
theorem cf_XT : CF 6 R_XT F_XT 9 k_XT t_XT := ⟨rfl, cw_XT, rfl, by decide +kernel, by decide +kernel, by decide +kernel⟩
set_option maxRecDepth 20000 in
theorem cw_M : ∀ w ∈ u_ws R_M F_M 37, w ∈ AW := fun w h => List.mem_filter.mpr (by
  have := List.all_eq_true.mp (show (u_ws R_M F_M 37).all (fun w => decide (w ∈ lw_tbl) && goodWord w) = true by decide +kernel) w h
  simpa using this)
set_option maxRecDepth 20000 in
theorem cf_M : CF 7 R_M F_M 37 k_M t_M := ⟨rfl, cw_M, rfl, by decide +kernel, by decide +kernel, by decide +kernel⟩
set_option maxRecDepth 20000 in
theorem cl_X_11 : CLk R_X 11 y_XL_init := Or.inr ⟨"LogStore", nw_in (tb_1 (List.mem_of_getElem? (i := 21) rfl)) rfl⟩
set_option maxRecDepth 20000 in
theorem fl_X_12 : FLk R_X 12 R_X F_X 0 := Or.inl (aw_in (tb_1 (List.mem_of_getElem? (i := 194) rfl)) rfl)
set_option maxRecDepth 20000 in
theorem cl_X_18 : CLk R_X 18 y_XP_init := Or.inr ⟨"LogStore", nw_in (tb_1 (List.mem_of_getElem? (i := 92) rfl)) rfl⟩
set_option maxRecDepth 20000 in
theorem fl_X_21 : FLk R_X 21 R_X F_X 1 := Or.inl (aw_in (tb_1 (List.mem_of_getElem? (i := 195) rfl)) rfl)
set_option maxRecDepth 20000 in
theorem cl_X_27 : CLk R_X 27 y_XV_init := Or.inr ⟨"LogStore", nw_in (tb_1 (List.mem_of_getElem? (i := 154) rfl)) rfl⟩
set_option maxRecDepth 20000 in
theorem fl_X_28 : FLk R_X 28 R_X F_X 2 := Or.inl (aw_in (tb_1 (List.mem_of_getElem? (i := 196) rfl)) rfl)
set_option maxRecDepth 20000 in
theorem cl_X_34 : CLk R_X 34 y_XR_init := Or.inr ⟨"LogStore", nw_in (tb_1 (List.mem_of_getElem? (i := 170) rfl)) rfl⟩
set_option maxRecDepth 20000 in
theorem fl_X_37 : FLk R_X 37 R_X F_X 3 := Or.inl (aw_in (tb_1 (List.mem_of_getElem? (i := 197) rfl)) rfl)
set_option maxRecDepth 20000 in
theorem fl_X_43 : FLk R_X 43 R_X F_X 4 := Or.inl (aw_in (tb_1 (List.mem_of_getElem? (i := 198) rfl)) rfl)
set_option maxRecDepth 20000 in
theorem fl_X_47 : FLk R_X 47 R_X F_X 8 := Or.inl (aw_in (tb_1 (List.mem_of_getElem? (i := 202) rfl)) rfl)
set_option maxRecDepth 20000 in
theorem cl_X_51 : CLk R_X 51 y_XV_freeSeat := Or.inr ⟨"LogStore", nw_in (tb_1 (List.mem_of_getElem? (i := 226) rfl)) rfl⟩
set_option maxRecDepth 20000 in
theorem fl_X_55 : FLk R_X 55 R_X F_X 5 := Or.inl (aw_in (tb_1 (List.mem_of_getElem? (i := 199) rfl)) rfl)
set_option maxRecDepth 20000 in
theorem cl_X_59 : CLk R_X 59 y_XT_init := Or.inr ⟨"LogStore", nw_in (tb_1 (List.mem_of_getElem? (i := 231) rfl)) rfl⟩
set_option maxRecDepth 20000 in
theorem cl_X_62 : CLk R_X 62 y_XV_enter := Or.inr ⟨"LogStore", nw_in (tb_2 (List.mem_of_getElem? (i := 35) rfl)) rfl⟩
set_option maxRecDepth 20000 in
theorem cl_X_66 : CLk R_X 66 y_X_settle := Or.inl (aw_in (tb_2 (List.mem_of_getElem? (i := 39) rfl)) rfl)
set_option maxRecDepth 20000 in
theorem cl_X_69 : CLk R_X 69 y_X_request := Or.inl (aw_in (tb_2 (List.mem_of_getElem? (i := 142) rfl)) rfl)
set_option maxRecDepth 20000 in
theorem cl_X_73 : CLk R_X 73 y_X_find := Or.inl (aw_in (tb_2 (List.mem_of_getElem? (i := 146) rfl)) rfl)
set_option maxRecDepth 20000 in
theorem fl_X_77 : FLk R_X 77 R_XT F_XT 2 := Or.inr ⟨"LogStore", nw_in (tb_2 (List.mem_of_getElem? (i := 2) rfl)) rfl⟩
set_option maxRecDepth 20000 in
theorem cl_X_80 : CLk R_X 80 y_XL_addCommit := Or.inr ⟨"LogStore", nw_in (tb_2 (List.mem_of_getElem? (i := 192) rfl)) rfl⟩
set_option maxRecDepth 20000 in
theorem cl_X_84 : CLk R_X 84 y_X_rollBack := Or.inl (aw_in (tb_2 (List.mem_of_getElem? (i := 166) rfl)) rfl)
set_option maxRecDepth 20000 in
theorem fl_X_87 : FLk R_X 87 R_XL F_XL 11 := Or.inr ⟨"LogStore", nw_in (tb_1 (List.mem_of_getElem? (i := 49) rfl)) rfl⟩
set_option maxRecDepth 20000 in
theorem cl_X_90 : CLk R_X 90 y_XL_makeStable := Or.inr ⟨"LogStore", nw_in (tb_2 (List.mem_of_getElem? (i := 204) rfl)) rfl⟩
set_option maxRecDepth 20000 in
theorem fl_X_93 : FLk R_X 93 R_XL F_XL 14 := Or.inr ⟨"LogStore", nw_in (tb_1 (List.mem_of_getElem? (i := 57) rfl)) rfl⟩
set_option maxRecDepth 20000 in
theorem fl_X_96 : FLk R_X 96 R_XP F_XP 4 := Or.inr ⟨"LogStore", nw_in (tb_1 (List.mem_of_getElem? (i := 126) rfl)) rfl⟩
set_option maxRecDepth 20000 in
theorem cl_X_100 : CLk R_X 100 y_XL_addCheckpoint := Or.inr ⟨"LogStore", nw_in (tb_2 (List.mem_of_getElem? (i := 209) rfl)) rfl⟩
set_option maxRecDepth 20000 in
theorem cl_X_104 : CLk R_X 104 y_X_isPage := Or.inl (aw_in (tb_2 (List.mem_of_getElem? (i := 220) rfl)) rfl)
set_option maxRecDepth 20000 in
theorem cl_X_108 : CLk R_X 108 y_XP_isDirty := Or.inr ⟨"LogStore", nw_in (tb_2 (List.mem_of_getElem? (i := 223) rfl)) rfl⟩
set_option maxRecDepth 20000 in
theorem cl_X_111 : CLk R_X 111 y_XP_writeOut := Or.inr ⟨"LogStore", nw_in (tb_2 (List.mem_of_getElem? (i := 224) rfl)) rfl⟩
set_option maxRecDepth 20000 in
theorem fl_X_114 : FLk R_X 114 R_X F_X 7 := Or.inl (aw_in (tb_1 (List.mem_of_getElem? (i := 201) rfl)) rfl)
set_option maxRecDepth 20000 in
theorem fl_X_117 : FLk R_X 117 R_XL F_XL 12 := Or.inr ⟨"LogStore", nw_in (tb_1 (List.mem_of_getElem? (i := 51) rfl)) rfl⟩
set_option maxRecDepth 20000 in
theorem cl_X_126 : CLk R_X 126 y_XL_loseUnstable := Or.inr ⟨"LogStore", nw_in (tb_2 (List.mem_of_getElem? (i := 232) rfl)) rfl⟩
set_option maxRecDepth 20000 in
theorem cl_X_129 : CLk R_X 129 y_XP_empty := Or.inr ⟨"LogStore", nw_in (tb_3 (List.mem_of_getElem? (i := 0) rfl)) rfl⟩
set_option maxRecDepth 20000 in
theorem cl_X_132 : CLk R_X 132 y_XV_leaveAllInDoubt := Or.inr ⟨"LogStore", nw_in (tb_3 (List.mem_of_getElem? (i := 4) rfl)) rfl⟩
set_option maxRecDepth 20000 in
theorem cl_X_135 : CLk R_X 135 y_XR_startAnew := Or.inr ⟨"LogStore", nw_in (tb_3 (List.mem_of_getElem? (i := 9) rfl)) rfl⟩
set_option maxRecDepth 20000 in
theorem cl_X_138 : CLk R_X 138 y_XR_makeUnit := Or.inr ⟨"LogStore", nw_in (tb_3 (List.mem_of_getElem? (i := 17) rfl)) rfl⟩
set_option maxRecDepth 20000 in
theorem cl_X_141 : CLk R_X 141 y_XR_isFinished := Or.inr ⟨"LogStore", nw_in (tb_3 (List.mem_of_getElem? (i := 52) rfl)) rfl⟩
set_option maxRecDepth 20000 in
theorem cl_X_145 : CLk R_X 145 y_X_comeUp := Or.inl (aw_in (tb_3 (List.mem_of_getElem? (i := 56) rfl)) rfl)
set_option maxRecDepth 20000 in
theorem fl_X_148 : FLk R_X 148 R_XT F_XT 3 := Or.inr ⟨"LogStore", nw_in (tb_2 (List.mem_of_getElem? (i := 4) rfl)) rfl⟩
set_option maxRecDepth 20000 in
theorem fl_X_151 : FLk R_X 151 R_XT F_XT 4 := Or.inr ⟨"LogStore", nw_in (tb_2 (List.mem_of_getElem? (i := 5) rfl)) rfl⟩
set_option maxRecDepth 20000 in
theorem cl_X_154 : CLk R_X 154 y_X_place := Or.inl (aw_in (tb_3 (List.mem_of_getElem? (i := 80) rfl)) rfl)
set_option maxRecDepth 20000 in
theorem cl_X_158 : CLk R_X 158 y_XP_valueAt := Or.inr ⟨"LogStore", nw_in (tb_2 (List.mem_of_getElem? (i := 117) rfl)) rfl⟩
set_option maxRecDepth 20000 in
theorem cl_X_161 : CLk R_X 161 y_X_isKey := Or.inl (aw_in (tb_2 (List.mem_of_getElem? (i := 150) rfl)) rfl)
set_option maxRecDepth 20000 in
theorem cl_X_164 : CLk R_X 164 y_XP_placeOf := Or.inr ⟨"LogStore", nw_in (tb_2 (List.mem_of_getElem? (i := 81) rfl)) rfl⟩
set_option maxRecDepth 20000 in
theorem cl_X_167 : CLk R_X 167 y_XP_leastKeyAbove := Or.inr ⟨"LogStore", nw_in (tb_3 (List.mem_of_getElem? (i := 89) rfl)) rfl⟩
set_option maxRecDepth 20000 in
theorem fl_X_170 : FLk R_X 170 R_XP F_XP 7 := Or.inr ⟨"LogStore", nw_in (tb_1 (List.mem_of_getElem? (i := 130) rfl)) rfl⟩
set_option maxRecDepth 20000 in
theorem fl_X_173 : FLk R_X 173 R_XP F_XP 8 := Or.inr ⟨"LogStore", nw_in (tb_1 (List.mem_of_getElem? (i := 132) rfl)) rfl⟩
set_option maxRecDepth 20000 in
theorem fl_X_176 : FLk R_X 176 R_XP F_XP 3 := Or.inr ⟨"LogStore", nw_in (tb_1 (List.mem_of_getElem? (i := 124) rfl)) rfl⟩
set_option maxRecDepth 20000 in
theorem fl_X_180 : FLk R_X 180 R_XP F_XP 2 := Or.inr ⟨"LogStore", nw_in (tb_1 (List.mem_of_getElem? (i := 122) rfl)) rfl⟩
set_option maxRecDepth 20000 in
theorem fl_X_184 : FLk R_X 184 R_XC F_XC 2 := Or.inr ⟨"LogStore", nw_in (tb_1 (List.mem_of_getElem? (i := 109) rfl)) rfl⟩
set_option maxRecDepth 20000 in
theorem fl_X_189 : FLk R_X 189 R_XP F_XP 1 := Or.inr ⟨"LogStore", nw_in (tb_1 (List.mem_of_getElem? (i := 120) rfl)) rfl⟩
set_option maxRecDepth 20000 in
theorem fl_X_192 : FLk R_X 192 R_X F_X 6 := Or.inl (aw_in (tb_1 (List.mem_of_getElem? (i := 200) rfl)) rfl)
set_option maxRecDepth 20000 in
theorem cl_X_195 : CLk R_X 195 y_XT_ask := Or.inr ⟨"LogStore", nw_in (tb_2 (List.mem_of_getElem? (i := 153) rfl)) rfl⟩
set_option maxRecDepth 20000 in
theorem cl_X_199 : CLk R_X 199 y_XV_isFit := Or.inr ⟨"LogStore", nw_in (tb_2 (List.mem_of_getElem? (i := 157) rfl)) rfl⟩
set_option maxRecDepth 20000 in
theorem cl_X_203 : CLk R_X 203 y_X_grant := Or.inl (aw_in (tb_2 (List.mem_of_getElem? (i := 66) rfl)) rfl)
set_option maxRecDepth 20000 in
theorem cl_X_206 : CLk R_X 206 y_XV_waitsForItself := Or.inr ⟨"LogStore", nw_in (tb_2 (List.mem_of_getElem? (i := 158) rfl)) rfl⟩
set_option maxRecDepth 20000 in
theorem cl_X_209 : CLk R_X 209 y_XV_hold := Or.inr ⟨"LogStore", nw_in (tb_2 (List.mem_of_getElem? (i := 70) rfl)) rfl⟩
set_option maxRecDepth 20000 in
theorem fl_X_212 : FLk R_X 212 R_XT F_XT 7 := Or.inr ⟨"LogStore", nw_in (tb_2 (List.mem_of_getElem? (i := 13) rfl)) rfl⟩
set_option maxRecDepth 20000 in
theorem cl_X_215 : CLk R_X 215 y_X_readFor := Or.inl (aw_in (tb_2 (List.mem_of_getElem? (i := 77) rfl)) rfl)
set_option maxRecDepth 20000 in
theorem cl_X_218 : CLk R_X 218 y_X_writeFor := Or.inl (aw_in (tb_2 (List.mem_of_getElem? (i := 121) rfl)) rfl)
set_option maxRecDepth 20000 in
theorem fl_X_221 : FLk R_X 221 R_XT F_XT 6 := Or.inr ⟨"LogStore", nw_in (tb_2 (List.mem_of_getElem? (i := 10) rfl)) rfl⟩
set_option maxRecDepth 20000 in
theorem cl_X_224 : CLk R_X 224 y_XP_fetch := Or.inr ⟨"LogStore", nw_in (tb_2 (List.mem_of_getElem? (i := 93) rfl)) rfl⟩
set_option maxRecDepth 20000 in
theorem fl_X_227 : FLk R_X 227 R_XL F_XL 13 := Or.inr ⟨"LogStore", nw_in (tb_1 (List.mem_of_getElem? (i := 54) rfl)) rfl⟩
set_option maxRecDepth 20000 in
theorem fl_X_230 : FLk R_X 230 R_XT F_XT 0 := Or.inr ⟨"LogStore", nw_in (tb_1 (List.mem_of_getElem? (i := 237) rfl)) rfl⟩
set_option maxRecDepth 20000 in
theorem cl_X_233 : CLk R_X 233 y_XP_keyAt := Or.inr ⟨"LogStore", nw_in (tb_2 (List.mem_of_getElem? (i := 125) rfl)) rfl⟩
set_option maxRecDepth 20000 in
theorem fl_X_236 : FLk R_X 236 R_XT F_XT 8 := Or.inr ⟨"LogStore", nw_in (tb_2 (List.mem_of_getElem? (i := 15) rfl)) rfl⟩
set_option maxRecDepth 20000 in
theorem cl_X_239 : CLk R_X 239 y_XL_addUpdate := Or.inr ⟨"LogStore", nw_in (tb_2 (List.mem_of_getElem? (i := 126) rfl)) rfl⟩
set_option maxRecDepth 20000 in
theorem cl_X_243 : CLk R_X 243 y_XP_apply := Or.inr ⟨"LogStore", nw_in (tb_2 (List.mem_of_getElem? (i := 134) rfl)) rfl⟩
set_option maxRecDepth 20000 in
theorem fl_X_246 : FLk R_X 246 R_XL F_XL 1 := Or.inr ⟨"LogStore", nw_in (tb_1 (List.mem_of_getElem? (i := 29) rfl)) rfl⟩
set_option maxRecDepth 20000 in
theorem cl_X_249 : CLk R_X 249 y_XL_isOpen := Or.inr ⟨"LogStore", nw_in (tb_2 (List.mem_of_getElem? (i := 170) rfl)) rfl⟩
set_option maxRecDepth 20000 in
theorem cl_X_252 : CLk R_X 252 y_XP_takeBack := Or.inr ⟨"LogStore", nw_in (tb_2 (List.mem_of_getElem? (i := 174) rfl)) rfl⟩
set_option maxRecDepth 20000 in
theorem cl_X_255 : CLk R_X 255 y_XV_leave := Or.inr ⟨"LogStore", nw_in (tb_2 (List.mem_of_getElem? (i := 47) rfl)) rfl⟩
set_option maxRecDepth 20000 in
theorem cl_X_259 : CLk R_X 259 y_XV_leastStableCommit := Or.inr ⟨"LogStore", nw_in (tb_2 (List.mem_of_getElem? (i := 43) rfl)) rfl⟩
set_option maxRecDepth 20000 in
theorem cl_X_263 : CLk R_X 263 y_XV_firstFitWaiting := Or.inr ⟨"LogStore", nw_in (tb_2 (List.mem_of_getElem? (i := 51) rfl)) rfl⟩
set_option maxRecDepth 20000 in
theorem fl_X_267 : FLk R_X 267 R_XL F_XL 8 := Or.inr ⟨"LogStore", nw_in (tb_1 (List.mem_of_getElem? (i := 42) rfl)) rfl⟩
set_option maxRecDepth 20000 in
theorem fl_M_7 : FLk R_M 7 R_M F_M 2 := Or.inl (aw_in (tb_3 (List.mem_of_getElem? (i := 109) rfl)) rfl)
set_option maxRecDepth 20000 in
theorem fl_M_13 : FLk R_M 13 R_M F_M 3 := Or.inl (aw_in (tb_3 (List.mem_of_getElem? (i := 110) rfl)) rfl)
set_option maxRecDepth 20000 in
theorem fl_M_16 : FLk R_M 16 R_M F_M 4 := Or.inl (aw_in (tb_3 (List.mem_of_getElem? (i := 111) rfl)) rfl)
set_option maxRecDepth 20000 in
theorem fl_M_19 : FLk R_M 19 R_M F_M 5 := Or.inl (aw_in (tb_3 (List.mem_of_getElem? (i := 112) rfl)) rfl)
set_option maxRecDepth 20000 in
theorem fl_M_22 : FLk R_M 22 R_M F_M 6 := Or.inl (aw_in (tb_3 (List.mem_of_getElem? (i := 113) rfl)) rfl)
set_option maxRecDepth 20000 in
theorem fl_M_25 : FLk R_M 25 R_M F_M 7 := Or.inl (aw_in (tb_3 (List.mem_of_getElem? (i := 114) rfl)) rfl)
set_option maxRecDepth 20000 in
theorem fl_M_28 : FLk R_M 28 R_M F_M 8 := Or.inl (aw_in (tb_3 (List.mem_of_getElem? (i := 115) rfl)) rfl)
set_option maxRecDepth 20000 in
theorem fl_M_31 : FLk R_M 31 R_M F_M 9 := Or.inl (aw_in (tb_3 (List.mem_of_getElem? (i := 116) rfl)) rfl)
set_option maxRecDepth 20000 in
theorem fl_M_34 : FLk R_M 34 R_M F_M 10 := Or.inl (aw_in (tb_3 (List.mem_of_getElem? (i := 117) rfl)) rfl)
set_option maxRecDepth 20000 in
theorem fl_M_37 : FLk R_M 37 R_M F_M 11 := Or.inl (aw_in (tb_3 (List.mem_of_getElem? (i := 118) rfl)) rfl)
set_option maxRecDepth 20000 in
theorem fl_M_40 : FLk R_M 40 R_M F_M 12 := Or.inl (aw_in (tb_3 (List.mem_of_getElem? (i := 119) rfl)) rfl)
set_option maxRecDepth 20000 in
theorem fl_M_43 : FLk R_M 43 R_M F_M 13 := Or.inl (aw_in (tb_3 (List.mem_of_getElem? (i := 120) rfl)) rfl)
set_option maxRecDepth 20000 in
theorem fl_M_46 : FLk R_M 46 R_M F_M 14 := Or.inl (aw_in (tb_3 (List.mem_of_getElem? (i := 121) rfl)) rfl)
set_option maxRecDepth 20000 in
theorem fl_M_49 : FLk R_M 49 R_M F_M 15 := Or.inl (aw_in (tb_3 (List.mem_of_getElem? (i := 122) rfl)) rfl)
set_option maxRecDepth 20000 in
theorem fl_M_52 : FLk R_M 52 R_M F_M 16 := Or.inl (aw_in (tb_3 (List.mem_of_getElem? (i := 123) rfl)) rfl)
set_option maxRecDepth 20000 in
theorem fl_M_55 : FLk R_M 55 R_M F_M 17 := Or.inl (aw_in (tb_3 (List.mem_of_getElem? (i := 124) rfl)) rfl)
set_option maxRecDepth 20000 in
theorem fl_M_58 : FLk R_M 58 R_M F_M 18 := Or.inl (aw_in (tb_3 (List.mem_of_getElem? (i := 125) rfl)) rfl)
set_option maxRecDepth 20000 in
theorem fl_M_61 : FLk R_M 61 R_M F_M 23 := Or.inl (aw_in (tb_3 (List.mem_of_getElem? (i := 130) rfl)) rfl)
set_option maxRecDepth 20000 in
theorem fl_M_64 : FLk R_M 64 R_M F_M 24 := Or.inl (aw_in (tb_3 (List.mem_of_getElem? (i := 131) rfl)) rfl)
set_option maxRecDepth 20000 in
theorem fl_M_67 : FLk R_M 67 R_M F_M 25 := Or.inl (aw_in (tb_3 (List.mem_of_getElem? (i := 132) rfl)) rfl)
set_option maxRecDepth 20000 in
theorem fl_M_70 : FLk R_M 70 R_M F_M 26 := Or.inl (aw_in (tb_3 (List.mem_of_getElem? (i := 133) rfl)) rfl)
set_option maxRecDepth 20000 in
theorem fl_M_73 : FLk R_M 73 R_M F_M 27 := Or.inl (aw_in (tb_3 (List.mem_of_getElem? (i := 134) rfl)) rfl)
set_option maxRecDepth 20000 in
theorem fl_M_76 : FLk R_M 76 R_M F_M 28 := Or.inl (aw_in (tb_3 (List.mem_of_getElem? (i := 135) rfl)) rfl)
set_option maxRecDepth 20000 in
theorem fl_M_79 : FLk R_M 79 R_M F_M 29 := Or.inl (aw_in (tb_3 (List.mem_of_getElem? (i := 136) rfl)) rfl)
set_option maxRecDepth 20000 in
theorem fl_M_82 : FLk R_M 82 R_M F_M 30 := Or.inl (aw_in (tb_3 (List.mem_of_getElem? (i := 137) rfl)) rfl)
set_option maxRecDepth 20000 in
theorem fl_M_86 : FLk R_M 86 R_M F_M 31 := Or.inl (aw_in (tb_3 (List.mem_of_getElem? (i := 138) rfl)) rfl)
set_option maxRecDepth 20000 in
theorem fl_M_90 : FLk R_M 90 R_M F_M 36 := Or.inl (aw_in (tb_3 (List.mem_of_getElem? (i := 143) rfl)) rfl)
set_option maxRecDepth 20000 in
theorem cl_M_93 : CLk R_M 93 y_M_keyAt := Or.inl (aw_in (tb_4 (List.mem_of_getElem? (i := 20) rfl)) rfl)
set_option maxRecDepth 20000 in
theorem fl_M_97 : FLk R_M 97 R_M F_M 1 := Or.inl (aw_in (tb_3 (List.mem_of_getElem? (i := 108) rfl)) rfl)
set_option maxRecDepth 20000 in
theorem fl_M_101 : FLk R_M 101 R_M F_M 21 := Or.inl (aw_in (tb_3 (List.mem_of_getElem? (i := 128) rfl)) rfl)
set_option maxRecDepth 20000 in
theorem fl_M_104 : FLk R_M 104 R_M F_M 19 := Or.inl (aw_in (tb_3 (List.mem_of_getElem? (i := 126) rfl)) rfl)
set_option maxRecDepth 20000 in
theorem cl_M_107 : CLk R_M 107 y_M_spill := Or.inl (aw_in (tb_4 (List.mem_of_getElem? (i := 28) rfl)) rfl)
set_option maxRecDepth 20000 in
theorem fl_M_111 : FLk R_M 111 R_M F_M 20 := Or.inl (aw_in (tb_3 (List.mem_of_getElem? (i := 127) rfl)) rfl)
set_option maxRecDepth 20000 in
theorem fl_M_114 : FLk R_M 114 R_M F_M 0 := Or.inl (aw_in (tb_3 (List.mem_of_getElem? (i := 107) rfl)) rfl)
set_option maxRecDepth 20000 in
theorem cl_M_117 : CLk R_M 117 y_M_committed := Or.inl (aw_in (tb_4 (List.mem_of_getElem? (i := 60) rfl)) rfl)
set_option maxRecDepth 20000 in
theorem cl_M_121 : CLk R_M 121 y_M_fetch := Or.inl (aw_in (tb_4 (List.mem_of_getElem? (i := 24) rfl)) rfl)
set_option maxRecDepth 20000 in
theorem cl_M_124 : CLk R_M 124 y_M_put := Or.inl (aw_in (tb_4 (List.mem_of_getElem? (i := 36) rfl)) rfl)
set_option maxRecDepth 20000 in
theorem cl_M_128 : CLk R_M 128 y_M_apply := Or.inl (aw_in (tb_4 (List.mem_of_getElem? (i := 40) rfl)) rfl)
set_option maxRecDepth 20000 in
theorem cl_M_131 : CLk R_M 131 y_M_conflicts := Or.inl (aw_in (tb_4 (List.mem_of_getElem? (i := 4) rfl)) rfl)
set_option maxRecDepth 20000 in
theorem cl_M_135 : CLk R_M 135 y_M_ahead := Or.inl (aw_in (tb_4 (List.mem_of_getElem? (i := 8) rfl)) rfl)
set_option maxRecDepth 20000 in
theorem fl_M_138 : FLk R_M 138 R_M F_M 22 := Or.inl (aw_in (tb_3 (List.mem_of_getElem? (i := 129) rfl)) rfl)
set_option maxRecDepth 20000 in
theorem cl_M_141 : CLk R_M 141 y_M_waitsFor := Or.inl (aw_in (tb_4 (List.mem_of_getElem? (i := 48) rfl)) rfl)
set_option maxRecDepth 20000 in
theorem cl_M_144 : CLk R_M 144 y_M_find := Or.inl (aw_in (tb_4 (List.mem_of_getElem? (i := 16) rfl)) rfl)
set_option maxRecDepth 20000 in
theorem cl_M_147 : CLk R_M 147 y_M_countOf := Or.inl (aw_in (tb_4 (List.mem_of_getElem? (i := 32) rfl)) rfl)
set_option maxRecDepth 20000 in
theorem cl_M_150 : CLk R_M 150 y_M_open := Or.inl (aw_in (tb_4 (List.mem_of_getElem? (i := 56) rfl)) rfl)
set_option maxRecDepth 20000 in
theorem cl_M_153 : CLk R_M 153 y_M_takeBack := Or.inl (aw_in (tb_4 (List.mem_of_getElem? (i := 64) rfl)) rfl)
set_option maxRecDepth 20000 in
theorem cl_M_156 : CLk R_M 156 y_M_unlock := Or.inl (aw_in (tb_4 (List.mem_of_getElem? (i := 68) rfl)) rfl)
set_option maxRecDepth 20000 in
theorem cl_M_159 : CLk R_M 159 y_M_fit := Or.inl (aw_in (tb_4 (List.mem_of_getElem? (i := 0) rfl)) rfl)
set_option maxRecDepth 20000 in
theorem cl_M_162 : CLk R_M 162 y_M_firm := Or.inl (aw_in (tb_4 (List.mem_of_getElem? (i := 76) rfl)) rfl)
set_option maxRecDepth 20000 in
theorem cl_M_166 : CLk R_M 166 y_M_firstFit := Or.inl (aw_in (tb_4 (List.mem_of_getElem? (i := 80) rfl)) rfl)
set_option maxRecDepth 20000 in
theorem cl_M_169 : CLk R_M 169 y_M_grant := Or.inl (aw_in (tb_4 (List.mem_of_getElem? (i := 12) rfl)) rfl)
set_option maxRecDepth 20000 in
theorem fl_M_172 : FLk R_M 172 R_M F_M 32 := Or.inl (aw_in (tb_3 (List.mem_of_getElem? (i := 139) rfl)) rfl)
set_option maxRecDepth 20000 in
theorem cl_M_176 : CLk R_M 176 y_M_live := Or.inl (aw_in (tb_3 (List.mem_of_getElem? (i := 224) rfl)) rfl)
set_option maxRecDepth 20000 in
theorem cl_M_179 : CLk R_M 179 y_M_isIn := Or.inl (aw_in (tb_3 (List.mem_of_getElem? (i := 236) rfl)) rfl)
set_option maxRecDepth 20000 in
theorem cl_M_182 : CLk R_M 182 y_M_ring := Or.inl (aw_in (tb_4 (List.mem_of_getElem? (i := 44) rfl)) rfl)
set_option maxRecDepth 20000 in
theorem cl_M_185 : CLk R_M 185 y_M_drop := Or.inl (aw_in (tb_4 (List.mem_of_getElem? (i := 52) rfl)) rfl)
set_option maxRecDepth 20000 in
theorem cl_M_188 : CLk R_M 188 y_M_settle := Or.inl (aw_in (tb_4 (List.mem_of_getElem? (i := 72) rfl)) rfl)
set_option maxRecDepth 20000 in
theorem cl_M_191 : CLk R_M 191 y_M_request := Or.inl (aw_in (tb_3 (List.mem_of_getElem? (i := 232) rfl)) rfl)
set_option maxRecDepth 20000 in
theorem fl_M_195 : FLk R_M 195 R_M F_M 33 := Or.inl (aw_in (tb_3 (List.mem_of_getElem? (i := 140) rfl)) rfl)
set_option maxRecDepth 20000 in
theorem fl_M_198 : FLk R_M 198 R_M F_M 34 := Or.inl (aw_in (tb_3 (List.mem_of_getElem? (i := 141) rfl)) rfl)
set_option maxRecDepth 20000 in
theorem fl_M_201 : FLk R_M 201 R_M F_M 35 := Or.inl (aw_in (tb_3 (List.mem_of_getElem? (i := 142) rfl)) rfl)
set_option maxRecDepth 20000 in
theorem cl_M_204 : CLk R_M 204 y_M_analyse := Or.inl (aw_in (tb_4 (List.mem_of_getElem? (i := 120) rfl)) rfl)
set_option maxRecDepth 20000 in
theorem cl_M_207 : CLk R_M 207 y_M_redo := Or.inl (aw_in (tb_4 (List.mem_of_getElem? (i := 124) rfl)) rfl)
set_option maxRecDepth 20000 in
theorem cl_M_210 : CLk R_M 210 y_M_finish := Or.inl (aw_in (tb_4 (List.mem_of_getElem? (i := 128) rfl)) rfl)
set_option maxRecDepth 20000 in
theorem cl_M_213 : CLk R_M 213 y_M_unit := Or.inl (aw_in (tb_4 (List.mem_of_getElem? (i := 116) rfl)) rfl)
set_option maxRecDepth 20000 in
theorem cl_M_216 : CLk R_M 216 y_M_known := Or.inl (aw_in (tb_4 (List.mem_of_getElem? (i := 140) rfl)) rfl)
set_option maxRecDepth 20000 in
theorem cl_M_219 : CLk R_M 219 y_M_place := Or.inl (aw_in (tb_4 (List.mem_of_getElem? (i := 156) rfl)) rfl)
set_option maxRecDepth 20000 in
theorem cl_M_222 : CLk R_M 222 y_M_valueAt := Or.inl (aw_in (tb_4 (List.mem_of_getElem? (i := 160) rfl)) rfl)
set_option maxRecDepth 20000 in
theorem fl_XC_9 : FLk R_XC 9 R_XC F_XC 0 := Or.inl (aw_in (tb_1 (List.mem_of_getElem? (i := 103) rfl)) rfl)
set_option maxRecDepth 20000 in
theorem fl_XC_15 : FLk R_XC 15 R_XC F_XC 1 := Or.inl (aw_in (tb_1 (List.mem_of_getElem? (i := 105) rfl)) rfl)
set_option maxRecDepth 20000 in
theorem fl_XC_18 : FLk R_XC 18 R_XC F_XC 2 := Or.inl (aw_in (tb_1 (List.mem_of_getElem? (i := 107) rfl)) rfl)
set_option maxRecDepth 20000 in
theorem fl_XV_11 : FLk R_XV 11 R_XV F_XV 0 := Or.inl (aw_in (tb_1 (List.mem_of_getElem? (i := 161) rfl)) rfl)
set_option maxRecDepth 20000 in
theorem fl_XV_19 : FLk R_XV 19 R_XV F_XV 1 := Or.inl (aw_in (tb_1 (List.mem_of_getElem? (i := 162) rfl)) rfl)
set_option maxRecDepth 20000 in
theorem fl_XV_22 : FLk R_XV 22 R_XT F_XT 1 := Or.inr ⟨"LogStore", nw_in (tb_1 (List.mem_of_getElem? (i := 239) rfl)) rfl⟩
set_option maxRecDepth 20000 in
theorem fl_XV_26 : FLk R_XV 26 R_XT F_XT 2 := Or.inr ⟨"LogStore", nw_in (tb_2 (List.mem_of_getElem? (i := 1) rfl)) rfl⟩
set_option maxRecDepth 20000 in
theorem cl_XV_29 : CLk R_XV 29 y_XV_leave := Or.inl (aw_in (tb_3 (List.mem_of_getElem? (i := 8) rfl)) rfl)
set_option maxRecDepth 20000 in
theorem fl_XV_33 : FLk R_XV 33 R_XT F_XT 6 := Or.inr ⟨"LogStore", nw_in (tb_2 (List.mem_of_getElem? (i := 9) rfl)) rfl⟩
set_option maxRecDepth 20000 in
theorem fl_XV_36 : FLk R_XV 36 R_XT F_XT 7 := Or.inr ⟨"LogStore", nw_in (tb_2 (List.mem_of_getElem? (i := 12) rfl)) rfl⟩
set_option maxRecDepth 20000 in
theorem cl_XV_45 : CLk R_XV 45 y_XV_obstacles := Or.inl (aw_in (tb_2 (List.mem_of_getElem? (i := 59) rfl)) rfl)
set_option maxRecDepth 20000 in
theorem fl_XV_49 : FLk R_XV 49 R_XT F_XT 5 := Or.inr ⟨"LogStore", nw_in (tb_2 (List.mem_of_getElem? (i := 7) rfl)) rfl⟩
set_option maxRecDepth 20000 in
theorem cl_XV_52 : CLk R_XV 52 y_XV_conflicts := Or.inl (aw_in (tb_2 (List.mem_of_getElem? (i := 63) rfl)) rfl)
set_option maxRecDepth 20000 in
theorem cl_XV_56 : CLk R_XV 56 y_XV_stepFrom := Or.inl (aw_in (tb_2 (List.mem_of_getElem? (i := 162) rfl)) rfl)
set_option maxRecDepth 20000 in
theorem fl_XV_60 : FLk R_XV 60 R_XL F_XL 8 := Or.inr ⟨"LogStore", nw_in (tb_1 (List.mem_of_getElem? (i := 41) rfl)) rfl⟩
set_option maxRecDepth 20000 in
theorem fl_XV_66 : FLk R_XV 66 R_XT F_XT 0 := Or.inr ⟨"LogStore", nw_in (tb_1 (List.mem_of_getElem? (i := 236) rfl)) rfl⟩
set_option maxRecDepth 20000 in
theorem fl_XV_69 : FLk R_XV 69 R_XL F_XL 12 := Or.inr ⟨"LogStore", nw_in (tb_1 (List.mem_of_getElem? (i := 52) rfl)) rfl⟩
set_option maxRecDepth 20000 in
theorem cl_XV_72 : CLk R_XV 72 y_XV_isFit := Or.inl (aw_in (tb_2 (List.mem_of_getElem? (i := 55) rfl)) rfl)
set_option maxRecDepth 20000 in
theorem fl_XL_9 : FLk R_XL 9 R_XL F_XL 0 := Or.inl (aw_in (tb_1 (List.mem_of_getElem? (i := 27) rfl)) rfl)
set_option maxRecDepth 20000 in
theorem fl_XL_15 : FLk R_XL 15 R_XL F_XL 1 := Or.inl (aw_in (tb_1 (List.mem_of_getElem? (i := 28) rfl)) rfl)
set_option maxRecDepth 20000 in
theorem fl_XL_18 : FLk R_XL 18 R_XL F_XL 2 := Or.inl (aw_in (tb_1 (List.mem_of_getElem? (i := 30) rfl)) rfl)
set_option maxRecDepth 20000 in
theorem fl_XL_21 : FLk R_XL 21 R_XL F_XL 3 := Or.inl (aw_in (tb_1 (List.mem_of_getElem? (i := 33) rfl)) rfl)
set_option maxRecDepth 20000 in
theorem fl_XL_24 : FLk R_XL 24 R_XL F_XL 4 := Or.inl (aw_in (tb_1 (List.mem_of_getElem? (i := 34) rfl)) rfl)
set_option maxRecDepth 20000 in
theorem fl_XL_27 : FLk R_XL 27 R_XL F_XL 5 := Or.inl (aw_in (tb_1 (List.mem_of_getElem? (i := 35) rfl)) rfl)
set_option maxRecDepth 20000 in
theorem fl_XL_30 : FLk R_XL 30 R_XL F_XL 6 := Or.inl (aw_in (tb_1 (List.mem_of_getElem? (i := 37) rfl)) rfl)
set_option maxRecDepth 20000 in
theorem fl_XL_33 : FLk R_XL 33 R_XL F_XL 7 := Or.inl (aw_in (tb_1 (List.mem_of_getElem? (i := 39) rfl)) rfl)
set_option maxRecDepth 20000 in
theorem fl_XL_36 : FLk R_XL 36 R_XL F_XL 8 := Or.inl (aw_in (tb_1 (List.mem_of_getElem? (i := 40) rfl)) rfl)
set_option maxRecDepth 20000 in
theorem fl_XL_39 : FLk R_XL 39 R_XL F_XL 9 := Or.inl (aw_in (tb_1 (List.mem_of_getElem? (i := 43) rfl)) rfl)
set_option maxRecDepth 20000 in
theorem fl_XL_44 : FLk R_XL 44 R_XL F_XL 10 := Or.inl (aw_in (tb_1 (List.mem_of_getElem? (i := 45) rfl)) rfl)
set_option maxRecDepth 20000 in
theorem fl_XL_47 : FLk R_XL 47 R_XL F_XL 11 := Or.inl (aw_in (tb_1 (List.mem_of_getElem? (i := 47) rfl)) rfl)
set_option maxRecDepth 20000 in
theorem cl_XL_51 : CLk R_XL 51 y_XL_append := Or.inl (aw_in (tb_2 (List.mem_of_getElem? (i := 130) rfl)) rfl)
set_option maxRecDepth 20000 in
theorem fl_XL_55 : FLk R_XL 55 R_XL F_XL 13 := Or.inl (aw_in (tb_1 (List.mem_of_getElem? (i := 53) rfl)) rfl)
set_option maxRecDepth 20000 in
theorem fl_XL_58 : FLk R_XL 58 R_XL F_XL 14 := Or.inl (aw_in (tb_1 (List.mem_of_getElem? (i := 56) rfl)) rfl)
set_option maxRecDepth 20000 in
theorem cl_XL_67 : CLk R_XL 67 y_XL_isOpen := Or.inl (aw_in (tb_3 (List.mem_of_getElem? (i := 50) rfl)) rfl)
set_option maxRecDepth 20000 in
theorem fl_XL_71 : FLk R_XL 71 R_XL F_XL 12 := Or.inl (aw_in (tb_1 (List.mem_of_getElem? (i := 50) rfl)) rfl)
set_option maxRecDepth 20000 in
theorem cl_XL_74 : CLk R_XL 74 y_XL_forget := Or.inl (aw_in (tb_2 (List.mem_of_getElem? (i := 236) rfl)) rfl)
set_option maxRecDepth 20000 in
theorem fl_XP_11 : FLk R_XP 11 R_XP F_XP 1 := Or.inl (aw_in (tb_1 (List.mem_of_getElem? (i := 119) rfl)) rfl)
set_option maxRecDepth 20000 in
theorem fl_XP_17 : FLk R_XP 17 R_XP F_XP 2 := Or.inl (aw_in (tb_1 (List.mem_of_getElem? (i := 121) rfl)) rfl)
set_option maxRecDepth 20000 in
theorem fl_XP_20 : FLk R_XP 20 R_XP F_XP 3 := Or.inl (aw_in (tb_1 (List.mem_of_getElem? (i := 123) rfl)) rfl)
set_option maxRecDepth 20000 in
theorem fl_XP_24 : FLk R_XP 24 R_XP F_XP 4 := Or.inl (aw_in (tb_1 (List.mem_of_getElem? (i := 125) rfl)) rfl)
set_option maxRecDepth 20000 in
theorem fl_XP_28 : FLk R_XP 28 R_XP F_XP 5 := Or.inl (aw_in (tb_1 (List.mem_of_getElem? (i := 127) rfl)) rfl)
set_option maxRecDepth 20000 in
theorem fl_XP_31 : FLk R_XP 31 R_XP F_XP 0 := Or.inl (aw_in (tb_1 (List.mem_of_getElem? (i := 118) rfl)) rfl)
set_option maxRecDepth 20000 in
theorem cl_XP_35 : CLk R_XP 35 y_XC_init := Or.inr ⟨"LogStore", nw_in (tb_1 (List.mem_of_getElem? (i := 99) rfl)) rfl⟩
set_option maxRecDepth 20000 in
theorem fl_XP_36 : FLk R_XP 36 R_XC F_XC 2 := Or.inr ⟨"LogStore", nw_in (tb_1 (List.mem_of_getElem? (i := 108) rfl)) rfl⟩
set_option maxRecDepth 20000 in
theorem cl_XP_40 : CLk R_XP 40 y_XL_makeStable := Or.inr ⟨"LogStore", nw_in (tb_2 (List.mem_of_getElem? (i := 109) rfl)) rfl⟩
set_option maxRecDepth 20000 in
theorem cl_XP_46 : CLk R_XP 46 y_XC_copy := Or.inr ⟨"LogStore", nw_in (tb_2 (List.mem_of_getElem? (i := 113) rfl)) rfl⟩
set_option maxRecDepth 20000 in
theorem fl_XP_50 : FLk R_XP 50 R_XP F_XP 8 := Or.inl (aw_in (tb_1 (List.mem_of_getElem? (i := 131) rfl)) rfl)
set_option maxRecDepth 20000 in
theorem cl_XP_53 : CLk R_XP 53 y_XP_pageToLeave := Or.inl (aw_in (tb_2 (List.mem_of_getElem? (i := 97) rfl)) rfl)
set_option maxRecDepth 20000 in
theorem cl_XP_57 : CLk R_XP 57 y_XP_isDirty := Or.inl (aw_in (tb_2 (List.mem_of_getElem? (i := 101) rfl)) rfl)
set_option maxRecDepth 20000 in
theorem cl_XP_61 : CLk R_XP 61 y_XP_writeOut := Or.inl (aw_in (tb_2 (List.mem_of_getElem? (i := 105) rfl)) rfl)
set_option maxRecDepth 20000 in
theorem fl_XP_64 : FLk R_XP 64 R_XP F_XP 7 := Or.inl (aw_in (tb_1 (List.mem_of_getElem? (i := 129) rfl)) rfl)
set_option maxRecDepth 20000 in
theorem fl_XP_67 : FLk R_XP 67 R_XP F_XP 6 := Or.inl (aw_in (tb_1 (List.mem_of_getElem? (i := 128) rfl)) rfl)
set_option maxRecDepth 20000 in
theorem cl_XP_70 : CLk R_XP 70 y_XP_seen := Or.inl (aw_in (tb_2 (List.mem_of_getElem? (i := 89) rfl)) rfl)
set_option maxRecDepth 20000 in
theorem fl_XP_74 : FLk R_XP 74 R_XC F_XC 0 := Or.inr ⟨"LogStore", nw_in (tb_1 (List.mem_of_getElem? (i := 104) rfl)) rfl⟩
set_option maxRecDepth 20000 in
theorem fl_XP_77 : FLk R_XP 77 R_XC F_XC 1 := Or.inr ⟨"LogStore", nw_in (tb_1 (List.mem_of_getElem? (i := 106) rfl)) rfl⟩
set_option maxRecDepth 20000 in
theorem cl_XP_80 : CLk R_XP 80 y_XP_keyAt := Or.inl (aw_in (tb_2 (List.mem_of_getElem? (i := 85) rfl)) rfl)
set_option maxRecDepth 20000 in
theorem fl_XP_84 : FLk R_XP 84 R_XL F_XL 2 := Or.inr ⟨"LogStore", nw_in (tb_1 (List.mem_of_getElem? (i := 32) rfl)) rfl⟩
set_option maxRecDepth 20000 in
theorem cl_XP_87 : CLk R_XP 87 y_XP_fetch := Or.inl (aw_in (tb_2 (List.mem_of_getElem? (i := 178) rfl)) rfl)
set_option maxRecDepth 20000 in
theorem cl_XP_90 : CLk R_XP 90 y_XL_addClr := Or.inr ⟨"LogStore", nw_in (tb_2 (List.mem_of_getElem? (i := 179) rfl)) rfl⟩
set_option maxRecDepth 20000 in
theorem cl_XP_93 : CLk R_XP 93 y_XP_apply := Or.inl (aw_in (tb_2 (List.mem_of_getElem? (i := 183) rfl)) rfl)
set_option maxRecDepth 20000 in
theorem fl_XP_96 : FLk R_XP 96 R_XL F_XL 5 := Or.inr ⟨"LogStore", nw_in (tb_1 (List.mem_of_getElem? (i := 36) rfl)) rfl⟩
set_option maxRecDepth 20000 in
theorem fl_XP_99 : FLk R_XP 99 R_XL F_XL 6 := Or.inr ⟨"LogStore", nw_in (tb_1 (List.mem_of_getElem? (i := 38) rfl)) rfl⟩
set_option maxRecDepth 20000 in
theorem fl_XR_9 : FLk R_XR 9 R_XR F_XR 2 := Or.inl (aw_in (tb_1 (List.mem_of_getElem? (i := 176) rfl)) rfl)
set_option maxRecDepth 20000 in
theorem fl_XR_15 : FLk R_XR 15 R_XR F_XR 0 := Or.inl (aw_in (tb_1 (List.mem_of_getElem? (i := 174) rfl)) rfl)
set_option maxRecDepth 20000 in
theorem fl_XR_19 : FLk R_XR 19 R_XR F_XR 1 := Or.inl (aw_in (tb_1 (List.mem_of_getElem? (i := 175) rfl)) rfl)
set_option maxRecDepth 20000 in
theorem fl_XR_23 : FLk R_XR 23 R_XR F_XR 3 := Or.inl (aw_in (tb_1 (List.mem_of_getElem? (i := 177) rfl)) rfl)
set_option maxRecDepth 20000 in
theorem fl_XR_27 : FLk R_XR 27 R_XR F_XR 4 := Or.inl (aw_in (tb_1 (List.mem_of_getElem? (i := 178) rfl)) rfl)
set_option maxRecDepth 20000 in
theorem fl_XR_31 : FLk R_XR 31 R_XR F_XR 5 := Or.inl (aw_in (tb_1 (List.mem_of_getElem? (i := 179) rfl)) rfl)
set_option maxRecDepth 20000 in
theorem cl_XR_34 : CLk R_XR 34 y_XL_greatestOpen := Or.inr ⟨"LogStore", nw_in (tb_3 (List.mem_of_getElem? (i := 46) rfl)) rfl⟩
set_option maxRecDepth 20000 in
theorem cl_XR_40 : CLk R_XR 40 y_XR_analyse := Or.inl (aw_in (tb_3 (List.mem_of_getElem? (i := 21) rfl)) rfl)
set_option maxRecDepth 20000 in
theorem cl_XR_43 : CLk R_XR 43 y_XR_repeatNext := Or.inl (aw_in (tb_3 (List.mem_of_getElem? (i := 34) rfl)) rfl)
set_option maxRecDepth 20000 in
theorem cl_XR_46 : CLk R_XR 46 y_XR_takeBackNext := Or.inl (aw_in (tb_3 (List.mem_of_getElem? (i := 42) rfl)) rfl)
set_option maxRecDepth 20000 in
theorem cl_XR_49 : CLk R_XR 49 y_XR_fillTable := Or.inl (aw_in (tb_3 (List.mem_of_getElem? (i := 25) rfl)) rfl)
set_option maxRecDepth 20000 in
theorem fl_XR_52 : FLk R_XR 52 R_XL F_XL 11 := Or.inr ⟨"LogStore", nw_in (tb_1 (List.mem_of_getElem? (i := 48) rfl)) rfl⟩
set_option maxRecDepth 20000 in
theorem fl_XR_61 : FLk R_XR 61 R_XL F_XL 14 := Or.inr ⟨"LogStore", nw_in (tb_1 (List.mem_of_getElem? (i := 55) rfl)) rfl⟩
set_option maxRecDepth 20000 in
theorem fl_XR_64 : FLk R_XR 64 R_XL F_XL 10 := Or.inr ⟨"LogStore", nw_in (tb_1 (List.mem_of_getElem? (i := 46) rfl)) rfl⟩
set_option maxRecDepth 20000 in
theorem fl_XR_68 : FLk R_XR 68 R_XL F_XL 9 := Or.inr ⟨"LogStore", nw_in (tb_1 (List.mem_of_getElem? (i := 44) rfl)) rfl⟩
set_option maxRecDepth 20000 in
theorem fl_XR_71 : FLk R_XR 71 R_XL F_XL 2 := Or.inr ⟨"LogStore", nw_in (tb_1 (List.mem_of_getElem? (i := 31) rfl)) rfl⟩
set_option maxRecDepth 20000 in
theorem cl_XR_74 : CLk R_XR 74 y_XL_isChange := Or.inr ⟨"LogStore", nw_in (tb_3 (List.mem_of_getElem? (i := 29) rfl)) rfl⟩
set_option maxRecDepth 20000 in
theorem cl_XR_78 : CLk R_XR 78 y_XP_redo := Or.inr ⟨"LogStore", nw_in (tb_3 (List.mem_of_getElem? (i := 38) rfl)) rfl⟩
set_option maxRecDepth 20000 in
theorem cl_XR_84 : CLk R_XR 84 y_XP_takeBack := Or.inr ⟨"LogStore", nw_in (tb_3 (List.mem_of_getElem? (i := 51) rfl)) rfl⟩
set_option maxRecDepth 20000 in
theorem fl_XT_9 : FLk R_XT 9 R_XT F_XT 0 := Or.inl (aw_in (tb_1 (List.mem_of_getElem? (i := 235) rfl)) rfl)
set_option maxRecDepth 20000 in
theorem fl_XT_15 : FLk R_XT 15 R_XT F_XT 1 := Or.inl (aw_in (tb_1 (List.mem_of_getElem? (i := 238) rfl)) rfl)
set_option maxRecDepth 20000 in
theorem fl_XT_18 : FLk R_XT 18 R_XT F_XT 2 := Or.inl (aw_in (tb_2 (List.mem_of_getElem? (i := 0) rfl)) rfl)
set_option maxRecDepth 20000 in
theorem fl_XT_21 : FLk R_XT 21 R_XT F_XT 3 := Or.inl (aw_in (tb_2 (List.mem_of_getElem? (i := 3) rfl)) rfl)
set_option maxRecDepth 20000 in
theorem fl_XT_24 : FLk R_XT 24 R_XT F_XT 5 := Or.inl (aw_in (tb_2 (List.mem_of_getElem? (i := 6) rfl)) rfl)
set_option maxRecDepth 20000 in
theorem fl_XT_27 : FLk R_XT 27 R_XT F_XT 6 := Or.inl (aw_in (tb_2 (List.mem_of_getElem? (i := 8) rfl)) rfl)
set_option maxRecDepth 20000 in
theorem fl_XT_30 : FLk R_XT 30 R_XT F_XT 7 := Or.inl (aw_in (tb_2 (List.mem_of_getElem? (i := 11) rfl)) rfl)
set_option maxRecDepth 20000 in
theorem fl_XT_33 : FLk R_XT 33 R_XT F_XT 8 := Or.inl (aw_in (tb_2 (List.mem_of_getElem? (i := 14) rfl)) rfl)
set_option maxRecDepth 20000 in
theorem cb_X_init : CSb y_X_init b_X_init 1 none 0 := ⟨aw_in (tb_1 (List.mem_of_getElem? (i := 1) rfl)) rfl, aw_in (tb_1 (List.mem_of_getElem? (i := 15) rfl)) rfl, by decide, by decide, by decide +kernel⟩
set_option maxRecDepth 20000 in
theorem cs_X_init : Cond.instanceMethod y_X_init ∈ AW := aw_in (tb_1 (List.mem_of_getElem? (i := 14) rfl)) rfl
set_option maxRecDepth 20000 in
theorem cb_X_begin : CSb y_X_begin b_X_begin 2 (some .int) 0 := ⟨aw_in (tb_1 (List.mem_of_getElem? (i := 1) rfl)) rfl, aw_in (tb_1 (List.mem_of_getElem? (i := 225) rfl)) rfl, by decide, by decide, by decide +kernel⟩
set_option maxRecDepth 20000 in
theorem cs_X_begin : CSv y_X_begin := ⟨aw_in (tb_1 (List.mem_of_getElem? (i := 223) rfl)) rfl, aw_in (tb_1 (List.mem_of_getElem? (i := 224) rfl)) rfl⟩
set_option maxRecDepth 20000 in
theorem cb_X_read : CSb y_X_read b_X_read 4 (some .int) 2 := ⟨aw_in (tb_1 (List.mem_of_getElem? (i := 1) rfl)) rfl, aw_in (tb_2 (List.mem_of_getElem? (i := 141) rfl)) rfl, by decide, by decide, by decide +kernel⟩
set_option maxRecDepth 20000 in
theorem cs_X_read : CSv y_X_read := ⟨aw_in (tb_2 (List.mem_of_getElem? (i := 139) rfl)) rfl, aw_in (tb_2 (List.mem_of_getElem? (i := 140) rfl)) rfl⟩
set_option maxRecDepth 20000 in
theorem cb_X_write : CSb y_X_write b_X_write 5 (some .int) 3 := ⟨aw_in (tb_1 (List.mem_of_getElem? (i := 1) rfl)) rfl, aw_in (tb_2 (List.mem_of_getElem? (i := 187) rfl)) rfl, by decide, by decide, by decide +kernel⟩
set_option maxRecDepth 20000 in
theorem cs_X_write : CSv y_X_write := ⟨aw_in (tb_2 (List.mem_of_getElem? (i := 185) rfl)) rfl, aw_in (tb_2 (List.mem_of_getElem? (i := 186) rfl)) rfl⟩
set_option maxRecDepth 20000 in
theorem cb_X_commit : CSb y_X_commit b_X_commit 3 (some .boolean) 1 := ⟨aw_in (tb_1 (List.mem_of_getElem? (i := 1) rfl)) rfl, aw_in (tb_2 (List.mem_of_getElem? (i := 191) rfl)) rfl, by decide, by decide, by decide +kernel⟩
set_option maxRecDepth 20000 in
theorem cs_X_commit : CSv y_X_commit := ⟨aw_in (tb_2 (List.mem_of_getElem? (i := 189) rfl)) rfl, aw_in (tb_2 (List.mem_of_getElem? (i := 190) rfl)) rfl⟩
set_option maxRecDepth 20000 in
theorem cb_X_abort : CSb y_X_abort b_X_abort 3 (some .boolean) 1 := ⟨aw_in (tb_1 (List.mem_of_getElem? (i := 1) rfl)) rfl, aw_in (tb_2 (List.mem_of_getElem? (i := 199) rfl)) rfl, by decide, by decide, by decide +kernel⟩
set_option maxRecDepth 20000 in
theorem cs_X_abort : CSv y_X_abort := ⟨aw_in (tb_2 (List.mem_of_getElem? (i := 197) rfl)) rfl, aw_in (tb_2 (List.mem_of_getElem? (i := 198) rfl)) rfl⟩
set_option maxRecDepth 20000 in
theorem cb_X_force : CSb y_X_force b_X_force 1 (some .boolean) 0 := ⟨aw_in (tb_1 (List.mem_of_getElem? (i := 1) rfl)) rfl, aw_in (tb_2 (List.mem_of_getElem? (i := 203) rfl)) rfl, by decide, by decide, by decide +kernel⟩
set_option maxRecDepth 20000 in
theorem cs_X_force : CSv y_X_force := ⟨aw_in (tb_2 (List.mem_of_getElem? (i := 201) rfl)) rfl, aw_in (tb_2 (List.mem_of_getElem? (i := 202) rfl)) rfl⟩
set_option maxRecDepth 20000 in
theorem cb_X_checkpoint : CSb y_X_checkpoint b_X_checkpoint 2 (some .int) 0 := ⟨aw_in (tb_1 (List.mem_of_getElem? (i := 1) rfl)) rfl, aw_in (tb_2 (List.mem_of_getElem? (i := 208) rfl)) rfl, by decide, by decide, by decide +kernel⟩
set_option maxRecDepth 20000 in
theorem cs_X_checkpoint : CSv y_X_checkpoint := ⟨aw_in (tb_2 (List.mem_of_getElem? (i := 206) rfl)) rfl, aw_in (tb_2 (List.mem_of_getElem? (i := 207) rfl)) rfl⟩
set_option maxRecDepth 20000 in
theorem cb_X_flush : CSb y_X_flush b_X_flush 2 (some .boolean) 1 := ⟨aw_in (tb_1 (List.mem_of_getElem? (i := 1) rfl)) rfl, aw_in (tb_2 (List.mem_of_getElem? (i := 219) rfl)) rfl, by decide, by decide, by decide +kernel⟩
set_option maxRecDepth 20000 in
theorem cs_X_flush : CSv y_X_flush := ⟨aw_in (tb_2 (List.mem_of_getElem? (i := 217) rfl)) rfl, aw_in (tb_2 (List.mem_of_getElem? (i := 218) rfl)) rfl⟩
set_option maxRecDepth 20000 in
theorem cb_X_crash : CSb y_X_crash b_X_crash 2 (some .int) 1 := ⟨aw_in (tb_1 (List.mem_of_getElem? (i := 1) rfl)) rfl, aw_in (tb_2 (List.mem_of_getElem? (i := 228) rfl)) rfl, by decide, by decide, by decide +kernel⟩
set_option maxRecDepth 20000 in
theorem cs_X_crash : CSv y_X_crash := ⟨aw_in (tb_2 (List.mem_of_getElem? (i := 226) rfl)) rfl, aw_in (tb_2 (List.mem_of_getElem? (i := 227) rfl)) rfl⟩
set_option maxRecDepth 20000 in
theorem cb_X_restart : CSb y_X_restart b_X_restart 3 (some .int) 1 := ⟨aw_in (tb_1 (List.mem_of_getElem? (i := 1) rfl)) rfl, aw_in (tb_3 (List.mem_of_getElem? (i := 16) rfl)) rfl, by decide, by decide, by decide +kernel⟩
set_option maxRecDepth 20000 in
theorem cs_X_restart : CSv y_X_restart := ⟨aw_in (tb_3 (List.mem_of_getElem? (i := 14) rfl)) rfl, aw_in (tb_3 (List.mem_of_getElem? (i := 15) rfl)) rfl⟩
set_option maxRecDepth 20000 in
theorem cb_X_up : CSb y_X_up b_X_up 1 (some .boolean) 0 := ⟨aw_in (tb_1 (List.mem_of_getElem? (i := 1) rfl)) rfl, aw_in (tb_3 (List.mem_of_getElem? (i := 63) rfl)) rfl, by decide, by decide, by decide +kernel⟩
set_option maxRecDepth 20000 in
theorem cs_X_up : CSv y_X_up := ⟨aw_in (tb_3 (List.mem_of_getElem? (i := 61) rfl)) rfl, aw_in (tb_3 (List.mem_of_getElem? (i := 62) rfl)) rfl⟩
set_option maxRecDepth 20000 in
theorem cb_X_state : CSb y_X_state b_X_state 3 (some .int) 1 := ⟨aw_in (tb_1 (List.mem_of_getElem? (i := 1) rfl)) rfl, aw_in (tb_3 (List.mem_of_getElem? (i := 67) rfl)) rfl, by decide, by decide, by decide +kernel⟩
set_option maxRecDepth 20000 in
theorem cs_X_state : CSv y_X_state := ⟨aw_in (tb_3 (List.mem_of_getElem? (i := 65) rfl)) rfl, aw_in (tb_3 (List.mem_of_getElem? (i := 66) rfl)) rfl⟩
set_option maxRecDepth 20000 in
theorem cb_X_outcome : CSb y_X_outcome b_X_outcome 3 (some .int) 1 := ⟨aw_in (tb_1 (List.mem_of_getElem? (i := 1) rfl)) rfl, aw_in (tb_3 (List.mem_of_getElem? (i := 71) rfl)) rfl, by decide, by decide, by decide +kernel⟩
set_option maxRecDepth 20000 in
theorem cs_X_outcome : CSv y_X_outcome := ⟨aw_in (tb_3 (List.mem_of_getElem? (i := 69) rfl)) rfl, aw_in (tb_3 (List.mem_of_getElem? (i := 70) rfl)) rfl⟩
set_option maxRecDepth 20000 in
theorem cb_X_value : CSb y_X_value b_X_value 3 (some .int) 1 := ⟨aw_in (tb_1 (List.mem_of_getElem? (i := 1) rfl)) rfl, aw_in (tb_3 (List.mem_of_getElem? (i := 75) rfl)) rfl, by decide, by decide, by decide +kernel⟩
set_option maxRecDepth 20000 in
theorem cs_X_value : CSv y_X_value := ⟨aw_in (tb_3 (List.mem_of_getElem? (i := 73) rfl)) rfl, aw_in (tb_3 (List.mem_of_getElem? (i := 74) rfl)) rfl⟩
set_option maxRecDepth 20000 in
theorem cb_X_stored : CSb y_X_stored b_X_stored 3 (some .int) 1 := ⟨aw_in (tb_1 (List.mem_of_getElem? (i := 1) rfl)) rfl, aw_in (tb_3 (List.mem_of_getElem? (i := 79) rfl)) rfl, by decide, by decide, by decide +kernel⟩
set_option maxRecDepth 20000 in
theorem cs_X_stored : CSv y_X_stored := ⟨aw_in (tb_3 (List.mem_of_getElem? (i := 77) rfl)) rfl, aw_in (tb_3 (List.mem_of_getElem? (i := 78) rfl)) rfl⟩
set_option maxRecDepth 20000 in
theorem cb_X_place : CSb y_X_place b_X_place 2 (some .int) 1 := ⟨aw_in (tb_1 (List.mem_of_getElem? (i := 1) rfl)) rfl, aw_in (tb_3 (List.mem_of_getElem? (i := 83) rfl)) rfl, by decide, by decide, by decide +kernel⟩
set_option maxRecDepth 20000 in
theorem cs_X_place : CSv y_X_place := ⟨aw_in (tb_3 (List.mem_of_getElem? (i := 81) rfl)) rfl, aw_in (tb_3 (List.mem_of_getElem? (i := 82) rfl)) rfl⟩
set_option maxRecDepth 20000 in
theorem cb_X_after : CSb y_X_after b_X_after 2 (some .int) 1 := ⟨aw_in (tb_1 (List.mem_of_getElem? (i := 1) rfl)) rfl, aw_in (tb_3 (List.mem_of_getElem? (i := 88) rfl)) rfl, by decide, by decide, by decide +kernel⟩
set_option maxRecDepth 20000 in
theorem cs_X_after : CSv y_X_after := ⟨aw_in (tb_3 (List.mem_of_getElem? (i := 86) rfl)) rfl, aw_in (tb_3 (List.mem_of_getElem? (i := 87) rfl)) rfl⟩
set_option maxRecDepth 20000 in
theorem cb_X_count : CSb y_X_count b_X_count 2 (some .int) 1 := ⟨aw_in (tb_1 (List.mem_of_getElem? (i := 1) rfl)) rfl, aw_in (tb_3 (List.mem_of_getElem? (i := 96) rfl)) rfl, by decide, by decide, by decide +kernel⟩
set_option maxRecDepth 20000 in
theorem cs_X_count : CSv y_X_count := ⟨aw_in (tb_3 (List.mem_of_getElem? (i := 94) rfl)) rfl, aw_in (tb_3 (List.mem_of_getElem? (i := 95) rfl)) rfl⟩
set_option maxRecDepth 20000 in
theorem cb_X_page : CSb y_X_page b_X_page 3 (some .int) 2 := ⟨aw_in (tb_1 (List.mem_of_getElem? (i := 1) rfl)) rfl, aw_in (tb_3 (List.mem_of_getElem? (i := 100) rfl)) rfl, by decide, by decide, by decide +kernel⟩
set_option maxRecDepth 20000 in
theorem cs_X_page : CSv y_X_page := ⟨aw_in (tb_3 (List.mem_of_getElem? (i := 98) rfl)) rfl, aw_in (tb_3 (List.mem_of_getElem? (i := 99) rfl)) rfl⟩
set_option maxRecDepth 20000 in
theorem cb_X_isKey : CSb y_X_isKey b_X_isKey 1 (some .boolean) 1 := ⟨aw_in (tb_1 (List.mem_of_getElem? (i := 1) rfl)) rfl, aw_in (tb_2 (List.mem_of_getElem? (i := 152) rfl)) rfl, by decide, by decide, by decide +kernel⟩
set_option maxRecDepth 20000 in
theorem cs_X_isKey : Cond.static y_X_isKey ∈ AW := aw_in (tb_2 (List.mem_of_getElem? (i := 151) rfl)) rfl
set_option maxRecDepth 20000 in
theorem cb_X_isPage : CSb y_X_isPage b_X_isPage 1 (some .boolean) 1 := ⟨aw_in (tb_1 (List.mem_of_getElem? (i := 1) rfl)) rfl, aw_in (tb_2 (List.mem_of_getElem? (i := 222) rfl)) rfl, by decide, by decide, by decide +kernel⟩
set_option maxRecDepth 20000 in
theorem cs_X_isPage : Cond.static y_X_isPage ∈ AW := aw_in (tb_2 (List.mem_of_getElem? (i := 221) rfl)) rfl
set_option maxRecDepth 20000 in
theorem cb_X_find : CSb y_X_find b_X_find 2 (some (.object "LogStore$Transaction")) 1 := ⟨aw_in (tb_1 (List.mem_of_getElem? (i := 1) rfl)) rfl, aw_in (tb_2 (List.mem_of_getElem? (i := 149) rfl)) rfl, by decide, by decide, by decide +kernel⟩
set_option maxRecDepth 20000 in
theorem cs_X_find : CSv y_X_find := ⟨aw_in (tb_2 (List.mem_of_getElem? (i := 148) rfl)) rfl, aw_in (List.mem_append_left _ (List.mem_of_getElem? (i := 26) rfl)) rfl⟩
set_option maxRecDepth 20000 in
theorem cb_X_request : CSb y_X_request b_X_request 6 (some .int) 4 := ⟨aw_in (tb_1 (List.mem_of_getElem? (i := 1) rfl)) rfl, aw_in (tb_2 (List.mem_of_getElem? (i := 145) rfl)) rfl, by decide, by decide, by decide +kernel⟩
set_option maxRecDepth 20000 in
theorem cs_X_request : CSv y_X_request := ⟨aw_in (tb_2 (List.mem_of_getElem? (i := 144) rfl)) rfl, aw_in (List.mem_append_left _ (List.mem_of_getElem? (i := 25) rfl)) rfl⟩
set_option maxRecDepth 20000 in
theorem cb_X_grant : CSb y_X_grant b_X_grant 2 none 1 := ⟨aw_in (tb_1 (List.mem_of_getElem? (i := 1) rfl)) rfl, aw_in (tb_2 (List.mem_of_getElem? (i := 69) rfl)) rfl, by decide, by decide, by decide +kernel⟩
set_option maxRecDepth 20000 in
theorem cs_X_grant : CSv y_X_grant := ⟨aw_in (tb_2 (List.mem_of_getElem? (i := 68) rfl)) rfl, aw_in (List.mem_append_left _ (List.mem_of_getElem? (i := 8) rfl)) rfl⟩
set_option maxRecDepth 20000 in
theorem cb_X_readFor : CSb y_X_readFor b_X_readFor 3 none 1 := ⟨aw_in (tb_1 (List.mem_of_getElem? (i := 1) rfl)) rfl, aw_in (tb_2 (List.mem_of_getElem? (i := 80) rfl)) rfl, by decide, by decide, by decide +kernel⟩
set_option maxRecDepth 20000 in
theorem cs_X_readFor : CSv y_X_readFor := ⟨aw_in (tb_2 (List.mem_of_getElem? (i := 79) rfl)) rfl, aw_in (List.mem_append_left _ (List.mem_of_getElem? (i := 10) rfl)) rfl⟩
set_option maxRecDepth 20000 in
theorem cb_X_writeFor : CSb y_X_writeFor b_X_writeFor 3 none 1 := ⟨aw_in (tb_1 (List.mem_of_getElem? (i := 1) rfl)) rfl, aw_in (tb_2 (List.mem_of_getElem? (i := 124) rfl)) rfl, by decide, by decide, by decide +kernel⟩
set_option maxRecDepth 20000 in
theorem cs_X_writeFor : CSv y_X_writeFor := ⟨aw_in (tb_2 (List.mem_of_getElem? (i := 123) rfl)) rfl, aw_in (List.mem_append_left _ (List.mem_of_getElem? (i := 21) rfl)) rfl⟩
set_option maxRecDepth 20000 in
theorem cb_X_rollBack : CSb y_X_rollBack b_X_rollBack 3 none 1 := ⟨aw_in (tb_1 (List.mem_of_getElem? (i := 1) rfl)) rfl, aw_in (tb_2 (List.mem_of_getElem? (i := 169) rfl)) rfl, by decide, by decide, by decide +kernel⟩
set_option maxRecDepth 20000 in
theorem cs_X_rollBack : CSv y_X_rollBack := ⟨aw_in (tb_2 (List.mem_of_getElem? (i := 168) rfl)) rfl, aw_in (List.mem_append_left _ (List.mem_of_getElem? (i := 30) rfl)) rfl⟩
set_option maxRecDepth 20000 in
theorem cb_X_settle : CSb y_X_settle b_X_settle 4 none 0 := ⟨aw_in (tb_1 (List.mem_of_getElem? (i := 1) rfl)) rfl, aw_in (tb_2 (List.mem_of_getElem? (i := 42) rfl)) rfl, by decide, by decide, by decide +kernel⟩
set_option maxRecDepth 20000 in
theorem cs_X_settle : CSv y_X_settle := ⟨aw_in (tb_2 (List.mem_of_getElem? (i := 41) rfl)) rfl, aw_in (List.mem_append_left _ (List.mem_of_getElem? (i := 2) rfl)) rfl⟩
set_option maxRecDepth 20000 in
theorem cb_X_comeUp : CSb y_X_comeUp b_X_comeUp 2 none 0 := ⟨aw_in (tb_1 (List.mem_of_getElem? (i := 1) rfl)) rfl, aw_in (tb_3 (List.mem_of_getElem? (i := 59) rfl)) rfl, by decide, by decide, by decide +kernel⟩
set_option maxRecDepth 20000 in
theorem cs_X_comeUp : CSv y_X_comeUp := ⟨aw_in (tb_3 (List.mem_of_getElem? (i := 58) rfl)) rfl, aw_in (List.mem_append_left _ (List.mem_of_getElem? (i := 50) rfl)) rfl⟩
set_option maxRecDepth 20000 in
theorem cb_M_init : CSb y_M_init b_M_init 2 none 0 := ⟨aw_in (tb_1 (List.mem_of_getElem? (i := 7) rfl)) rfl, aw_in (tb_3 (List.mem_of_getElem? (i := 105) rfl)) rfl, by decide, by decide, by decide +kernel⟩
set_option maxRecDepth 20000 in
theorem cs_M_init : Cond.instanceMethod y_M_init ∈ AW := aw_in (tb_3 (List.mem_of_getElem? (i := 104) rfl)) rfl
set_option maxRecDepth 20000 in
theorem cb_M_keyAt : CSb y_M_keyAt b_M_keyAt 2 (some .int) 1 := ⟨aw_in (tb_1 (List.mem_of_getElem? (i := 7) rfl)) rfl, aw_in (tb_4 (List.mem_of_getElem? (i := 23) rfl)) rfl, by decide, by decide, by decide +kernel⟩
set_option maxRecDepth 20000 in
theorem cs_M_keyAt : CSv y_M_keyAt := ⟨aw_in (tb_4 (List.mem_of_getElem? (i := 22) rfl)) rfl, aw_in (List.mem_append_left _ (List.mem_of_getElem? (i := 60) rfl)) rfl⟩
set_option maxRecDepth 20000 in
theorem cb_M_valueAt : CSb y_M_valueAt b_M_valueAt 2 (some .int) 1 := ⟨aw_in (tb_1 (List.mem_of_getElem? (i := 7) rfl)) rfl, aw_in (tb_4 (List.mem_of_getElem? (i := 163) rfl)) rfl, by decide, by decide, by decide +kernel⟩
set_option maxRecDepth 20000 in
theorem cs_M_valueAt : CSv y_M_valueAt := ⟨aw_in (tb_4 (List.mem_of_getElem? (i := 162) rfl)) rfl, aw_in (List.mem_append_left _ (List.mem_of_getElem? (i := 81) rfl)) rfl⟩
set_option maxRecDepth 20000 in
theorem cb_M_find : CSb y_M_find b_M_find 3 (some .int) 1 := ⟨aw_in (tb_1 (List.mem_of_getElem? (i := 7) rfl)) rfl, aw_in (tb_4 (List.mem_of_getElem? (i := 19) rfl)) rfl, by decide, by decide, by decide +kernel⟩
set_option maxRecDepth 20000 in
theorem cs_M_find : CSv y_M_find := ⟨aw_in (tb_4 (List.mem_of_getElem? (i := 18) rfl)) rfl, aw_in (List.mem_append_left _ (List.mem_of_getElem? (i := 59) rfl)) rfl⟩
set_option maxRecDepth 20000 in
theorem cb_M_spill : CSb y_M_spill b_M_spill 3 none 1 := ⟨aw_in (tb_1 (List.mem_of_getElem? (i := 7) rfl)) rfl, aw_in (tb_4 (List.mem_of_getElem? (i := 31) rfl)) rfl, by decide, by decide, by decide +kernel⟩
set_option maxRecDepth 20000 in
theorem cs_M_spill : CSv y_M_spill := ⟨aw_in (tb_4 (List.mem_of_getElem? (i := 30) rfl)) rfl, aw_in (List.mem_append_left _ (List.mem_of_getElem? (i := 62) rfl)) rfl⟩
set_option maxRecDepth 20000 in
theorem cb_M_fetch : CSb y_M_fetch b_M_fetch 5 none 1 := ⟨aw_in (tb_1 (List.mem_of_getElem? (i := 7) rfl)) rfl, aw_in (tb_4 (List.mem_of_getElem? (i := 27) rfl)) rfl, by decide, by decide, by decide +kernel⟩
set_option maxRecDepth 20000 in
theorem cs_M_fetch : CSv y_M_fetch := ⟨aw_in (tb_4 (List.mem_of_getElem? (i := 26) rfl)) rfl, aw_in (List.mem_append_left _ (List.mem_of_getElem? (i := 61) rfl)) rfl⟩
set_option maxRecDepth 20000 in
theorem cb_M_apply : CSb y_M_apply b_M_apply 4 none 1 := ⟨aw_in (tb_1 (List.mem_of_getElem? (i := 7) rfl)) rfl, aw_in (tb_4 (List.mem_of_getElem? (i := 43) rfl)) rfl, by decide, by decide, by decide +kernel⟩
set_option maxRecDepth 20000 in
theorem cs_M_apply : CSv y_M_apply := ⟨aw_in (tb_4 (List.mem_of_getElem? (i := 42) rfl)) rfl, aw_in (List.mem_append_left _ (List.mem_of_getElem? (i := 65) rfl)) rfl⟩
set_option maxRecDepth 20000 in
theorem cb_M_put : CSb y_M_put b_M_put 4 (some .int) 3 := ⟨aw_in (tb_1 (List.mem_of_getElem? (i := 7) rfl)) rfl, aw_in (tb_4 (List.mem_of_getElem? (i := 39) rfl)) rfl, by decide, by decide, by decide +kernel⟩
set_option maxRecDepth 20000 in
theorem cs_M_put : CSv y_M_put := ⟨aw_in (tb_4 (List.mem_of_getElem? (i := 38) rfl)) rfl, aw_in (List.mem_append_left _ (List.mem_of_getElem? (i := 64) rfl)) rfl⟩
set_option maxRecDepth 20000 in
theorem cb_M_countOf : CSb y_M_countOf b_M_countOf 4 (some .int) 1 := ⟨aw_in (tb_1 (List.mem_of_getElem? (i := 7) rfl)) rfl, aw_in (tb_4 (List.mem_of_getElem? (i := 35) rfl)) rfl, by decide, by decide, by decide +kernel⟩
set_option maxRecDepth 20000 in
theorem cs_M_countOf : CSv y_M_countOf := ⟨aw_in (tb_4 (List.mem_of_getElem? (i := 34) rfl)) rfl, aw_in (List.mem_append_left _ (List.mem_of_getElem? (i := 63) rfl)) rfl⟩
set_option maxRecDepth 20000 in
theorem cb_M_committed : CSb y_M_committed b_M_committed 3 (some .boolean) 1 := ⟨aw_in (tb_1 (List.mem_of_getElem? (i := 7) rfl)) rfl, aw_in (tb_4 (List.mem_of_getElem? (i := 63) rfl)) rfl, by decide, by decide, by decide +kernel⟩
set_option maxRecDepth 20000 in
theorem cs_M_committed : CSv y_M_committed := ⟨aw_in (tb_4 (List.mem_of_getElem? (i := 62) rfl)) rfl, aw_in (List.mem_append_left _ (List.mem_of_getElem? (i := 70) rfl)) rfl⟩
set_option maxRecDepth 20000 in
theorem cb_M_open : CSb y_M_open b_M_open 5 (some .int) 1 := ⟨aw_in (tb_1 (List.mem_of_getElem? (i := 7) rfl)) rfl, aw_in (tb_4 (List.mem_of_getElem? (i := 59) rfl)) rfl, by decide, by decide, by decide +kernel⟩
set_option maxRecDepth 20000 in
theorem cs_M_open : CSv y_M_open := ⟨aw_in (tb_4 (List.mem_of_getElem? (i := 58) rfl)) rfl, aw_in (List.mem_append_left _ (List.mem_of_getElem? (i := 69) rfl)) rfl⟩
set_option maxRecDepth 20000 in
theorem cb_M_takeBack : CSb y_M_takeBack b_M_takeBack 3 none 1 := ⟨aw_in (tb_1 (List.mem_of_getElem? (i := 7) rfl)) rfl, aw_in (tb_4 (List.mem_of_getElem? (i := 67) rfl)) rfl, by decide, by decide, by decide +kernel⟩
set_option maxRecDepth 20000 in
theorem cs_M_takeBack : CSv y_M_takeBack := ⟨aw_in (tb_4 (List.mem_of_getElem? (i := 66) rfl)) rfl, aw_in (List.mem_append_left _ (List.mem_of_getElem? (i := 71) rfl)) rfl⟩
set_option maxRecDepth 20000 in
theorem cb_M_live : CSb y_M_live b_M_live 2 (some .boolean) 1 := ⟨aw_in (tb_1 (List.mem_of_getElem? (i := 7) rfl)) rfl, aw_in (tb_3 (List.mem_of_getElem? (i := 227) rfl)) rfl, by decide, by decide, by decide +kernel⟩
set_option maxRecDepth 20000 in
theorem cs_M_live : CSv y_M_live := ⟨aw_in (tb_3 (List.mem_of_getElem? (i := 226) rfl)) rfl, aw_in (List.mem_append_left _ (List.mem_of_getElem? (i := 52) rfl)) rfl⟩
set_option maxRecDepth 20000 in
theorem cb_M_unlock : CSb y_M_unlock b_M_unlock 3 none 1 := ⟨aw_in (tb_1 (List.mem_of_getElem? (i := 7) rfl)) rfl, aw_in (tb_4 (List.mem_of_getElem? (i := 71) rfl)) rfl, by decide, by decide, by decide +kernel⟩
set_option maxRecDepth 20000 in
theorem cs_M_unlock : CSv y_M_unlock := ⟨aw_in (tb_4 (List.mem_of_getElem? (i := 70) rfl)) rfl, aw_in (List.mem_append_left _ (List.mem_of_getElem? (i := 72) rfl)) rfl⟩
set_option maxRecDepth 20000 in
theorem cb_M_conflicts : CSb y_M_conflicts b_M_conflicts 4 (some .boolean) 2 := ⟨aw_in (tb_1 (List.mem_of_getElem? (i := 7) rfl)) rfl, aw_in (tb_4 (List.mem_of_getElem? (i := 7) rfl)) rfl, by decide, by decide, by decide +kernel⟩
set_option maxRecDepth 20000 in
theorem cs_M_conflicts : CSv y_M_conflicts := ⟨aw_in (tb_4 (List.mem_of_getElem? (i := 6) rfl)) rfl, aw_in (List.mem_append_left _ (List.mem_of_getElem? (i := 56) rfl)) rfl⟩
set_option maxRecDepth 20000 in
theorem cb_M_ahead : CSb y_M_ahead b_M_ahead 3 (some .boolean) 2 := ⟨aw_in (tb_1 (List.mem_of_getElem? (i := 7) rfl)) rfl, aw_in (tb_4 (List.mem_of_getElem? (i := 11) rfl)) rfl, by decide, by decide, by decide +kernel⟩
set_option maxRecDepth 20000 in
theorem cs_M_ahead : CSv y_M_ahead := ⟨aw_in (tb_4 (List.mem_of_getElem? (i := 10) rfl)) rfl, aw_in (List.mem_append_left _ (List.mem_of_getElem? (i := 57) rfl)) rfl⟩
set_option maxRecDepth 20000 in
theorem cb_M_waitsFor : CSb y_M_waitsFor b_M_waitsFor 3 (some .boolean) 2 := ⟨aw_in (tb_1 (List.mem_of_getElem? (i := 7) rfl)) rfl, aw_in (tb_4 (List.mem_of_getElem? (i := 51) rfl)) rfl, by decide, by decide, by decide +kernel⟩
set_option maxRecDepth 20000 in
theorem cs_M_waitsFor : CSv y_M_waitsFor := ⟨aw_in (tb_4 (List.mem_of_getElem? (i := 50) rfl)) rfl, aw_in (List.mem_append_left _ (List.mem_of_getElem? (i := 67) rfl)) rfl⟩
set_option maxRecDepth 20000 in
theorem cb_M_fit : CSb y_M_fit b_M_fit 4 (some .boolean) 1 := ⟨aw_in (tb_1 (List.mem_of_getElem? (i := 7) rfl)) rfl, aw_in (tb_4 (List.mem_of_getElem? (i := 3) rfl)) rfl, by decide, by decide, by decide +kernel⟩
set_option maxRecDepth 20000 in
theorem cs_M_fit : CSv y_M_fit := ⟨aw_in (tb_4 (List.mem_of_getElem? (i := 2) rfl)) rfl, aw_in (List.mem_append_left _ (List.mem_of_getElem? (i := 55) rfl)) rfl⟩
set_option maxRecDepth 20000 in
theorem cb_M_ring : CSb y_M_ring b_M_ring 5 (some .boolean) 1 := ⟨aw_in (tb_1 (List.mem_of_getElem? (i := 7) rfl)) rfl, aw_in (tb_4 (List.mem_of_getElem? (i := 47) rfl)) rfl, by decide, by decide, by decide +kernel⟩
set_option maxRecDepth 20000 in
theorem cs_M_ring : CSv y_M_ring := ⟨aw_in (tb_4 (List.mem_of_getElem? (i := 46) rfl)) rfl, aw_in (List.mem_append_left _ (List.mem_of_getElem? (i := 66) rfl)) rfl⟩
set_option maxRecDepth 20000 in
theorem cb_M_grant : CSb y_M_grant b_M_grant 5 none 1 := ⟨aw_in (tb_1 (List.mem_of_getElem? (i := 7) rfl)) rfl, aw_in (tb_4 (List.mem_of_getElem? (i := 15) rfl)) rfl, by decide, by decide, by decide +kernel⟩
set_option maxRecDepth 20000 in
theorem cs_M_grant : CSv y_M_grant := ⟨aw_in (tb_4 (List.mem_of_getElem? (i := 14) rfl)) rfl, aw_in (List.mem_append_left _ (List.mem_of_getElem? (i := 58) rfl)) rfl⟩
set_option maxRecDepth 20000 in
theorem cb_M_drop : CSb y_M_drop b_M_drop 3 none 1 := ⟨aw_in (tb_1 (List.mem_of_getElem? (i := 7) rfl)) rfl, aw_in (tb_4 (List.mem_of_getElem? (i := 55) rfl)) rfl, by decide, by decide, by decide +kernel⟩
set_option maxRecDepth 20000 in
theorem cs_M_drop : CSv y_M_drop := ⟨aw_in (tb_4 (List.mem_of_getElem? (i := 54) rfl)) rfl, aw_in (List.mem_append_left _ (List.mem_of_getElem? (i := 68) rfl)) rfl⟩
set_option maxRecDepth 20000 in
theorem cb_M_firm : CSb y_M_firm b_M_firm 2 (some .int) 0 := ⟨aw_in (tb_1 (List.mem_of_getElem? (i := 7) rfl)) rfl, aw_in (tb_4 (List.mem_of_getElem? (i := 79) rfl)) rfl, by decide, by decide, by decide +kernel⟩
set_option maxRecDepth 20000 in
theorem cs_M_firm : CSv y_M_firm := ⟨aw_in (tb_4 (List.mem_of_getElem? (i := 78) rfl)) rfl, aw_in (List.mem_append_left _ (List.mem_of_getElem? (i := 74) rfl)) rfl⟩
set_option maxRecDepth 20000 in
theorem cb_M_firstFit : CSb y_M_firstFit b_M_firstFit 3 (some .int) 0 := ⟨aw_in (tb_1 (List.mem_of_getElem? (i := 7) rfl)) rfl, aw_in (tb_4 (List.mem_of_getElem? (i := 83) rfl)) rfl, by decide, by decide, by decide +kernel⟩
set_option maxRecDepth 20000 in
theorem cs_M_firstFit : CSv y_M_firstFit := ⟨aw_in (tb_4 (List.mem_of_getElem? (i := 82) rfl)) rfl, aw_in (List.mem_append_left _ (List.mem_of_getElem? (i := 75) rfl)) rfl⟩
set_option maxRecDepth 20000 in
theorem cb_M_settle : CSb y_M_settle b_M_settle 5 none 0 := ⟨aw_in (tb_1 (List.mem_of_getElem? (i := 7) rfl)) rfl, aw_in (tb_4 (List.mem_of_getElem? (i := 75) rfl)) rfl, by decide, by decide, by decide +kernel⟩
set_option maxRecDepth 20000 in
theorem cs_M_settle : CSv y_M_settle := ⟨aw_in (tb_4 (List.mem_of_getElem? (i := 74) rfl)) rfl, aw_in (List.mem_append_left _ (List.mem_of_getElem? (i := 73) rfl)) rfl⟩
set_option maxRecDepth 20000 in
theorem cb_M_isIn : CSb y_M_isIn b_M_isIn 3 (some .boolean) 2 := ⟨aw_in (tb_1 (List.mem_of_getElem? (i := 7) rfl)) rfl, aw_in (tb_3 (List.mem_of_getElem? (i := 239) rfl)) rfl, by decide, by decide, by decide +kernel⟩
set_option maxRecDepth 20000 in
theorem cs_M_isIn : CSv y_M_isIn := ⟨aw_in (tb_3 (List.mem_of_getElem? (i := 238) rfl)) rfl, aw_in (List.mem_append_left _ (List.mem_of_getElem? (i := 54) rfl)) rfl⟩
set_option maxRecDepth 20000 in
theorem cb_M_begin : CSb y_M_begin b_M_begin 3 (some .int) 0 := ⟨aw_in (tb_1 (List.mem_of_getElem? (i := 7) rfl)) rfl, aw_in (tb_3 (List.mem_of_getElem? (i := 223) rfl)) rfl, by decide, by decide, by decide +kernel⟩
set_option maxRecDepth 20000 in
theorem cs_M_begin : CSv y_M_begin := ⟨aw_in (tb_3 (List.mem_of_getElem? (i := 221) rfl)) rfl, aw_in (tb_3 (List.mem_of_getElem? (i := 222) rfl)) rfl⟩
set_option maxRecDepth 20000 in
theorem cb_M_request : CSb y_M_request b_M_request 6 (some .int) 4 := ⟨aw_in (tb_1 (List.mem_of_getElem? (i := 7) rfl)) rfl, aw_in (tb_3 (List.mem_of_getElem? (i := 235) rfl)) rfl, by decide, by decide, by decide +kernel⟩
set_option maxRecDepth 20000 in
theorem cs_M_request : CSv y_M_request := ⟨aw_in (tb_3 (List.mem_of_getElem? (i := 234) rfl)) rfl, aw_in (List.mem_append_left _ (List.mem_of_getElem? (i := 53) rfl)) rfl⟩
set_option maxRecDepth 20000 in
theorem cb_M_read : CSb y_M_read b_M_read 3 (some .int) 2 := ⟨aw_in (tb_1 (List.mem_of_getElem? (i := 7) rfl)) rfl, aw_in (tb_3 (List.mem_of_getElem? (i := 231) rfl)) rfl, by decide, by decide, by decide +kernel⟩
set_option maxRecDepth 20000 in
theorem cs_M_read : CSv y_M_read := ⟨aw_in (tb_3 (List.mem_of_getElem? (i := 229) rfl)) rfl, aw_in (tb_3 (List.mem_of_getElem? (i := 230) rfl)) rfl⟩
set_option maxRecDepth 20000 in
theorem cb_M_write : CSb y_M_write b_M_write 4 (some .int) 3 := ⟨aw_in (tb_1 (List.mem_of_getElem? (i := 7) rfl)) rfl, aw_in (tb_4 (List.mem_of_getElem? (i := 87) rfl)) rfl, by decide, by decide, by decide +kernel⟩
set_option maxRecDepth 20000 in
theorem cs_M_write : CSv y_M_write := ⟨aw_in (tb_4 (List.mem_of_getElem? (i := 85) rfl)) rfl, aw_in (tb_4 (List.mem_of_getElem? (i := 86) rfl)) rfl⟩
set_option maxRecDepth 20000 in
theorem cb_M_commit : CSb y_M_commit b_M_commit 2 (some .boolean) 1 := ⟨aw_in (tb_1 (List.mem_of_getElem? (i := 7) rfl)) rfl, aw_in (tb_4 (List.mem_of_getElem? (i := 91) rfl)) rfl, by decide, by decide, by decide +kernel⟩
set_option maxRecDepth 20000 in
theorem cs_M_commit : CSv y_M_commit := ⟨aw_in (tb_4 (List.mem_of_getElem? (i := 89) rfl)) rfl, aw_in (tb_4 (List.mem_of_getElem? (i := 90) rfl)) rfl⟩
set_option maxRecDepth 20000 in
theorem cb_M_abort : CSb y_M_abort b_M_abort 2 (some .boolean) 1 := ⟨aw_in (tb_1 (List.mem_of_getElem? (i := 7) rfl)) rfl, aw_in (tb_4 (List.mem_of_getElem? (i := 95) rfl)) rfl, by decide, by decide, by decide +kernel⟩
set_option maxRecDepth 20000 in
theorem cs_M_abort : CSv y_M_abort := ⟨aw_in (tb_4 (List.mem_of_getElem? (i := 93) rfl)) rfl, aw_in (tb_4 (List.mem_of_getElem? (i := 94) rfl)) rfl⟩
set_option maxRecDepth 20000 in
theorem cb_M_force : CSb y_M_force b_M_force 1 (some .boolean) 0 := ⟨aw_in (tb_1 (List.mem_of_getElem? (i := 7) rfl)) rfl, aw_in (tb_4 (List.mem_of_getElem? (i := 99) rfl)) rfl, by decide, by decide, by decide +kernel⟩
set_option maxRecDepth 20000 in
theorem cs_M_force : CSv y_M_force := ⟨aw_in (tb_4 (List.mem_of_getElem? (i := 97) rfl)) rfl, aw_in (tb_4 (List.mem_of_getElem? (i := 98) rfl)) rfl⟩
set_option maxRecDepth 20000 in
theorem cb_M_checkpoint : CSb y_M_checkpoint b_M_checkpoint 3 (some .int) 0 := ⟨aw_in (tb_1 (List.mem_of_getElem? (i := 7) rfl)) rfl, aw_in (tb_4 (List.mem_of_getElem? (i := 103) rfl)) rfl, by decide, by decide, by decide +kernel⟩
set_option maxRecDepth 20000 in
theorem cs_M_checkpoint : CSv y_M_checkpoint := ⟨aw_in (tb_4 (List.mem_of_getElem? (i := 101) rfl)) rfl, aw_in (tb_4 (List.mem_of_getElem? (i := 102) rfl)) rfl⟩
set_option maxRecDepth 20000 in
theorem cb_M_flush : CSb y_M_flush b_M_flush 2 (some .boolean) 1 := ⟨aw_in (tb_1 (List.mem_of_getElem? (i := 7) rfl)) rfl, aw_in (tb_4 (List.mem_of_getElem? (i := 107) rfl)) rfl, by decide, by decide, by decide +kernel⟩
set_option maxRecDepth 20000 in
theorem cs_M_flush : CSv y_M_flush := ⟨aw_in (tb_4 (List.mem_of_getElem? (i := 105) rfl)) rfl, aw_in (tb_4 (List.mem_of_getElem? (i := 106) rfl)) rfl⟩
set_option maxRecDepth 20000 in
theorem cb_M_crash : CSb y_M_crash b_M_crash 3 (some .int) 1 := ⟨aw_in (tb_1 (List.mem_of_getElem? (i := 7) rfl)) rfl, aw_in (tb_4 (List.mem_of_getElem? (i := 111) rfl)) rfl, by decide, by decide, by decide +kernel⟩
set_option maxRecDepth 20000 in
theorem cs_M_crash : CSv y_M_crash := ⟨aw_in (tb_4 (List.mem_of_getElem? (i := 109) rfl)) rfl, aw_in (tb_4 (List.mem_of_getElem? (i := 110) rfl)) rfl⟩
set_option maxRecDepth 20000 in
theorem cb_M_analyse : CSb y_M_analyse b_M_analyse 4 none 0 := ⟨aw_in (tb_1 (List.mem_of_getElem? (i := 7) rfl)) rfl, aw_in (tb_4 (List.mem_of_getElem? (i := 123) rfl)) rfl, by decide, by decide, by decide +kernel⟩
set_option maxRecDepth 20000 in
theorem cs_M_analyse : CSv y_M_analyse := ⟨aw_in (tb_4 (List.mem_of_getElem? (i := 122) rfl)) rfl, aw_in (List.mem_append_left _ (List.mem_of_getElem? (i := 77) rfl)) rfl⟩
set_option maxRecDepth 20000 in
theorem cb_M_redo : CSb y_M_redo b_M_redo 3 none 1 := ⟨aw_in (tb_1 (List.mem_of_getElem? (i := 7) rfl)) rfl, aw_in (tb_4 (List.mem_of_getElem? (i := 127) rfl)) rfl, by decide, by decide, by decide +kernel⟩
set_option maxRecDepth 20000 in
theorem cs_M_redo : CSv y_M_redo := ⟨aw_in (tb_4 (List.mem_of_getElem? (i := 126) rfl)) rfl, aw_in (List.mem_append_left _ (List.mem_of_getElem? (i := 78) rfl)) rfl⟩
set_option maxRecDepth 20000 in
theorem cb_M_finish : CSb y_M_finish b_M_finish 2 none 0 := ⟨aw_in (tb_1 (List.mem_of_getElem? (i := 7) rfl)) rfl, aw_in (tb_4 (List.mem_of_getElem? (i := 131) rfl)) rfl, by decide, by decide, by decide +kernel⟩
set_option maxRecDepth 20000 in
theorem cs_M_finish : CSv y_M_finish := ⟨aw_in (tb_4 (List.mem_of_getElem? (i := 130) rfl)) rfl, aw_in (List.mem_append_left _ (List.mem_of_getElem? (i := 79) rfl)) rfl⟩
set_option maxRecDepth 20000 in
theorem cb_M_unit : CSb y_M_unit b_M_unit 1 none 0 := ⟨aw_in (tb_1 (List.mem_of_getElem? (i := 7) rfl)) rfl, aw_in (tb_4 (List.mem_of_getElem? (i := 119) rfl)) rfl, by decide, by decide, by decide +kernel⟩
set_option maxRecDepth 20000 in
theorem cs_M_unit : CSv y_M_unit := ⟨aw_in (tb_4 (List.mem_of_getElem? (i := 118) rfl)) rfl, aw_in (List.mem_append_left _ (List.mem_of_getElem? (i := 76) rfl)) rfl⟩
set_option maxRecDepth 20000 in
theorem cb_M_restart : CSb y_M_restart b_M_restart 3 (some .int) 1 := ⟨aw_in (tb_1 (List.mem_of_getElem? (i := 7) rfl)) rfl, aw_in (tb_4 (List.mem_of_getElem? (i := 115) rfl)) rfl, by decide, by decide, by decide +kernel⟩
set_option maxRecDepth 20000 in
theorem cs_M_restart : CSv y_M_restart := ⟨aw_in (tb_4 (List.mem_of_getElem? (i := 113) rfl)) rfl, aw_in (tb_4 (List.mem_of_getElem? (i := 114) rfl)) rfl⟩
set_option maxRecDepth 20000 in
theorem cb_M_up : CSb y_M_up b_M_up 1 (some .boolean) 0 := ⟨aw_in (tb_1 (List.mem_of_getElem? (i := 7) rfl)) rfl, aw_in (tb_4 (List.mem_of_getElem? (i := 135) rfl)) rfl, by decide, by decide, by decide +kernel⟩
set_option maxRecDepth 20000 in
theorem cs_M_up : CSv y_M_up := ⟨aw_in (tb_4 (List.mem_of_getElem? (i := 133) rfl)) rfl, aw_in (tb_4 (List.mem_of_getElem? (i := 134) rfl)) rfl⟩
set_option maxRecDepth 20000 in
theorem cb_M_known : CSb y_M_known b_M_known 2 (some .boolean) 1 := ⟨aw_in (tb_1 (List.mem_of_getElem? (i := 7) rfl)) rfl, aw_in (tb_4 (List.mem_of_getElem? (i := 143) rfl)) rfl, by decide, by decide, by decide +kernel⟩
set_option maxRecDepth 20000 in
theorem cs_M_known : CSv y_M_known := ⟨aw_in (tb_4 (List.mem_of_getElem? (i := 142) rfl)) rfl, aw_in (List.mem_append_left _ (List.mem_of_getElem? (i := 80) rfl)) rfl⟩
set_option maxRecDepth 20000 in
theorem cb_M_state : CSb y_M_state b_M_state 2 (some .int) 1 := ⟨aw_in (tb_1 (List.mem_of_getElem? (i := 7) rfl)) rfl, aw_in (tb_4 (List.mem_of_getElem? (i := 139) rfl)) rfl, by decide, by decide, by decide +kernel⟩
set_option maxRecDepth 20000 in
theorem cs_M_state : CSv y_M_state := ⟨aw_in (tb_4 (List.mem_of_getElem? (i := 137) rfl)) rfl, aw_in (tb_4 (List.mem_of_getElem? (i := 138) rfl)) rfl⟩
set_option maxRecDepth 20000 in
theorem cb_M_outcome : CSb y_M_outcome b_M_outcome 2 (some .int) 1 := ⟨aw_in (tb_1 (List.mem_of_getElem? (i := 7) rfl)) rfl, aw_in (tb_4 (List.mem_of_getElem? (i := 147) rfl)) rfl, by decide, by decide, by decide +kernel⟩
set_option maxRecDepth 20000 in
theorem cs_M_outcome : CSv y_M_outcome := ⟨aw_in (tb_4 (List.mem_of_getElem? (i := 145) rfl)) rfl, aw_in (tb_4 (List.mem_of_getElem? (i := 146) rfl)) rfl⟩
set_option maxRecDepth 20000 in
theorem cb_M_value : CSb y_M_value b_M_value 2 (some .int) 1 := ⟨aw_in (tb_1 (List.mem_of_getElem? (i := 7) rfl)) rfl, aw_in (tb_4 (List.mem_of_getElem? (i := 151) rfl)) rfl, by decide, by decide, by decide +kernel⟩
set_option maxRecDepth 20000 in
theorem cs_M_value : CSv y_M_value := ⟨aw_in (tb_4 (List.mem_of_getElem? (i := 149) rfl)) rfl, aw_in (tb_4 (List.mem_of_getElem? (i := 150) rfl)) rfl⟩
set_option maxRecDepth 20000 in
theorem cb_M_stored : CSb y_M_stored b_M_stored 3 (some .int) 1 := ⟨aw_in (tb_1 (List.mem_of_getElem? (i := 7) rfl)) rfl, aw_in (tb_4 (List.mem_of_getElem? (i := 155) rfl)) rfl, by decide, by decide, by decide +kernel⟩
set_option maxRecDepth 20000 in
theorem cs_M_stored : CSv y_M_stored := ⟨aw_in (tb_4 (List.mem_of_getElem? (i := 153) rfl)) rfl, aw_in (tb_4 (List.mem_of_getElem? (i := 154) rfl)) rfl⟩
set_option maxRecDepth 20000 in
theorem cb_M_place : CSb y_M_place b_M_place 2 (some .int) 1 := ⟨aw_in (tb_1 (List.mem_of_getElem? (i := 7) rfl)) rfl, aw_in (tb_4 (List.mem_of_getElem? (i := 159) rfl)) rfl, by decide, by decide, by decide +kernel⟩
set_option maxRecDepth 20000 in
theorem cs_M_place : CSv y_M_place := ⟨aw_in (tb_4 (List.mem_of_getElem? (i := 157) rfl)) rfl, aw_in (tb_4 (List.mem_of_getElem? (i := 158) rfl)) rfl⟩
set_option maxRecDepth 20000 in
theorem cb_M_after : CSb y_M_after b_M_after 3 (some .int) 1 := ⟨aw_in (tb_1 (List.mem_of_getElem? (i := 7) rfl)) rfl, aw_in (tb_4 (List.mem_of_getElem? (i := 168) rfl)) rfl, by decide, by decide, by decide +kernel⟩
set_option maxRecDepth 20000 in
theorem cs_M_after : CSv y_M_after := ⟨aw_in (tb_4 (List.mem_of_getElem? (i := 166) rfl)) rfl, aw_in (tb_4 (List.mem_of_getElem? (i := 167) rfl)) rfl⟩
set_option maxRecDepth 20000 in
theorem cb_M_count : CSb y_M_count b_M_count 2 (some .int) 1 := ⟨aw_in (tb_1 (List.mem_of_getElem? (i := 7) rfl)) rfl, aw_in (tb_4 (List.mem_of_getElem? (i := 172) rfl)) rfl, by decide, by decide, by decide +kernel⟩
set_option maxRecDepth 20000 in
theorem cs_M_count : CSv y_M_count := ⟨aw_in (tb_4 (List.mem_of_getElem? (i := 170) rfl)) rfl, aw_in (tb_4 (List.mem_of_getElem? (i := 171) rfl)) rfl⟩
set_option maxRecDepth 20000 in
theorem cb_M_page : CSb y_M_page b_M_page 3 (some .int) 2 := ⟨aw_in (tb_1 (List.mem_of_getElem? (i := 7) rfl)) rfl, aw_in (tb_4 (List.mem_of_getElem? (i := 176) rfl)) rfl, by decide, by decide, by decide +kernel⟩
set_option maxRecDepth 20000 in
theorem cs_M_page : CSv y_M_page := ⟨aw_in (tb_4 (List.mem_of_getElem? (i := 174) rfl)) rfl, aw_in (tb_4 (List.mem_of_getElem? (i := 175) rfl)) rfl⟩
set_option maxRecDepth 20000 in
theorem cb_XC_init : CSb y_XC_init b_XC_init 2 none 0 := ⟨aw_in (tb_1 (List.mem_of_getElem? (i := 4) rfl)) rfl, aw_in (tb_1 (List.mem_of_getElem? (i := 101) rfl)) rfl, by decide, by decide, by decide +kernel⟩
set_option maxRecDepth 20000 in
theorem cs_XC_init : Cond.instanceMethod y_XC_init ∈ AW := aw_in (tb_1 (List.mem_of_getElem? (i := 100) rfl)) rfl
set_option maxRecDepth 20000 in
theorem cb_XC_copy : CSb y_XC_copy b_XC_copy 3 none 1 := ⟨aw_in (tb_1 (List.mem_of_getElem? (i := 4) rfl)) rfl, aw_in (tb_2 (List.mem_of_getElem? (i := 116) rfl)) rfl, by decide, by decide, by decide +kernel⟩
set_option maxRecDepth 20000 in
theorem cs_XC_copy : CSv y_XC_copy := ⟨aw_in (tb_2 (List.mem_of_getElem? (i := 115) rfl)) rfl, aw_in (List.mem_append_left _ (List.mem_of_getElem? (i := 19) rfl)) rfl⟩
set_option maxRecDepth 20000 in
theorem cb_XV_init : CSb y_XV_init b_XV_init 1 none 0 := ⟨aw_in (tb_1 (List.mem_of_getElem? (i := 5) rfl)) rfl, aw_in (tb_1 (List.mem_of_getElem? (i := 156) rfl)) rfl, by decide, by decide, by decide +kernel⟩
set_option maxRecDepth 20000 in
theorem cs_XV_init : Cond.instanceMethod y_XV_init ∈ AW := aw_in (tb_1 (List.mem_of_getElem? (i := 155) rfl)) rfl
set_option maxRecDepth 20000 in
theorem cb_XV_freeSeat : CSb y_XV_freeSeat b_XV_freeSeat 2 (some .int) 0 := ⟨aw_in (tb_1 (List.mem_of_getElem? (i := 5) rfl)) rfl, aw_in (tb_1 (List.mem_of_getElem? (i := 229) rfl)) rfl, by decide, by decide, by decide +kernel⟩
set_option maxRecDepth 20000 in
theorem cs_XV_freeSeat : CSv y_XV_freeSeat := ⟨aw_in (tb_1 (List.mem_of_getElem? (i := 228) rfl)) rfl, aw_in (List.mem_append_left _ (List.mem_of_getElem? (i := 0) rfl)) rfl⟩
set_option maxRecDepth 20000 in
theorem cb_XV_enter : CSb y_XV_enter b_XV_enter 2 none 1 := ⟨aw_in (tb_1 (List.mem_of_getElem? (i := 5) rfl)) rfl, aw_in (tb_2 (List.mem_of_getElem? (i := 38) rfl)) rfl, by decide, by decide, by decide +kernel⟩
set_option maxRecDepth 20000 in
theorem cs_XV_enter : CSv y_XV_enter := ⟨aw_in (tb_2 (List.mem_of_getElem? (i := 37) rfl)) rfl, aw_in (List.mem_append_left _ (List.mem_of_getElem? (i := 1) rfl)) rfl⟩
set_option maxRecDepth 20000 in
theorem cb_XV_leave : CSb y_XV_leave b_XV_leave 4 none 2 := ⟨aw_in (tb_1 (List.mem_of_getElem? (i := 5) rfl)) rfl, aw_in (tb_2 (List.mem_of_getElem? (i := 50) rfl)) rfl, by decide, by decide, by decide +kernel⟩
set_option maxRecDepth 20000 in
theorem cs_XV_leave : CSv y_XV_leave := ⟨aw_in (tb_2 (List.mem_of_getElem? (i := 49) rfl)) rfl, aw_in (List.mem_append_left _ (List.mem_of_getElem? (i := 4) rfl)) rfl⟩
set_option maxRecDepth 20000 in
theorem cb_XV_leaveAllInDoubt : CSb y_XV_leaveAllInDoubt b_XV_leaveAllInDoubt 2 none 0 := ⟨aw_in (tb_1 (List.mem_of_getElem? (i := 5) rfl)) rfl, aw_in (tb_3 (List.mem_of_getElem? (i := 7) rfl)) rfl, by decide, by decide, by decide +kernel⟩
set_option maxRecDepth 20000 in
theorem cs_XV_leaveAllInDoubt : CSv y_XV_leaveAllInDoubt := ⟨aw_in (tb_3 (List.mem_of_getElem? (i := 6) rfl)) rfl, aw_in (List.mem_append_left _ (List.mem_of_getElem? (i := 39) rfl)) rfl⟩
set_option maxRecDepth 20000 in
theorem cb_XV_hold : CSb y_XV_hold b_XV_hold 2 none 1 := ⟨aw_in (tb_1 (List.mem_of_getElem? (i := 5) rfl)) rfl, aw_in (tb_2 (List.mem_of_getElem? (i := 73) rfl)) rfl, by decide, by decide, by decide +kernel⟩
set_option maxRecDepth 20000 in
theorem cs_XV_hold : CSv y_XV_hold := ⟨aw_in (tb_2 (List.mem_of_getElem? (i := 72) rfl)) rfl, aw_in (List.mem_append_left _ (List.mem_of_getElem? (i := 9) rfl)) rfl⟩
set_option maxRecDepth 20000 in
theorem cb_XV_isFit : CSb y_XV_isFit b_XV_isFit 3 (some .boolean) 1 := ⟨aw_in (tb_1 (List.mem_of_getElem? (i := 5) rfl)) rfl, aw_in (tb_2 (List.mem_of_getElem? (i := 58) rfl)) rfl, by decide, by decide, by decide +kernel⟩
set_option maxRecDepth 20000 in
theorem cs_XV_isFit : CSv y_XV_isFit := ⟨aw_in (tb_2 (List.mem_of_getElem? (i := 57) rfl)) rfl, aw_in (List.mem_append_left _ (List.mem_of_getElem? (i := 6) rfl)) rfl⟩
set_option maxRecDepth 20000 in
theorem cb_XV_obstacles : CSb y_XV_obstacles b_XV_obstacles 7 (some .int) 1 := ⟨aw_in (tb_1 (List.mem_of_getElem? (i := 5) rfl)) rfl, aw_in (tb_2 (List.mem_of_getElem? (i := 62) rfl)) rfl, by decide, by decide, by decide +kernel⟩
set_option maxRecDepth 20000 in
theorem cs_XV_obstacles : CSv y_XV_obstacles := ⟨aw_in (tb_2 (List.mem_of_getElem? (i := 61) rfl)) rfl, aw_in (List.mem_append_left _ (List.mem_of_getElem? (i := 7) rfl)) rfl⟩
set_option maxRecDepth 20000 in
theorem cb_XV_conflicts : CSb y_XV_conflicts b_XV_conflicts 2 (some .boolean) 2 := ⟨aw_in (tb_1 (List.mem_of_getElem? (i := 5) rfl)) rfl, aw_in (tb_2 (List.mem_of_getElem? (i := 65) rfl)) rfl, by decide, by decide, by decide +kernel⟩
set_option maxRecDepth 20000 in
theorem cs_XV_conflicts : Cond.static y_XV_conflicts ∈ AW := aw_in (tb_2 (List.mem_of_getElem? (i := 64) rfl)) rfl
set_option maxRecDepth 20000 in
theorem cb_XV_waitsForItself : CSb y_XV_waitsForItself b_XV_waitsForItself 4 (some .boolean) 1 := ⟨aw_in (tb_1 (List.mem_of_getElem? (i := 5) rfl)) rfl, aw_in (tb_2 (List.mem_of_getElem? (i := 161) rfl)) rfl, by decide, by decide, by decide +kernel⟩
set_option maxRecDepth 20000 in
theorem cs_XV_waitsForItself : CSv y_XV_waitsForItself := ⟨aw_in (tb_2 (List.mem_of_getElem? (i := 160) rfl)) rfl, aw_in (List.mem_append_left _ (List.mem_of_getElem? (i := 28) rfl)) rfl⟩
set_option maxRecDepth 20000 in
theorem cb_XV_stepFrom : CSb y_XV_stepFrom b_XV_stepFrom 5 (some .int) 1 := ⟨aw_in (tb_1 (List.mem_of_getElem? (i := 5) rfl)) rfl, aw_in (tb_2 (List.mem_of_getElem? (i := 165) rfl)) rfl, by decide, by decide, by decide +kernel⟩
set_option maxRecDepth 20000 in
theorem cs_XV_stepFrom : CSv y_XV_stepFrom := ⟨aw_in (tb_2 (List.mem_of_getElem? (i := 164) rfl)) rfl, aw_in (List.mem_append_left _ (List.mem_of_getElem? (i := 29) rfl)) rfl⟩
set_option maxRecDepth 20000 in
theorem cb_XV_leastStableCommit : CSb y_XV_leastStableCommit b_XV_leastStableCommit 5 (some (.object "LogStore$Transaction")) 1 := ⟨aw_in (tb_1 (List.mem_of_getElem? (i := 5) rfl)) rfl, aw_in (tb_2 (List.mem_of_getElem? (i := 46) rfl)) rfl, by decide, by decide, by decide +kernel⟩
set_option maxRecDepth 20000 in
theorem cs_XV_leastStableCommit : CSv y_XV_leastStableCommit := ⟨aw_in (tb_2 (List.mem_of_getElem? (i := 45) rfl)) rfl, aw_in (List.mem_append_left _ (List.mem_of_getElem? (i := 3) rfl)) rfl⟩
set_option maxRecDepth 20000 in
theorem cb_XV_firstFitWaiting : CSb y_XV_firstFitWaiting b_XV_firstFitWaiting 4 (some (.object "LogStore$Transaction")) 0 := ⟨aw_in (tb_1 (List.mem_of_getElem? (i := 5) rfl)) rfl, aw_in (tb_2 (List.mem_of_getElem? (i := 54) rfl)) rfl, by decide, by decide, by decide +kernel⟩
set_option maxRecDepth 20000 in
theorem cs_XV_firstFitWaiting : CSv y_XV_firstFitWaiting := ⟨aw_in (tb_2 (List.mem_of_getElem? (i := 53) rfl)) rfl, aw_in (List.mem_append_left _ (List.mem_of_getElem? (i := 5) rfl)) rfl⟩
set_option maxRecDepth 20000 in
theorem cb_XL_init : CSb y_XL_init b_XL_init 1 none 0 := ⟨aw_in (tb_1 (List.mem_of_getElem? (i := 2) rfl)) rfl, aw_in (tb_1 (List.mem_of_getElem? (i := 23) rfl)) rfl, by decide, by decide, by decide +kernel⟩
set_option maxRecDepth 20000 in
theorem cs_XL_init : Cond.instanceMethod y_XL_init ∈ AW := aw_in (tb_1 (List.mem_of_getElem? (i := 22) rfl)) rfl
set_option maxRecDepth 20000 in
theorem cb_XL_append : CSb y_XL_append b_XL_append 3 (some .int) 2 := ⟨aw_in (tb_1 (List.mem_of_getElem? (i := 2) rfl)) rfl, aw_in (tb_2 (List.mem_of_getElem? (i := 133) rfl)) rfl, by decide, by decide, by decide +kernel⟩
set_option maxRecDepth 20000 in
theorem cs_XL_append : CSv y_XL_append := ⟨aw_in (tb_2 (List.mem_of_getElem? (i := 132) rfl)) rfl, aw_in (List.mem_append_left _ (List.mem_of_getElem? (i := 23) rfl)) rfl⟩
set_option maxRecDepth 20000 in
theorem cb_XL_addUpdate : CSb y_XL_addUpdate b_XL_addUpdate 8 (some .int) 6 := ⟨aw_in (tb_1 (List.mem_of_getElem? (i := 2) rfl)) rfl, aw_in (tb_2 (List.mem_of_getElem? (i := 129) rfl)) rfl, by decide, by decide, by decide +kernel⟩
set_option maxRecDepth 20000 in
theorem cs_XL_addUpdate : CSv y_XL_addUpdate := ⟨aw_in (tb_2 (List.mem_of_getElem? (i := 128) rfl)) rfl, aw_in (List.mem_append_left _ (List.mem_of_getElem? (i := 22) rfl)) rfl⟩
set_option maxRecDepth 20000 in
theorem cb_XL_addClr : CSb y_XL_addClr b_XL_addClr 3 (some .int) 1 := ⟨aw_in (tb_1 (List.mem_of_getElem? (i := 2) rfl)) rfl, aw_in (tb_2 (List.mem_of_getElem? (i := 182) rfl)) rfl, by decide, by decide, by decide +kernel⟩
set_option maxRecDepth 20000 in
theorem cs_XL_addClr : CSv y_XL_addClr := ⟨aw_in (tb_2 (List.mem_of_getElem? (i := 181) rfl)) rfl, aw_in (List.mem_append_left _ (List.mem_of_getElem? (i := 33) rfl)) rfl⟩
set_option maxRecDepth 20000 in
theorem cb_XL_addCommit : CSb y_XL_addCommit b_XL_addCommit 2 none 1 := ⟨aw_in (tb_1 (List.mem_of_getElem? (i := 2) rfl)) rfl, aw_in (tb_2 (List.mem_of_getElem? (i := 195) rfl)) rfl, by decide, by decide, by decide +kernel⟩
set_option maxRecDepth 20000 in
theorem cs_XL_addCommit : CSv y_XL_addCommit := ⟨aw_in (tb_2 (List.mem_of_getElem? (i := 194) rfl)) rfl, aw_in (List.mem_append_left _ (List.mem_of_getElem? (i := 34) rfl)) rfl⟩
set_option maxRecDepth 20000 in
theorem cb_XL_addCheckpoint : CSb y_XL_addCheckpoint b_XL_addCheckpoint 3 (some .int) 1 := ⟨aw_in (tb_1 (List.mem_of_getElem? (i := 2) rfl)) rfl, aw_in (tb_2 (List.mem_of_getElem? (i := 212) rfl)) rfl, by decide, by decide, by decide +kernel⟩
set_option maxRecDepth 20000 in
theorem cs_XL_addCheckpoint : CSv y_XL_addCheckpoint := ⟨aw_in (tb_2 (List.mem_of_getElem? (i := 211) rfl)) rfl, aw_in (List.mem_append_left _ (List.mem_of_getElem? (i := 35) rfl)) rfl⟩
set_option maxRecDepth 20000 in
theorem cb_XL_isChange : CSb y_XL_isChange b_XL_isChange 2 (some .boolean) 1 := ⟨aw_in (tb_1 (List.mem_of_getElem? (i := 2) rfl)) rfl, aw_in (tb_3 (List.mem_of_getElem? (i := 32) rfl)) rfl, by decide, by decide, by decide +kernel⟩
set_option maxRecDepth 20000 in
theorem cs_XL_isChange : CSv y_XL_isChange := ⟨aw_in (tb_3 (List.mem_of_getElem? (i := 31) rfl)) rfl, aw_in (List.mem_append_left _ (List.mem_of_getElem? (i := 44) rfl)) rfl⟩
set_option maxRecDepth 20000 in
theorem cb_XL_isOpen : CSb y_XL_isOpen b_XL_isOpen 2 (some .boolean) 1 := ⟨aw_in (tb_1 (List.mem_of_getElem? (i := 2) rfl)) rfl, aw_in (tb_2 (List.mem_of_getElem? (i := 173) rfl)) rfl, by decide, by decide, by decide +kernel⟩
set_option maxRecDepth 20000 in
theorem cs_XL_isOpen : CSv y_XL_isOpen := ⟨aw_in (tb_2 (List.mem_of_getElem? (i := 172) rfl)) rfl, aw_in (List.mem_append_left _ (List.mem_of_getElem? (i := 31) rfl)) rfl⟩
set_option maxRecDepth 20000 in
theorem cb_XL_greatestOpen : CSb y_XL_greatestOpen b_XL_greatestOpen 2 (some .int) 0 := ⟨aw_in (tb_1 (List.mem_of_getElem? (i := 2) rfl)) rfl, aw_in (tb_3 (List.mem_of_getElem? (i := 49) rfl)) rfl, by decide, by decide, by decide +kernel⟩
set_option maxRecDepth 20000 in
theorem cs_XL_greatestOpen : CSv y_XL_greatestOpen := ⟨aw_in (tb_3 (List.mem_of_getElem? (i := 48) rfl)) rfl, aw_in (List.mem_append_left _ (List.mem_of_getElem? (i := 48) rfl)) rfl⟩
set_option maxRecDepth 20000 in
theorem cb_XL_makeStable : CSb y_XL_makeStable b_XL_makeStable 2 none 1 := ⟨aw_in (tb_1 (List.mem_of_getElem? (i := 2) rfl)) rfl, aw_in (tb_2 (List.mem_of_getElem? (i := 112) rfl)) rfl, by decide, by decide, by decide +kernel⟩
set_option maxRecDepth 20000 in
theorem cs_XL_makeStable : CSv y_XL_makeStable := ⟨aw_in (tb_2 (List.mem_of_getElem? (i := 111) rfl)) rfl, aw_in (List.mem_append_left _ (List.mem_of_getElem? (i := 18) rfl)) rfl⟩
set_option maxRecDepth 20000 in
theorem cb_XL_loseUnstable : CSb y_XL_loseUnstable b_XL_loseUnstable 2 none 0 := ⟨aw_in (tb_1 (List.mem_of_getElem? (i := 2) rfl)) rfl, aw_in (tb_2 (List.mem_of_getElem? (i := 235) rfl)) rfl, by decide, by decide, by decide +kernel⟩
set_option maxRecDepth 20000 in
theorem cs_XL_loseUnstable : CSv y_XL_loseUnstable := ⟨aw_in (tb_2 (List.mem_of_getElem? (i := 234) rfl)) rfl, aw_in (List.mem_append_left _ (List.mem_of_getElem? (i := 36) rfl)) rfl⟩
set_option maxRecDepth 20000 in
theorem cb_XL_forget : CSb y_XL_forget b_XL_forget 2 none 1 := ⟨aw_in (tb_1 (List.mem_of_getElem? (i := 2) rfl)) rfl, aw_in (tb_2 (List.mem_of_getElem? (i := 239) rfl)) rfl, by decide, by decide, by decide +kernel⟩
set_option maxRecDepth 20000 in
theorem cs_XL_forget : CSv y_XL_forget := ⟨aw_in (tb_2 (List.mem_of_getElem? (i := 238) rfl)) rfl, aw_in (List.mem_append_left _ (List.mem_of_getElem? (i := 37) rfl)) rfl⟩
set_option maxRecDepth 20000 in
theorem cb_XP_init : CSb y_XP_init b_XP_init 3 none 1 := ⟨aw_in (tb_1 (List.mem_of_getElem? (i := 3) rfl)) rfl, aw_in (tb_1 (List.mem_of_getElem? (i := 94) rfl)) rfl, by decide, by decide, by decide +kernel⟩
set_option maxRecDepth 20000 in
theorem cs_XP_init : Cond.instanceMethod y_XP_init ∈ AW := aw_in (tb_1 (List.mem_of_getElem? (i := 93) rfl)) rfl
set_option maxRecDepth 20000 in
theorem cb_XP_isDirty : CSb y_XP_isDirty b_XP_isDirty 2 (some .boolean) 1 := ⟨aw_in (tb_1 (List.mem_of_getElem? (i := 3) rfl)) rfl, aw_in (tb_2 (List.mem_of_getElem? (i := 104) rfl)) rfl, by decide, by decide, by decide +kernel⟩
set_option maxRecDepth 20000 in
theorem cs_XP_isDirty : CSv y_XP_isDirty := ⟨aw_in (tb_2 (List.mem_of_getElem? (i := 103) rfl)) rfl, aw_in (List.mem_append_left _ (List.mem_of_getElem? (i := 16) rfl)) rfl⟩
set_option maxRecDepth 20000 in
theorem cb_XP_writeOut : CSb y_XP_writeOut b_XP_writeOut 2 none 1 := ⟨aw_in (tb_1 (List.mem_of_getElem? (i := 3) rfl)) rfl, aw_in (tb_2 (List.mem_of_getElem? (i := 108) rfl)) rfl, by decide, by decide, by decide +kernel⟩
set_option maxRecDepth 20000 in
theorem cs_XP_writeOut : CSv y_XP_writeOut := ⟨aw_in (tb_2 (List.mem_of_getElem? (i := 107) rfl)) rfl, aw_in (List.mem_append_left _ (List.mem_of_getElem? (i := 17) rfl)) rfl⟩
set_option maxRecDepth 20000 in
theorem cb_XP_fetch : CSb y_XP_fetch b_XP_fetch 3 none 1 := ⟨aw_in (tb_1 (List.mem_of_getElem? (i := 3) rfl)) rfl, aw_in (tb_2 (List.mem_of_getElem? (i := 96) rfl)) rfl, by decide, by decide, by decide +kernel⟩
set_option maxRecDepth 20000 in
theorem cs_XP_fetch : CSv y_XP_fetch := ⟨aw_in (tb_2 (List.mem_of_getElem? (i := 95) rfl)) rfl, aw_in (List.mem_append_left _ (List.mem_of_getElem? (i := 14) rfl)) rfl⟩
set_option maxRecDepth 20000 in
theorem cb_XP_pageToLeave : CSb y_XP_pageToLeave b_XP_pageToLeave 4 (some .int) 0 := ⟨aw_in (tb_1 (List.mem_of_getElem? (i := 3) rfl)) rfl, aw_in (tb_2 (List.mem_of_getElem? (i := 100) rfl)) rfl, by decide, by decide, by decide +kernel⟩
set_option maxRecDepth 20000 in
theorem cs_XP_pageToLeave : CSv y_XP_pageToLeave := ⟨aw_in (tb_2 (List.mem_of_getElem? (i := 99) rfl)) rfl, aw_in (List.mem_append_left _ (List.mem_of_getElem? (i := 15) rfl)) rfl⟩
set_option maxRecDepth 20000 in
theorem cb_XP_empty : CSb y_XP_empty b_XP_empty 2 none 0 := ⟨aw_in (tb_1 (List.mem_of_getElem? (i := 3) rfl)) rfl, aw_in (tb_3 (List.mem_of_getElem? (i := 3) rfl)) rfl, by decide, by decide, by decide +kernel⟩
set_option maxRecDepth 20000 in
theorem cs_XP_empty : CSv y_XP_empty := ⟨aw_in (tb_3 (List.mem_of_getElem? (i := 2) rfl)) rfl, aw_in (List.mem_append_left _ (List.mem_of_getElem? (i := 38) rfl)) rfl⟩
set_option maxRecDepth 20000 in
theorem cb_XP_seen : CSb y_XP_seen b_XP_seen 2 (some (.object "LogStore$Contents")) 1 := ⟨aw_in (tb_1 (List.mem_of_getElem? (i := 3) rfl)) rfl, aw_in (tb_2 (List.mem_of_getElem? (i := 92) rfl)) rfl, by decide, by decide, by decide +kernel⟩
set_option maxRecDepth 20000 in
theorem cs_XP_seen : CSv y_XP_seen := ⟨aw_in (tb_2 (List.mem_of_getElem? (i := 91) rfl)) rfl, aw_in (List.mem_append_left _ (List.mem_of_getElem? (i := 13) rfl)) rfl⟩
set_option maxRecDepth 20000 in
theorem cb_XP_keyAt : CSb y_XP_keyAt b_XP_keyAt 2 (some .int) 1 := ⟨aw_in (tb_1 (List.mem_of_getElem? (i := 3) rfl)) rfl, aw_in (tb_2 (List.mem_of_getElem? (i := 88) rfl)) rfl, by decide, by decide, by decide +kernel⟩
set_option maxRecDepth 20000 in
theorem cs_XP_keyAt : CSv y_XP_keyAt := ⟨aw_in (tb_2 (List.mem_of_getElem? (i := 87) rfl)) rfl, aw_in (List.mem_append_left _ (List.mem_of_getElem? (i := 12) rfl)) rfl⟩
set_option maxRecDepth 20000 in
theorem cb_XP_valueAt : CSb y_XP_valueAt b_XP_valueAt 2 (some .int) 1 := ⟨aw_in (tb_1 (List.mem_of_getElem? (i := 3) rfl)) rfl, aw_in (tb_2 (List.mem_of_getElem? (i := 120) rfl)) rfl, by decide, by decide, by decide +kernel⟩
set_option maxRecDepth 20000 in
theorem cs_XP_valueAt : CSv y_XP_valueAt := ⟨aw_in (tb_2 (List.mem_of_getElem? (i := 119) rfl)) rfl, aw_in (List.mem_append_left _ (List.mem_of_getElem? (i := 20) rfl)) rfl⟩
set_option maxRecDepth 20000 in
theorem cb_XP_placeOf : CSb y_XP_placeOf b_XP_placeOf 3 (some .int) 1 := ⟨aw_in (tb_1 (List.mem_of_getElem? (i := 3) rfl)) rfl, aw_in (tb_2 (List.mem_of_getElem? (i := 84) rfl)) rfl, by decide, by decide, by decide +kernel⟩
set_option maxRecDepth 20000 in
theorem cs_XP_placeOf : CSv y_XP_placeOf := ⟨aw_in (tb_2 (List.mem_of_getElem? (i := 83) rfl)) rfl, aw_in (List.mem_append_left _ (List.mem_of_getElem? (i := 11) rfl)) rfl⟩
set_option maxRecDepth 20000 in
theorem cb_XP_leastKeyAbove : CSb y_XP_leastKeyAbove b_XP_leastKeyAbove 5 (some .int) 1 := ⟨aw_in (tb_1 (List.mem_of_getElem? (i := 3) rfl)) rfl, aw_in (tb_3 (List.mem_of_getElem? (i := 92) rfl)) rfl, by decide, by decide, by decide +kernel⟩
set_option maxRecDepth 20000 in
theorem cs_XP_leastKeyAbove : CSv y_XP_leastKeyAbove := ⟨aw_in (tb_3 (List.mem_of_getElem? (i := 91) rfl)) rfl, aw_in (List.mem_append_left _ (List.mem_of_getElem? (i := 51) rfl)) rfl⟩
set_option maxRecDepth 20000 in
theorem cb_XP_takeBack : CSb y_XP_takeBack b_XP_takeBack 2 none 1 := ⟨aw_in (tb_1 (List.mem_of_getElem? (i := 3) rfl)) rfl, aw_in (tb_2 (List.mem_of_getElem? (i := 177) rfl)) rfl, by decide, by decide, by decide +kernel⟩
set_option maxRecDepth 20000 in
theorem cs_XP_takeBack : CSv y_XP_takeBack := ⟨aw_in (tb_2 (List.mem_of_getElem? (i := 176) rfl)) rfl, aw_in (List.mem_append_left _ (List.mem_of_getElem? (i := 32) rfl)) rfl⟩
set_option maxRecDepth 20000 in
theorem cb_XP_redo : CSb y_XP_redo b_XP_redo 3 none 1 := ⟨aw_in (tb_1 (List.mem_of_getElem? (i := 3) rfl)) rfl, aw_in (tb_3 (List.mem_of_getElem? (i := 41) rfl)) rfl, by decide, by decide, by decide +kernel⟩
set_option maxRecDepth 20000 in
theorem cs_XP_redo : CSv y_XP_redo := ⟨aw_in (tb_3 (List.mem_of_getElem? (i := 40) rfl)) rfl, aw_in (List.mem_append_left _ (List.mem_of_getElem? (i := 46) rfl)) rfl⟩
set_option maxRecDepth 20000 in
theorem cb_XP_apply : CSb y_XP_apply b_XP_apply 4 none 1 := ⟨aw_in (tb_1 (List.mem_of_getElem? (i := 3) rfl)) rfl, aw_in (tb_2 (List.mem_of_getElem? (i := 137) rfl)) rfl, by decide, by decide, by decide +kernel⟩
set_option maxRecDepth 20000 in
theorem cs_XP_apply : CSv y_XP_apply := ⟨aw_in (tb_2 (List.mem_of_getElem? (i := 136) rfl)) rfl, aw_in (List.mem_append_left _ (List.mem_of_getElem? (i := 24) rfl)) rfl⟩
set_option maxRecDepth 20000 in
theorem cb_XR_init : CSb y_XR_init b_XR_init 3 none 2 := ⟨aw_in (tb_1 (List.mem_of_getElem? (i := 6) rfl)) rfl, aw_in (tb_1 (List.mem_of_getElem? (i := 172) rfl)) rfl, by decide, by decide, by decide +kernel⟩
set_option maxRecDepth 20000 in
theorem cs_XR_init : Cond.instanceMethod y_XR_init ∈ AW := aw_in (tb_1 (List.mem_of_getElem? (i := 171) rfl)) rfl
set_option maxRecDepth 20000 in
theorem cb_XR_startAnew : CSb y_XR_startAnew b_XR_startAnew 1 none 0 := ⟨aw_in (tb_1 (List.mem_of_getElem? (i := 6) rfl)) rfl, aw_in (tb_3 (List.mem_of_getElem? (i := 12) rfl)) rfl, by decide, by decide, by decide +kernel⟩
set_option maxRecDepth 20000 in
theorem cs_XR_startAnew : CSv y_XR_startAnew := ⟨aw_in (tb_3 (List.mem_of_getElem? (i := 11) rfl)) rfl, aw_in (List.mem_append_left _ (List.mem_of_getElem? (i := 40) rfl)) rfl⟩
set_option maxRecDepth 20000 in
theorem cb_XR_isFinished : CSb y_XR_isFinished b_XR_isFinished 1 (some .boolean) 0 := ⟨aw_in (tb_1 (List.mem_of_getElem? (i := 6) rfl)) rfl, aw_in (tb_3 (List.mem_of_getElem? (i := 55) rfl)) rfl, by decide, by decide, by decide +kernel⟩
set_option maxRecDepth 20000 in
theorem cs_XR_isFinished : CSv y_XR_isFinished := ⟨aw_in (tb_3 (List.mem_of_getElem? (i := 54) rfl)) rfl, aw_in (List.mem_append_left _ (List.mem_of_getElem? (i := 49) rfl)) rfl⟩
set_option maxRecDepth 20000 in
theorem cb_XR_makeUnit : CSb y_XR_makeUnit b_XR_makeUnit 1 none 0 := ⟨aw_in (tb_1 (List.mem_of_getElem? (i := 6) rfl)) rfl, aw_in (tb_3 (List.mem_of_getElem? (i := 20) rfl)) rfl, by decide, by decide, by decide +kernel⟩
set_option maxRecDepth 20000 in
theorem cs_XR_makeUnit : CSv y_XR_makeUnit := ⟨aw_in (tb_3 (List.mem_of_getElem? (i := 19) rfl)) rfl, aw_in (List.mem_append_left _ (List.mem_of_getElem? (i := 41) rfl)) rfl⟩
set_option maxRecDepth 20000 in
theorem cb_XR_analyse : CSb y_XR_analyse b_XR_analyse 2 none 0 := ⟨aw_in (tb_1 (List.mem_of_getElem? (i := 6) rfl)) rfl, aw_in (tb_3 (List.mem_of_getElem? (i := 24) rfl)) rfl, by decide, by decide, by decide +kernel⟩
set_option maxRecDepth 20000 in
theorem cs_XR_analyse : CSv y_XR_analyse := ⟨aw_in (tb_3 (List.mem_of_getElem? (i := 23) rfl)) rfl, aw_in (List.mem_append_left _ (List.mem_of_getElem? (i := 42) rfl)) rfl⟩
set_option maxRecDepth 20000 in
theorem cb_XR_fillTable : CSb y_XR_fillTable b_XR_fillTable 5 none 0 := ⟨aw_in (tb_1 (List.mem_of_getElem? (i := 6) rfl)) rfl, aw_in (tb_3 (List.mem_of_getElem? (i := 28) rfl)) rfl, by decide, by decide, by decide +kernel⟩
set_option maxRecDepth 20000 in
theorem cs_XR_fillTable : CSv y_XR_fillTable := ⟨aw_in (tb_3 (List.mem_of_getElem? (i := 27) rfl)) rfl, aw_in (List.mem_append_left _ (List.mem_of_getElem? (i := 43) rfl)) rfl⟩
set_option maxRecDepth 20000 in
theorem cb_XR_repeatNext : CSb y_XR_repeatNext b_XR_repeatNext 3 none 0 := ⟨aw_in (tb_1 (List.mem_of_getElem? (i := 6) rfl)) rfl, aw_in (tb_3 (List.mem_of_getElem? (i := 37) rfl)) rfl, by decide, by decide, by decide +kernel⟩
set_option maxRecDepth 20000 in
theorem cs_XR_repeatNext : CSv y_XR_repeatNext := ⟨aw_in (tb_3 (List.mem_of_getElem? (i := 36) rfl)) rfl, aw_in (List.mem_append_left _ (List.mem_of_getElem? (i := 45) rfl)) rfl⟩
set_option maxRecDepth 20000 in
theorem cb_XR_takeBackNext : CSb y_XR_takeBackNext b_XR_takeBackNext 2 none 0 := ⟨aw_in (tb_1 (List.mem_of_getElem? (i := 6) rfl)) rfl, aw_in (tb_3 (List.mem_of_getElem? (i := 45) rfl)) rfl, by decide, by decide, by decide +kernel⟩
set_option maxRecDepth 20000 in
theorem cs_XR_takeBackNext : CSv y_XR_takeBackNext := ⟨aw_in (tb_3 (List.mem_of_getElem? (i := 44) rfl)) rfl, aw_in (List.mem_append_left _ (List.mem_of_getElem? (i := 47) rfl)) rfl⟩
set_option maxRecDepth 20000 in
theorem cb_XT_init : CSb y_XT_init b_XT_init 3 none 2 := ⟨aw_in (tb_1 (List.mem_of_getElem? (i := 8) rfl)) rfl, aw_in (tb_1 (List.mem_of_getElem? (i := 233) rfl)) rfl, by decide, by decide, by decide +kernel⟩
set_option maxRecDepth 20000 in
theorem cs_XT_init : Cond.instanceMethod y_XT_init ∈ AW := aw_in (tb_1 (List.mem_of_getElem? (i := 232) rfl)) rfl
set_option maxRecDepth 20000 in
theorem cb_XT_ask : CSb y_XT_ask b_XT_ask 5 none 4 := ⟨aw_in (tb_1 (List.mem_of_getElem? (i := 8) rfl)) rfl, aw_in (tb_2 (List.mem_of_getElem? (i := 156) rfl)) rfl, by decide, by decide, by decide +kernel⟩
set_option maxRecDepth 20000 in
theorem cs_XT_ask : CSv y_XT_ask := ⟨aw_in (tb_2 (List.mem_of_getElem? (i := 155) rfl)) rfl, aw_in (List.mem_append_left _ (List.mem_of_getElem? (i := 27) rfl)) rfl⟩
end
section
-- ===== the reference's methods as functions of its heap =====
-- cell 1 is its object (slots: 0 size, 1 stable, 19 clock, 20 ins, 21 outs, 22 begun, 32 down, 33 crashes, 34 phase, 35 next);
-- arrays: 2 kind, 3 who, 4 spot, 5 oldKey, 6 oldValue, 7 newKey, 8 newValue, 9 back, 10 named, 11 diskKey, 12 diskValue, 13 diskLsn, 14 poolKey, 15 poolValue, 16 poolLsn, 17 rec, 18 fetched,
-- 19 state, 20 outcome, 21 value, 22 wantKey, 23 want, 24 wantValue, 25 made, 26 lock, 27 reach, 28 table
def b2i (b : Bool) : Int := if b = true then 1 else 0
def srch (p : Int → Bool) (x : Int) : Nat → Int
  | 0 => -1
  | k + 1 => if p x = true then x else srch p (x + 1) k
def srchD (p : Int → Bool) : Nat → Int
  | 0 => 0
  | k + 1 => if p ((k : Int) + 1) = true then (k : Int) + 1 else srchD p k
def anyU (p : Int → Bool) (x : Int) : Nat → Bool
  | 0 => false
  | k + 1 => p x || anyU p (x + 1) k
def cntU (p : Int → Bool) : Nat → Int
  | 0 => 0
  | k + 1 => cntU p k + b2i (p ((k : Int) + 1))
def m_keyAt (τ : Hp) (x : Int) : Int := if 0 < τ 18 (x / 4) then τ 14 x else τ 11 x
def m_valueAt (τ : Hp) (x : Int) : Int := if 0 < τ 18 (x / 4) then τ 15 x else τ 12 x
def m_find (τ : Hp) (key : Int) : Int := srch (fun x => decide (m_keyAt τ x = key)) 0 24
/-- the copy of a page's four places, from arrays f, f + 1 to arrays t, t + 1, as far as place x -/
def m_cp (τ : Hp) (f t g x : Int) : Hp := fun a b => if 4 * g ≤ b ∧ b < x then (if a = t then τ f b else if a = t + 1 then τ (f + 1) b else τ a b) else τ a b
def m_spill (τ : Hp) (g : Int) : Hp :=
  let τ1 := st2 τ 1 1 (if τ 1 1 < τ 16 g then τ 16 g else τ 1 1)
  let τ2 := m_cp τ1 14 11 g (4 * g + 4)
  let τ3 := st2 τ2 13 g (τ2 16 g)
  let τ4 := st2 τ3 17 g 0
  st2 τ4 1 21 (τ4 1 21 + 1)
def m_scan (τ : Hp) : Nat → Int × Int
  | 0 => (0, -1)
  | k + 1 => ((m_scan τ k).1 + (if 0 < τ 18 (k : Int) then 1 else 0), if 0 < τ 18 (k : Int) ∧ ((m_scan τ k).2 < 0 ∨ τ 18 (k : Int) < τ 18 (m_scan τ k).2) then (k : Int) else (m_scan τ k).2)
def m_evict (τ : Hp) : Hp :=
  if (m_scan τ 6).1 = 3 then
    let o := (m_scan τ 6).2
    let τ1 := if 0 < τ 17 o then m_spill τ o else τ
    st2 τ1 18 o 0
  else τ
def m_load (τ : Hp) (g : Int) : Hp :=
  let τ2 := m_cp τ 11 14 g (4 * g + 4)
  let τ3 := st2 τ2 16 g (τ2 13 g)
  let τ4 := st2 τ3 17 g 0
  st2 τ4 1 20 (τ4 1 20 + 1)
def m_fetch (τ : Hp) (g : Int) : Hp :=
  let τ0 := st2 τ 1 19 (τ 1 19 + 1)
  let τ1 := if τ0 18 g = 0 then m_load (m_evict τ0) g else τ0
  st2 τ1 18 g (τ1 1 19)
def m_apply (τ : Hp) (r : Int) : Hp :=
  let x := τ 4 r
  let g := x / 4
  let τ1 := st2 τ 14 x (τ 7 r)
  let τ2 := st2 τ1 15 x (τ1 8 r)
  let τ3 := st2 τ2 16 g r
  st2 τ3 17 g (if τ3 17 g = 0 then r else τ3 17 g)
def m_put (τ : Hp) (k t x : Int) : Hp :=
  let τ1 := st2 τ 1 0 (τ 1 0 + 1)
  let τ2 := st2 τ1 2 (τ1 1 0) k
  let τ3 := st2 τ2 3 (τ2 1 0) t
  st2 τ3 4 (τ3 1 0) x
def m_countOf (τ : Hp) (k : Int) : Int := cntU (fun i => decide (τ 2 i = k)) (τ 1 0).toNat
def m_committed (τ : Hp) (t : Int) : Bool := anyU (fun i => decide (τ 2 i = 3) && decide (τ 3 i = t)) 1 (τ 1 0).toNat
def m_taken (τ : Hp) (i : Int) : Bool := anyU (fun j => decide (τ 2 j = 2) && decide (τ 9 j = i)) (i + 1) (τ 1 0 - i).toNat
def m_good (τ : Hp) (t i : Int) : Bool := decide (τ 2 i = 1) && (decide (t = 0) || decide (τ 3 i = t)) && !m_committed τ (τ 3 i) && !m_taken τ i
def m_open (τ : Hp) (t : Int) : Int := srchD (m_good τ t) (τ 1 0).toNat
def m_takeBack (τ : Hp) (r : Int) : Hp :=
  let τ1 := m_fetch τ (τ 4 r / 4)
  let τ2 := m_put τ1 2 (τ1 3 r) (τ1 4 r)
  let q := τ2 1 0
  let τ3 := st2 τ2 9 q r
  let τ4 := st2 τ3 7 q (τ3 5 r)
  let τ5 := st2 τ4 8 q (τ4 6 r)
  m_apply τ5 q
def m_live (τ : Hp) (t : Int) : Bool := decide (1 ≤ τ 19 t) && decide (τ 19 t ≤ 3)
def m_unlock (τ : Hp) (t k : Int) : Hp := fun a b => if a = 26 ∧ 100 * t ≤ b ∧ b < 100 * t + k then 0 else τ a b
def m_lk (τ : Hp) (t key : Int) : Int := τ 26 (100 * t + key)
def m_conflicts (τ : Hp) (t u : Int) : Bool := decide (¬ u = t) && decide (0 < m_lk τ u (τ 22 t)) && (decide (m_lk τ u (τ 22 t) = 2) || decide (τ 23 t = 2))
def m_ahead (τ : Hp) (t u : Int) : Bool := decide (¬ u = t) && decide (τ 19 u = 2) && decide (τ 22 u = τ 22 t) && decide (τ 25 u < τ 25 t)
def m_waitsFor (τ : Hp) (t u : Int) : Bool := decide (τ 19 t = 2) && (m_conflicts τ t u || (decide (m_lk τ t (τ 22 t) = 0) && m_ahead τ t u))
def m_fit (τ : Hp) (t : Int) : Bool := decide (τ 23 t ≤ m_lk τ t (τ 22 t)) || !anyU (fun u => m_conflicts τ t u || (decide (m_lk τ t (τ 22 t) = 0) && m_ahead τ t u)) 1 (τ 1 22).toNat
def m_reachN (τ : Hp) (t : Int) : Nat → Int → Prop
  | 0, v => m_waitsFor τ t v = true
  | k + 1, v => m_reachN τ t k v ∨ ∃ u : Int, 1 ≤ u ∧ u ≤ τ 1 22 ∧ m_reachN τ t k u ∧ m_waitsFor τ u v = true
def m_lock (τ : Hp) (t : Int) : Hp :=
  let τ1 := if m_lk τ t (τ 22 t) < τ 23 t then st2 τ 26 (100 * t + τ 22 t) (τ 23 t) else τ
  st2 (st2 τ1 19 t 1) 20 t 0
def m_readFor (τ : Hp) (t : Int) : Hp :=
  let x := m_find τ (τ 22 t)
  if 0 ≤ x then
    let τ1 := m_fetch τ (x / 4)
    st2 τ1 21 t (τ1 15 x)
  else st2 τ 21 t 0
def m_upd (τ : Hp) (t x : Int) : Hp :=
  let τ1 := m_fetch τ (x / 4)
  let τ2 := m_put τ1 1 t x
  let r := τ2 1 0
  let τ3 := st2 τ2 5 r (τ2 14 x)
  let τ4 := st2 τ3 6 r (τ3 15 x)
  let τ5 := st2 τ4 7 r (τ 22 t)
  let τ6 := st2 τ5 8 r (τ5 24 t)
  m_apply τ6 r
def m_target (τ : Hp) (t : Int) : Int := if m_find τ (τ 22 t) < 0 then m_find τ (-1) else m_find τ (τ 22 t)
def m_writeFor (τ : Hp) (t : Int) : Hp :=
  let x := m_target τ t
  if x < 0 ∨ 60 ≤ m_countOf τ 1 then st2 τ 20 t 3 else m_upd τ t x
def m_grant (τ : Hp) (t : Int) : Hp :=
  let τ1 := m_lock τ t
  if τ1 23 t = 1 then m_readFor τ1 t else m_writeFor τ1 t
def m_dropL (τ : Hp) (t : Int) : Nat → Hp
  | 0 => τ
  | k + 1 => if 0 < m_open τ t then m_dropL (m_takeBack τ (m_open τ t)) t k else τ
def m_drop (τ : Hp) (t : Int) : Hp := m_unlock (st2 (m_dropL τ t 60) 19 t 5) t 100
def m_firm (τ : Hp) : Int :=
  let i := srch (fun i => decide (τ 2 i = 3) && decide (τ 19 (τ 3 i) = 3)) 1 (τ 1 1).toNat
  if i < 0 then 0 else τ 3 i
def m_ff (τ : Hp) : Nat → Int
  | 0 => 0
  | k + 1 => if τ 19 ((k : Int) + 1) = 2 ∧ (m_ff τ k = 0 ∨ τ 25 ((k : Int) + 1) < τ 25 (m_ff τ k)) ∧ m_fit τ ((k : Int) + 1) = true then (k : Int) + 1 else m_ff τ k
def m_firstFit (τ : Hp) : Int := m_ff τ (τ 1 22).toNat
def m_settleL (τ : Hp) : Nat → Hp
  | 0 => τ
  | k + 1 => if 0 < m_firm τ then m_settleL (m_unlock (st2 τ 19 (m_firm τ) 4) (m_firm τ) 100) k else if 0 < m_firstFit τ then m_settleL (m_grant τ (m_firstFit τ)) k else τ
def m_settle (τ : Hp) : Hp := m_settleL τ 1000
def m_isIn (τ : Hp) (t s : Int) : Bool := decide (τ 1 32 = 0) && decide (1 ≤ t) && decide (t ≤ τ 1 22) && decide (τ 19 t = s)
-- the public calls: what they answer, and the heap behind them
def m_begin (τ : Hp) : Int × Hp :=
  if ¬ τ 1 32 = 0 ∨ 4 ≤ cntU (m_live τ) (τ 1 22).toNat ∨ 60 ≤ τ 1 22 then (-1, τ) else
    let τ1 := st2 τ 1 22 (τ 1 22 + 1)
    let τ2 := st2 τ1 19 (τ1 1 22) 1
    let τ3 := st2 τ2 20 (τ2 1 22) (-1)
    (τ3 1 22, τ3)
def m_ask (τ : Hp) (t key what v : Int) : Hp :=
  let τ1 := st2 τ 1 19 (τ 1 19 + 1)
  let τ2 := st2 τ1 22 t key
  let τ3 := st2 τ2 23 t what
  let τ4 := st2 τ3 24 t v
  st2 τ4 25 t (τ4 1 19)
def m_wait (τ : Hp) (t : Int) : Hp := st2 (st2 τ 19 t 2) 20 t 1
def m_crash (τ : Hp) (k : Int) : Hp :=
  let τ1 := st2 τ 1 33 (τ 1 33 + 1)
  let τ2 := st2 τ1 1 1 (if τ1 1 0 - τ1 1 1 < k then τ1 1 0 else τ1 1 1 + k)
  let τ3 := st2 τ2 1 0 (τ2 1 1)
  let τ4 := st2 τ3 1 32 1
  let τ5 := st2 τ4 1 34 0
  fun a b => if (a = 17 ∨ a = 18) ∧ 0 ≤ b ∧ b < 6 then 0
    else if a = 19 ∧ 1 ≤ b ∧ b ≤ τ 1 22 ∧ m_live τ b = true then 6
    else if a = 26 ∧ 1 ≤ b / 100 ∧ b / 100 ≤ τ 1 22 ∧ m_live τ (b / 100) = true then 0
    else τ5 a b
def m_commit (τ : Hp) (t : Int) : Hp := m_settle (st2 (m_put τ 3 t 0) 19 t 3)
def m_checkpoint (τ : Hp) : Hp :=
  let τ1 := m_put τ 4 0 0
  let r := τ1 1 0
  m_settle (fun a b => if a = 10 ∧ 6 * r ≤ b ∧ b < 6 * r + 6 then (if 0 < τ1 18 (b - 6 * r) then τ1 17 (b - 6 * r) else 0) else τ1 a b)
def m_after (τ : Hp) (key : Int) : Int := srch (fun k => decide (0 ≤ m_find τ k)) (if key < 0 then 0 else if 99 ≤ key then 100 else key + 1) (if key < 0 then 100 else if 99 ≤ key then 0 else (99 - key).toNat)
-- ===== searching and counting =====
theorem b2i_b (b : Bool) : b2i b = 0 ∨ b2i b = 1 := by cases b <;> simp [b2i]
theorem srch_spec (p : Int → Bool) : ∀ (k : Nat) (x : Int), (srch p x k = -1 ∧ ∀ y, x ≤ y → y < x + k → p y = false) ∨ (x ≤ srch p x k ∧ srch p x k < x + k ∧ p (srch p x k) = true ∧ ∀ y, x ≤ y → y < srch p x k → p y = false)
  | 0, x => Or.inl ⟨rfl, fun y h1 h2 => by omega⟩
  | k + 1, x => by
    unfold srch
    by_cases h : p x = true
    · rw [if_pos h]
      exact Or.inr ⟨by omega, by omega, h, fun y h1 h2 => by omega⟩
    · rw [if_neg h]
      have hx : p x = false := by simpa using h
      rcases srch_spec p k (x + 1) with ⟨h1, h2⟩ | ⟨h1, h2, h3, h4⟩
      · refine Or.inl ⟨h1, fun y h3 h4 => ?_⟩
        by_cases hy : y = x
        · rw [hy]; exact hx
        · exact h2 y (by omega) (by omega)
      · refine Or.inr ⟨by omega, by omega, h3, fun y h5 h6 => ?_⟩
        by_cases hy : y = x
        · rw [hy]; exact hx
        · exact h4 y (by omega) (by omega)
theorem srchD_spec (p : Int → Bool) : ∀ k : Nat, (srchD p k = 0 ∧ ∀ y, 1 ≤ y → y ≤ (k : Int) → p y = false) ∨ (1 ≤ srchD p k ∧ srchD p k ≤ (k : Int) ∧ p (srchD p k) = true ∧ ∀ y, srchD p k < y → y ≤ (k : Int) → p y = false)
  | 0 => Or.inl ⟨rfl, fun y h1 h2 => by omega⟩
  | k + 1 => by
    unfold srchD
    by_cases h : p ((k : Int) + 1) = true
    · rw [if_pos h]
      exact Or.inr ⟨by omega, by omega, h, fun y h1 h2 => by omega⟩
    · rw [if_neg h]
      have hx : p ((k : Int) + 1) = false := by simpa using h
      rcases srchD_spec p k with ⟨h1, h2⟩ | ⟨h1, h2, h3, h4⟩
      · refine Or.inl ⟨h1, fun y h3 h4 => ?_⟩
        by_cases hy : y = (k : Int) + 1
        · rw [hy]; exact hx
        · exact h2 y (by omega) (by omega)
      · refine Or.inr ⟨by omega, by omega, h3, fun y h5 h6 => ?_⟩
        by_cases hy : y = (k : Int) + 1
        · rw [hy]; exact hx
        · exact h4 y (by omega) (by omega)
theorem anyU_iff (p : Int → Bool) : ∀ (k : Nat) (x : Int), anyU p x k = true ↔ ∃ y, x ≤ y ∧ y < x + k ∧ p y = true
  | 0, x => by
    constructor
    · intro h; cases h
    · rintro ⟨y, h1, h2, -⟩; omega
  | k + 1, x => by
    unfold anyU
    rw [Bool.or_eq_true, anyU_iff p k (x + 1)]
    constructor
    · rintro (h | ⟨y, h1, h2, h3⟩)
      · exact ⟨x, by omega, by omega, h⟩
      · exact ⟨y, by omega, by omega, h3⟩
    · rintro ⟨y, h1, h2, h3⟩
      by_cases hy : y = x
      · left; rw [← hy]; exact h3
      · right; exact ⟨y, by omega, by omega, h3⟩
theorem anyU_false {p : Int → Bool} {k : Nat} {x : Int} : anyU p x k = false ↔ ∀ y, x ≤ y → y < x + k → p y = false := by
  constructor
  · intro h y h1 h2
    cases hp : p y with
    | false => rfl
    | true =>
      have := (anyU_iff p k x).mpr ⟨y, h1, h2, hp⟩
      rw [h] at this; cases this
  · intro h
    cases ha : anyU p x k with
    | false => rfl
    | true =>
      obtain ⟨y, h1, h2, h3⟩ := (anyU_iff p k x).mp ha
      rw [h y h1 h2] at h3; cases h3
theorem cntU_le (p : Int → Bool) : ∀ k : Nat, 0 ≤ cntU p k ∧ cntU p k ≤ (k : Int)
  | 0 => ⟨Int.le_refl 0, Int.le_refl 0⟩
  | k + 1 => by
    have h := cntU_le p k
    have h2 := b2i_b (p ((k : Int) + 1))
    unfold cntU
    omega
theorem cntU_congr {p q : Int → Bool} : ∀ k : Nat, (∀ i, 1 ≤ i → i ≤ (k : Int) → p i = q i) → cntU p k = cntU q k
  | 0, _ => rfl
  | k + 1, h => by
    unfold cntU
    rw [cntU_congr k (fun i h1 h2 => h i h1 (by omega)), h ((k : Int) + 1) (by omega) (by omega)]
theorem cntU_rm {q q' : Int → Bool} {t : Int} (hq : q t = true) (hq' : q' t = false) (ho : ∀ i, i ≠ t → q' i = q i) (h1 : 1 ≤ t) : ∀ N : Nat, t ≤ (N : Int) → cntU q' N = cntU q N - 1
  | 0, h => by omega
  | N + 1, h => by
    unfold cntU
    by_cases ht : t = (N : Int) + 1
    · rw [cntU_congr (p := q') (q := q) N (fun i _ h3 => ho i (by omega)), ← ht, hq, hq']
      simp [b2i]
    · rw [cntU_rm hq hq' ho h1 N (by omega), ho ((N : Int) + 1) (by omega)]
      omega
theorem cntU_inj (f : Int → Int) {N : Nat} : ∀ (p : Nat) (P Q : Int → Bool), (∀ i, 1 ≤ i → i ≤ (p : Int) → P i = true → 1 ≤ f i ∧ f i ≤ (N : Int) ∧ Q (f i) = true) → (∀ i j, 1 ≤ i → i ≤ (p : Int) → 1 ≤ j → j ≤ (p : Int) → P i = true → P j = true → f i = f j → i = j) → cntU P p ≤ cntU Q N
  | 0, P, Q, _, _ => (cntU_le Q N).1
  | p + 1, P, Q, h, hi => by
    rw [show cntU P (p + 1) = cntU P p + b2i (P ((p : Int) + 1)) from rfl]
    cases hp : P ((p : Int) + 1) with
    | false =>
      have := cntU_inj f p P Q (fun i h1 h2 h3 => h i h1 (by omega) h3) (fun i j a1 a2 a3 a4 => hi i j a1 (by omega) a3 (by omega))
      simp [b2i]; omega
    | true =>
      obtain ⟨g1, g2, g3⟩ := h ((p : Int) + 1) (by omega) (by omega) hp
      have h4 := cntU_rm (q := Q) (q' := fun i => Q i && !decide (i = f ((p : Int) + 1))) (t := f ((p : Int) + 1)) g3 (by simp) (fun i hne => by simp [hne]) g1 N g2
      have h5 := cntU_inj f p P (fun i => Q i && !decide (i = f ((p : Int) + 1))) (fun i h1 h2 h3 => by
        obtain ⟨k1, k2, k3⟩ := h i h1 (by omega) h3
        refine ⟨k1, k2, ?_⟩
        have hne : ¬ f i = f ((p : Int) + 1) := fun e => by
          have := hi i ((p : Int) + 1) h1 (by omega) (by omega) (by omega) h3 hp e
          omega
        simp [k3, hne]) (fun i j a1 a2 a3 a4 => hi i j a1 (by omega) a3 (by omega))
      simp [b2i]; omega
theorem cntU_four {f : Int → Int} : ∀ p : Nat, (∀ i, 1 ≤ i → i ≤ (p : Int) → 1 ≤ f i ∧ f i ≤ 4) → (p : Int) = cntU (fun i => decide (f i = 1)) p + cntU (fun i => decide (f i = 2)) p + cntU (fun i => decide (f i = 3)) p + cntU (fun i => decide (f i = 4)) p
  | 0, _ => rfl
  | p + 1, h => by
    have h1 := cntU_four p (fun i a b => h i a (by omega))
    have h2 := h ((p : Int) + 1) (by omega) (by omega)
    unfold cntU
    have h3 : f ((p : Int) + 1) = 1 ∨ f ((p : Int) + 1) = 2 ∨ f ((p : Int) + 1) = 3 ∨ f ((p : Int) + 1) = 4 := by omega
    rcases h3 with h3 | h3 | h3 | h3 <;> simp [h3, b2i] <;> omega
end
section
-- ===== the reference's cells =====
def LyMt : List LK := [.inl (7, k_M), .inr (0, 204), .inr (0, 204), .inr (0, 204), .inr (0, 204), .inr (0, 204), .inr (0, 204), .inr (0, 204), .inr (0, 204), .inr (0, 1224), .inr (0, 24), .inr (0, 24), .inr (0, 6), .inr (0, 24), .inr (0, 24), .inr (0, 6), .inr (0, 6), .inr (0, 6), .inr (0, 61), .inr (0, 61), .inr (0, 61), .inr (0, 61), .inr (0, 61), .inr (0, 61), .inr (0, 61), .inr (1, 6100), .inr (2, 61), .inr (0, 6)]
def LyM (v : Int) : LK := (LyMt[(v - 1).toNat]?).getD (.inr (0, 0))
def TM (v i : Int) : Option Int := if v = 1 then (if 2 ≤ i ∧ i ≤ 18 then some i else if 23 ≤ i ∧ i ≤ 31 then some (i - 4) else if i = 36 then some 28 else none) else none
def pI (n : Nat) (σ : Hp) (x : Int) : Option AV → Nat → Hp → Prop := fun r n' σ' => r = some (.inl x) ∧ n' = n ∧ σ = σ'
def pV (n : Nat) (σ : Hp) : Option AV → Nat → Hp → Prop := fun r n' σ' => r = none ∧ n' = n ∧ σ = σ'
section PX
variable {Ly : Int → LK} {T : Int → Int → Option Int} {K : XK} {cc : ByteArray} {mc ms : Nat} {Post : Option AV → Nat → Hp → Prop} {pc n : Nat} {σ : Hp} {bc bs : Nat} {lv : List (Option AV)} {r : Int}
theorem x_iret (rt : RetK Ly T K cc (some .int) mc ms Post) (hd : decode cc pc = .ok (.ireturn, 1)) (h1 : bc ≤ mc) (h2 : bs ≤ ms) (hp : Post (some (.inl r)) n σ) : XW Ly T K n σ bc bs pc lv [.inl r] := rt.1 pc n σ bc bs lv r (Or.inl rfl) hd h1 h2 hp
theorem x_zret (rt : RetK Ly T K cc (some .boolean) mc ms Post) (hd : decode cc pc = .ok (.ireturn, 1)) (h1 : bc ≤ mc) (h2 : bs ≤ ms) (r0 : 0 ≤ r ∧ r ≤ 1) (hp : Post (some (.inl r)) n σ) : XW Ly T K n σ bc bs pc lv [.inl r] := rt.1 pc n σ bc bs lv r (Or.inr ⟨rfl, r0.1, r0.2⟩) hd h1 h2 hp
theorem x_vret (rt : RetK Ly T K cc none mc ms Post) (hd : decode cc pc = .ok (.return_, 1)) (h1 : bc ≤ mc) (h2 : bs ≤ ms) (hp : Post none n σ) : XW Ly T K n σ bc bs pc lv [] := rt.2.1 pc n σ bc bs lv rfl hd h1 h2 hp
theorem x_aret {nm : String} (rt : RetK Ly T K cc (some (.object nm)) mc ms Post) (hd : decode cc pc = .ok (.areturn, 1)) (h1 : bc ≤ mc) (h2 : bs ≤ ms) (hp : Post (some (.inr r)) n σ) : XW Ly T K n σ bc bs pc lv [.inr r] := rt.2.2 pc n σ bc bs lv r nm rfl hd h1 h2 hp
theorem x_zc (h : XW Ly T K n σ bc bs pc lv [.inl r]) {r' : Int} (e : r' = r) : XW Ly T K n σ bc bs pc lv [.inl r'] := e ▸ h
end PX
end
section
theorem d_M_init_0 : decode b_M_init 0 = .ok (.aload_n 0, 1) := by decide +kernel
theorem d_M_init_1 : decode b_M_init 1 = .ok (.invokespecial 1, 3) := by decide +kernel
theorem d_M_init_4 : decode b_M_init 4 = .ok (.aload_n 0, 1) := by decide +kernel
theorem d_M_init_5 : decode b_M_init 5 = .ok (.sipush 204, 3) := by decide +kernel
theorem d_M_init_8 : decode b_M_init 8 = .ok (.newarray .int, 2) := by decide +kernel
theorem d_M_init_10 : decode b_M_init 10 = .ok (.putfield 7, 3) := by decide +kernel
theorem d_M_init_13 : decode b_M_init 13 = .ok (.aload_n 0, 1) := by decide +kernel
theorem d_M_init_14 : decode b_M_init 14 = .ok (.sipush 204, 3) := by decide +kernel
theorem d_M_init_17 : decode b_M_init 17 = .ok (.newarray .int, 2) := by decide +kernel
theorem d_M_init_19 : decode b_M_init 19 = .ok (.putfield 13, 3) := by decide +kernel
theorem d_M_init_22 : decode b_M_init 22 = .ok (.aload_n 0, 1) := by decide +kernel
theorem d_M_init_23 : decode b_M_init 23 = .ok (.sipush 204, 3) := by decide +kernel
theorem d_M_init_26 : decode b_M_init 26 = .ok (.newarray .int, 2) := by decide +kernel
theorem d_M_init_28 : decode b_M_init 28 = .ok (.putfield 16, 3) := by decide +kernel
theorem d_M_init_31 : decode b_M_init 31 = .ok (.aload_n 0, 1) := by decide +kernel
theorem d_M_init_32 : decode b_M_init 32 = .ok (.sipush 204, 3) := by decide +kernel
theorem d_M_init_35 : decode b_M_init 35 = .ok (.newarray .int, 2) := by decide +kernel
theorem d_M_init_37 : decode b_M_init 37 = .ok (.putfield 19, 3) := by decide +kernel
theorem d_M_init_40 : decode b_M_init 40 = .ok (.aload_n 0, 1) := by decide +kernel
theorem d_M_init_41 : decode b_M_init 41 = .ok (.sipush 204, 3) := by decide +kernel
theorem d_M_init_44 : decode b_M_init 44 = .ok (.newarray .int, 2) := by decide +kernel
theorem d_M_init_46 : decode b_M_init 46 = .ok (.putfield 22, 3) := by decide +kernel
theorem d_M_init_49 : decode b_M_init 49 = .ok (.aload_n 0, 1) := by decide +kernel
theorem d_M_init_50 : decode b_M_init 50 = .ok (.sipush 204, 3) := by decide +kernel
theorem d_M_init_53 : decode b_M_init 53 = .ok (.newarray .int, 2) := by decide +kernel
theorem d_M_init_55 : decode b_M_init 55 = .ok (.putfield 25, 3) := by decide +kernel
theorem d_M_init_58 : decode b_M_init 58 = .ok (.aload_n 0, 1) := by decide +kernel
theorem d_M_init_59 : decode b_M_init 59 = .ok (.sipush 204, 3) := by decide +kernel
theorem d_M_init_62 : decode b_M_init 62 = .ok (.newarray .int, 2) := by decide +kernel
theorem d_M_init_64 : decode b_M_init 64 = .ok (.putfield 28, 3) := by decide +kernel
theorem d_M_init_67 : decode b_M_init 67 = .ok (.aload_n 0, 1) := by decide +kernel
theorem d_M_init_68 : decode b_M_init 68 = .ok (.sipush 204, 3) := by decide +kernel
theorem d_M_init_71 : decode b_M_init 71 = .ok (.newarray .int, 2) := by decide +kernel
theorem d_M_init_73 : decode b_M_init 73 = .ok (.putfield 31, 3) := by decide +kernel
theorem d_M_init_76 : decode b_M_init 76 = .ok (.aload_n 0, 1) := by decide +kernel
theorem d_M_init_77 : decode b_M_init 77 = .ok (.sipush 1224, 3) := by decide +kernel
theorem d_M_init_80 : decode b_M_init 80 = .ok (.newarray .int, 2) := by decide +kernel
theorem d_M_init_82 : decode b_M_init 82 = .ok (.putfield 34, 3) := by decide +kernel
theorem d_M_init_85 : decode b_M_init 85 = .ok (.aload_n 0, 1) := by decide +kernel
theorem d_M_init_86 : decode b_M_init 86 = .ok (.bipush 24, 2) := by decide +kernel
theorem d_M_init_88 : decode b_M_init 88 = .ok (.newarray .int, 2) := by decide +kernel
theorem d_M_init_90 : decode b_M_init 90 = .ok (.putfield 37, 3) := by decide +kernel
theorem d_M_init_93 : decode b_M_init 93 = .ok (.aload_n 0, 1) := by decide +kernel
theorem d_M_init_94 : decode b_M_init 94 = .ok (.bipush 24, 2) := by decide +kernel
theorem d_M_init_96 : decode b_M_init 96 = .ok (.newarray .int, 2) := by decide +kernel
theorem d_M_init_98 : decode b_M_init 98 = .ok (.putfield 40, 3) := by decide +kernel
theorem d_M_init_101 : decode b_M_init 101 = .ok (.aload_n 0, 1) := by decide +kernel
theorem d_M_init_102 : decode b_M_init 102 = .ok (.bipush 6, 2) := by decide +kernel
theorem d_M_init_104 : decode b_M_init 104 = .ok (.newarray .int, 2) := by decide +kernel
theorem d_M_init_106 : decode b_M_init 106 = .ok (.putfield 43, 3) := by decide +kernel
theorem d_M_init_109 : decode b_M_init 109 = .ok (.aload_n 0, 1) := by decide +kernel
theorem d_M_init_110 : decode b_M_init 110 = .ok (.bipush 24, 2) := by decide +kernel
theorem d_M_init_112 : decode b_M_init 112 = .ok (.newarray .int, 2) := by decide +kernel
theorem d_M_init_114 : decode b_M_init 114 = .ok (.putfield 46, 3) := by decide +kernel
theorem d_M_init_117 : decode b_M_init 117 = .ok (.aload_n 0, 1) := by decide +kernel
theorem d_M_init_118 : decode b_M_init 118 = .ok (.bipush 24, 2) := by decide +kernel
theorem d_M_init_120 : decode b_M_init 120 = .ok (.newarray .int, 2) := by decide +kernel
theorem d_M_init_122 : decode b_M_init 122 = .ok (.putfield 49, 3) := by decide +kernel
theorem d_M_init_125 : decode b_M_init 125 = .ok (.aload_n 0, 1) := by decide +kernel
theorem d_M_init_126 : decode b_M_init 126 = .ok (.bipush 6, 2) := by decide +kernel
theorem d_M_init_128 : decode b_M_init 128 = .ok (.newarray .int, 2) := by decide +kernel
theorem d_M_init_130 : decode b_M_init 130 = .ok (.putfield 52, 3) := by decide +kernel
theorem d_M_init_133 : decode b_M_init 133 = .ok (.aload_n 0, 1) := by decide +kernel
theorem d_M_init_134 : decode b_M_init 134 = .ok (.bipush 6, 2) := by decide +kernel
theorem d_M_init_136 : decode b_M_init 136 = .ok (.newarray .int, 2) := by decide +kernel
theorem d_M_init_138 : decode b_M_init 138 = .ok (.putfield 55, 3) := by decide +kernel
theorem d_M_init_141 : decode b_M_init 141 = .ok (.aload_n 0, 1) := by decide +kernel
theorem d_M_init_142 : decode b_M_init 142 = .ok (.bipush 6, 2) := by decide +kernel
theorem d_M_init_144 : decode b_M_init 144 = .ok (.newarray .int, 2) := by decide +kernel
theorem d_M_init_146 : decode b_M_init 146 = .ok (.putfield 58, 3) := by decide +kernel
theorem d_M_init_149 : decode b_M_init 149 = .ok (.aload_n 0, 1) := by decide +kernel
theorem d_M_init_150 : decode b_M_init 150 = .ok (.bipush 61, 2) := by decide +kernel
theorem d_M_init_152 : decode b_M_init 152 = .ok (.newarray .int, 2) := by decide +kernel
theorem d_M_init_154 : decode b_M_init 154 = .ok (.putfield 61, 3) := by decide +kernel
theorem d_M_init_157 : decode b_M_init 157 = .ok (.aload_n 0, 1) := by decide +kernel
theorem d_M_init_158 : decode b_M_init 158 = .ok (.bipush 61, 2) := by decide +kernel
theorem d_M_init_160 : decode b_M_init 160 = .ok (.newarray .int, 2) := by decide +kernel
theorem d_M_init_162 : decode b_M_init 162 = .ok (.putfield 64, 3) := by decide +kernel
theorem d_M_init_165 : decode b_M_init 165 = .ok (.aload_n 0, 1) := by decide +kernel
theorem d_M_init_166 : decode b_M_init 166 = .ok (.bipush 61, 2) := by decide +kernel
theorem d_M_init_168 : decode b_M_init 168 = .ok (.newarray .int, 2) := by decide +kernel
theorem d_M_init_170 : decode b_M_init 170 = .ok (.putfield 67, 3) := by decide +kernel
theorem d_M_init_173 : decode b_M_init 173 = .ok (.aload_n 0, 1) := by decide +kernel
theorem d_M_init_174 : decode b_M_init 174 = .ok (.bipush 61, 2) := by decide +kernel
theorem d_M_init_176 : decode b_M_init 176 = .ok (.newarray .int, 2) := by decide +kernel
theorem d_M_init_178 : decode b_M_init 178 = .ok (.putfield 70, 3) := by decide +kernel
theorem d_M_init_181 : decode b_M_init 181 = .ok (.aload_n 0, 1) := by decide +kernel
theorem d_M_init_182 : decode b_M_init 182 = .ok (.bipush 61, 2) := by decide +kernel
theorem d_M_init_184 : decode b_M_init 184 = .ok (.newarray .int, 2) := by decide +kernel
theorem d_M_init_186 : decode b_M_init 186 = .ok (.putfield 73, 3) := by decide +kernel
theorem d_M_init_189 : decode b_M_init 189 = .ok (.aload_n 0, 1) := by decide +kernel
theorem d_M_init_190 : decode b_M_init 190 = .ok (.bipush 61, 2) := by decide +kernel
theorem d_M_init_192 : decode b_M_init 192 = .ok (.newarray .int, 2) := by decide +kernel
theorem d_M_init_194 : decode b_M_init 194 = .ok (.putfield 76, 3) := by decide +kernel
theorem d_M_init_197 : decode b_M_init 197 = .ok (.aload_n 0, 1) := by decide +kernel
theorem d_M_init_198 : decode b_M_init 198 = .ok (.bipush 61, 2) := by decide +kernel
theorem d_M_init_200 : decode b_M_init 200 = .ok (.newarray .int, 2) := by decide +kernel
theorem d_M_init_202 : decode b_M_init 202 = .ok (.putfield 79, 3) := by decide +kernel
theorem d_M_init_205 : decode b_M_init 205 = .ok (.aload_n 0, 1) := by decide +kernel
theorem d_M_init_206 : decode b_M_init 206 = .ok (.sipush 6100, 3) := by decide +kernel
theorem d_M_init_209 : decode b_M_init 209 = .ok (.newarray .byte, 2) := by decide +kernel
theorem d_M_init_211 : decode b_M_init 211 = .ok (.putfield 82, 3) := by decide +kernel
theorem d_M_init_214 : decode b_M_init 214 = .ok (.aload_n 0, 1) := by decide +kernel
theorem d_M_init_215 : decode b_M_init 215 = .ok (.bipush 61, 2) := by decide +kernel
theorem d_M_init_217 : decode b_M_init 217 = .ok (.newarray .boolean, 2) := by decide +kernel
theorem d_M_init_219 : decode b_M_init 219 = .ok (.putfield 86, 3) := by decide +kernel
theorem d_M_init_222 : decode b_M_init 222 = .ok (.aload_n 0, 1) := by decide +kernel
theorem d_M_init_223 : decode b_M_init 223 = .ok (.bipush 6, 2) := by decide +kernel
theorem d_M_init_225 : decode b_M_init 225 = .ok (.newarray .int, 2) := by decide +kernel
theorem d_M_init_227 : decode b_M_init 227 = .ok (.putfield 90, 3) := by decide +kernel
theorem d_M_init_230 : decode b_M_init 230 = .ok (.iconst 0, 1) := by decide +kernel
theorem d_M_init_231 : decode b_M_init 231 = .ok (.istore_n 1, 1) := by decide +kernel
theorem d_M_init_232 : decode b_M_init 232 = .ok (.iload_n 1, 1) := by decide +kernel
theorem d_M_init_233 : decode b_M_init 233 = .ok (.bipush 24, 2) := by decide +kernel
theorem d_M_init_235 : decode b_M_init 235 = .ok (.if_icmp .ge 16, 3) := by decide +kernel
theorem d_M_init_238 : decode b_M_init 238 = .ok (.aload_n 0, 1) := by decide +kernel
theorem d_M_init_239 : decode b_M_init 239 = .ok (.getfield 37, 3) := by decide +kernel
theorem d_M_init_242 : decode b_M_init 242 = .ok (.iload_n 1, 1) := by decide +kernel
theorem d_M_init_243 : decode b_M_init 243 = .ok (.iconst (-1), 1) := by decide +kernel
theorem d_M_init_244 : decode b_M_init 244 = .ok (.iastore, 1) := by decide +kernel
theorem d_M_init_245 : decode b_M_init 245 = .ok (.iinc 1 1, 3) := by decide +kernel
theorem d_M_init_248 : decode b_M_init 248 = .ok (.goto (-16), 3) := by decide +kernel
theorem d_M_init_251 : decode b_M_init 251 = .ok (.return_, 1) := by decide +kernel
theorem d_M_keyAt_0 : decode b_M_keyAt 0 = .ok (.aload_n 0, 1) := by decide +kernel
theorem d_M_keyAt_1 : decode b_M_keyAt 1 = .ok (.getfield 58, 3) := by decide +kernel
theorem d_M_keyAt_4 : decode b_M_keyAt 4 = .ok (.iload_n 1, 1) := by decide +kernel
theorem d_M_keyAt_5 : decode b_M_keyAt 5 = .ok (.iconst 4, 1) := by decide +kernel
theorem d_M_keyAt_6 : decode b_M_keyAt 6 = .ok (.idiv, 1) := by decide +kernel
theorem d_M_keyAt_7 : decode b_M_keyAt 7 = .ok (.iaload, 1) := by decide +kernel
theorem d_M_keyAt_8 : decode b_M_keyAt 8 = .ok (.ifCond .le 12, 3) := by decide +kernel
theorem d_M_keyAt_11 : decode b_M_keyAt 11 = .ok (.aload_n 0, 1) := by decide +kernel
theorem d_M_keyAt_12 : decode b_M_keyAt 12 = .ok (.getfield 46, 3) := by decide +kernel
theorem d_M_keyAt_15 : decode b_M_keyAt 15 = .ok (.iload_n 1, 1) := by decide +kernel
theorem d_M_keyAt_16 : decode b_M_keyAt 16 = .ok (.iaload, 1) := by decide +kernel
theorem d_M_keyAt_17 : decode b_M_keyAt 17 = .ok (.goto 9, 3) := by decide +kernel
theorem d_M_keyAt_20 : decode b_M_keyAt 20 = .ok (.aload_n 0, 1) := by decide +kernel
theorem d_M_keyAt_21 : decode b_M_keyAt 21 = .ok (.getfield 37, 3) := by decide +kernel
theorem d_M_keyAt_24 : decode b_M_keyAt 24 = .ok (.iload_n 1, 1) := by decide +kernel
theorem d_M_keyAt_25 : decode b_M_keyAt 25 = .ok (.iaload, 1) := by decide +kernel
theorem d_M_keyAt_26 : decode b_M_keyAt 26 = .ok (.ireturn, 1) := by decide +kernel
theorem d_M_valueAt_0 : decode b_M_valueAt 0 = .ok (.aload_n 0, 1) := by decide +kernel
theorem d_M_valueAt_1 : decode b_M_valueAt 1 = .ok (.getfield 58, 3) := by decide +kernel
theorem d_M_valueAt_4 : decode b_M_valueAt 4 = .ok (.iload_n 1, 1) := by decide +kernel
theorem d_M_valueAt_5 : decode b_M_valueAt 5 = .ok (.iconst 4, 1) := by decide +kernel
theorem d_M_valueAt_6 : decode b_M_valueAt 6 = .ok (.idiv, 1) := by decide +kernel
theorem d_M_valueAt_7 : decode b_M_valueAt 7 = .ok (.iaload, 1) := by decide +kernel
theorem d_M_valueAt_8 : decode b_M_valueAt 8 = .ok (.ifCond .le 12, 3) := by decide +kernel
theorem d_M_valueAt_11 : decode b_M_valueAt 11 = .ok (.aload_n 0, 1) := by decide +kernel
theorem d_M_valueAt_12 : decode b_M_valueAt 12 = .ok (.getfield 49, 3) := by decide +kernel
theorem d_M_valueAt_15 : decode b_M_valueAt 15 = .ok (.iload_n 1, 1) := by decide +kernel
theorem d_M_valueAt_16 : decode b_M_valueAt 16 = .ok (.iaload, 1) := by decide +kernel
theorem d_M_valueAt_17 : decode b_M_valueAt 17 = .ok (.goto 9, 3) := by decide +kernel
theorem d_M_valueAt_20 : decode b_M_valueAt 20 = .ok (.aload_n 0, 1) := by decide +kernel
theorem d_M_valueAt_21 : decode b_M_valueAt 21 = .ok (.getfield 40, 3) := by decide +kernel
theorem d_M_valueAt_24 : decode b_M_valueAt 24 = .ok (.iload_n 1, 1) := by decide +kernel
theorem d_M_valueAt_25 : decode b_M_valueAt 25 = .ok (.iaload, 1) := by decide +kernel
theorem d_M_valueAt_26 : decode b_M_valueAt 26 = .ok (.ireturn, 1) := by decide +kernel
theorem d_M_find_0 : decode b_M_find 0 = .ok (.iconst 0, 1) := by decide +kernel
theorem d_M_find_1 : decode b_M_find 1 = .ok (.istore_n 2, 1) := by decide +kernel
theorem d_M_find_2 : decode b_M_find 2 = .ok (.iload_n 2, 1) := by decide +kernel
theorem d_M_find_3 : decode b_M_find 3 = .ok (.bipush 24, 2) := by decide +kernel
theorem d_M_find_5 : decode b_M_find 5 = .ok (.if_icmp .ge 20, 3) := by decide +kernel
theorem d_M_find_8 : decode b_M_find 8 = .ok (.aload_n 0, 1) := by decide +kernel
theorem d_M_find_9 : decode b_M_find 9 = .ok (.iload_n 2, 1) := by decide +kernel
theorem d_M_find_10 : decode b_M_find 10 = .ok (.invokevirtual 93, 3) := by decide +kernel
theorem d_M_find_13 : decode b_M_find 13 = .ok (.iload_n 1, 1) := by decide +kernel
theorem d_M_find_14 : decode b_M_find 14 = .ok (.if_icmp .ne 5, 3) := by decide +kernel
theorem d_M_find_17 : decode b_M_find 17 = .ok (.iload_n 2, 1) := by decide +kernel
theorem d_M_find_18 : decode b_M_find 18 = .ok (.ireturn, 1) := by decide +kernel
theorem d_M_find_19 : decode b_M_find 19 = .ok (.iinc 2 1, 3) := by decide +kernel
theorem d_M_find_22 : decode b_M_find 22 = .ok (.goto (-20), 3) := by decide +kernel
theorem d_M_find_25 : decode b_M_find 25 = .ok (.iconst (-1), 1) := by decide +kernel
theorem d_M_find_26 : decode b_M_find 26 = .ok (.ireturn, 1) := by decide +kernel
theorem d_M_spill_0 : decode b_M_spill 0 = .ok (.aload_n 0, 1) := by decide +kernel
theorem d_M_spill_1 : decode b_M_spill 1 = .ok (.aload_n 0, 1) := by decide +kernel
theorem d_M_spill_2 : decode b_M_spill 2 = .ok (.getfield 97, 3) := by decide +kernel
theorem d_M_spill_5 : decode b_M_spill 5 = .ok (.aload_n 0, 1) := by decide +kernel
theorem d_M_spill_6 : decode b_M_spill 6 = .ok (.getfield 52, 3) := by decide +kernel
theorem d_M_spill_9 : decode b_M_spill 9 = .ok (.iload_n 1, 1) := by decide +kernel
theorem d_M_spill_10 : decode b_M_spill 10 = .ok (.iaload, 1) := by decide +kernel
theorem d_M_spill_11 : decode b_M_spill 11 = .ok (.if_icmp .ge 12, 3) := by decide +kernel
theorem d_M_spill_14 : decode b_M_spill 14 = .ok (.aload_n 0, 1) := by decide +kernel
theorem d_M_spill_15 : decode b_M_spill 15 = .ok (.getfield 52, 3) := by decide +kernel
theorem d_M_spill_18 : decode b_M_spill 18 = .ok (.iload_n 1, 1) := by decide +kernel
theorem d_M_spill_19 : decode b_M_spill 19 = .ok (.iaload, 1) := by decide +kernel
theorem d_M_spill_20 : decode b_M_spill 20 = .ok (.goto 7, 3) := by decide +kernel
theorem d_M_spill_23 : decode b_M_spill 23 = .ok (.aload_n 0, 1) := by decide +kernel
theorem d_M_spill_24 : decode b_M_spill 24 = .ok (.getfield 97, 3) := by decide +kernel
theorem d_M_spill_27 : decode b_M_spill 27 = .ok (.putfield 97, 3) := by decide +kernel
theorem d_M_spill_30 : decode b_M_spill 30 = .ok (.iconst 4, 1) := by decide +kernel
theorem d_M_spill_31 : decode b_M_spill 31 = .ok (.iload_n 1, 1) := by decide +kernel
theorem d_M_spill_32 : decode b_M_spill 32 = .ok (.imul, 1) := by decide +kernel
theorem d_M_spill_33 : decode b_M_spill 33 = .ok (.istore_n 2, 1) := by decide +kernel
theorem d_M_spill_34 : decode b_M_spill 34 = .ok (.iload_n 2, 1) := by decide +kernel
theorem d_M_spill_35 : decode b_M_spill 35 = .ok (.iconst 4, 1) := by decide +kernel
theorem d_M_spill_36 : decode b_M_spill 36 = .ok (.iload_n 1, 1) := by decide +kernel
theorem d_M_spill_37 : decode b_M_spill 37 = .ok (.imul, 1) := by decide +kernel
theorem d_M_spill_38 : decode b_M_spill 38 = .ok (.iconst 4, 1) := by decide +kernel
theorem d_M_spill_39 : decode b_M_spill 39 = .ok (.iadd, 1) := by decide +kernel
theorem d_M_spill_40 : decode b_M_spill 40 = .ok (.if_icmp .ge 33, 3) := by decide +kernel
theorem d_M_spill_43 : decode b_M_spill 43 = .ok (.aload_n 0, 1) := by decide +kernel
theorem d_M_spill_44 : decode b_M_spill 44 = .ok (.getfield 37, 3) := by decide +kernel
theorem d_M_spill_47 : decode b_M_spill 47 = .ok (.iload_n 2, 1) := by decide +kernel
theorem d_M_spill_48 : decode b_M_spill 48 = .ok (.aload_n 0, 1) := by decide +kernel
theorem d_M_spill_49 : decode b_M_spill 49 = .ok (.getfield 46, 3) := by decide +kernel
theorem d_M_spill_52 : decode b_M_spill 52 = .ok (.iload_n 2, 1) := by decide +kernel
theorem d_M_spill_53 : decode b_M_spill 53 = .ok (.iaload, 1) := by decide +kernel
theorem d_M_spill_54 : decode b_M_spill 54 = .ok (.iastore, 1) := by decide +kernel
theorem d_M_spill_55 : decode b_M_spill 55 = .ok (.aload_n 0, 1) := by decide +kernel
theorem d_M_spill_56 : decode b_M_spill 56 = .ok (.getfield 40, 3) := by decide +kernel
theorem d_M_spill_59 : decode b_M_spill 59 = .ok (.iload_n 2, 1) := by decide +kernel
theorem d_M_spill_60 : decode b_M_spill 60 = .ok (.aload_n 0, 1) := by decide +kernel
theorem d_M_spill_61 : decode b_M_spill 61 = .ok (.getfield 49, 3) := by decide +kernel
theorem d_M_spill_64 : decode b_M_spill 64 = .ok (.iload_n 2, 1) := by decide +kernel
theorem d_M_spill_65 : decode b_M_spill 65 = .ok (.iaload, 1) := by decide +kernel
theorem d_M_spill_66 : decode b_M_spill 66 = .ok (.iastore, 1) := by decide +kernel
theorem d_M_spill_67 : decode b_M_spill 67 = .ok (.iinc 2 1, 3) := by decide +kernel
theorem d_M_spill_70 : decode b_M_spill 70 = .ok (.goto (-36), 3) := by decide +kernel
theorem d_M_spill_73 : decode b_M_spill 73 = .ok (.aload_n 0, 1) := by decide +kernel
theorem d_M_spill_74 : decode b_M_spill 74 = .ok (.getfield 43, 3) := by decide +kernel
theorem d_M_spill_77 : decode b_M_spill 77 = .ok (.iload_n 1, 1) := by decide +kernel
theorem d_M_spill_78 : decode b_M_spill 78 = .ok (.aload_n 0, 1) := by decide +kernel
theorem d_M_spill_79 : decode b_M_spill 79 = .ok (.getfield 52, 3) := by decide +kernel
theorem d_M_spill_82 : decode b_M_spill 82 = .ok (.iload_n 1, 1) := by decide +kernel
theorem d_M_spill_83 : decode b_M_spill 83 = .ok (.iaload, 1) := by decide +kernel
theorem d_M_spill_84 : decode b_M_spill 84 = .ok (.iastore, 1) := by decide +kernel
theorem d_M_spill_85 : decode b_M_spill 85 = .ok (.aload_n 0, 1) := by decide +kernel
theorem d_M_spill_86 : decode b_M_spill 86 = .ok (.getfield 55, 3) := by decide +kernel
theorem d_M_spill_89 : decode b_M_spill 89 = .ok (.iload_n 1, 1) := by decide +kernel
theorem d_M_spill_90 : decode b_M_spill 90 = .ok (.iconst 0, 1) := by decide +kernel
theorem d_M_spill_91 : decode b_M_spill 91 = .ok (.iastore, 1) := by decide +kernel
theorem d_M_spill_92 : decode b_M_spill 92 = .ok (.aload_n 0, 1) := by decide +kernel
theorem d_M_spill_93 : decode b_M_spill 93 = .ok (.dup, 1) := by decide +kernel
theorem d_M_spill_94 : decode b_M_spill 94 = .ok (.getfield 101, 3) := by decide +kernel
theorem d_M_spill_97 : decode b_M_spill 97 = .ok (.iconst 1, 1) := by decide +kernel
theorem d_M_spill_98 : decode b_M_spill 98 = .ok (.iadd, 1) := by decide +kernel
theorem d_M_spill_99 : decode b_M_spill 99 = .ok (.putfield 101, 3) := by decide +kernel
theorem d_M_spill_102 : decode b_M_spill 102 = .ok (.return_, 1) := by decide +kernel
theorem d_M_fetch_0 : decode b_M_fetch 0 = .ok (.aload_n 0, 1) := by decide +kernel
theorem d_M_fetch_1 : decode b_M_fetch 1 = .ok (.dup, 1) := by decide +kernel
theorem d_M_fetch_2 : decode b_M_fetch 2 = .ok (.getfield 104, 3) := by decide +kernel
theorem d_M_fetch_5 : decode b_M_fetch 5 = .ok (.iconst 1, 1) := by decide +kernel
theorem d_M_fetch_6 : decode b_M_fetch 6 = .ok (.iadd, 1) := by decide +kernel
theorem d_M_fetch_7 : decode b_M_fetch 7 = .ok (.putfield 104, 3) := by decide +kernel
theorem d_M_fetch_10 : decode b_M_fetch 10 = .ok (.aload_n 0, 1) := by decide +kernel
theorem d_M_fetch_11 : decode b_M_fetch 11 = .ok (.getfield 58, 3) := by decide +kernel
theorem d_M_fetch_14 : decode b_M_fetch 14 = .ok (.iload_n 1, 1) := by decide +kernel
theorem d_M_fetch_15 : decode b_M_fetch 15 = .ok (.iaload, 1) := by decide +kernel
theorem d_M_fetch_16 : decode b_M_fetch 16 = .ok (.ifCond .ne 182, 3) := by decide +kernel
theorem d_M_fetch_19 : decode b_M_fetch 19 = .ok (.iconst 0, 1) := by decide +kernel
theorem d_M_fetch_20 : decode b_M_fetch 20 = .ok (.istore_n 2, 1) := by decide +kernel
theorem d_M_fetch_21 : decode b_M_fetch 21 = .ok (.iconst (-1), 1) := by decide +kernel
theorem d_M_fetch_22 : decode b_M_fetch 22 = .ok (.istore_n 3, 1) := by decide +kernel
theorem d_M_fetch_23 : decode b_M_fetch 23 = .ok (.iconst 0, 1) := by decide +kernel
theorem d_M_fetch_24 : decode b_M_fetch 24 = .ok (.istore 4, 2) := by decide +kernel
theorem d_M_fetch_26 : decode b_M_fetch 26 = .ok (.iload 4, 2) := by decide +kernel
theorem d_M_fetch_28 : decode b_M_fetch 28 = .ok (.bipush 6, 2) := by decide +kernel
theorem d_M_fetch_30 : decode b_M_fetch 30 = .ok (.if_icmp .ge 64, 3) := by decide +kernel
theorem d_M_fetch_33 : decode b_M_fetch 33 = .ok (.iload_n 2, 1) := by decide +kernel
theorem d_M_fetch_34 : decode b_M_fetch 34 = .ok (.aload_n 0, 1) := by decide +kernel
theorem d_M_fetch_35 : decode b_M_fetch 35 = .ok (.getfield 58, 3) := by decide +kernel
theorem d_M_fetch_38 : decode b_M_fetch 38 = .ok (.iload 4, 2) := by decide +kernel
theorem d_M_fetch_40 : decode b_M_fetch 40 = .ok (.iaload, 1) := by decide +kernel
theorem d_M_fetch_41 : decode b_M_fetch 41 = .ok (.ifCond .le 7, 3) := by decide +kernel
theorem d_M_fetch_44 : decode b_M_fetch 44 = .ok (.iconst 1, 1) := by decide +kernel
theorem d_M_fetch_45 : decode b_M_fetch 45 = .ok (.goto 4, 3) := by decide +kernel
theorem d_M_fetch_48 : decode b_M_fetch 48 = .ok (.iconst 0, 1) := by decide +kernel
theorem d_M_fetch_49 : decode b_M_fetch 49 = .ok (.iadd, 1) := by decide +kernel
theorem d_M_fetch_50 : decode b_M_fetch 50 = .ok (.istore_n 2, 1) := by decide +kernel
theorem d_M_fetch_51 : decode b_M_fetch 51 = .ok (.aload_n 0, 1) := by decide +kernel
theorem d_M_fetch_52 : decode b_M_fetch 52 = .ok (.getfield 58, 3) := by decide +kernel
theorem d_M_fetch_55 : decode b_M_fetch 55 = .ok (.iload 4, 2) := by decide +kernel
theorem d_M_fetch_57 : decode b_M_fetch 57 = .ok (.iaload, 1) := by decide +kernel
theorem d_M_fetch_58 : decode b_M_fetch 58 = .ok (.ifCond .le 28, 3) := by decide +kernel
theorem d_M_fetch_61 : decode b_M_fetch 61 = .ok (.iload_n 3, 1) := by decide +kernel
theorem d_M_fetch_62 : decode b_M_fetch 62 = .ok (.ifCond .lt 19, 3) := by decide +kernel
theorem d_M_fetch_65 : decode b_M_fetch 65 = .ok (.aload_n 0, 1) := by decide +kernel
theorem d_M_fetch_66 : decode b_M_fetch 66 = .ok (.getfield 58, 3) := by decide +kernel
theorem d_M_fetch_69 : decode b_M_fetch 69 = .ok (.iload 4, 2) := by decide +kernel
theorem d_M_fetch_71 : decode b_M_fetch 71 = .ok (.iaload, 1) := by decide +kernel
theorem d_M_fetch_72 : decode b_M_fetch 72 = .ok (.aload_n 0, 1) := by decide +kernel
theorem d_M_fetch_73 : decode b_M_fetch 73 = .ok (.getfield 58, 3) := by decide +kernel
theorem d_M_fetch_76 : decode b_M_fetch 76 = .ok (.iload_n 3, 1) := by decide +kernel
theorem d_M_fetch_77 : decode b_M_fetch 77 = .ok (.iaload, 1) := by decide +kernel
theorem d_M_fetch_78 : decode b_M_fetch 78 = .ok (.if_icmp .ge 8, 3) := by decide +kernel
theorem d_M_fetch_81 : decode b_M_fetch 81 = .ok (.iload 4, 2) := by decide +kernel
theorem d_M_fetch_83 : decode b_M_fetch 83 = .ok (.goto 4, 3) := by decide +kernel
theorem d_M_fetch_86 : decode b_M_fetch 86 = .ok (.iload_n 3, 1) := by decide +kernel
theorem d_M_fetch_87 : decode b_M_fetch 87 = .ok (.istore_n 3, 1) := by decide +kernel
theorem d_M_fetch_88 : decode b_M_fetch 88 = .ok (.iinc 4 1, 3) := by decide +kernel
theorem d_M_fetch_91 : decode b_M_fetch 91 = .ok (.goto (-65), 3) := by decide +kernel
theorem d_M_fetch_94 : decode b_M_fetch 94 = .ok (.iload_n 2, 1) := by decide +kernel
theorem d_M_fetch_95 : decode b_M_fetch 95 = .ok (.iconst 3, 1) := by decide +kernel
theorem d_M_fetch_96 : decode b_M_fetch 96 = .ok (.if_icmp .ne 24, 3) := by decide +kernel
theorem d_M_fetch_99 : decode b_M_fetch 99 = .ok (.aload_n 0, 1) := by decide +kernel
theorem d_M_fetch_100 : decode b_M_fetch 100 = .ok (.getfield 55, 3) := by decide +kernel
theorem d_M_fetch_103 : decode b_M_fetch 103 = .ok (.iload_n 3, 1) := by decide +kernel
theorem d_M_fetch_104 : decode b_M_fetch 104 = .ok (.iaload, 1) := by decide +kernel
theorem d_M_fetch_105 : decode b_M_fetch 105 = .ok (.ifCond .le 8, 3) := by decide +kernel
theorem d_M_fetch_108 : decode b_M_fetch 108 = .ok (.aload_n 0, 1) := by decide +kernel
theorem d_M_fetch_109 : decode b_M_fetch 109 = .ok (.iload_n 3, 1) := by decide +kernel
theorem d_M_fetch_110 : decode b_M_fetch 110 = .ok (.invokevirtual 107, 3) := by decide +kernel
theorem d_M_fetch_113 : decode b_M_fetch 113 = .ok (.aload_n 0, 1) := by decide +kernel
theorem d_M_fetch_114 : decode b_M_fetch 114 = .ok (.getfield 58, 3) := by decide +kernel
theorem d_M_fetch_117 : decode b_M_fetch 117 = .ok (.iload_n 3, 1) := by decide +kernel
theorem d_M_fetch_118 : decode b_M_fetch 118 = .ok (.iconst 0, 1) := by decide +kernel
theorem d_M_fetch_119 : decode b_M_fetch 119 = .ok (.iastore, 1) := by decide +kernel
theorem d_M_fetch_120 : decode b_M_fetch 120 = .ok (.iconst 4, 1) := by decide +kernel
theorem d_M_fetch_121 : decode b_M_fetch 121 = .ok (.iload_n 1, 1) := by decide +kernel
theorem d_M_fetch_122 : decode b_M_fetch 122 = .ok (.imul, 1) := by decide +kernel
theorem d_M_fetch_123 : decode b_M_fetch 123 = .ok (.istore 4, 2) := by decide +kernel
theorem d_M_fetch_125 : decode b_M_fetch 125 = .ok (.iload 4, 2) := by decide +kernel
theorem d_M_fetch_127 : decode b_M_fetch 127 = .ok (.iconst 4, 1) := by decide +kernel
theorem d_M_fetch_128 : decode b_M_fetch 128 = .ok (.iload_n 1, 1) := by decide +kernel
theorem d_M_fetch_129 : decode b_M_fetch 129 = .ok (.imul, 1) := by decide +kernel
theorem d_M_fetch_130 : decode b_M_fetch 130 = .ok (.iconst 4, 1) := by decide +kernel
theorem d_M_fetch_131 : decode b_M_fetch 131 = .ok (.iadd, 1) := by decide +kernel
theorem d_M_fetch_132 : decode b_M_fetch 132 = .ok (.if_icmp .ge 37, 3) := by decide +kernel
theorem d_M_fetch_135 : decode b_M_fetch 135 = .ok (.aload_n 0, 1) := by decide +kernel
theorem d_M_fetch_136 : decode b_M_fetch 136 = .ok (.getfield 46, 3) := by decide +kernel
theorem d_M_fetch_139 : decode b_M_fetch 139 = .ok (.iload 4, 2) := by decide +kernel
theorem d_M_fetch_141 : decode b_M_fetch 141 = .ok (.aload_n 0, 1) := by decide +kernel
theorem d_M_fetch_142 : decode b_M_fetch 142 = .ok (.getfield 37, 3) := by decide +kernel
theorem d_M_fetch_145 : decode b_M_fetch 145 = .ok (.iload 4, 2) := by decide +kernel
theorem d_M_fetch_147 : decode b_M_fetch 147 = .ok (.iaload, 1) := by decide +kernel
theorem d_M_fetch_148 : decode b_M_fetch 148 = .ok (.iastore, 1) := by decide +kernel
theorem d_M_fetch_149 : decode b_M_fetch 149 = .ok (.aload_n 0, 1) := by decide +kernel
theorem d_M_fetch_150 : decode b_M_fetch 150 = .ok (.getfield 49, 3) := by decide +kernel
theorem d_M_fetch_153 : decode b_M_fetch 153 = .ok (.iload 4, 2) := by decide +kernel
theorem d_M_fetch_155 : decode b_M_fetch 155 = .ok (.aload_n 0, 1) := by decide +kernel
theorem d_M_fetch_156 : decode b_M_fetch 156 = .ok (.getfield 40, 3) := by decide +kernel
theorem d_M_fetch_159 : decode b_M_fetch 159 = .ok (.iload 4, 2) := by decide +kernel
theorem d_M_fetch_161 : decode b_M_fetch 161 = .ok (.iaload, 1) := by decide +kernel
theorem d_M_fetch_162 : decode b_M_fetch 162 = .ok (.iastore, 1) := by decide +kernel
theorem d_M_fetch_163 : decode b_M_fetch 163 = .ok (.iinc 4 1, 3) := by decide +kernel
theorem d_M_fetch_166 : decode b_M_fetch 166 = .ok (.goto (-41), 3) := by decide +kernel
theorem d_M_fetch_169 : decode b_M_fetch 169 = .ok (.aload_n 0, 1) := by decide +kernel
theorem d_M_fetch_170 : decode b_M_fetch 170 = .ok (.getfield 52, 3) := by decide +kernel
theorem d_M_fetch_173 : decode b_M_fetch 173 = .ok (.iload_n 1, 1) := by decide +kernel
theorem d_M_fetch_174 : decode b_M_fetch 174 = .ok (.aload_n 0, 1) := by decide +kernel
theorem d_M_fetch_175 : decode b_M_fetch 175 = .ok (.getfield 43, 3) := by decide +kernel
theorem d_M_fetch_178 : decode b_M_fetch 178 = .ok (.iload_n 1, 1) := by decide +kernel
theorem d_M_fetch_179 : decode b_M_fetch 179 = .ok (.iaload, 1) := by decide +kernel
theorem d_M_fetch_180 : decode b_M_fetch 180 = .ok (.iastore, 1) := by decide +kernel
theorem d_M_fetch_181 : decode b_M_fetch 181 = .ok (.aload_n 0, 1) := by decide +kernel
theorem d_M_fetch_182 : decode b_M_fetch 182 = .ok (.getfield 55, 3) := by decide +kernel
theorem d_M_fetch_185 : decode b_M_fetch 185 = .ok (.iload_n 1, 1) := by decide +kernel
theorem d_M_fetch_186 : decode b_M_fetch 186 = .ok (.iconst 0, 1) := by decide +kernel
theorem d_M_fetch_187 : decode b_M_fetch 187 = .ok (.iastore, 1) := by decide +kernel
theorem d_M_fetch_188 : decode b_M_fetch 188 = .ok (.aload_n 0, 1) := by decide +kernel
theorem d_M_fetch_189 : decode b_M_fetch 189 = .ok (.dup, 1) := by decide +kernel
theorem d_M_fetch_190 : decode b_M_fetch 190 = .ok (.getfield 111, 3) := by decide +kernel
theorem d_M_fetch_193 : decode b_M_fetch 193 = .ok (.iconst 1, 1) := by decide +kernel
theorem d_M_fetch_194 : decode b_M_fetch 194 = .ok (.iadd, 1) := by decide +kernel
theorem d_M_fetch_195 : decode b_M_fetch 195 = .ok (.putfield 111, 3) := by decide +kernel
theorem d_M_fetch_198 : decode b_M_fetch 198 = .ok (.aload_n 0, 1) := by decide +kernel
theorem d_M_fetch_199 : decode b_M_fetch 199 = .ok (.getfield 58, 3) := by decide +kernel
theorem d_M_fetch_202 : decode b_M_fetch 202 = .ok (.iload_n 1, 1) := by decide +kernel
theorem d_M_fetch_203 : decode b_M_fetch 203 = .ok (.aload_n 0, 1) := by decide +kernel
theorem d_M_fetch_204 : decode b_M_fetch 204 = .ok (.getfield 104, 3) := by decide +kernel
theorem d_M_fetch_207 : decode b_M_fetch 207 = .ok (.iastore, 1) := by decide +kernel
theorem d_M_fetch_208 : decode b_M_fetch 208 = .ok (.return_, 1) := by decide +kernel
theorem d_M_apply_0 : decode b_M_apply 0 = .ok (.aload_n 0, 1) := by decide +kernel
theorem d_M_apply_1 : decode b_M_apply 1 = .ok (.getfield 16, 3) := by decide +kernel
theorem d_M_apply_4 : decode b_M_apply 4 = .ok (.iload_n 1, 1) := by decide +kernel
theorem d_M_apply_5 : decode b_M_apply 5 = .ok (.iaload, 1) := by decide +kernel
theorem d_M_apply_6 : decode b_M_apply 6 = .ok (.istore_n 2, 1) := by decide +kernel
theorem d_M_apply_7 : decode b_M_apply 7 = .ok (.iload_n 2, 1) := by decide +kernel
theorem d_M_apply_8 : decode b_M_apply 8 = .ok (.iconst 4, 1) := by decide +kernel
theorem d_M_apply_9 : decode b_M_apply 9 = .ok (.idiv, 1) := by decide +kernel
theorem d_M_apply_10 : decode b_M_apply 10 = .ok (.istore_n 3, 1) := by decide +kernel
theorem d_M_apply_11 : decode b_M_apply 11 = .ok (.aload_n 0, 1) := by decide +kernel
theorem d_M_apply_12 : decode b_M_apply 12 = .ok (.getfield 46, 3) := by decide +kernel
theorem d_M_apply_15 : decode b_M_apply 15 = .ok (.iload_n 2, 1) := by decide +kernel
theorem d_M_apply_16 : decode b_M_apply 16 = .ok (.aload_n 0, 1) := by decide +kernel
theorem d_M_apply_17 : decode b_M_apply 17 = .ok (.getfield 25, 3) := by decide +kernel
theorem d_M_apply_20 : decode b_M_apply 20 = .ok (.iload_n 1, 1) := by decide +kernel
theorem d_M_apply_21 : decode b_M_apply 21 = .ok (.iaload, 1) := by decide +kernel
theorem d_M_apply_22 : decode b_M_apply 22 = .ok (.iastore, 1) := by decide +kernel
theorem d_M_apply_23 : decode b_M_apply 23 = .ok (.aload_n 0, 1) := by decide +kernel
theorem d_M_apply_24 : decode b_M_apply 24 = .ok (.getfield 49, 3) := by decide +kernel
theorem d_M_apply_27 : decode b_M_apply 27 = .ok (.iload_n 2, 1) := by decide +kernel
theorem d_M_apply_28 : decode b_M_apply 28 = .ok (.aload_n 0, 1) := by decide +kernel
theorem d_M_apply_29 : decode b_M_apply 29 = .ok (.getfield 28, 3) := by decide +kernel
theorem d_M_apply_32 : decode b_M_apply 32 = .ok (.iload_n 1, 1) := by decide +kernel
theorem d_M_apply_33 : decode b_M_apply 33 = .ok (.iaload, 1) := by decide +kernel
theorem d_M_apply_34 : decode b_M_apply 34 = .ok (.iastore, 1) := by decide +kernel
theorem d_M_apply_35 : decode b_M_apply 35 = .ok (.aload_n 0, 1) := by decide +kernel
theorem d_M_apply_36 : decode b_M_apply 36 = .ok (.getfield 52, 3) := by decide +kernel
theorem d_M_apply_39 : decode b_M_apply 39 = .ok (.iload_n 3, 1) := by decide +kernel
theorem d_M_apply_40 : decode b_M_apply 40 = .ok (.iload_n 1, 1) := by decide +kernel
theorem d_M_apply_41 : decode b_M_apply 41 = .ok (.iastore, 1) := by decide +kernel
theorem d_M_apply_42 : decode b_M_apply 42 = .ok (.aload_n 0, 1) := by decide +kernel
theorem d_M_apply_43 : decode b_M_apply 43 = .ok (.getfield 55, 3) := by decide +kernel
theorem d_M_apply_46 : decode b_M_apply 46 = .ok (.iload_n 3, 1) := by decide +kernel
theorem d_M_apply_47 : decode b_M_apply 47 = .ok (.aload_n 0, 1) := by decide +kernel
theorem d_M_apply_48 : decode b_M_apply 48 = .ok (.getfield 55, 3) := by decide +kernel
theorem d_M_apply_51 : decode b_M_apply 51 = .ok (.iload_n 3, 1) := by decide +kernel
theorem d_M_apply_52 : decode b_M_apply 52 = .ok (.iaload, 1) := by decide +kernel
theorem d_M_apply_53 : decode b_M_apply 53 = .ok (.ifCond .ne 7, 3) := by decide +kernel
theorem d_M_apply_56 : decode b_M_apply 56 = .ok (.iload_n 1, 1) := by decide +kernel
theorem d_M_apply_57 : decode b_M_apply 57 = .ok (.goto 9, 3) := by decide +kernel
theorem d_M_apply_60 : decode b_M_apply 60 = .ok (.aload_n 0, 1) := by decide +kernel
theorem d_M_apply_61 : decode b_M_apply 61 = .ok (.getfield 55, 3) := by decide +kernel
theorem d_M_apply_64 : decode b_M_apply 64 = .ok (.iload_n 3, 1) := by decide +kernel
theorem d_M_apply_65 : decode b_M_apply 65 = .ok (.iaload, 1) := by decide +kernel
theorem d_M_apply_66 : decode b_M_apply 66 = .ok (.iastore, 1) := by decide +kernel
theorem d_M_apply_67 : decode b_M_apply 67 = .ok (.return_, 1) := by decide +kernel
theorem d_M_put_0 : decode b_M_put 0 = .ok (.aload_n 0, 1) := by decide +kernel
theorem d_M_put_1 : decode b_M_put 1 = .ok (.dup, 1) := by decide +kernel
theorem d_M_put_2 : decode b_M_put 2 = .ok (.getfield 114, 3) := by decide +kernel
theorem d_M_put_5 : decode b_M_put 5 = .ok (.iconst 1, 1) := by decide +kernel
theorem d_M_put_6 : decode b_M_put 6 = .ok (.iadd, 1) := by decide +kernel
theorem d_M_put_7 : decode b_M_put 7 = .ok (.putfield 114, 3) := by decide +kernel
theorem d_M_put_10 : decode b_M_put 10 = .ok (.aload_n 0, 1) := by decide +kernel
theorem d_M_put_11 : decode b_M_put 11 = .ok (.getfield 7, 3) := by decide +kernel
theorem d_M_put_14 : decode b_M_put 14 = .ok (.aload_n 0, 1) := by decide +kernel
theorem d_M_put_15 : decode b_M_put 15 = .ok (.getfield 114, 3) := by decide +kernel
theorem d_M_put_18 : decode b_M_put 18 = .ok (.iload_n 1, 1) := by decide +kernel
theorem d_M_put_19 : decode b_M_put 19 = .ok (.iastore, 1) := by decide +kernel
theorem d_M_put_20 : decode b_M_put 20 = .ok (.aload_n 0, 1) := by decide +kernel
theorem d_M_put_21 : decode b_M_put 21 = .ok (.getfield 13, 3) := by decide +kernel
theorem d_M_put_24 : decode b_M_put 24 = .ok (.aload_n 0, 1) := by decide +kernel
theorem d_M_put_25 : decode b_M_put 25 = .ok (.getfield 114, 3) := by decide +kernel
theorem d_M_put_28 : decode b_M_put 28 = .ok (.iload_n 2, 1) := by decide +kernel
theorem d_M_put_29 : decode b_M_put 29 = .ok (.iastore, 1) := by decide +kernel
theorem d_M_put_30 : decode b_M_put 30 = .ok (.aload_n 0, 1) := by decide +kernel
theorem d_M_put_31 : decode b_M_put 31 = .ok (.getfield 16, 3) := by decide +kernel
theorem d_M_put_34 : decode b_M_put 34 = .ok (.aload_n 0, 1) := by decide +kernel
theorem d_M_put_35 : decode b_M_put 35 = .ok (.getfield 114, 3) := by decide +kernel
theorem d_M_put_38 : decode b_M_put 38 = .ok (.iload_n 3, 1) := by decide +kernel
theorem d_M_put_39 : decode b_M_put 39 = .ok (.iastore, 1) := by decide +kernel
theorem d_M_put_40 : decode b_M_put 40 = .ok (.aload_n 0, 1) := by decide +kernel
theorem d_M_put_41 : decode b_M_put 41 = .ok (.getfield 114, 3) := by decide +kernel
theorem d_M_put_44 : decode b_M_put 44 = .ok (.ireturn, 1) := by decide +kernel
theorem d_M_countOf_0 : decode b_M_countOf 0 = .ok (.iconst 0, 1) := by decide +kernel
theorem d_M_countOf_1 : decode b_M_countOf 1 = .ok (.istore_n 2, 1) := by decide +kernel
theorem d_M_countOf_2 : decode b_M_countOf 2 = .ok (.iconst 1, 1) := by decide +kernel
theorem d_M_countOf_3 : decode b_M_countOf 3 = .ok (.istore_n 3, 1) := by decide +kernel
theorem d_M_countOf_4 : decode b_M_countOf 4 = .ok (.iload_n 3, 1) := by decide +kernel
theorem d_M_countOf_5 : decode b_M_countOf 5 = .ok (.aload_n 0, 1) := by decide +kernel
theorem d_M_countOf_6 : decode b_M_countOf 6 = .ok (.getfield 114, 3) := by decide +kernel
theorem d_M_countOf_9 : decode b_M_countOf 9 = .ok (.if_icmp .gt 27, 3) := by decide +kernel
theorem d_M_countOf_12 : decode b_M_countOf 12 = .ok (.iload_n 2, 1) := by decide +kernel
theorem d_M_countOf_13 : decode b_M_countOf 13 = .ok (.aload_n 0, 1) := by decide +kernel
theorem d_M_countOf_14 : decode b_M_countOf 14 = .ok (.getfield 7, 3) := by decide +kernel
theorem d_M_countOf_17 : decode b_M_countOf 17 = .ok (.iload_n 3, 1) := by decide +kernel
theorem d_M_countOf_18 : decode b_M_countOf 18 = .ok (.iaload, 1) := by decide +kernel
theorem d_M_countOf_19 : decode b_M_countOf 19 = .ok (.iload_n 1, 1) := by decide +kernel
theorem d_M_countOf_20 : decode b_M_countOf 20 = .ok (.if_icmp .ne 7, 3) := by decide +kernel
theorem d_M_countOf_23 : decode b_M_countOf 23 = .ok (.iconst 1, 1) := by decide +kernel
theorem d_M_countOf_24 : decode b_M_countOf 24 = .ok (.goto 4, 3) := by decide +kernel
theorem d_M_countOf_27 : decode b_M_countOf 27 = .ok (.iconst 0, 1) := by decide +kernel
theorem d_M_countOf_28 : decode b_M_countOf 28 = .ok (.iadd, 1) := by decide +kernel
theorem d_M_countOf_29 : decode b_M_countOf 29 = .ok (.istore_n 2, 1) := by decide +kernel
theorem d_M_countOf_30 : decode b_M_countOf 30 = .ok (.iinc 3 1, 3) := by decide +kernel
theorem d_M_countOf_33 : decode b_M_countOf 33 = .ok (.goto (-29), 3) := by decide +kernel
theorem d_M_countOf_36 : decode b_M_countOf 36 = .ok (.iload_n 2, 1) := by decide +kernel
theorem d_M_countOf_37 : decode b_M_countOf 37 = .ok (.ireturn, 1) := by decide +kernel
theorem d_M_committed_0 : decode b_M_committed 0 = .ok (.iconst 1, 1) := by decide +kernel
theorem d_M_committed_1 : decode b_M_committed 1 = .ok (.istore_n 2, 1) := by decide +kernel
theorem d_M_committed_2 : decode b_M_committed 2 = .ok (.iload_n 2, 1) := by decide +kernel
theorem d_M_committed_3 : decode b_M_committed 3 = .ok (.aload_n 0, 1) := by decide +kernel
theorem d_M_committed_4 : decode b_M_committed 4 = .ok (.getfield 114, 3) := by decide +kernel
theorem d_M_committed_7 : decode b_M_committed 7 = .ok (.if_icmp .gt 31, 3) := by decide +kernel
theorem d_M_committed_10 : decode b_M_committed 10 = .ok (.aload_n 0, 1) := by decide +kernel
theorem d_M_committed_11 : decode b_M_committed 11 = .ok (.getfield 7, 3) := by decide +kernel
theorem d_M_committed_14 : decode b_M_committed 14 = .ok (.iload_n 2, 1) := by decide +kernel
theorem d_M_committed_15 : decode b_M_committed 15 = .ok (.iaload, 1) := by decide +kernel
theorem d_M_committed_16 : decode b_M_committed 16 = .ok (.iconst 3, 1) := by decide +kernel
theorem d_M_committed_17 : decode b_M_committed 17 = .ok (.if_icmp .ne 15, 3) := by decide +kernel
theorem d_M_committed_20 : decode b_M_committed 20 = .ok (.aload_n 0, 1) := by decide +kernel
theorem d_M_committed_21 : decode b_M_committed 21 = .ok (.getfield 13, 3) := by decide +kernel
theorem d_M_committed_24 : decode b_M_committed 24 = .ok (.iload_n 2, 1) := by decide +kernel
theorem d_M_committed_25 : decode b_M_committed 25 = .ok (.iaload, 1) := by decide +kernel
theorem d_M_committed_26 : decode b_M_committed 26 = .ok (.iload_n 1, 1) := by decide +kernel
theorem d_M_committed_27 : decode b_M_committed 27 = .ok (.if_icmp .ne 5, 3) := by decide +kernel
theorem d_M_committed_30 : decode b_M_committed 30 = .ok (.iconst 1, 1) := by decide +kernel
theorem d_M_committed_31 : decode b_M_committed 31 = .ok (.ireturn, 1) := by decide +kernel
theorem d_M_committed_32 : decode b_M_committed 32 = .ok (.iinc 2 1, 3) := by decide +kernel
theorem d_M_committed_35 : decode b_M_committed 35 = .ok (.goto (-33), 3) := by decide +kernel
theorem d_M_committed_38 : decode b_M_committed 38 = .ok (.iconst 0, 1) := by decide +kernel
theorem d_M_committed_39 : decode b_M_committed 39 = .ok (.ireturn, 1) := by decide +kernel
theorem d_M_open_0 : decode b_M_open 0 = .ok (.aload_n 0, 1) := by decide +kernel
theorem d_M_open_1 : decode b_M_open 1 = .ok (.getfield 114, 3) := by decide +kernel
theorem d_M_open_4 : decode b_M_open 4 = .ok (.istore_n 2, 1) := by decide +kernel
theorem d_M_open_5 : decode b_M_open 5 = .ok (.iload_n 2, 1) := by decide +kernel
theorem d_M_open_6 : decode b_M_open 6 = .ok (.ifCond .le 110, 3) := by decide +kernel
theorem d_M_open_9 : decode b_M_open 9 = .ok (.aload_n 0, 1) := by decide +kernel
theorem d_M_open_10 : decode b_M_open 10 = .ok (.getfield 7, 3) := by decide +kernel
theorem d_M_open_13 : decode b_M_open 13 = .ok (.iload_n 2, 1) := by decide +kernel
theorem d_M_open_14 : decode b_M_open 14 = .ok (.iaload, 1) := by decide +kernel
theorem d_M_open_15 : decode b_M_open 15 = .ok (.iconst 1, 1) := by decide +kernel
theorem d_M_open_16 : decode b_M_open 16 = .ok (.if_icmp .ne 34, 3) := by decide +kernel
theorem d_M_open_19 : decode b_M_open 19 = .ok (.iload_n 1, 1) := by decide +kernel
theorem d_M_open_20 : decode b_M_open 20 = .ok (.ifCond .eq 13, 3) := by decide +kernel
theorem d_M_open_23 : decode b_M_open 23 = .ok (.aload_n 0, 1) := by decide +kernel
theorem d_M_open_24 : decode b_M_open 24 = .ok (.getfield 13, 3) := by decide +kernel
theorem d_M_open_27 : decode b_M_open 27 = .ok (.iload_n 2, 1) := by decide +kernel
theorem d_M_open_28 : decode b_M_open 28 = .ok (.iaload, 1) := by decide +kernel
theorem d_M_open_29 : decode b_M_open 29 = .ok (.iload_n 1, 1) := by decide +kernel
theorem d_M_open_30 : decode b_M_open 30 = .ok (.if_icmp .ne 20, 3) := by decide +kernel
theorem d_M_open_33 : decode b_M_open 33 = .ok (.aload_n 0, 1) := by decide +kernel
theorem d_M_open_34 : decode b_M_open 34 = .ok (.aload_n 0, 1) := by decide +kernel
theorem d_M_open_35 : decode b_M_open 35 = .ok (.getfield 13, 3) := by decide +kernel
theorem d_M_open_38 : decode b_M_open 38 = .ok (.iload_n 2, 1) := by decide +kernel
theorem d_M_open_39 : decode b_M_open 39 = .ok (.iaload, 1) := by decide +kernel
theorem d_M_open_40 : decode b_M_open 40 = .ok (.invokevirtual 117, 3) := by decide +kernel
theorem d_M_open_43 : decode b_M_open 43 = .ok (.ifCond .ne 7, 3) := by decide +kernel
theorem d_M_open_46 : decode b_M_open 46 = .ok (.iconst 1, 1) := by decide +kernel
theorem d_M_open_47 : decode b_M_open 47 = .ok (.goto 4, 3) := by decide +kernel
theorem d_M_open_50 : decode b_M_open 50 = .ok (.iconst 0, 1) := by decide +kernel
theorem d_M_open_51 : decode b_M_open 51 = .ok (.istore_n 3, 1) := by decide +kernel
theorem d_M_open_52 : decode b_M_open 52 = .ok (.iload_n 2, 1) := by decide +kernel
theorem d_M_open_53 : decode b_M_open 53 = .ok (.iconst 1, 1) := by decide +kernel
theorem d_M_open_54 : decode b_M_open 54 = .ok (.iadd, 1) := by decide +kernel
theorem d_M_open_55 : decode b_M_open 55 = .ok (.istore 4, 2) := by decide +kernel
theorem d_M_open_57 : decode b_M_open 57 = .ok (.iload 4, 2) := by decide +kernel
theorem d_M_open_59 : decode b_M_open 59 = .ok (.aload_n 0, 1) := by decide +kernel
theorem d_M_open_60 : decode b_M_open 60 = .ok (.getfield 114, 3) := by decide +kernel
theorem d_M_open_63 : decode b_M_open 63 = .ok (.if_icmp .gt 41, 3) := by decide +kernel
theorem d_M_open_66 : decode b_M_open 66 = .ok (.iload_n 3, 1) := by decide +kernel
theorem d_M_open_67 : decode b_M_open 67 = .ok (.ifCond .eq 37, 3) := by decide +kernel
theorem d_M_open_70 : decode b_M_open 70 = .ok (.aload_n 0, 1) := by decide +kernel
theorem d_M_open_71 : decode b_M_open 71 = .ok (.getfield 7, 3) := by decide +kernel
theorem d_M_open_74 : decode b_M_open 74 = .ok (.iload 4, 2) := by decide +kernel
theorem d_M_open_76 : decode b_M_open 76 = .ok (.iaload, 1) := by decide +kernel
theorem d_M_open_77 : decode b_M_open 77 = .ok (.iconst 2, 1) := by decide +kernel
theorem d_M_open_78 : decode b_M_open 78 = .ok (.if_icmp .ne 14, 3) := by decide +kernel
theorem d_M_open_81 : decode b_M_open 81 = .ok (.aload_n 0, 1) := by decide +kernel
theorem d_M_open_82 : decode b_M_open 82 = .ok (.getfield 31, 3) := by decide +kernel
theorem d_M_open_85 : decode b_M_open 85 = .ok (.iload 4, 2) := by decide +kernel
theorem d_M_open_87 : decode b_M_open 87 = .ok (.iaload, 1) := by decide +kernel
theorem d_M_open_88 : decode b_M_open 88 = .ok (.iload_n 2, 1) := by decide +kernel
theorem d_M_open_89 : decode b_M_open 89 = .ok (.if_icmp .eq 7, 3) := by decide +kernel
theorem d_M_open_92 : decode b_M_open 92 = .ok (.iconst 1, 1) := by decide +kernel
theorem d_M_open_93 : decode b_M_open 93 = .ok (.goto 4, 3) := by decide +kernel
theorem d_M_open_96 : decode b_M_open 96 = .ok (.iconst 0, 1) := by decide +kernel
theorem d_M_open_97 : decode b_M_open 97 = .ok (.istore_n 3, 1) := by decide +kernel
theorem d_M_open_98 : decode b_M_open 98 = .ok (.iinc 4 1, 3) := by decide +kernel
theorem d_M_open_101 : decode b_M_open 101 = .ok (.goto (-44), 3) := by decide +kernel
theorem d_M_open_104 : decode b_M_open 104 = .ok (.iload_n 3, 1) := by decide +kernel
theorem d_M_open_105 : decode b_M_open 105 = .ok (.ifCond .eq 5, 3) := by decide +kernel
theorem d_M_open_108 : decode b_M_open 108 = .ok (.iload_n 2, 1) := by decide +kernel
theorem d_M_open_109 : decode b_M_open 109 = .ok (.ireturn, 1) := by decide +kernel
theorem d_M_open_110 : decode b_M_open 110 = .ok (.iinc 2 (-1), 3) := by decide +kernel
theorem d_M_open_113 : decode b_M_open 113 = .ok (.goto (-108), 3) := by decide +kernel
theorem d_M_open_116 : decode b_M_open 116 = .ok (.iconst 0, 1) := by decide +kernel
theorem d_M_open_117 : decode b_M_open 117 = .ok (.ireturn, 1) := by decide +kernel
theorem d_M_takeBack_0 : decode b_M_takeBack 0 = .ok (.aload_n 0, 1) := by decide +kernel
theorem d_M_takeBack_1 : decode b_M_takeBack 1 = .ok (.aload_n 0, 1) := by decide +kernel
theorem d_M_takeBack_2 : decode b_M_takeBack 2 = .ok (.getfield 16, 3) := by decide +kernel
theorem d_M_takeBack_5 : decode b_M_takeBack 5 = .ok (.iload_n 1, 1) := by decide +kernel
theorem d_M_takeBack_6 : decode b_M_takeBack 6 = .ok (.iaload, 1) := by decide +kernel
theorem d_M_takeBack_7 : decode b_M_takeBack 7 = .ok (.iconst 4, 1) := by decide +kernel
theorem d_M_takeBack_8 : decode b_M_takeBack 8 = .ok (.idiv, 1) := by decide +kernel
theorem d_M_takeBack_9 : decode b_M_takeBack 9 = .ok (.invokevirtual 121, 3) := by decide +kernel
theorem d_M_takeBack_12 : decode b_M_takeBack 12 = .ok (.aload_n 0, 1) := by decide +kernel
theorem d_M_takeBack_13 : decode b_M_takeBack 13 = .ok (.iconst 2, 1) := by decide +kernel
theorem d_M_takeBack_14 : decode b_M_takeBack 14 = .ok (.aload_n 0, 1) := by decide +kernel
theorem d_M_takeBack_15 : decode b_M_takeBack 15 = .ok (.getfield 13, 3) := by decide +kernel
theorem d_M_takeBack_18 : decode b_M_takeBack 18 = .ok (.iload_n 1, 1) := by decide +kernel
theorem d_M_takeBack_19 : decode b_M_takeBack 19 = .ok (.iaload, 1) := by decide +kernel
theorem d_M_takeBack_20 : decode b_M_takeBack 20 = .ok (.aload_n 0, 1) := by decide +kernel
theorem d_M_takeBack_21 : decode b_M_takeBack 21 = .ok (.getfield 16, 3) := by decide +kernel
theorem d_M_takeBack_24 : decode b_M_takeBack 24 = .ok (.iload_n 1, 1) := by decide +kernel
theorem d_M_takeBack_25 : decode b_M_takeBack 25 = .ok (.iaload, 1) := by decide +kernel
theorem d_M_takeBack_26 : decode b_M_takeBack 26 = .ok (.invokevirtual 124, 3) := by decide +kernel
theorem d_M_takeBack_29 : decode b_M_takeBack 29 = .ok (.istore_n 2, 1) := by decide +kernel
theorem d_M_takeBack_30 : decode b_M_takeBack 30 = .ok (.aload_n 0, 1) := by decide +kernel
theorem d_M_takeBack_31 : decode b_M_takeBack 31 = .ok (.getfield 31, 3) := by decide +kernel
theorem d_M_takeBack_34 : decode b_M_takeBack 34 = .ok (.iload_n 2, 1) := by decide +kernel
theorem d_M_takeBack_35 : decode b_M_takeBack 35 = .ok (.iload_n 1, 1) := by decide +kernel
theorem d_M_takeBack_36 : decode b_M_takeBack 36 = .ok (.iastore, 1) := by decide +kernel
theorem d_M_takeBack_37 : decode b_M_takeBack 37 = .ok (.aload_n 0, 1) := by decide +kernel
theorem d_M_takeBack_38 : decode b_M_takeBack 38 = .ok (.getfield 25, 3) := by decide +kernel
theorem d_M_takeBack_41 : decode b_M_takeBack 41 = .ok (.iload_n 2, 1) := by decide +kernel
theorem d_M_takeBack_42 : decode b_M_takeBack 42 = .ok (.aload_n 0, 1) := by decide +kernel
theorem d_M_takeBack_43 : decode b_M_takeBack 43 = .ok (.getfield 19, 3) := by decide +kernel
theorem d_M_takeBack_46 : decode b_M_takeBack 46 = .ok (.iload_n 1, 1) := by decide +kernel
theorem d_M_takeBack_47 : decode b_M_takeBack 47 = .ok (.iaload, 1) := by decide +kernel
theorem d_M_takeBack_48 : decode b_M_takeBack 48 = .ok (.iastore, 1) := by decide +kernel
theorem d_M_takeBack_49 : decode b_M_takeBack 49 = .ok (.aload_n 0, 1) := by decide +kernel
theorem d_M_takeBack_50 : decode b_M_takeBack 50 = .ok (.getfield 28, 3) := by decide +kernel
theorem d_M_takeBack_53 : decode b_M_takeBack 53 = .ok (.iload_n 2, 1) := by decide +kernel
theorem d_M_takeBack_54 : decode b_M_takeBack 54 = .ok (.aload_n 0, 1) := by decide +kernel
theorem d_M_takeBack_55 : decode b_M_takeBack 55 = .ok (.getfield 22, 3) := by decide +kernel
theorem d_M_takeBack_58 : decode b_M_takeBack 58 = .ok (.iload_n 1, 1) := by decide +kernel
theorem d_M_takeBack_59 : decode b_M_takeBack 59 = .ok (.iaload, 1) := by decide +kernel
theorem d_M_takeBack_60 : decode b_M_takeBack 60 = .ok (.iastore, 1) := by decide +kernel
theorem d_M_takeBack_61 : decode b_M_takeBack 61 = .ok (.aload_n 0, 1) := by decide +kernel
theorem d_M_takeBack_62 : decode b_M_takeBack 62 = .ok (.iload_n 2, 1) := by decide +kernel
theorem d_M_takeBack_63 : decode b_M_takeBack 63 = .ok (.invokevirtual 128, 3) := by decide +kernel
theorem d_M_takeBack_66 : decode b_M_takeBack 66 = .ok (.return_, 1) := by decide +kernel
theorem d_M_live_0 : decode b_M_live 0 = .ok (.aload_n 0, 1) := by decide +kernel
theorem d_M_live_1 : decode b_M_live 1 = .ok (.getfield 61, 3) := by decide +kernel
theorem d_M_live_4 : decode b_M_live 4 = .ok (.iload_n 1, 1) := by decide +kernel
theorem d_M_live_5 : decode b_M_live 5 = .ok (.iaload, 1) := by decide +kernel
theorem d_M_live_6 : decode b_M_live 6 = .ok (.iconst 1, 1) := by decide +kernel
theorem d_M_live_7 : decode b_M_live 7 = .ok (.if_icmp .lt 17, 3) := by decide +kernel
theorem d_M_live_10 : decode b_M_live 10 = .ok (.aload_n 0, 1) := by decide +kernel
theorem d_M_live_11 : decode b_M_live 11 = .ok (.getfield 61, 3) := by decide +kernel
theorem d_M_live_14 : decode b_M_live 14 = .ok (.iload_n 1, 1) := by decide +kernel
theorem d_M_live_15 : decode b_M_live 15 = .ok (.iaload, 1) := by decide +kernel
theorem d_M_live_16 : decode b_M_live 16 = .ok (.iconst 3, 1) := by decide +kernel
theorem d_M_live_17 : decode b_M_live 17 = .ok (.if_icmp .gt 7, 3) := by decide +kernel
theorem d_M_live_20 : decode b_M_live 20 = .ok (.iconst 1, 1) := by decide +kernel
theorem d_M_live_21 : decode b_M_live 21 = .ok (.goto 4, 3) := by decide +kernel
theorem d_M_live_24 : decode b_M_live 24 = .ok (.iconst 0, 1) := by decide +kernel
theorem d_M_live_25 : decode b_M_live 25 = .ok (.ireturn, 1) := by decide +kernel
theorem d_M_unlock_0 : decode b_M_unlock 0 = .ok (.iconst 0, 1) := by decide +kernel
theorem d_M_unlock_1 : decode b_M_unlock 1 = .ok (.istore_n 2, 1) := by decide +kernel
theorem d_M_unlock_2 : decode b_M_unlock 2 = .ok (.iload_n 2, 1) := by decide +kernel
theorem d_M_unlock_3 : decode b_M_unlock 3 = .ok (.bipush 100, 2) := by decide +kernel
theorem d_M_unlock_5 : decode b_M_unlock 5 = .ok (.if_icmp .ge 21, 3) := by decide +kernel
theorem d_M_unlock_8 : decode b_M_unlock 8 = .ok (.aload_n 0, 1) := by decide +kernel
theorem d_M_unlock_9 : decode b_M_unlock 9 = .ok (.getfield 82, 3) := by decide +kernel
theorem d_M_unlock_12 : decode b_M_unlock 12 = .ok (.bipush 100, 2) := by decide +kernel
theorem d_M_unlock_14 : decode b_M_unlock 14 = .ok (.iload_n 1, 1) := by decide +kernel
theorem d_M_unlock_15 : decode b_M_unlock 15 = .ok (.imul, 1) := by decide +kernel
theorem d_M_unlock_16 : decode b_M_unlock 16 = .ok (.iload_n 2, 1) := by decide +kernel
theorem d_M_unlock_17 : decode b_M_unlock 17 = .ok (.iadd, 1) := by decide +kernel
theorem d_M_unlock_18 : decode b_M_unlock 18 = .ok (.iconst 0, 1) := by decide +kernel
theorem d_M_unlock_19 : decode b_M_unlock 19 = .ok (.bastore, 1) := by decide +kernel
theorem d_M_unlock_20 : decode b_M_unlock 20 = .ok (.iinc 2 1, 3) := by decide +kernel
theorem d_M_unlock_23 : decode b_M_unlock 23 = .ok (.goto (-21), 3) := by decide +kernel
theorem d_M_unlock_26 : decode b_M_unlock 26 = .ok (.return_, 1) := by decide +kernel
theorem d_M_conflicts_0 : decode b_M_conflicts 0 = .ok (.aload_n 0, 1) := by decide +kernel
theorem d_M_conflicts_1 : decode b_M_conflicts 1 = .ok (.getfield 82, 3) := by decide +kernel
theorem d_M_conflicts_4 : decode b_M_conflicts 4 = .ok (.bipush 100, 2) := by decide +kernel
theorem d_M_conflicts_6 : decode b_M_conflicts 6 = .ok (.iload_n 2, 1) := by decide +kernel
theorem d_M_conflicts_7 : decode b_M_conflicts 7 = .ok (.imul, 1) := by decide +kernel
theorem d_M_conflicts_8 : decode b_M_conflicts 8 = .ok (.aload_n 0, 1) := by decide +kernel
theorem d_M_conflicts_9 : decode b_M_conflicts 9 = .ok (.getfield 70, 3) := by decide +kernel
theorem d_M_conflicts_12 : decode b_M_conflicts 12 = .ok (.iload_n 1, 1) := by decide +kernel
theorem d_M_conflicts_13 : decode b_M_conflicts 13 = .ok (.iaload, 1) := by decide +kernel
theorem d_M_conflicts_14 : decode b_M_conflicts 14 = .ok (.iadd, 1) := by decide +kernel
theorem d_M_conflicts_15 : decode b_M_conflicts 15 = .ok (.baload, 1) := by decide +kernel
theorem d_M_conflicts_16 : decode b_M_conflicts 16 = .ok (.istore_n 3, 1) := by decide +kernel
theorem d_M_conflicts_17 : decode b_M_conflicts 17 = .ok (.iload_n 2, 1) := by decide +kernel
theorem d_M_conflicts_18 : decode b_M_conflicts 18 = .ok (.iload_n 1, 1) := by decide +kernel
theorem d_M_conflicts_19 : decode b_M_conflicts 19 = .ok (.if_icmp .eq 26, 3) := by decide +kernel
theorem d_M_conflicts_22 : decode b_M_conflicts 22 = .ok (.iload_n 3, 1) := by decide +kernel
theorem d_M_conflicts_23 : decode b_M_conflicts 23 = .ok (.ifCond .le 22, 3) := by decide +kernel
theorem d_M_conflicts_26 : decode b_M_conflicts 26 = .ok (.iload_n 3, 1) := by decide +kernel
theorem d_M_conflicts_27 : decode b_M_conflicts 27 = .ok (.iconst 2, 1) := by decide +kernel
theorem d_M_conflicts_28 : decode b_M_conflicts 28 = .ok (.if_icmp .eq 13, 3) := by decide +kernel
theorem d_M_conflicts_31 : decode b_M_conflicts 31 = .ok (.aload_n 0, 1) := by decide +kernel
theorem d_M_conflicts_32 : decode b_M_conflicts 32 = .ok (.getfield 73, 3) := by decide +kernel
theorem d_M_conflicts_35 : decode b_M_conflicts 35 = .ok (.iload_n 1, 1) := by decide +kernel
theorem d_M_conflicts_36 : decode b_M_conflicts 36 = .ok (.iaload, 1) := by decide +kernel
theorem d_M_conflicts_37 : decode b_M_conflicts 37 = .ok (.iconst 2, 1) := by decide +kernel
theorem d_M_conflicts_38 : decode b_M_conflicts 38 = .ok (.if_icmp .ne 7, 3) := by decide +kernel
theorem d_M_conflicts_41 : decode b_M_conflicts 41 = .ok (.iconst 1, 1) := by decide +kernel
theorem d_M_conflicts_42 : decode b_M_conflicts 42 = .ok (.goto 4, 3) := by decide +kernel
theorem d_M_conflicts_45 : decode b_M_conflicts 45 = .ok (.iconst 0, 1) := by decide +kernel
theorem d_M_conflicts_46 : decode b_M_conflicts 46 = .ok (.ireturn, 1) := by decide +kernel
theorem d_M_ahead_0 : decode b_M_ahead 0 = .ok (.iload_n 2, 1) := by decide +kernel
theorem d_M_ahead_1 : decode b_M_ahead 1 = .ok (.iload_n 1, 1) := by decide +kernel
theorem d_M_ahead_2 : decode b_M_ahead 2 = .ok (.if_icmp .eq 47, 3) := by decide +kernel
theorem d_M_ahead_5 : decode b_M_ahead 5 = .ok (.aload_n 0, 1) := by decide +kernel
theorem d_M_ahead_6 : decode b_M_ahead 6 = .ok (.getfield 61, 3) := by decide +kernel
theorem d_M_ahead_9 : decode b_M_ahead 9 = .ok (.iload_n 2, 1) := by decide +kernel
theorem d_M_ahead_10 : decode b_M_ahead 10 = .ok (.iaload, 1) := by decide +kernel
theorem d_M_ahead_11 : decode b_M_ahead 11 = .ok (.iconst 2, 1) := by decide +kernel
theorem d_M_ahead_12 : decode b_M_ahead 12 = .ok (.if_icmp .ne 37, 3) := by decide +kernel
theorem d_M_ahead_15 : decode b_M_ahead 15 = .ok (.aload_n 0, 1) := by decide +kernel
theorem d_M_ahead_16 : decode b_M_ahead 16 = .ok (.getfield 70, 3) := by decide +kernel
theorem d_M_ahead_19 : decode b_M_ahead 19 = .ok (.iload_n 2, 1) := by decide +kernel
theorem d_M_ahead_20 : decode b_M_ahead 20 = .ok (.iaload, 1) := by decide +kernel
theorem d_M_ahead_21 : decode b_M_ahead 21 = .ok (.aload_n 0, 1) := by decide +kernel
theorem d_M_ahead_22 : decode b_M_ahead 22 = .ok (.getfield 70, 3) := by decide +kernel
theorem d_M_ahead_25 : decode b_M_ahead 25 = .ok (.iload_n 1, 1) := by decide +kernel
theorem d_M_ahead_26 : decode b_M_ahead 26 = .ok (.iaload, 1) := by decide +kernel
theorem d_M_ahead_27 : decode b_M_ahead 27 = .ok (.if_icmp .ne 22, 3) := by decide +kernel
theorem d_M_ahead_30 : decode b_M_ahead 30 = .ok (.aload_n 0, 1) := by decide +kernel
theorem d_M_ahead_31 : decode b_M_ahead 31 = .ok (.getfield 79, 3) := by decide +kernel
theorem d_M_ahead_34 : decode b_M_ahead 34 = .ok (.iload_n 2, 1) := by decide +kernel
theorem d_M_ahead_35 : decode b_M_ahead 35 = .ok (.iaload, 1) := by decide +kernel
theorem d_M_ahead_36 : decode b_M_ahead 36 = .ok (.aload_n 0, 1) := by decide +kernel
theorem d_M_ahead_37 : decode b_M_ahead 37 = .ok (.getfield 79, 3) := by decide +kernel
theorem d_M_ahead_40 : decode b_M_ahead 40 = .ok (.iload_n 1, 1) := by decide +kernel
theorem d_M_ahead_41 : decode b_M_ahead 41 = .ok (.iaload, 1) := by decide +kernel
theorem d_M_ahead_42 : decode b_M_ahead 42 = .ok (.if_icmp .ge 7, 3) := by decide +kernel
theorem d_M_ahead_45 : decode b_M_ahead 45 = .ok (.iconst 1, 1) := by decide +kernel
theorem d_M_ahead_46 : decode b_M_ahead 46 = .ok (.goto 4, 3) := by decide +kernel
theorem d_M_ahead_49 : decode b_M_ahead 49 = .ok (.iconst 0, 1) := by decide +kernel
theorem d_M_ahead_50 : decode b_M_ahead 50 = .ok (.ireturn, 1) := by decide +kernel
theorem d_M_waitsFor_0 : decode b_M_waitsFor 0 = .ok (.aload_n 0, 1) := by decide +kernel
theorem d_M_waitsFor_1 : decode b_M_waitsFor 1 = .ok (.getfield 61, 3) := by decide +kernel
theorem d_M_waitsFor_4 : decode b_M_waitsFor 4 = .ok (.iload_n 1, 1) := by decide +kernel
theorem d_M_waitsFor_5 : decode b_M_waitsFor 5 = .ok (.iaload, 1) := by decide +kernel
theorem d_M_waitsFor_6 : decode b_M_waitsFor 6 = .ok (.iconst 2, 1) := by decide +kernel
theorem d_M_waitsFor_7 : decode b_M_waitsFor 7 = .ok (.if_icmp .ne 44, 3) := by decide +kernel
theorem d_M_waitsFor_10 : decode b_M_waitsFor 10 = .ok (.aload_n 0, 1) := by decide +kernel
theorem d_M_waitsFor_11 : decode b_M_waitsFor 11 = .ok (.iload_n 1, 1) := by decide +kernel
theorem d_M_waitsFor_12 : decode b_M_waitsFor 12 = .ok (.iload_n 2, 1) := by decide +kernel
theorem d_M_waitsFor_13 : decode b_M_waitsFor 13 = .ok (.invokevirtual 131, 3) := by decide +kernel
theorem d_M_waitsFor_16 : decode b_M_waitsFor 16 = .ok (.ifCond .ne 31, 3) := by decide +kernel
theorem d_M_waitsFor_19 : decode b_M_waitsFor 19 = .ok (.aload_n 0, 1) := by decide +kernel
theorem d_M_waitsFor_20 : decode b_M_waitsFor 20 = .ok (.getfield 82, 3) := by decide +kernel
theorem d_M_waitsFor_23 : decode b_M_waitsFor 23 = .ok (.bipush 100, 2) := by decide +kernel
theorem d_M_waitsFor_25 : decode b_M_waitsFor 25 = .ok (.iload_n 1, 1) := by decide +kernel
theorem d_M_waitsFor_26 : decode b_M_waitsFor 26 = .ok (.imul, 1) := by decide +kernel
theorem d_M_waitsFor_27 : decode b_M_waitsFor 27 = .ok (.aload_n 0, 1) := by decide +kernel
theorem d_M_waitsFor_28 : decode b_M_waitsFor 28 = .ok (.getfield 70, 3) := by decide +kernel
theorem d_M_waitsFor_31 : decode b_M_waitsFor 31 = .ok (.iload_n 1, 1) := by decide +kernel
theorem d_M_waitsFor_32 : decode b_M_waitsFor 32 = .ok (.iaload, 1) := by decide +kernel
theorem d_M_waitsFor_33 : decode b_M_waitsFor 33 = .ok (.iadd, 1) := by decide +kernel
theorem d_M_waitsFor_34 : decode b_M_waitsFor 34 = .ok (.baload, 1) := by decide +kernel
theorem d_M_waitsFor_35 : decode b_M_waitsFor 35 = .ok (.ifCond .ne 16, 3) := by decide +kernel
theorem d_M_waitsFor_38 : decode b_M_waitsFor 38 = .ok (.aload_n 0, 1) := by decide +kernel
theorem d_M_waitsFor_39 : decode b_M_waitsFor 39 = .ok (.iload_n 1, 1) := by decide +kernel
theorem d_M_waitsFor_40 : decode b_M_waitsFor 40 = .ok (.iload_n 2, 1) := by decide +kernel
theorem d_M_waitsFor_41 : decode b_M_waitsFor 41 = .ok (.invokevirtual 135, 3) := by decide +kernel
theorem d_M_waitsFor_44 : decode b_M_waitsFor 44 = .ok (.ifCond .eq 7, 3) := by decide +kernel
theorem d_M_waitsFor_47 : decode b_M_waitsFor 47 = .ok (.iconst 1, 1) := by decide +kernel
theorem d_M_waitsFor_48 : decode b_M_waitsFor 48 = .ok (.goto 4, 3) := by decide +kernel
theorem d_M_waitsFor_51 : decode b_M_waitsFor 51 = .ok (.iconst 0, 1) := by decide +kernel
theorem d_M_waitsFor_52 : decode b_M_waitsFor 52 = .ok (.ireturn, 1) := by decide +kernel
theorem d_M_fit_0 : decode b_M_fit 0 = .ok (.aload_n 0, 1) := by decide +kernel
theorem d_M_fit_1 : decode b_M_fit 1 = .ok (.getfield 82, 3) := by decide +kernel
theorem d_M_fit_4 : decode b_M_fit 4 = .ok (.bipush 100, 2) := by decide +kernel
theorem d_M_fit_6 : decode b_M_fit 6 = .ok (.iload_n 1, 1) := by decide +kernel
theorem d_M_fit_7 : decode b_M_fit 7 = .ok (.imul, 1) := by decide +kernel
theorem d_M_fit_8 : decode b_M_fit 8 = .ok (.aload_n 0, 1) := by decide +kernel
theorem d_M_fit_9 : decode b_M_fit 9 = .ok (.getfield 70, 3) := by decide +kernel
theorem d_M_fit_12 : decode b_M_fit 12 = .ok (.iload_n 1, 1) := by decide +kernel
theorem d_M_fit_13 : decode b_M_fit 13 = .ok (.iaload, 1) := by decide +kernel
theorem d_M_fit_14 : decode b_M_fit 14 = .ok (.iadd, 1) := by decide +kernel
theorem d_M_fit_15 : decode b_M_fit 15 = .ok (.baload, 1) := by decide +kernel
theorem d_M_fit_16 : decode b_M_fit 16 = .ok (.istore_n 2, 1) := by decide +kernel
theorem d_M_fit_17 : decode b_M_fit 17 = .ok (.iload_n 2, 1) := by decide +kernel
theorem d_M_fit_18 : decode b_M_fit 18 = .ok (.aload_n 0, 1) := by decide +kernel
theorem d_M_fit_19 : decode b_M_fit 19 = .ok (.getfield 73, 3) := by decide +kernel
theorem d_M_fit_22 : decode b_M_fit 22 = .ok (.iload_n 1, 1) := by decide +kernel
theorem d_M_fit_23 : decode b_M_fit 23 = .ok (.iaload, 1) := by decide +kernel
theorem d_M_fit_24 : decode b_M_fit 24 = .ok (.if_icmp .lt 5, 3) := by decide +kernel
theorem d_M_fit_27 : decode b_M_fit 27 = .ok (.iconst 1, 1) := by decide +kernel
theorem d_M_fit_28 : decode b_M_fit 28 = .ok (.ireturn, 1) := by decide +kernel
theorem d_M_fit_29 : decode b_M_fit 29 = .ok (.iconst 1, 1) := by decide +kernel
theorem d_M_fit_30 : decode b_M_fit 30 = .ok (.istore_n 3, 1) := by decide +kernel
theorem d_M_fit_31 : decode b_M_fit 31 = .ok (.iload_n 3, 1) := by decide +kernel
theorem d_M_fit_32 : decode b_M_fit 32 = .ok (.aload_n 0, 1) := by decide +kernel
theorem d_M_fit_33 : decode b_M_fit 33 = .ok (.getfield 138, 3) := by decide +kernel
theorem d_M_fit_36 : decode b_M_fit 36 = .ok (.if_icmp .gt 33, 3) := by decide +kernel
theorem d_M_fit_39 : decode b_M_fit 39 = .ok (.aload_n 0, 1) := by decide +kernel
theorem d_M_fit_40 : decode b_M_fit 40 = .ok (.iload_n 1, 1) := by decide +kernel
theorem d_M_fit_41 : decode b_M_fit 41 = .ok (.iload_n 3, 1) := by decide +kernel
theorem d_M_fit_42 : decode b_M_fit 42 = .ok (.invokevirtual 131, 3) := by decide +kernel
theorem d_M_fit_45 : decode b_M_fit 45 = .ok (.ifCond .ne 16, 3) := by decide +kernel
theorem d_M_fit_48 : decode b_M_fit 48 = .ok (.iload_n 2, 1) := by decide +kernel
theorem d_M_fit_49 : decode b_M_fit 49 = .ok (.ifCond .ne 14, 3) := by decide +kernel
theorem d_M_fit_52 : decode b_M_fit 52 = .ok (.aload_n 0, 1) := by decide +kernel
theorem d_M_fit_53 : decode b_M_fit 53 = .ok (.iload_n 1, 1) := by decide +kernel
theorem d_M_fit_54 : decode b_M_fit 54 = .ok (.iload_n 3, 1) := by decide +kernel
theorem d_M_fit_55 : decode b_M_fit 55 = .ok (.invokevirtual 135, 3) := by decide +kernel
theorem d_M_fit_58 : decode b_M_fit 58 = .ok (.ifCond .eq 5, 3) := by decide +kernel
theorem d_M_fit_61 : decode b_M_fit 61 = .ok (.iconst 0, 1) := by decide +kernel
theorem d_M_fit_62 : decode b_M_fit 62 = .ok (.ireturn, 1) := by decide +kernel
theorem d_M_fit_63 : decode b_M_fit 63 = .ok (.iinc 3 1, 3) := by decide +kernel
theorem d_M_fit_66 : decode b_M_fit 66 = .ok (.goto (-35), 3) := by decide +kernel
theorem d_M_fit_69 : decode b_M_fit 69 = .ok (.iconst 1, 1) := by decide +kernel
theorem d_M_fit_70 : decode b_M_fit 70 = .ok (.ireturn, 1) := by decide +kernel
theorem d_M_ring_0 : decode b_M_ring 0 = .ok (.iconst 1, 1) := by decide +kernel
theorem d_M_ring_1 : decode b_M_ring 1 = .ok (.istore_n 2, 1) := by decide +kernel
theorem d_M_ring_2 : decode b_M_ring 2 = .ok (.iload_n 2, 1) := by decide +kernel
theorem d_M_ring_3 : decode b_M_ring 3 = .ok (.aload_n 0, 1) := by decide +kernel
theorem d_M_ring_4 : decode b_M_ring 4 = .ok (.getfield 138, 3) := by decide +kernel
theorem d_M_ring_7 : decode b_M_ring 7 = .ok (.if_icmp .gt 21, 3) := by decide +kernel
theorem d_M_ring_10 : decode b_M_ring 10 = .ok (.aload_n 0, 1) := by decide +kernel
theorem d_M_ring_11 : decode b_M_ring 11 = .ok (.getfield 86, 3) := by decide +kernel
theorem d_M_ring_14 : decode b_M_ring 14 = .ok (.iload_n 2, 1) := by decide +kernel
theorem d_M_ring_15 : decode b_M_ring 15 = .ok (.aload_n 0, 1) := by decide +kernel
theorem d_M_ring_16 : decode b_M_ring 16 = .ok (.iload_n 1, 1) := by decide +kernel
theorem d_M_ring_17 : decode b_M_ring 17 = .ok (.iload_n 2, 1) := by decide +kernel
theorem d_M_ring_18 : decode b_M_ring 18 = .ok (.invokevirtual 141, 3) := by decide +kernel
theorem d_M_ring_21 : decode b_M_ring 21 = .ok (.bastore, 1) := by decide +kernel
theorem d_M_ring_22 : decode b_M_ring 22 = .ok (.iinc 2 1, 3) := by decide +kernel
theorem d_M_ring_25 : decode b_M_ring 25 = .ok (.goto (-23), 3) := by decide +kernel
theorem d_M_ring_28 : decode b_M_ring 28 = .ok (.iconst 0, 1) := by decide +kernel
theorem d_M_ring_29 : decode b_M_ring 29 = .ok (.istore_n 2, 1) := by decide +kernel
theorem d_M_ring_30 : decode b_M_ring 30 = .ok (.iload_n 2, 1) := by decide +kernel
theorem d_M_ring_31 : decode b_M_ring 31 = .ok (.iconst 4, 1) := by decide +kernel
theorem d_M_ring_32 : decode b_M_ring 32 = .ok (.if_icmp .ge 84, 3) := by decide +kernel
theorem d_M_ring_35 : decode b_M_ring 35 = .ok (.iconst 1, 1) := by decide +kernel
theorem d_M_ring_36 : decode b_M_ring 36 = .ok (.istore_n 3, 1) := by decide +kernel
theorem d_M_ring_37 : decode b_M_ring 37 = .ok (.iload_n 3, 1) := by decide +kernel
theorem d_M_ring_38 : decode b_M_ring 38 = .ok (.aload_n 0, 1) := by decide +kernel
theorem d_M_ring_39 : decode b_M_ring 39 = .ok (.getfield 138, 3) := by decide +kernel
theorem d_M_ring_42 : decode b_M_ring 42 = .ok (.if_icmp .gt 68, 3) := by decide +kernel
theorem d_M_ring_45 : decode b_M_ring 45 = .ok (.iconst 1, 1) := by decide +kernel
theorem d_M_ring_46 : decode b_M_ring 46 = .ok (.istore 4, 2) := by decide +kernel
theorem d_M_ring_48 : decode b_M_ring 48 = .ok (.iload 4, 2) := by decide +kernel
theorem d_M_ring_50 : decode b_M_ring 50 = .ok (.aload_n 0, 1) := by decide +kernel
theorem d_M_ring_51 : decode b_M_ring 51 = .ok (.getfield 138, 3) := by decide +kernel
theorem d_M_ring_54 : decode b_M_ring 54 = .ok (.if_icmp .gt 50, 3) := by decide +kernel
theorem d_M_ring_57 : decode b_M_ring 57 = .ok (.aload_n 0, 1) := by decide +kernel
theorem d_M_ring_58 : decode b_M_ring 58 = .ok (.getfield 86, 3) := by decide +kernel
theorem d_M_ring_61 : decode b_M_ring 61 = .ok (.iload_n 3, 1) := by decide +kernel
theorem d_M_ring_62 : decode b_M_ring 62 = .ok (.baload, 1) := by decide +kernel
theorem d_M_ring_63 : decode b_M_ring 63 = .ok (.ifCond .eq 41, 3) := by decide +kernel
theorem d_M_ring_66 : decode b_M_ring 66 = .ok (.aload_n 0, 1) := by decide +kernel
theorem d_M_ring_67 : decode b_M_ring 67 = .ok (.getfield 86, 3) := by decide +kernel
theorem d_M_ring_70 : decode b_M_ring 70 = .ok (.iload 4, 2) := by decide +kernel
theorem d_M_ring_72 : decode b_M_ring 72 = .ok (.aload_n 0, 1) := by decide +kernel
theorem d_M_ring_73 : decode b_M_ring 73 = .ok (.getfield 86, 3) := by decide +kernel
theorem d_M_ring_76 : decode b_M_ring 76 = .ok (.iload 4, 2) := by decide +kernel
theorem d_M_ring_78 : decode b_M_ring 78 = .ok (.baload, 1) := by decide +kernel
theorem d_M_ring_79 : decode b_M_ring 79 = .ok (.ifCond .ne 13, 3) := by decide +kernel
theorem d_M_ring_82 : decode b_M_ring 82 = .ok (.aload_n 0, 1) := by decide +kernel
theorem d_M_ring_83 : decode b_M_ring 83 = .ok (.iload_n 3, 1) := by decide +kernel
theorem d_M_ring_84 : decode b_M_ring 84 = .ok (.iload 4, 2) := by decide +kernel
theorem d_M_ring_86 : decode b_M_ring 86 = .ok (.invokevirtual 141, 3) := by decide +kernel
theorem d_M_ring_89 : decode b_M_ring 89 = .ok (.ifCond .eq 7, 3) := by decide +kernel
theorem d_M_ring_92 : decode b_M_ring 92 = .ok (.iconst 1, 1) := by decide +kernel
theorem d_M_ring_93 : decode b_M_ring 93 = .ok (.goto 4, 3) := by decide +kernel
theorem d_M_ring_96 : decode b_M_ring 96 = .ok (.iconst 0, 1) := by decide +kernel
theorem d_M_ring_97 : decode b_M_ring 97 = .ok (.bastore, 1) := by decide +kernel
theorem d_M_ring_98 : decode b_M_ring 98 = .ok (.iinc 4 1, 3) := by decide +kernel
theorem d_M_ring_101 : decode b_M_ring 101 = .ok (.goto (-53), 3) := by decide +kernel
theorem d_M_ring_104 : decode b_M_ring 104 = .ok (.iinc 3 1, 3) := by decide +kernel
theorem d_M_ring_107 : decode b_M_ring 107 = .ok (.goto (-70), 3) := by decide +kernel
theorem d_M_ring_110 : decode b_M_ring 110 = .ok (.iinc 2 1, 3) := by decide +kernel
theorem d_M_ring_113 : decode b_M_ring 113 = .ok (.goto (-83), 3) := by decide +kernel
theorem d_M_ring_116 : decode b_M_ring 116 = .ok (.aload_n 0, 1) := by decide +kernel
theorem d_M_ring_117 : decode b_M_ring 117 = .ok (.getfield 86, 3) := by decide +kernel
theorem d_M_ring_120 : decode b_M_ring 120 = .ok (.iload_n 1, 1) := by decide +kernel
theorem d_M_ring_121 : decode b_M_ring 121 = .ok (.baload, 1) := by decide +kernel
theorem d_M_ring_122 : decode b_M_ring 122 = .ok (.ireturn, 1) := by decide +kernel
end
section
theorem d_M_grant_0 : decode b_M_grant 0 = .ok (.aload_n 0, 1) := by decide +kernel
theorem d_M_grant_1 : decode b_M_grant 1 = .ok (.getfield 70, 3) := by decide +kernel
theorem d_M_grant_4 : decode b_M_grant 4 = .ok (.iload_n 1, 1) := by decide +kernel
theorem d_M_grant_5 : decode b_M_grant 5 = .ok (.iaload, 1) := by decide +kernel
theorem d_M_grant_6 : decode b_M_grant 6 = .ok (.istore_n 2, 1) := by decide +kernel
theorem d_M_grant_7 : decode b_M_grant 7 = .ok (.aload_n 0, 1) := by decide +kernel
theorem d_M_grant_8 : decode b_M_grant 8 = .ok (.getfield 82, 3) := by decide +kernel
theorem d_M_grant_11 : decode b_M_grant 11 = .ok (.bipush 100, 2) := by decide +kernel
theorem d_M_grant_13 : decode b_M_grant 13 = .ok (.iload_n 1, 1) := by decide +kernel
theorem d_M_grant_14 : decode b_M_grant 14 = .ok (.imul, 1) := by decide +kernel
theorem d_M_grant_15 : decode b_M_grant 15 = .ok (.iload_n 2, 1) := by decide +kernel
theorem d_M_grant_16 : decode b_M_grant 16 = .ok (.iadd, 1) := by decide +kernel
theorem d_M_grant_17 : decode b_M_grant 17 = .ok (.baload, 1) := by decide +kernel
theorem d_M_grant_18 : decode b_M_grant 18 = .ok (.aload_n 0, 1) := by decide +kernel
theorem d_M_grant_19 : decode b_M_grant 19 = .ok (.getfield 73, 3) := by decide +kernel
theorem d_M_grant_22 : decode b_M_grant 22 = .ok (.iload_n 1, 1) := by decide +kernel
theorem d_M_grant_23 : decode b_M_grant 23 = .ok (.iaload, 1) := by decide +kernel
theorem d_M_grant_24 : decode b_M_grant 24 = .ok (.if_icmp .ge 21, 3) := by decide +kernel
theorem d_M_grant_27 : decode b_M_grant 27 = .ok (.aload_n 0, 1) := by decide +kernel
theorem d_M_grant_28 : decode b_M_grant 28 = .ok (.getfield 82, 3) := by decide +kernel
theorem d_M_grant_31 : decode b_M_grant 31 = .ok (.bipush 100, 2) := by decide +kernel
theorem d_M_grant_33 : decode b_M_grant 33 = .ok (.iload_n 1, 1) := by decide +kernel
theorem d_M_grant_34 : decode b_M_grant 34 = .ok (.imul, 1) := by decide +kernel
theorem d_M_grant_35 : decode b_M_grant 35 = .ok (.iload_n 2, 1) := by decide +kernel
theorem d_M_grant_36 : decode b_M_grant 36 = .ok (.iadd, 1) := by decide +kernel
theorem d_M_grant_37 : decode b_M_grant 37 = .ok (.aload_n 0, 1) := by decide +kernel
theorem d_M_grant_38 : decode b_M_grant 38 = .ok (.getfield 73, 3) := by decide +kernel
theorem d_M_grant_41 : decode b_M_grant 41 = .ok (.iload_n 1, 1) := by decide +kernel
theorem d_M_grant_42 : decode b_M_grant 42 = .ok (.iaload, 1) := by decide +kernel
theorem d_M_grant_43 : decode b_M_grant 43 = .ok (.i2b, 1) := by decide +kernel
theorem d_M_grant_44 : decode b_M_grant 44 = .ok (.bastore, 1) := by decide +kernel
theorem d_M_grant_45 : decode b_M_grant 45 = .ok (.aload_n 0, 1) := by decide +kernel
theorem d_M_grant_46 : decode b_M_grant 46 = .ok (.getfield 61, 3) := by decide +kernel
theorem d_M_grant_49 : decode b_M_grant 49 = .ok (.iload_n 1, 1) := by decide +kernel
theorem d_M_grant_50 : decode b_M_grant 50 = .ok (.iconst 1, 1) := by decide +kernel
theorem d_M_grant_51 : decode b_M_grant 51 = .ok (.iastore, 1) := by decide +kernel
theorem d_M_grant_52 : decode b_M_grant 52 = .ok (.aload_n 0, 1) := by decide +kernel
theorem d_M_grant_53 : decode b_M_grant 53 = .ok (.getfield 64, 3) := by decide +kernel
theorem d_M_grant_56 : decode b_M_grant 56 = .ok (.iload_n 1, 1) := by decide +kernel
theorem d_M_grant_57 : decode b_M_grant 57 = .ok (.iconst 0, 1) := by decide +kernel
theorem d_M_grant_58 : decode b_M_grant 58 = .ok (.iastore, 1) := by decide +kernel
theorem d_M_grant_59 : decode b_M_grant 59 = .ok (.aload_n 0, 1) := by decide +kernel
theorem d_M_grant_60 : decode b_M_grant 60 = .ok (.iload_n 2, 1) := by decide +kernel
theorem d_M_grant_61 : decode b_M_grant 61 = .ok (.invokevirtual 144, 3) := by decide +kernel
theorem d_M_grant_64 : decode b_M_grant 64 = .ok (.istore_n 3, 1) := by decide +kernel
theorem d_M_grant_65 : decode b_M_grant 65 = .ok (.aload_n 0, 1) := by decide +kernel
theorem d_M_grant_66 : decode b_M_grant 66 = .ok (.getfield 73, 3) := by decide +kernel
theorem d_M_grant_69 : decode b_M_grant 69 = .ok (.iload_n 1, 1) := by decide +kernel
theorem d_M_grant_70 : decode b_M_grant 70 = .ok (.iaload, 1) := by decide +kernel
theorem d_M_grant_71 : decode b_M_grant 71 = .ok (.iconst 1, 1) := by decide +kernel
theorem d_M_grant_72 : decode b_M_grant 72 = .ok (.if_icmp .ne 35, 3) := by decide +kernel
theorem d_M_grant_75 : decode b_M_grant 75 = .ok (.iload_n 3, 1) := by decide +kernel
theorem d_M_grant_76 : decode b_M_grant 76 = .ok (.ifCond .lt 10, 3) := by decide +kernel
theorem d_M_grant_79 : decode b_M_grant 79 = .ok (.aload_n 0, 1) := by decide +kernel
theorem d_M_grant_80 : decode b_M_grant 80 = .ok (.iload_n 3, 1) := by decide +kernel
theorem d_M_grant_81 : decode b_M_grant 81 = .ok (.iconst 4, 1) := by decide +kernel
theorem d_M_grant_82 : decode b_M_grant 82 = .ok (.idiv, 1) := by decide +kernel
theorem d_M_grant_83 : decode b_M_grant 83 = .ok (.invokevirtual 121, 3) := by decide +kernel
theorem d_M_grant_86 : decode b_M_grant 86 = .ok (.aload_n 0, 1) := by decide +kernel
theorem d_M_grant_87 : decode b_M_grant 87 = .ok (.getfield 67, 3) := by decide +kernel
theorem d_M_grant_90 : decode b_M_grant 90 = .ok (.iload_n 1, 1) := by decide +kernel
theorem d_M_grant_91 : decode b_M_grant 91 = .ok (.iload_n 3, 1) := by decide +kernel
theorem d_M_grant_92 : decode b_M_grant 92 = .ok (.ifCond .lt 12, 3) := by decide +kernel
theorem d_M_grant_95 : decode b_M_grant 95 = .ok (.aload_n 0, 1) := by decide +kernel
theorem d_M_grant_96 : decode b_M_grant 96 = .ok (.getfield 49, 3) := by decide +kernel
theorem d_M_grant_99 : decode b_M_grant 99 = .ok (.iload_n 3, 1) := by decide +kernel
theorem d_M_grant_100 : decode b_M_grant 100 = .ok (.iaload, 1) := by decide +kernel
theorem d_M_grant_101 : decode b_M_grant 101 = .ok (.goto 4, 3) := by decide +kernel
theorem d_M_grant_104 : decode b_M_grant 104 = .ok (.iconst 0, 1) := by decide +kernel
theorem d_M_grant_105 : decode b_M_grant 105 = .ok (.iastore, 1) := by decide +kernel
theorem d_M_grant_106 : decode b_M_grant 106 = .ok (.return_, 1) := by decide +kernel
theorem d_M_grant_107 : decode b_M_grant 107 = .ok (.iload_n 3, 1) := by decide +kernel
theorem d_M_grant_108 : decode b_M_grant 108 = .ok (.ifCond .ge 11, 3) := by decide +kernel
theorem d_M_grant_111 : decode b_M_grant 111 = .ok (.aload_n 0, 1) := by decide +kernel
theorem d_M_grant_112 : decode b_M_grant 112 = .ok (.iconst (-1), 1) := by decide +kernel
theorem d_M_grant_113 : decode b_M_grant 113 = .ok (.invokevirtual 144, 3) := by decide +kernel
theorem d_M_grant_116 : decode b_M_grant 116 = .ok (.goto 4, 3) := by decide +kernel
theorem d_M_grant_119 : decode b_M_grant 119 = .ok (.iload_n 3, 1) := by decide +kernel
theorem d_M_grant_120 : decode b_M_grant 120 = .ok (.istore_n 3, 1) := by decide +kernel
theorem d_M_grant_121 : decode b_M_grant 121 = .ok (.iload_n 3, 1) := by decide +kernel
theorem d_M_grant_122 : decode b_M_grant 122 = .ok (.ifCond .lt 13, 3) := by decide +kernel
theorem d_M_grant_125 : decode b_M_grant 125 = .ok (.aload_n 0, 1) := by decide +kernel
theorem d_M_grant_126 : decode b_M_grant 126 = .ok (.iconst 1, 1) := by decide +kernel
theorem d_M_grant_127 : decode b_M_grant 127 = .ok (.invokevirtual 147, 3) := by decide +kernel
theorem d_M_grant_130 : decode b_M_grant 130 = .ok (.bipush 60, 2) := by decide +kernel
theorem d_M_grant_132 : decode b_M_grant 132 = .ok (.if_icmp .lt 11, 3) := by decide +kernel
theorem d_M_grant_135 : decode b_M_grant 135 = .ok (.aload_n 0, 1) := by decide +kernel
theorem d_M_grant_136 : decode b_M_grant 136 = .ok (.getfield 64, 3) := by decide +kernel
theorem d_M_grant_139 : decode b_M_grant 139 = .ok (.iload_n 1, 1) := by decide +kernel
theorem d_M_grant_140 : decode b_M_grant 140 = .ok (.iconst 3, 1) := by decide +kernel
theorem d_M_grant_141 : decode b_M_grant 141 = .ok (.iastore, 1) := by decide +kernel
theorem d_M_grant_142 : decode b_M_grant 142 = .ok (.return_, 1) := by decide +kernel
theorem d_M_grant_143 : decode b_M_grant 143 = .ok (.aload_n 0, 1) := by decide +kernel
theorem d_M_grant_144 : decode b_M_grant 144 = .ok (.iload_n 3, 1) := by decide +kernel
theorem d_M_grant_145 : decode b_M_grant 145 = .ok (.iconst 4, 1) := by decide +kernel
theorem d_M_grant_146 : decode b_M_grant 146 = .ok (.idiv, 1) := by decide +kernel
theorem d_M_grant_147 : decode b_M_grant 147 = .ok (.invokevirtual 121, 3) := by decide +kernel
theorem d_M_grant_150 : decode b_M_grant 150 = .ok (.aload_n 0, 1) := by decide +kernel
theorem d_M_grant_151 : decode b_M_grant 151 = .ok (.iconst 1, 1) := by decide +kernel
theorem d_M_grant_152 : decode b_M_grant 152 = .ok (.iload_n 1, 1) := by decide +kernel
theorem d_M_grant_153 : decode b_M_grant 153 = .ok (.iload_n 3, 1) := by decide +kernel
theorem d_M_grant_154 : decode b_M_grant 154 = .ok (.invokevirtual 124, 3) := by decide +kernel
theorem d_M_grant_157 : decode b_M_grant 157 = .ok (.istore 4, 2) := by decide +kernel
theorem d_M_grant_159 : decode b_M_grant 159 = .ok (.aload_n 0, 1) := by decide +kernel
theorem d_M_grant_160 : decode b_M_grant 160 = .ok (.getfield 19, 3) := by decide +kernel
theorem d_M_grant_163 : decode b_M_grant 163 = .ok (.iload 4, 2) := by decide +kernel
theorem d_M_grant_165 : decode b_M_grant 165 = .ok (.aload_n 0, 1) := by decide +kernel
theorem d_M_grant_166 : decode b_M_grant 166 = .ok (.getfield 46, 3) := by decide +kernel
theorem d_M_grant_169 : decode b_M_grant 169 = .ok (.iload_n 3, 1) := by decide +kernel
theorem d_M_grant_170 : decode b_M_grant 170 = .ok (.iaload, 1) := by decide +kernel
theorem d_M_grant_171 : decode b_M_grant 171 = .ok (.iastore, 1) := by decide +kernel
theorem d_M_grant_172 : decode b_M_grant 172 = .ok (.aload_n 0, 1) := by decide +kernel
theorem d_M_grant_173 : decode b_M_grant 173 = .ok (.getfield 22, 3) := by decide +kernel
theorem d_M_grant_176 : decode b_M_grant 176 = .ok (.iload 4, 2) := by decide +kernel
theorem d_M_grant_178 : decode b_M_grant 178 = .ok (.aload_n 0, 1) := by decide +kernel
theorem d_M_grant_179 : decode b_M_grant 179 = .ok (.getfield 49, 3) := by decide +kernel
theorem d_M_grant_182 : decode b_M_grant 182 = .ok (.iload_n 3, 1) := by decide +kernel
theorem d_M_grant_183 : decode b_M_grant 183 = .ok (.iaload, 1) := by decide +kernel
theorem d_M_grant_184 : decode b_M_grant 184 = .ok (.iastore, 1) := by decide +kernel
theorem d_M_grant_185 : decode b_M_grant 185 = .ok (.aload_n 0, 1) := by decide +kernel
theorem d_M_grant_186 : decode b_M_grant 186 = .ok (.getfield 25, 3) := by decide +kernel
theorem d_M_grant_189 : decode b_M_grant 189 = .ok (.iload 4, 2) := by decide +kernel
theorem d_M_grant_191 : decode b_M_grant 191 = .ok (.iload_n 2, 1) := by decide +kernel
theorem d_M_grant_192 : decode b_M_grant 192 = .ok (.iastore, 1) := by decide +kernel
theorem d_M_grant_193 : decode b_M_grant 193 = .ok (.aload_n 0, 1) := by decide +kernel
theorem d_M_grant_194 : decode b_M_grant 194 = .ok (.getfield 28, 3) := by decide +kernel
theorem d_M_grant_197 : decode b_M_grant 197 = .ok (.iload 4, 2) := by decide +kernel
theorem d_M_grant_199 : decode b_M_grant 199 = .ok (.aload_n 0, 1) := by decide +kernel
theorem d_M_grant_200 : decode b_M_grant 200 = .ok (.getfield 76, 3) := by decide +kernel
theorem d_M_grant_203 : decode b_M_grant 203 = .ok (.iload_n 1, 1) := by decide +kernel
theorem d_M_grant_204 : decode b_M_grant 204 = .ok (.iaload, 1) := by decide +kernel
theorem d_M_grant_205 : decode b_M_grant 205 = .ok (.iastore, 1) := by decide +kernel
theorem d_M_grant_206 : decode b_M_grant 206 = .ok (.aload_n 0, 1) := by decide +kernel
theorem d_M_grant_207 : decode b_M_grant 207 = .ok (.iload 4, 2) := by decide +kernel
theorem d_M_grant_209 : decode b_M_grant 209 = .ok (.invokevirtual 128, 3) := by decide +kernel
theorem d_M_grant_212 : decode b_M_grant 212 = .ok (.return_, 1) := by decide +kernel
theorem d_M_drop_0 : decode b_M_drop 0 = .ok (.iconst 0, 1) := by decide +kernel
theorem d_M_drop_1 : decode b_M_drop 1 = .ok (.istore_n 2, 1) := by decide +kernel
theorem d_M_drop_2 : decode b_M_drop 2 = .ok (.iload_n 2, 1) := by decide +kernel
theorem d_M_drop_3 : decode b_M_drop 3 = .ok (.bipush 60, 2) := by decide +kernel
theorem d_M_drop_5 : decode b_M_drop 5 = .ok (.if_icmp .ge 26, 3) := by decide +kernel
theorem d_M_drop_8 : decode b_M_drop 8 = .ok (.aload_n 0, 1) := by decide +kernel
theorem d_M_drop_9 : decode b_M_drop 9 = .ok (.iload_n 1, 1) := by decide +kernel
theorem d_M_drop_10 : decode b_M_drop 10 = .ok (.invokevirtual 150, 3) := by decide +kernel
theorem d_M_drop_13 : decode b_M_drop 13 = .ok (.ifCond .le 18, 3) := by decide +kernel
theorem d_M_drop_16 : decode b_M_drop 16 = .ok (.aload_n 0, 1) := by decide +kernel
theorem d_M_drop_17 : decode b_M_drop 17 = .ok (.aload_n 0, 1) := by decide +kernel
theorem d_M_drop_18 : decode b_M_drop 18 = .ok (.iload_n 1, 1) := by decide +kernel
theorem d_M_drop_19 : decode b_M_drop 19 = .ok (.invokevirtual 150, 3) := by decide +kernel
theorem d_M_drop_22 : decode b_M_drop 22 = .ok (.invokevirtual 153, 3) := by decide +kernel
theorem d_M_drop_25 : decode b_M_drop 25 = .ok (.iinc 2 1, 3) := by decide +kernel
theorem d_M_drop_28 : decode b_M_drop 28 = .ok (.goto (-26), 3) := by decide +kernel
theorem d_M_drop_31 : decode b_M_drop 31 = .ok (.aload_n 0, 1) := by decide +kernel
theorem d_M_drop_32 : decode b_M_drop 32 = .ok (.getfield 61, 3) := by decide +kernel
theorem d_M_drop_35 : decode b_M_drop 35 = .ok (.iload_n 1, 1) := by decide +kernel
theorem d_M_drop_36 : decode b_M_drop 36 = .ok (.iconst 5, 1) := by decide +kernel
theorem d_M_drop_37 : decode b_M_drop 37 = .ok (.iastore, 1) := by decide +kernel
theorem d_M_drop_38 : decode b_M_drop 38 = .ok (.aload_n 0, 1) := by decide +kernel
theorem d_M_drop_39 : decode b_M_drop 39 = .ok (.iload_n 1, 1) := by decide +kernel
theorem d_M_drop_40 : decode b_M_drop 40 = .ok (.invokevirtual 156, 3) := by decide +kernel
theorem d_M_drop_43 : decode b_M_drop 43 = .ok (.return_, 1) := by decide +kernel
theorem d_M_firm_0 : decode b_M_firm 0 = .ok (.iconst 1, 1) := by decide +kernel
theorem d_M_firm_1 : decode b_M_firm 1 = .ok (.istore_n 1, 1) := by decide +kernel
theorem d_M_firm_2 : decode b_M_firm 2 = .ok (.iload_n 1, 1) := by decide +kernel
theorem d_M_firm_3 : decode b_M_firm 3 = .ok (.aload_n 0, 1) := by decide +kernel
theorem d_M_firm_4 : decode b_M_firm 4 = .ok (.getfield 97, 3) := by decide +kernel
theorem d_M_firm_7 : decode b_M_firm 7 = .ok (.if_icmp .gt 41, 3) := by decide +kernel
theorem d_M_firm_10 : decode b_M_firm 10 = .ok (.aload_n 0, 1) := by decide +kernel
theorem d_M_firm_11 : decode b_M_firm 11 = .ok (.getfield 7, 3) := by decide +kernel
theorem d_M_firm_14 : decode b_M_firm 14 = .ok (.iload_n 1, 1) := by decide +kernel
theorem d_M_firm_15 : decode b_M_firm 15 = .ok (.iaload, 1) := by decide +kernel
theorem d_M_firm_16 : decode b_M_firm 16 = .ok (.iconst 3, 1) := by decide +kernel
theorem d_M_firm_17 : decode b_M_firm 17 = .ok (.if_icmp .ne 25, 3) := by decide +kernel
theorem d_M_firm_20 : decode b_M_firm 20 = .ok (.aload_n 0, 1) := by decide +kernel
theorem d_M_firm_21 : decode b_M_firm 21 = .ok (.getfield 61, 3) := by decide +kernel
theorem d_M_firm_24 : decode b_M_firm 24 = .ok (.aload_n 0, 1) := by decide +kernel
theorem d_M_firm_25 : decode b_M_firm 25 = .ok (.getfield 13, 3) := by decide +kernel
theorem d_M_firm_28 : decode b_M_firm 28 = .ok (.iload_n 1, 1) := by decide +kernel
theorem d_M_firm_29 : decode b_M_firm 29 = .ok (.iaload, 1) := by decide +kernel
theorem d_M_firm_30 : decode b_M_firm 30 = .ok (.iaload, 1) := by decide +kernel
theorem d_M_firm_31 : decode b_M_firm 31 = .ok (.iconst 3, 1) := by decide +kernel
theorem d_M_firm_32 : decode b_M_firm 32 = .ok (.if_icmp .ne 10, 3) := by decide +kernel
theorem d_M_firm_35 : decode b_M_firm 35 = .ok (.aload_n 0, 1) := by decide +kernel
theorem d_M_firm_36 : decode b_M_firm 36 = .ok (.getfield 13, 3) := by decide +kernel
theorem d_M_firm_39 : decode b_M_firm 39 = .ok (.iload_n 1, 1) := by decide +kernel
theorem d_M_firm_40 : decode b_M_firm 40 = .ok (.iaload, 1) := by decide +kernel
theorem d_M_firm_41 : decode b_M_firm 41 = .ok (.ireturn, 1) := by decide +kernel
theorem d_M_firm_42 : decode b_M_firm 42 = .ok (.iinc 1 1, 3) := by decide +kernel
theorem d_M_firm_45 : decode b_M_firm 45 = .ok (.goto (-43), 3) := by decide +kernel
theorem d_M_firm_48 : decode b_M_firm 48 = .ok (.iconst 0, 1) := by decide +kernel
theorem d_M_firm_49 : decode b_M_firm 49 = .ok (.ireturn, 1) := by decide +kernel
theorem d_M_firstFit_0 : decode b_M_firstFit 0 = .ok (.iconst 0, 1) := by decide +kernel
theorem d_M_firstFit_1 : decode b_M_firstFit 1 = .ok (.istore_n 1, 1) := by decide +kernel
theorem d_M_firstFit_2 : decode b_M_firstFit 2 = .ok (.iconst 1, 1) := by decide +kernel
theorem d_M_firstFit_3 : decode b_M_firstFit 3 = .ok (.istore_n 2, 1) := by decide +kernel
theorem d_M_firstFit_4 : decode b_M_firstFit 4 = .ok (.iload_n 2, 1) := by decide +kernel
theorem d_M_firstFit_5 : decode b_M_firstFit 5 = .ok (.aload_n 0, 1) := by decide +kernel
theorem d_M_firstFit_6 : decode b_M_firstFit 6 = .ok (.getfield 138, 3) := by decide +kernel
theorem d_M_firstFit_9 : decode b_M_firstFit 9 = .ok (.if_icmp .gt 48, 3) := by decide +kernel
theorem d_M_firstFit_12 : decode b_M_firstFit 12 = .ok (.aload_n 0, 1) := by decide +kernel
theorem d_M_firstFit_13 : decode b_M_firstFit 13 = .ok (.getfield 61, 3) := by decide +kernel
theorem d_M_firstFit_16 : decode b_M_firstFit 16 = .ok (.iload_n 2, 1) := by decide +kernel
theorem d_M_firstFit_17 : decode b_M_firstFit 17 = .ok (.iaload, 1) := by decide +kernel
theorem d_M_firstFit_18 : decode b_M_firstFit 18 = .ok (.iconst 2, 1) := by decide +kernel
theorem d_M_firstFit_19 : decode b_M_firstFit 19 = .ok (.if_icmp .ne 32, 3) := by decide +kernel
theorem d_M_firstFit_22 : decode b_M_firstFit 22 = .ok (.iload_n 1, 1) := by decide +kernel
theorem d_M_firstFit_23 : decode b_M_firstFit 23 = .ok (.ifCond .eq 18, 3) := by decide +kernel
theorem d_M_firstFit_26 : decode b_M_firstFit 26 = .ok (.aload_n 0, 1) := by decide +kernel
theorem d_M_firstFit_27 : decode b_M_firstFit 27 = .ok (.getfield 79, 3) := by decide +kernel
theorem d_M_firstFit_30 : decode b_M_firstFit 30 = .ok (.iload_n 2, 1) := by decide +kernel
theorem d_M_firstFit_31 : decode b_M_firstFit 31 = .ok (.iaload, 1) := by decide +kernel
theorem d_M_firstFit_32 : decode b_M_firstFit 32 = .ok (.aload_n 0, 1) := by decide +kernel
theorem d_M_firstFit_33 : decode b_M_firstFit 33 = .ok (.getfield 79, 3) := by decide +kernel
theorem d_M_firstFit_36 : decode b_M_firstFit 36 = .ok (.iload_n 1, 1) := by decide +kernel
theorem d_M_firstFit_37 : decode b_M_firstFit 37 = .ok (.iaload, 1) := by decide +kernel
theorem d_M_firstFit_38 : decode b_M_firstFit 38 = .ok (.if_icmp .ge 13, 3) := by decide +kernel
theorem d_M_firstFit_41 : decode b_M_firstFit 41 = .ok (.aload_n 0, 1) := by decide +kernel
theorem d_M_firstFit_42 : decode b_M_firstFit 42 = .ok (.iload_n 2, 1) := by decide +kernel
theorem d_M_firstFit_43 : decode b_M_firstFit 43 = .ok (.invokevirtual 159, 3) := by decide +kernel
theorem d_M_firstFit_46 : decode b_M_firstFit 46 = .ok (.ifCond .eq 5, 3) := by decide +kernel
theorem d_M_firstFit_49 : decode b_M_firstFit 49 = .ok (.iload_n 2, 1) := by decide +kernel
theorem d_M_firstFit_50 : decode b_M_firstFit 50 = .ok (.istore_n 1, 1) := by decide +kernel
theorem d_M_firstFit_51 : decode b_M_firstFit 51 = .ok (.iinc 2 1, 3) := by decide +kernel
theorem d_M_firstFit_54 : decode b_M_firstFit 54 = .ok (.goto (-50), 3) := by decide +kernel
theorem d_M_firstFit_57 : decode b_M_firstFit 57 = .ok (.iload_n 1, 1) := by decide +kernel
theorem d_M_firstFit_58 : decode b_M_firstFit 58 = .ok (.ireturn, 1) := by decide +kernel
theorem d_M_settle_0 : decode b_M_settle 0 = .ok (.iconst 1, 1) := by decide +kernel
theorem d_M_settle_1 : decode b_M_settle 1 = .ok (.istore_n 1, 1) := by decide +kernel
theorem d_M_settle_2 : decode b_M_settle 2 = .ok (.iconst 0, 1) := by decide +kernel
theorem d_M_settle_3 : decode b_M_settle 3 = .ok (.istore_n 2, 1) := by decide +kernel
theorem d_M_settle_4 : decode b_M_settle 4 = .ok (.iload_n 2, 1) := by decide +kernel
theorem d_M_settle_5 : decode b_M_settle 5 = .ok (.sipush 1000, 3) := by decide +kernel
theorem d_M_settle_8 : decode b_M_settle 8 = .ok (.if_icmp .ge 72, 3) := by decide +kernel
theorem d_M_settle_11 : decode b_M_settle 11 = .ok (.iload_n 1, 1) := by decide +kernel
theorem d_M_settle_12 : decode b_M_settle 12 = .ok (.ifCond .eq 68, 3) := by decide +kernel
theorem d_M_settle_15 : decode b_M_settle 15 = .ok (.aload_n 0, 1) := by decide +kernel
theorem d_M_settle_16 : decode b_M_settle 16 = .ok (.invokevirtual 162, 3) := by decide +kernel
theorem d_M_settle_19 : decode b_M_settle 19 = .ok (.istore_n 3, 1) := by decide +kernel
theorem d_M_settle_20 : decode b_M_settle 20 = .ok (.iload_n 3, 1) := by decide +kernel
theorem d_M_settle_21 : decode b_M_settle 21 = .ok (.ifCond .le 7, 3) := by decide +kernel
theorem d_M_settle_24 : decode b_M_settle 24 = .ok (.iconst 0, 1) := by decide +kernel
theorem d_M_settle_25 : decode b_M_settle 25 = .ok (.goto 7, 3) := by decide +kernel
theorem d_M_settle_28 : decode b_M_settle 28 = .ok (.aload_n 0, 1) := by decide +kernel
theorem d_M_settle_29 : decode b_M_settle 29 = .ok (.invokevirtual 166, 3) := by decide +kernel
theorem d_M_settle_32 : decode b_M_settle 32 = .ok (.istore 4, 2) := by decide +kernel
theorem d_M_settle_34 : decode b_M_settle 34 = .ok (.iload_n 3, 1) := by decide +kernel
theorem d_M_settle_35 : decode b_M_settle 35 = .ok (.ifCond .le 15, 3) := by decide +kernel
theorem d_M_settle_38 : decode b_M_settle 38 = .ok (.aload_n 0, 1) := by decide +kernel
theorem d_M_settle_39 : decode b_M_settle 39 = .ok (.getfield 61, 3) := by decide +kernel
theorem d_M_settle_42 : decode b_M_settle 42 = .ok (.iload_n 3, 1) := by decide +kernel
theorem d_M_settle_43 : decode b_M_settle 43 = .ok (.iconst 4, 1) := by decide +kernel
theorem d_M_settle_44 : decode b_M_settle 44 = .ok (.iastore, 1) := by decide +kernel
theorem d_M_settle_45 : decode b_M_settle 45 = .ok (.aload_n 0, 1) := by decide +kernel
theorem d_M_settle_46 : decode b_M_settle 46 = .ok (.iload_n 3, 1) := by decide +kernel
theorem d_M_settle_47 : decode b_M_settle 47 = .ok (.invokevirtual 156, 3) := by decide +kernel
theorem d_M_settle_50 : decode b_M_settle 50 = .ok (.iload 4, 2) := by decide +kernel
theorem d_M_settle_52 : decode b_M_settle 52 = .ok (.ifCond .le 9, 3) := by decide +kernel
theorem d_M_settle_55 : decode b_M_settle 55 = .ok (.aload_n 0, 1) := by decide +kernel
theorem d_M_settle_56 : decode b_M_settle 56 = .ok (.iload 4, 2) := by decide +kernel
theorem d_M_settle_58 : decode b_M_settle 58 = .ok (.invokevirtual 169, 3) := by decide +kernel
theorem d_M_settle_61 : decode b_M_settle 61 = .ok (.iload_n 3, 1) := by decide +kernel
theorem d_M_settle_62 : decode b_M_settle 62 = .ok (.iload 4, 2) := by decide +kernel
theorem d_M_settle_64 : decode b_M_settle 64 = .ok (.iadd, 1) := by decide +kernel
theorem d_M_settle_65 : decode b_M_settle 65 = .ok (.ifCond .le 7, 3) := by decide +kernel
theorem d_M_settle_68 : decode b_M_settle 68 = .ok (.iconst 1, 1) := by decide +kernel
theorem d_M_settle_69 : decode b_M_settle 69 = .ok (.goto 4, 3) := by decide +kernel
theorem d_M_settle_72 : decode b_M_settle 72 = .ok (.iconst 0, 1) := by decide +kernel
theorem d_M_settle_73 : decode b_M_settle 73 = .ok (.istore_n 1, 1) := by decide +kernel
theorem d_M_settle_74 : decode b_M_settle 74 = .ok (.iinc 2 1, 3) := by decide +kernel
theorem d_M_settle_77 : decode b_M_settle 77 = .ok (.goto (-73), 3) := by decide +kernel
theorem d_M_settle_80 : decode b_M_settle 80 = .ok (.return_, 1) := by decide +kernel
theorem d_M_isIn_0 : decode b_M_isIn 0 = .ok (.aload_n 0, 1) := by decide +kernel
theorem d_M_isIn_1 : decode b_M_isIn 1 = .ok (.getfield 172, 3) := by decide +kernel
theorem d_M_isIn_4 : decode b_M_isIn 4 = .ok (.ifCond .ne 30, 3) := by decide +kernel
theorem d_M_isIn_7 : decode b_M_isIn 7 = .ok (.iload_n 1, 1) := by decide +kernel
theorem d_M_isIn_8 : decode b_M_isIn 8 = .ok (.iconst 1, 1) := by decide +kernel
theorem d_M_isIn_9 : decode b_M_isIn 9 = .ok (.if_icmp .lt 25, 3) := by decide +kernel
theorem d_M_isIn_12 : decode b_M_isIn 12 = .ok (.iload_n 1, 1) := by decide +kernel
theorem d_M_isIn_13 : decode b_M_isIn 13 = .ok (.aload_n 0, 1) := by decide +kernel
theorem d_M_isIn_14 : decode b_M_isIn 14 = .ok (.getfield 138, 3) := by decide +kernel
theorem d_M_isIn_17 : decode b_M_isIn 17 = .ok (.if_icmp .gt 17, 3) := by decide +kernel
theorem d_M_isIn_20 : decode b_M_isIn 20 = .ok (.aload_n 0, 1) := by decide +kernel
theorem d_M_isIn_21 : decode b_M_isIn 21 = .ok (.getfield 61, 3) := by decide +kernel
theorem d_M_isIn_24 : decode b_M_isIn 24 = .ok (.iload_n 1, 1) := by decide +kernel
theorem d_M_isIn_25 : decode b_M_isIn 25 = .ok (.iaload, 1) := by decide +kernel
theorem d_M_isIn_26 : decode b_M_isIn 26 = .ok (.iload_n 2, 1) := by decide +kernel
theorem d_M_isIn_27 : decode b_M_isIn 27 = .ok (.if_icmp .ne 7, 3) := by decide +kernel
theorem d_M_isIn_30 : decode b_M_isIn 30 = .ok (.iconst 1, 1) := by decide +kernel
theorem d_M_isIn_31 : decode b_M_isIn 31 = .ok (.goto 4, 3) := by decide +kernel
theorem d_M_isIn_34 : decode b_M_isIn 34 = .ok (.iconst 0, 1) := by decide +kernel
theorem d_M_isIn_35 : decode b_M_isIn 35 = .ok (.ireturn, 1) := by decide +kernel
theorem d_M_begin_0 : decode b_M_begin 0 = .ok (.iconst 0, 1) := by decide +kernel
theorem d_M_begin_1 : decode b_M_begin 1 = .ok (.istore_n 1, 1) := by decide +kernel
theorem d_M_begin_2 : decode b_M_begin 2 = .ok (.iconst 1, 1) := by decide +kernel
theorem d_M_begin_3 : decode b_M_begin 3 = .ok (.istore_n 2, 1) := by decide +kernel
theorem d_M_begin_4 : decode b_M_begin 4 = .ok (.iload_n 2, 1) := by decide +kernel
theorem d_M_begin_5 : decode b_M_begin 5 = .ok (.aload_n 0, 1) := by decide +kernel
theorem d_M_begin_6 : decode b_M_begin 6 = .ok (.getfield 138, 3) := by decide +kernel
theorem d_M_begin_9 : decode b_M_begin 9 = .ok (.if_icmp .gt 25, 3) := by decide +kernel
theorem d_M_begin_12 : decode b_M_begin 12 = .ok (.iload_n 1, 1) := by decide +kernel
theorem d_M_begin_13 : decode b_M_begin 13 = .ok (.aload_n 0, 1) := by decide +kernel
theorem d_M_begin_14 : decode b_M_begin 14 = .ok (.iload_n 2, 1) := by decide +kernel
theorem d_M_begin_15 : decode b_M_begin 15 = .ok (.invokevirtual 176, 3) := by decide +kernel
theorem d_M_begin_18 : decode b_M_begin 18 = .ok (.ifCond .eq 7, 3) := by decide +kernel
theorem d_M_begin_21 : decode b_M_begin 21 = .ok (.iconst 1, 1) := by decide +kernel
theorem d_M_begin_22 : decode b_M_begin 22 = .ok (.goto 4, 3) := by decide +kernel
theorem d_M_begin_25 : decode b_M_begin 25 = .ok (.iconst 0, 1) := by decide +kernel
theorem d_M_begin_26 : decode b_M_begin 26 = .ok (.iadd, 1) := by decide +kernel
theorem d_M_begin_27 : decode b_M_begin 27 = .ok (.istore_n 1, 1) := by decide +kernel
theorem d_M_begin_28 : decode b_M_begin 28 = .ok (.iinc 2 1, 3) := by decide +kernel
theorem d_M_begin_31 : decode b_M_begin 31 = .ok (.goto (-27), 3) := by decide +kernel
theorem d_M_begin_34 : decode b_M_begin 34 = .ok (.aload_n 0, 1) := by decide +kernel
theorem d_M_begin_35 : decode b_M_begin 35 = .ok (.getfield 172, 3) := by decide +kernel
theorem d_M_begin_38 : decode b_M_begin 38 = .ok (.ifCond .ne 17, 3) := by decide +kernel
theorem d_M_begin_41 : decode b_M_begin 41 = .ok (.iload_n 1, 1) := by decide +kernel
theorem d_M_begin_42 : decode b_M_begin 42 = .ok (.iconst 4, 1) := by decide +kernel
theorem d_M_begin_43 : decode b_M_begin 43 = .ok (.if_icmp .ge 12, 3) := by decide +kernel
theorem d_M_begin_46 : decode b_M_begin 46 = .ok (.aload_n 0, 1) := by decide +kernel
theorem d_M_begin_47 : decode b_M_begin 47 = .ok (.getfield 138, 3) := by decide +kernel
theorem d_M_begin_50 : decode b_M_begin 50 = .ok (.bipush 60, 2) := by decide +kernel
theorem d_M_begin_52 : decode b_M_begin 52 = .ok (.if_icmp .lt 5, 3) := by decide +kernel
theorem d_M_begin_55 : decode b_M_begin 55 = .ok (.iconst (-1), 1) := by decide +kernel
theorem d_M_begin_56 : decode b_M_begin 56 = .ok (.ireturn, 1) := by decide +kernel
theorem d_M_begin_57 : decode b_M_begin 57 = .ok (.aload_n 0, 1) := by decide +kernel
theorem d_M_begin_58 : decode b_M_begin 58 = .ok (.dup, 1) := by decide +kernel
theorem d_M_begin_59 : decode b_M_begin 59 = .ok (.getfield 138, 3) := by decide +kernel
theorem d_M_begin_62 : decode b_M_begin 62 = .ok (.iconst 1, 1) := by decide +kernel
theorem d_M_begin_63 : decode b_M_begin 63 = .ok (.iadd, 1) := by decide +kernel
theorem d_M_begin_64 : decode b_M_begin 64 = .ok (.putfield 138, 3) := by decide +kernel
theorem d_M_begin_67 : decode b_M_begin 67 = .ok (.aload_n 0, 1) := by decide +kernel
theorem d_M_begin_68 : decode b_M_begin 68 = .ok (.getfield 61, 3) := by decide +kernel
theorem d_M_begin_71 : decode b_M_begin 71 = .ok (.aload_n 0, 1) := by decide +kernel
theorem d_M_begin_72 : decode b_M_begin 72 = .ok (.getfield 138, 3) := by decide +kernel
theorem d_M_begin_75 : decode b_M_begin 75 = .ok (.iconst 1, 1) := by decide +kernel
theorem d_M_begin_76 : decode b_M_begin 76 = .ok (.iastore, 1) := by decide +kernel
theorem d_M_begin_77 : decode b_M_begin 77 = .ok (.aload_n 0, 1) := by decide +kernel
theorem d_M_begin_78 : decode b_M_begin 78 = .ok (.getfield 64, 3) := by decide +kernel
theorem d_M_begin_81 : decode b_M_begin 81 = .ok (.aload_n 0, 1) := by decide +kernel
theorem d_M_begin_82 : decode b_M_begin 82 = .ok (.getfield 138, 3) := by decide +kernel
theorem d_M_begin_85 : decode b_M_begin 85 = .ok (.iconst (-1), 1) := by decide +kernel
theorem d_M_begin_86 : decode b_M_begin 86 = .ok (.iastore, 1) := by decide +kernel
theorem d_M_begin_87 : decode b_M_begin 87 = .ok (.aload_n 0, 1) := by decide +kernel
theorem d_M_begin_88 : decode b_M_begin 88 = .ok (.getfield 138, 3) := by decide +kernel
theorem d_M_begin_91 : decode b_M_begin 91 = .ok (.ireturn, 1) := by decide +kernel
theorem d_M_request_0 : decode b_M_request 0 = .ok (.aload_n 0, 1) := by decide +kernel
theorem d_M_request_1 : decode b_M_request 1 = .ok (.iload_n 1, 1) := by decide +kernel
theorem d_M_request_2 : decode b_M_request 2 = .ok (.iconst 1, 1) := by decide +kernel
theorem d_M_request_3 : decode b_M_request 3 = .ok (.invokevirtual 179, 3) := by decide +kernel
theorem d_M_request_6 : decode b_M_request 6 = .ok (.ifCond .eq 13, 3) := by decide +kernel
theorem d_M_request_9 : decode b_M_request 9 = .ok (.iload_n 2, 1) := by decide +kernel
theorem d_M_request_10 : decode b_M_request 10 = .ok (.ifCond .lt 9, 3) := by decide +kernel
theorem d_M_request_13 : decode b_M_request 13 = .ok (.iload_n 2, 1) := by decide +kernel
theorem d_M_request_14 : decode b_M_request 14 = .ok (.bipush 99, 2) := by decide +kernel
theorem d_M_request_16 : decode b_M_request 16 = .ok (.if_icmp .le 5, 3) := by decide +kernel
theorem d_M_request_19 : decode b_M_request 19 = .ok (.iconst (-1), 1) := by decide +kernel
theorem d_M_request_20 : decode b_M_request 20 = .ok (.ireturn, 1) := by decide +kernel
theorem d_M_request_21 : decode b_M_request 21 = .ok (.aload_n 0, 1) := by decide +kernel
theorem d_M_request_22 : decode b_M_request 22 = .ok (.dup, 1) := by decide +kernel
theorem d_M_request_23 : decode b_M_request 23 = .ok (.getfield 104, 3) := by decide +kernel
theorem d_M_request_26 : decode b_M_request 26 = .ok (.iconst 1, 1) := by decide +kernel
theorem d_M_request_27 : decode b_M_request 27 = .ok (.iadd, 1) := by decide +kernel
theorem d_M_request_28 : decode b_M_request 28 = .ok (.putfield 104, 3) := by decide +kernel
theorem d_M_request_31 : decode b_M_request 31 = .ok (.aload_n 0, 1) := by decide +kernel
theorem d_M_request_32 : decode b_M_request 32 = .ok (.getfield 70, 3) := by decide +kernel
theorem d_M_request_35 : decode b_M_request 35 = .ok (.iload_n 1, 1) := by decide +kernel
theorem d_M_request_36 : decode b_M_request 36 = .ok (.iload_n 2, 1) := by decide +kernel
theorem d_M_request_37 : decode b_M_request 37 = .ok (.iastore, 1) := by decide +kernel
theorem d_M_request_38 : decode b_M_request 38 = .ok (.aload_n 0, 1) := by decide +kernel
theorem d_M_request_39 : decode b_M_request 39 = .ok (.getfield 73, 3) := by decide +kernel
theorem d_M_request_42 : decode b_M_request 42 = .ok (.iload_n 1, 1) := by decide +kernel
theorem d_M_request_43 : decode b_M_request 43 = .ok (.iload_n 3, 1) := by decide +kernel
theorem d_M_request_44 : decode b_M_request 44 = .ok (.iastore, 1) := by decide +kernel
theorem d_M_request_45 : decode b_M_request 45 = .ok (.aload_n 0, 1) := by decide +kernel
theorem d_M_request_46 : decode b_M_request 46 = .ok (.getfield 76, 3) := by decide +kernel
theorem d_M_request_49 : decode b_M_request 49 = .ok (.iload_n 1, 1) := by decide +kernel
theorem d_M_request_50 : decode b_M_request 50 = .ok (.iload 4, 2) := by decide +kernel
theorem d_M_request_52 : decode b_M_request 52 = .ok (.iastore, 1) := by decide +kernel
theorem d_M_request_53 : decode b_M_request 53 = .ok (.aload_n 0, 1) := by decide +kernel
theorem d_M_request_54 : decode b_M_request 54 = .ok (.getfield 79, 3) := by decide +kernel
theorem d_M_request_57 : decode b_M_request 57 = .ok (.iload_n 1, 1) := by decide +kernel
theorem d_M_request_58 : decode b_M_request 58 = .ok (.aload_n 0, 1) := by decide +kernel
theorem d_M_request_59 : decode b_M_request 59 = .ok (.getfield 104, 3) := by decide +kernel
theorem d_M_request_62 : decode b_M_request 62 = .ok (.iastore, 1) := by decide +kernel
theorem d_M_request_63 : decode b_M_request 63 = .ok (.aload_n 0, 1) := by decide +kernel
theorem d_M_request_64 : decode b_M_request 64 = .ok (.iload_n 1, 1) := by decide +kernel
theorem d_M_request_65 : decode b_M_request 65 = .ok (.invokevirtual 159, 3) := by decide +kernel
theorem d_M_request_68 : decode b_M_request 68 = .ok (.ifCond .eq 11, 3) := by decide +kernel
theorem d_M_request_71 : decode b_M_request 71 = .ok (.aload_n 0, 1) := by decide +kernel
theorem d_M_request_72 : decode b_M_request 72 = .ok (.iload_n 1, 1) := by decide +kernel
theorem d_M_request_73 : decode b_M_request 73 = .ok (.invokevirtual 169, 3) := by decide +kernel
theorem d_M_request_76 : decode b_M_request 76 = .ok (.goto 37, 3) := by decide +kernel
theorem d_M_request_79 : decode b_M_request 79 = .ok (.aload_n 0, 1) := by decide +kernel
theorem d_M_request_80 : decode b_M_request 80 = .ok (.getfield 61, 3) := by decide +kernel
theorem d_M_request_83 : decode b_M_request 83 = .ok (.iload_n 1, 1) := by decide +kernel
theorem d_M_request_84 : decode b_M_request 84 = .ok (.iconst 2, 1) := by decide +kernel
theorem d_M_request_85 : decode b_M_request 85 = .ok (.iastore, 1) := by decide +kernel
theorem d_M_request_86 : decode b_M_request 86 = .ok (.aload_n 0, 1) := by decide +kernel
theorem d_M_request_87 : decode b_M_request 87 = .ok (.getfield 64, 3) := by decide +kernel
theorem d_M_request_90 : decode b_M_request 90 = .ok (.iload_n 1, 1) := by decide +kernel
theorem d_M_request_91 : decode b_M_request 91 = .ok (.iconst 1, 1) := by decide +kernel
theorem d_M_request_92 : decode b_M_request 92 = .ok (.iastore, 1) := by decide +kernel
theorem d_M_request_93 : decode b_M_request 93 = .ok (.aload_n 0, 1) := by decide +kernel
theorem d_M_request_94 : decode b_M_request 94 = .ok (.iload_n 1, 1) := by decide +kernel
theorem d_M_request_95 : decode b_M_request 95 = .ok (.invokevirtual 182, 3) := by decide +kernel
theorem d_M_request_98 : decode b_M_request 98 = .ok (.ifCond .eq 15, 3) := by decide +kernel
theorem d_M_request_101 : decode b_M_request 101 = .ok (.aload_n 0, 1) := by decide +kernel
theorem d_M_request_102 : decode b_M_request 102 = .ok (.getfield 64, 3) := by decide +kernel
theorem d_M_request_105 : decode b_M_request 105 = .ok (.iload_n 1, 1) := by decide +kernel
theorem d_M_request_106 : decode b_M_request 106 = .ok (.iconst 2, 1) := by decide +kernel
theorem d_M_request_107 : decode b_M_request 107 = .ok (.iastore, 1) := by decide +kernel
theorem d_M_request_108 : decode b_M_request 108 = .ok (.aload_n 0, 1) := by decide +kernel
theorem d_M_request_109 : decode b_M_request 109 = .ok (.iload_n 1, 1) := by decide +kernel
theorem d_M_request_110 : decode b_M_request 110 = .ok (.invokevirtual 185, 3) := by decide +kernel
theorem d_M_request_113 : decode b_M_request 113 = .ok (.aload_n 0, 1) := by decide +kernel
theorem d_M_request_114 : decode b_M_request 114 = .ok (.getfield 64, 3) := by decide +kernel
theorem d_M_request_117 : decode b_M_request 117 = .ok (.iload_n 1, 1) := by decide +kernel
theorem d_M_request_118 : decode b_M_request 118 = .ok (.iaload, 1) := by decide +kernel
theorem d_M_request_119 : decode b_M_request 119 = .ok (.istore 5, 2) := by decide +kernel
theorem d_M_request_121 : decode b_M_request 121 = .ok (.aload_n 0, 1) := by decide +kernel
theorem d_M_request_122 : decode b_M_request 122 = .ok (.invokevirtual 188, 3) := by decide +kernel
theorem d_M_request_125 : decode b_M_request 125 = .ok (.iload 5, 2) := by decide +kernel
theorem d_M_request_127 : decode b_M_request 127 = .ok (.ireturn, 1) := by decide +kernel
theorem d_M_read_0 : decode b_M_read 0 = .ok (.aload_n 0, 1) := by decide +kernel
theorem d_M_read_1 : decode b_M_read 1 = .ok (.iload_n 1, 1) := by decide +kernel
theorem d_M_read_2 : decode b_M_read 2 = .ok (.iload_n 2, 1) := by decide +kernel
theorem d_M_read_3 : decode b_M_read 3 = .ok (.iconst 1, 1) := by decide +kernel
theorem d_M_read_4 : decode b_M_read 4 = .ok (.iconst 0, 1) := by decide +kernel
theorem d_M_read_5 : decode b_M_read 5 = .ok (.invokevirtual 191, 3) := by decide +kernel
theorem d_M_read_8 : decode b_M_read 8 = .ok (.ireturn, 1) := by decide +kernel
theorem d_M_write_0 : decode b_M_write 0 = .ok (.aload_n 0, 1) := by decide +kernel
theorem d_M_write_1 : decode b_M_write 1 = .ok (.iload_n 1, 1) := by decide +kernel
theorem d_M_write_2 : decode b_M_write 2 = .ok (.iload_n 2, 1) := by decide +kernel
theorem d_M_write_3 : decode b_M_write 3 = .ok (.iconst 2, 1) := by decide +kernel
theorem d_M_write_4 : decode b_M_write 4 = .ok (.iload_n 3, 1) := by decide +kernel
theorem d_M_write_5 : decode b_M_write 5 = .ok (.invokevirtual 191, 3) := by decide +kernel
theorem d_M_write_8 : decode b_M_write 8 = .ok (.ireturn, 1) := by decide +kernel
theorem d_M_commit_0 : decode b_M_commit 0 = .ok (.aload_n 0, 1) := by decide +kernel
theorem d_M_commit_1 : decode b_M_commit 1 = .ok (.iload_n 1, 1) := by decide +kernel
theorem d_M_commit_2 : decode b_M_commit 2 = .ok (.iconst 1, 1) := by decide +kernel
theorem d_M_commit_3 : decode b_M_commit 3 = .ok (.invokevirtual 179, 3) := by decide +kernel
theorem d_M_commit_6 : decode b_M_commit 6 = .ok (.ifCond .ne 5, 3) := by decide +kernel
theorem d_M_commit_9 : decode b_M_commit 9 = .ok (.iconst 0, 1) := by decide +kernel
theorem d_M_commit_10 : decode b_M_commit 10 = .ok (.ireturn, 1) := by decide +kernel
theorem d_M_commit_11 : decode b_M_commit 11 = .ok (.aload_n 0, 1) := by decide +kernel
theorem d_M_commit_12 : decode b_M_commit 12 = .ok (.iconst 3, 1) := by decide +kernel
theorem d_M_commit_13 : decode b_M_commit 13 = .ok (.iload_n 1, 1) := by decide +kernel
theorem d_M_commit_14 : decode b_M_commit 14 = .ok (.iconst 0, 1) := by decide +kernel
theorem d_M_commit_15 : decode b_M_commit 15 = .ok (.invokevirtual 124, 3) := by decide +kernel
theorem d_M_commit_18 : decode b_M_commit 18 = .ok (.pop, 1) := by decide +kernel
theorem d_M_commit_19 : decode b_M_commit 19 = .ok (.aload_n 0, 1) := by decide +kernel
theorem d_M_commit_20 : decode b_M_commit 20 = .ok (.getfield 61, 3) := by decide +kernel
theorem d_M_commit_23 : decode b_M_commit 23 = .ok (.iload_n 1, 1) := by decide +kernel
theorem d_M_commit_24 : decode b_M_commit 24 = .ok (.iconst 3, 1) := by decide +kernel
theorem d_M_commit_25 : decode b_M_commit 25 = .ok (.iastore, 1) := by decide +kernel
theorem d_M_commit_26 : decode b_M_commit 26 = .ok (.aload_n 0, 1) := by decide +kernel
theorem d_M_commit_27 : decode b_M_commit 27 = .ok (.invokevirtual 188, 3) := by decide +kernel
theorem d_M_commit_30 : decode b_M_commit 30 = .ok (.iconst 1, 1) := by decide +kernel
theorem d_M_commit_31 : decode b_M_commit 31 = .ok (.ireturn, 1) := by decide +kernel
theorem d_M_abort_0 : decode b_M_abort 0 = .ok (.aload_n 0, 1) := by decide +kernel
theorem d_M_abort_1 : decode b_M_abort 1 = .ok (.iload_n 1, 1) := by decide +kernel
theorem d_M_abort_2 : decode b_M_abort 2 = .ok (.iconst 1, 1) := by decide +kernel
theorem d_M_abort_3 : decode b_M_abort 3 = .ok (.invokevirtual 179, 3) := by decide +kernel
theorem d_M_abort_6 : decode b_M_abort 6 = .ok (.ifCond .ne 14, 3) := by decide +kernel
theorem d_M_abort_9 : decode b_M_abort 9 = .ok (.aload_n 0, 1) := by decide +kernel
theorem d_M_abort_10 : decode b_M_abort 10 = .ok (.iload_n 1, 1) := by decide +kernel
theorem d_M_abort_11 : decode b_M_abort 11 = .ok (.iconst 2, 1) := by decide +kernel
theorem d_M_abort_12 : decode b_M_abort 12 = .ok (.invokevirtual 179, 3) := by decide +kernel
theorem d_M_abort_15 : decode b_M_abort 15 = .ok (.ifCond .ne 5, 3) := by decide +kernel
theorem d_M_abort_18 : decode b_M_abort 18 = .ok (.iconst 0, 1) := by decide +kernel
theorem d_M_abort_19 : decode b_M_abort 19 = .ok (.ireturn, 1) := by decide +kernel
theorem d_M_abort_20 : decode b_M_abort 20 = .ok (.aload_n 0, 1) := by decide +kernel
theorem d_M_abort_21 : decode b_M_abort 21 = .ok (.iload_n 1, 1) := by decide +kernel
theorem d_M_abort_22 : decode b_M_abort 22 = .ok (.invokevirtual 185, 3) := by decide +kernel
theorem d_M_abort_25 : decode b_M_abort 25 = .ok (.aload_n 0, 1) := by decide +kernel
theorem d_M_abort_26 : decode b_M_abort 26 = .ok (.invokevirtual 188, 3) := by decide +kernel
theorem d_M_abort_29 : decode b_M_abort 29 = .ok (.iconst 1, 1) := by decide +kernel
theorem d_M_abort_30 : decode b_M_abort 30 = .ok (.ireturn, 1) := by decide +kernel
theorem d_M_force_0 : decode b_M_force 0 = .ok (.aload_n 0, 1) := by decide +kernel
theorem d_M_force_1 : decode b_M_force 1 = .ok (.getfield 172, 3) := by decide +kernel
theorem d_M_force_4 : decode b_M_force 4 = .ok (.ifCond .eq 5, 3) := by decide +kernel
theorem d_M_force_7 : decode b_M_force 7 = .ok (.iconst 0, 1) := by decide +kernel
theorem d_M_force_8 : decode b_M_force 8 = .ok (.ireturn, 1) := by decide +kernel
theorem d_M_force_9 : decode b_M_force 9 = .ok (.aload_n 0, 1) := by decide +kernel
theorem d_M_force_10 : decode b_M_force 10 = .ok (.aload_n 0, 1) := by decide +kernel
theorem d_M_force_11 : decode b_M_force 11 = .ok (.getfield 114, 3) := by decide +kernel
theorem d_M_force_14 : decode b_M_force 14 = .ok (.putfield 97, 3) := by decide +kernel
theorem d_M_force_17 : decode b_M_force 17 = .ok (.aload_n 0, 1) := by decide +kernel
theorem d_M_force_18 : decode b_M_force 18 = .ok (.invokevirtual 188, 3) := by decide +kernel
theorem d_M_force_21 : decode b_M_force 21 = .ok (.iconst 1, 1) := by decide +kernel
theorem d_M_force_22 : decode b_M_force 22 = .ok (.ireturn, 1) := by decide +kernel
theorem d_M_checkpoint_0 : decode b_M_checkpoint 0 = .ok (.aload_n 0, 1) := by decide +kernel
theorem d_M_checkpoint_1 : decode b_M_checkpoint 1 = .ok (.getfield 172, 3) := by decide +kernel
theorem d_M_checkpoint_4 : decode b_M_checkpoint 4 = .ok (.ifCond .ne 13, 3) := by decide +kernel
theorem d_M_checkpoint_7 : decode b_M_checkpoint 7 = .ok (.aload_n 0, 1) := by decide +kernel
theorem d_M_checkpoint_8 : decode b_M_checkpoint 8 = .ok (.iconst 4, 1) := by decide +kernel
theorem d_M_checkpoint_9 : decode b_M_checkpoint 9 = .ok (.invokevirtual 147, 3) := by decide +kernel
theorem d_M_checkpoint_12 : decode b_M_checkpoint 12 = .ok (.bipush 20, 2) := by decide +kernel
theorem d_M_checkpoint_14 : decode b_M_checkpoint 14 = .ok (.if_icmp .lt 5, 3) := by decide +kernel
theorem d_M_checkpoint_17 : decode b_M_checkpoint 17 = .ok (.iconst (-1), 1) := by decide +kernel
theorem d_M_checkpoint_18 : decode b_M_checkpoint 18 = .ok (.ireturn, 1) := by decide +kernel
theorem d_M_checkpoint_19 : decode b_M_checkpoint 19 = .ok (.aload_n 0, 1) := by decide +kernel
theorem d_M_checkpoint_20 : decode b_M_checkpoint 20 = .ok (.iconst 4, 1) := by decide +kernel
theorem d_M_checkpoint_21 : decode b_M_checkpoint 21 = .ok (.iconst 0, 1) := by decide +kernel
theorem d_M_checkpoint_22 : decode b_M_checkpoint 22 = .ok (.iconst 0, 1) := by decide +kernel
theorem d_M_checkpoint_23 : decode b_M_checkpoint 23 = .ok (.invokevirtual 124, 3) := by decide +kernel
theorem d_M_checkpoint_26 : decode b_M_checkpoint 26 = .ok (.istore_n 1, 1) := by decide +kernel
theorem d_M_checkpoint_27 : decode b_M_checkpoint 27 = .ok (.iconst 0, 1) := by decide +kernel
theorem d_M_checkpoint_28 : decode b_M_checkpoint 28 = .ok (.istore_n 2, 1) := by decide +kernel
theorem d_M_checkpoint_29 : decode b_M_checkpoint 29 = .ok (.iload_n 2, 1) := by decide +kernel
theorem d_M_checkpoint_30 : decode b_M_checkpoint 30 = .ok (.bipush 6, 2) := by decide +kernel
theorem d_M_checkpoint_32 : decode b_M_checkpoint 32 = .ok (.if_icmp .ge 39, 3) := by decide +kernel
theorem d_M_checkpoint_35 : decode b_M_checkpoint 35 = .ok (.aload_n 0, 1) := by decide +kernel
theorem d_M_checkpoint_36 : decode b_M_checkpoint 36 = .ok (.getfield 34, 3) := by decide +kernel
theorem d_M_checkpoint_39 : decode b_M_checkpoint 39 = .ok (.bipush 6, 2) := by decide +kernel
theorem d_M_checkpoint_41 : decode b_M_checkpoint 41 = .ok (.iload_n 1, 1) := by decide +kernel
theorem d_M_checkpoint_42 : decode b_M_checkpoint 42 = .ok (.imul, 1) := by decide +kernel
theorem d_M_checkpoint_43 : decode b_M_checkpoint 43 = .ok (.iload_n 2, 1) := by decide +kernel
theorem d_M_checkpoint_44 : decode b_M_checkpoint 44 = .ok (.iadd, 1) := by decide +kernel
theorem d_M_checkpoint_45 : decode b_M_checkpoint 45 = .ok (.aload_n 0, 1) := by decide +kernel
theorem d_M_checkpoint_46 : decode b_M_checkpoint 46 = .ok (.getfield 58, 3) := by decide +kernel
theorem d_M_checkpoint_49 : decode b_M_checkpoint 49 = .ok (.iload_n 2, 1) := by decide +kernel
theorem d_M_checkpoint_50 : decode b_M_checkpoint 50 = .ok (.iaload, 1) := by decide +kernel
theorem d_M_checkpoint_51 : decode b_M_checkpoint 51 = .ok (.ifCond .le 12, 3) := by decide +kernel
theorem d_M_checkpoint_54 : decode b_M_checkpoint 54 = .ok (.aload_n 0, 1) := by decide +kernel
theorem d_M_checkpoint_55 : decode b_M_checkpoint 55 = .ok (.getfield 55, 3) := by decide +kernel
theorem d_M_checkpoint_58 : decode b_M_checkpoint 58 = .ok (.iload_n 2, 1) := by decide +kernel
theorem d_M_checkpoint_59 : decode b_M_checkpoint 59 = .ok (.iaload, 1) := by decide +kernel
theorem d_M_checkpoint_60 : decode b_M_checkpoint 60 = .ok (.goto 4, 3) := by decide +kernel
theorem d_M_checkpoint_63 : decode b_M_checkpoint 63 = .ok (.iconst 0, 1) := by decide +kernel
theorem d_M_checkpoint_64 : decode b_M_checkpoint 64 = .ok (.iastore, 1) := by decide +kernel
theorem d_M_checkpoint_65 : decode b_M_checkpoint 65 = .ok (.iinc 2 1, 3) := by decide +kernel
theorem d_M_checkpoint_68 : decode b_M_checkpoint 68 = .ok (.goto (-39), 3) := by decide +kernel
theorem d_M_checkpoint_71 : decode b_M_checkpoint 71 = .ok (.aload_n 0, 1) := by decide +kernel
theorem d_M_checkpoint_72 : decode b_M_checkpoint 72 = .ok (.invokevirtual 188, 3) := by decide +kernel
theorem d_M_checkpoint_75 : decode b_M_checkpoint 75 = .ok (.iload_n 1, 1) := by decide +kernel
theorem d_M_checkpoint_76 : decode b_M_checkpoint 76 = .ok (.ireturn, 1) := by decide +kernel
theorem d_M_flush_0 : decode b_M_flush 0 = .ok (.aload_n 0, 1) := by decide +kernel
theorem d_M_flush_1 : decode b_M_flush 1 = .ok (.getfield 172, 3) := by decide +kernel
theorem d_M_flush_4 : decode b_M_flush 4 = .ok (.ifCond .ne 30, 3) := by decide +kernel
theorem d_M_flush_7 : decode b_M_flush 7 = .ok (.iload_n 1, 1) := by decide +kernel
theorem d_M_flush_8 : decode b_M_flush 8 = .ok (.ifCond .lt 26, 3) := by decide +kernel
theorem d_M_flush_11 : decode b_M_flush 11 = .ok (.iload_n 1, 1) := by decide +kernel
theorem d_M_flush_12 : decode b_M_flush 12 = .ok (.iconst 5, 1) := by decide +kernel
theorem d_M_flush_13 : decode b_M_flush 13 = .ok (.if_icmp .gt 21, 3) := by decide +kernel
theorem d_M_flush_16 : decode b_M_flush 16 = .ok (.aload_n 0, 1) := by decide +kernel
theorem d_M_flush_17 : decode b_M_flush 17 = .ok (.getfield 58, 3) := by decide +kernel
theorem d_M_flush_20 : decode b_M_flush 20 = .ok (.iload_n 1, 1) := by decide +kernel
theorem d_M_flush_21 : decode b_M_flush 21 = .ok (.iaload, 1) := by decide +kernel
theorem d_M_flush_22 : decode b_M_flush 22 = .ok (.ifCond .eq 12, 3) := by decide +kernel
theorem d_M_flush_25 : decode b_M_flush 25 = .ok (.aload_n 0, 1) := by decide +kernel
theorem d_M_flush_26 : decode b_M_flush 26 = .ok (.getfield 55, 3) := by decide +kernel
theorem d_M_flush_29 : decode b_M_flush 29 = .ok (.iload_n 1, 1) := by decide +kernel
theorem d_M_flush_30 : decode b_M_flush 30 = .ok (.iaload, 1) := by decide +kernel
theorem d_M_flush_31 : decode b_M_flush 31 = .ok (.ifCond .ne 5, 3) := by decide +kernel
theorem d_M_flush_34 : decode b_M_flush 34 = .ok (.iconst 0, 1) := by decide +kernel
theorem d_M_flush_35 : decode b_M_flush 35 = .ok (.ireturn, 1) := by decide +kernel
theorem d_M_flush_36 : decode b_M_flush 36 = .ok (.aload_n 0, 1) := by decide +kernel
theorem d_M_flush_37 : decode b_M_flush 37 = .ok (.iload_n 1, 1) := by decide +kernel
theorem d_M_flush_38 : decode b_M_flush 38 = .ok (.invokevirtual 107, 3) := by decide +kernel
theorem d_M_flush_41 : decode b_M_flush 41 = .ok (.aload_n 0, 1) := by decide +kernel
theorem d_M_flush_42 : decode b_M_flush 42 = .ok (.invokevirtual 188, 3) := by decide +kernel
theorem d_M_flush_45 : decode b_M_flush 45 = .ok (.iconst 1, 1) := by decide +kernel
theorem d_M_flush_46 : decode b_M_flush 46 = .ok (.ireturn, 1) := by decide +kernel
theorem d_M_crash_0 : decode b_M_crash 0 = .ok (.iload_n 1, 1) := by decide +kernel
theorem d_M_crash_1 : decode b_M_crash 1 = .ok (.ifCond .lt 12, 3) := by decide +kernel
theorem d_M_crash_4 : decode b_M_crash 4 = .ok (.aload_n 0, 1) := by decide +kernel
theorem d_M_crash_5 : decode b_M_crash 5 = .ok (.getfield 195, 3) := by decide +kernel
theorem d_M_crash_8 : decode b_M_crash 8 = .ok (.bipush 8, 2) := by decide +kernel
theorem d_M_crash_10 : decode b_M_crash 10 = .ok (.if_icmp .lt 5, 3) := by decide +kernel
theorem d_M_crash_13 : decode b_M_crash 13 = .ok (.iconst (-1), 1) := by decide +kernel
theorem d_M_crash_14 : decode b_M_crash 14 = .ok (.ireturn, 1) := by decide +kernel
theorem d_M_crash_15 : decode b_M_crash 15 = .ok (.aload_n 0, 1) := by decide +kernel
theorem d_M_crash_16 : decode b_M_crash 16 = .ok (.dup, 1) := by decide +kernel
theorem d_M_crash_17 : decode b_M_crash 17 = .ok (.getfield 195, 3) := by decide +kernel
theorem d_M_crash_20 : decode b_M_crash 20 = .ok (.iconst 1, 1) := by decide +kernel
theorem d_M_crash_21 : decode b_M_crash 21 = .ok (.iadd, 1) := by decide +kernel
theorem d_M_crash_22 : decode b_M_crash 22 = .ok (.putfield 195, 3) := by decide +kernel
theorem d_M_crash_25 : decode b_M_crash 25 = .ok (.aload_n 0, 1) := by decide +kernel
theorem d_M_crash_26 : decode b_M_crash 26 = .ok (.iload_n 1, 1) := by decide +kernel
theorem d_M_crash_27 : decode b_M_crash 27 = .ok (.aload_n 0, 1) := by decide +kernel
theorem d_M_crash_28 : decode b_M_crash 28 = .ok (.getfield 114, 3) := by decide +kernel
theorem d_M_crash_31 : decode b_M_crash 31 = .ok (.aload_n 0, 1) := by decide +kernel
theorem d_M_crash_32 : decode b_M_crash 32 = .ok (.getfield 97, 3) := by decide +kernel
theorem d_M_crash_35 : decode b_M_crash 35 = .ok (.isub, 1) := by decide +kernel
theorem d_M_crash_36 : decode b_M_crash 36 = .ok (.if_icmp .le 10, 3) := by decide +kernel
theorem d_M_crash_39 : decode b_M_crash 39 = .ok (.aload_n 0, 1) := by decide +kernel
theorem d_M_crash_40 : decode b_M_crash 40 = .ok (.getfield 114, 3) := by decide +kernel
theorem d_M_crash_43 : decode b_M_crash 43 = .ok (.goto 9, 3) := by decide +kernel
theorem d_M_crash_46 : decode b_M_crash 46 = .ok (.aload_n 0, 1) := by decide +kernel
theorem d_M_crash_47 : decode b_M_crash 47 = .ok (.getfield 97, 3) := by decide +kernel
theorem d_M_crash_50 : decode b_M_crash 50 = .ok (.iload_n 1, 1) := by decide +kernel
theorem d_M_crash_51 : decode b_M_crash 51 = .ok (.iadd, 1) := by decide +kernel
theorem d_M_crash_52 : decode b_M_crash 52 = .ok (.putfield 97, 3) := by decide +kernel
theorem d_M_crash_55 : decode b_M_crash 55 = .ok (.aload_n 0, 1) := by decide +kernel
theorem d_M_crash_56 : decode b_M_crash 56 = .ok (.aload_n 0, 1) := by decide +kernel
theorem d_M_crash_57 : decode b_M_crash 57 = .ok (.getfield 97, 3) := by decide +kernel
theorem d_M_crash_60 : decode b_M_crash 60 = .ok (.putfield 114, 3) := by decide +kernel
theorem d_M_crash_63 : decode b_M_crash 63 = .ok (.aload_n 0, 1) := by decide +kernel
theorem d_M_crash_64 : decode b_M_crash 64 = .ok (.iconst 1, 1) := by decide +kernel
theorem d_M_crash_65 : decode b_M_crash 65 = .ok (.putfield 172, 3) := by decide +kernel
theorem d_M_crash_68 : decode b_M_crash 68 = .ok (.aload_n 0, 1) := by decide +kernel
theorem d_M_crash_69 : decode b_M_crash 69 = .ok (.iconst 0, 1) := by decide +kernel
theorem d_M_crash_70 : decode b_M_crash 70 = .ok (.putfield 198, 3) := by decide +kernel
theorem d_M_crash_73 : decode b_M_crash 73 = .ok (.iconst 0, 1) := by decide +kernel
theorem d_M_crash_74 : decode b_M_crash 74 = .ok (.istore_n 2, 1) := by decide +kernel
theorem d_M_crash_75 : decode b_M_crash 75 = .ok (.iload_n 2, 1) := by decide +kernel
theorem d_M_crash_76 : decode b_M_crash 76 = .ok (.bipush 6, 2) := by decide +kernel
theorem d_M_crash_78 : decode b_M_crash 78 = .ok (.if_icmp .ge 23, 3) := by decide +kernel
theorem d_M_crash_81 : decode b_M_crash 81 = .ok (.aload_n 0, 1) := by decide +kernel
theorem d_M_crash_82 : decode b_M_crash 82 = .ok (.getfield 58, 3) := by decide +kernel
theorem d_M_crash_85 : decode b_M_crash 85 = .ok (.iload_n 2, 1) := by decide +kernel
theorem d_M_crash_86 : decode b_M_crash 86 = .ok (.iconst 0, 1) := by decide +kernel
theorem d_M_crash_87 : decode b_M_crash 87 = .ok (.iastore, 1) := by decide +kernel
theorem d_M_crash_88 : decode b_M_crash 88 = .ok (.aload_n 0, 1) := by decide +kernel
theorem d_M_crash_89 : decode b_M_crash 89 = .ok (.getfield 55, 3) := by decide +kernel
theorem d_M_crash_92 : decode b_M_crash 92 = .ok (.iload_n 2, 1) := by decide +kernel
theorem d_M_crash_93 : decode b_M_crash 93 = .ok (.iconst 0, 1) := by decide +kernel
theorem d_M_crash_94 : decode b_M_crash 94 = .ok (.iastore, 1) := by decide +kernel
theorem d_M_crash_95 : decode b_M_crash 95 = .ok (.iinc 2 1, 3) := by decide +kernel
theorem d_M_crash_98 : decode b_M_crash 98 = .ok (.goto (-23), 3) := by decide +kernel
theorem d_M_crash_101 : decode b_M_crash 101 = .ok (.iconst 1, 1) := by decide +kernel
theorem d_M_crash_102 : decode b_M_crash 102 = .ok (.istore_n 2, 1) := by decide +kernel
theorem d_M_crash_103 : decode b_M_crash 103 = .ok (.iload_n 2, 1) := by decide +kernel
theorem d_M_crash_104 : decode b_M_crash 104 = .ok (.aload_n 0, 1) := by decide +kernel
theorem d_M_crash_105 : decode b_M_crash 105 = .ok (.getfield 138, 3) := by decide +kernel
theorem d_M_crash_108 : decode b_M_crash 108 = .ok (.if_icmp .gt 30, 3) := by decide +kernel
theorem d_M_crash_111 : decode b_M_crash 111 = .ok (.aload_n 0, 1) := by decide +kernel
theorem d_M_crash_112 : decode b_M_crash 112 = .ok (.iload_n 2, 1) := by decide +kernel
theorem d_M_crash_113 : decode b_M_crash 113 = .ok (.invokevirtual 176, 3) := by decide +kernel
theorem d_M_crash_116 : decode b_M_crash 116 = .ok (.ifCond .eq 16, 3) := by decide +kernel
theorem d_M_crash_119 : decode b_M_crash 119 = .ok (.aload_n 0, 1) := by decide +kernel
theorem d_M_crash_120 : decode b_M_crash 120 = .ok (.getfield 61, 3) := by decide +kernel
theorem d_M_crash_123 : decode b_M_crash 123 = .ok (.iload_n 2, 1) := by decide +kernel
theorem d_M_crash_124 : decode b_M_crash 124 = .ok (.bipush 6, 2) := by decide +kernel
theorem d_M_crash_126 : decode b_M_crash 126 = .ok (.iastore, 1) := by decide +kernel
theorem d_M_crash_127 : decode b_M_crash 127 = .ok (.aload_n 0, 1) := by decide +kernel
theorem d_M_crash_128 : decode b_M_crash 128 = .ok (.iload_n 2, 1) := by decide +kernel
theorem d_M_crash_129 : decode b_M_crash 129 = .ok (.invokevirtual 156, 3) := by decide +kernel
theorem d_M_crash_132 : decode b_M_crash 132 = .ok (.iinc 2 1, 3) := by decide +kernel
theorem d_M_crash_135 : decode b_M_crash 135 = .ok (.goto (-32), 3) := by decide +kernel
theorem d_M_crash_138 : decode b_M_crash 138 = .ok (.aload_n 0, 1) := by decide +kernel
theorem d_M_crash_139 : decode b_M_crash 139 = .ok (.getfield 114, 3) := by decide +kernel
theorem d_M_crash_142 : decode b_M_crash 142 = .ok (.ireturn, 1) := by decide +kernel
theorem d_M_analyse_0 : decode b_M_analyse 0 = .ok (.iconst 0, 1) := by decide +kernel
theorem d_M_analyse_1 : decode b_M_analyse 1 = .ok (.istore_n 1, 1) := by decide +kernel
theorem d_M_analyse_2 : decode b_M_analyse 2 = .ok (.iconst 1, 1) := by decide +kernel
theorem d_M_analyse_3 : decode b_M_analyse 3 = .ok (.istore_n 2, 1) := by decide +kernel
theorem d_M_analyse_4 : decode b_M_analyse 4 = .ok (.iload_n 2, 1) := by decide +kernel
theorem d_M_analyse_5 : decode b_M_analyse 5 = .ok (.aload_n 0, 1) := by decide +kernel
theorem d_M_analyse_6 : decode b_M_analyse 6 = .ok (.getfield 114, 3) := by decide +kernel
theorem d_M_analyse_9 : decode b_M_analyse 9 = .ok (.if_icmp .gt 25, 3) := by decide +kernel
theorem d_M_analyse_12 : decode b_M_analyse 12 = .ok (.aload_n 0, 1) := by decide +kernel
theorem d_M_analyse_13 : decode b_M_analyse 13 = .ok (.getfield 7, 3) := by decide +kernel
theorem d_M_analyse_16 : decode b_M_analyse 16 = .ok (.iload_n 2, 1) := by decide +kernel
theorem d_M_analyse_17 : decode b_M_analyse 17 = .ok (.iaload, 1) := by decide +kernel
theorem d_M_analyse_18 : decode b_M_analyse 18 = .ok (.iconst 4, 1) := by decide +kernel
theorem d_M_analyse_19 : decode b_M_analyse 19 = .ok (.if_icmp .ne 7, 3) := by decide +kernel
theorem d_M_analyse_22 : decode b_M_analyse 22 = .ok (.iload_n 2, 1) := by decide +kernel
theorem d_M_analyse_23 : decode b_M_analyse 23 = .ok (.goto 4, 3) := by decide +kernel
theorem d_M_analyse_26 : decode b_M_analyse 26 = .ok (.iload_n 1, 1) := by decide +kernel
theorem d_M_analyse_27 : decode b_M_analyse 27 = .ok (.istore_n 1, 1) := by decide +kernel
theorem d_M_analyse_28 : decode b_M_analyse 28 = .ok (.iinc 2 1, 3) := by decide +kernel
theorem d_M_analyse_31 : decode b_M_analyse 31 = .ok (.goto (-27), 3) := by decide +kernel
theorem d_M_analyse_34 : decode b_M_analyse 34 = .ok (.aload_n 0, 1) := by decide +kernel
theorem d_M_analyse_35 : decode b_M_analyse 35 = .ok (.aload_n 0, 1) := by decide +kernel
theorem d_M_analyse_36 : decode b_M_analyse 36 = .ok (.getfield 114, 3) := by decide +kernel
theorem d_M_analyse_39 : decode b_M_analyse 39 = .ok (.iconst 1, 1) := by decide +kernel
theorem d_M_analyse_40 : decode b_M_analyse 40 = .ok (.iadd, 1) := by decide +kernel
theorem d_M_analyse_41 : decode b_M_analyse 41 = .ok (.putfield 201, 3) := by decide +kernel
theorem d_M_analyse_44 : decode b_M_analyse 44 = .ok (.iconst 0, 1) := by decide +kernel
theorem d_M_analyse_45 : decode b_M_analyse 45 = .ok (.istore_n 2, 1) := by decide +kernel
theorem d_M_analyse_46 : decode b_M_analyse 46 = .ok (.iload_n 2, 1) := by decide +kernel
theorem d_M_analyse_47 : decode b_M_analyse 47 = .ok (.bipush 6, 2) := by decide +kernel
theorem d_M_analyse_49 : decode b_M_analyse 49 = .ok (.if_icmp .ge 145, 3) := by decide +kernel
theorem d_M_analyse_52 : decode b_M_analyse 52 = .ok (.aload_n 0, 1) := by decide +kernel
theorem d_M_analyse_53 : decode b_M_analyse 53 = .ok (.getfield 90, 3) := by decide +kernel
theorem d_M_analyse_56 : decode b_M_analyse 56 = .ok (.iload_n 2, 1) := by decide +kernel
theorem d_M_analyse_57 : decode b_M_analyse 57 = .ok (.iload_n 1, 1) := by decide +kernel
theorem d_M_analyse_58 : decode b_M_analyse 58 = .ok (.ifCond .le 17, 3) := by decide +kernel
theorem d_M_analyse_61 : decode b_M_analyse 61 = .ok (.aload_n 0, 1) := by decide +kernel
theorem d_M_analyse_62 : decode b_M_analyse 62 = .ok (.getfield 34, 3) := by decide +kernel
theorem d_M_analyse_65 : decode b_M_analyse 65 = .ok (.bipush 6, 2) := by decide +kernel
theorem d_M_analyse_67 : decode b_M_analyse 67 = .ok (.iload_n 1, 1) := by decide +kernel
theorem d_M_analyse_68 : decode b_M_analyse 68 = .ok (.imul, 1) := by decide +kernel
theorem d_M_analyse_69 : decode b_M_analyse 69 = .ok (.iload_n 2, 1) := by decide +kernel
theorem d_M_analyse_70 : decode b_M_analyse 70 = .ok (.iadd, 1) := by decide +kernel
theorem d_M_analyse_71 : decode b_M_analyse 71 = .ok (.iaload, 1) := by decide +kernel
theorem d_M_analyse_72 : decode b_M_analyse 72 = .ok (.goto 4, 3) := by decide +kernel
theorem d_M_analyse_75 : decode b_M_analyse 75 = .ok (.iconst 0, 1) := by decide +kernel
theorem d_M_analyse_76 : decode b_M_analyse 76 = .ok (.iastore, 1) := by decide +kernel
theorem d_M_analyse_77 : decode b_M_analyse 77 = .ok (.aload_n 0, 1) := by decide +kernel
theorem d_M_analyse_78 : decode b_M_analyse 78 = .ok (.getfield 114, 3) := by decide +kernel
theorem d_M_analyse_81 : decode b_M_analyse 81 = .ok (.istore_n 3, 1) := by decide +kernel
theorem d_M_analyse_82 : decode b_M_analyse 82 = .ok (.iload_n 3, 1) := by decide +kernel
theorem d_M_analyse_83 : decode b_M_analyse 83 = .ok (.iload_n 1, 1) := by decide +kernel
theorem d_M_analyse_84 : decode b_M_analyse 84 = .ok (.if_icmp .le 65, 3) := by decide +kernel
theorem d_M_analyse_87 : decode b_M_analyse 87 = .ok (.iload_n 1, 1) := by decide +kernel
theorem d_M_analyse_88 : decode b_M_analyse 88 = .ok (.ifCond .eq 17, 3) := by decide +kernel
theorem d_M_analyse_91 : decode b_M_analyse 91 = .ok (.aload_n 0, 1) := by decide +kernel
theorem d_M_analyse_92 : decode b_M_analyse 92 = .ok (.getfield 34, 3) := by decide +kernel
theorem d_M_analyse_95 : decode b_M_analyse 95 = .ok (.bipush 6, 2) := by decide +kernel
theorem d_M_analyse_97 : decode b_M_analyse 97 = .ok (.iload_n 1, 1) := by decide +kernel
theorem d_M_analyse_98 : decode b_M_analyse 98 = .ok (.imul, 1) := by decide +kernel
theorem d_M_analyse_99 : decode b_M_analyse 99 = .ok (.iload_n 2, 1) := by decide +kernel
theorem d_M_analyse_100 : decode b_M_analyse 100 = .ok (.iadd, 1) := by decide +kernel
theorem d_M_analyse_101 : decode b_M_analyse 101 = .ok (.iaload, 1) := by decide +kernel
theorem d_M_analyse_102 : decode b_M_analyse 102 = .ok (.ifCond .ne 47, 3) := by decide +kernel
theorem d_M_analyse_105 : decode b_M_analyse 105 = .ok (.aload_n 0, 1) := by decide +kernel
theorem d_M_analyse_106 : decode b_M_analyse 106 = .ok (.getfield 90, 3) := by decide +kernel
theorem d_M_analyse_109 : decode b_M_analyse 109 = .ok (.iload_n 2, 1) := by decide +kernel
theorem d_M_analyse_110 : decode b_M_analyse 110 = .ok (.aload_n 0, 1) := by decide +kernel
theorem d_M_analyse_111 : decode b_M_analyse 111 = .ok (.getfield 7, 3) := by decide +kernel
theorem d_M_analyse_114 : decode b_M_analyse 114 = .ok (.iload_n 3, 1) := by decide +kernel
theorem d_M_analyse_115 : decode b_M_analyse 115 = .ok (.iaload, 1) := by decide +kernel
theorem d_M_analyse_116 : decode b_M_analyse 116 = .ok (.iconst 3, 1) := by decide +kernel
theorem d_M_analyse_117 : decode b_M_analyse 117 = .ok (.if_icmp .ge 19, 3) := by decide +kernel
theorem d_M_analyse_120 : decode b_M_analyse 120 = .ok (.aload_n 0, 1) := by decide +kernel
theorem d_M_analyse_121 : decode b_M_analyse 121 = .ok (.getfield 16, 3) := by decide +kernel
theorem d_M_analyse_124 : decode b_M_analyse 124 = .ok (.iload_n 3, 1) := by decide +kernel
theorem d_M_analyse_125 : decode b_M_analyse 125 = .ok (.iaload, 1) := by decide +kernel
theorem d_M_analyse_126 : decode b_M_analyse 126 = .ok (.iconst 4, 1) := by decide +kernel
theorem d_M_analyse_127 : decode b_M_analyse 127 = .ok (.idiv, 1) := by decide +kernel
theorem d_M_analyse_128 : decode b_M_analyse 128 = .ok (.iload_n 2, 1) := by decide +kernel
theorem d_M_analyse_129 : decode b_M_analyse 129 = .ok (.if_icmp .ne 7, 3) := by decide +kernel
theorem d_M_analyse_132 : decode b_M_analyse 132 = .ok (.iload_n 3, 1) := by decide +kernel
theorem d_M_analyse_133 : decode b_M_analyse 133 = .ok (.goto 9, 3) := by decide +kernel
theorem d_M_analyse_136 : decode b_M_analyse 136 = .ok (.aload_n 0, 1) := by decide +kernel
theorem d_M_analyse_137 : decode b_M_analyse 137 = .ok (.getfield 90, 3) := by decide +kernel
theorem d_M_analyse_140 : decode b_M_analyse 140 = .ok (.iload_n 2, 1) := by decide +kernel
theorem d_M_analyse_141 : decode b_M_analyse 141 = .ok (.iaload, 1) := by decide +kernel
theorem d_M_analyse_142 : decode b_M_analyse 142 = .ok (.iastore, 1) := by decide +kernel
theorem d_M_analyse_143 : decode b_M_analyse 143 = .ok (.iinc 3 (-1), 3) := by decide +kernel
theorem d_M_analyse_146 : decode b_M_analyse 146 = .ok (.goto (-64), 3) := by decide +kernel
theorem d_M_analyse_149 : decode b_M_analyse 149 = .ok (.aload_n 0, 1) := by decide +kernel
theorem d_M_analyse_150 : decode b_M_analyse 150 = .ok (.aload_n 0, 1) := by decide +kernel
theorem d_M_analyse_151 : decode b_M_analyse 151 = .ok (.getfield 90, 3) := by decide +kernel
theorem d_M_analyse_154 : decode b_M_analyse 154 = .ok (.iload_n 2, 1) := by decide +kernel
theorem d_M_analyse_155 : decode b_M_analyse 155 = .ok (.iaload, 1) := by decide +kernel
theorem d_M_analyse_156 : decode b_M_analyse 156 = .ok (.ifCond .le 25, 3) := by decide +kernel
theorem d_M_analyse_159 : decode b_M_analyse 159 = .ok (.aload_n 0, 1) := by decide +kernel
theorem d_M_analyse_160 : decode b_M_analyse 160 = .ok (.getfield 90, 3) := by decide +kernel
theorem d_M_analyse_163 : decode b_M_analyse 163 = .ok (.iload_n 2, 1) := by decide +kernel
theorem d_M_analyse_164 : decode b_M_analyse 164 = .ok (.iaload, 1) := by decide +kernel
theorem d_M_analyse_165 : decode b_M_analyse 165 = .ok (.aload_n 0, 1) := by decide +kernel
theorem d_M_analyse_166 : decode b_M_analyse 166 = .ok (.getfield 201, 3) := by decide +kernel
theorem d_M_analyse_169 : decode b_M_analyse 169 = .ok (.if_icmp .ge 12, 3) := by decide +kernel
theorem d_M_analyse_172 : decode b_M_analyse 172 = .ok (.aload_n 0, 1) := by decide +kernel
theorem d_M_analyse_173 : decode b_M_analyse 173 = .ok (.getfield 90, 3) := by decide +kernel
theorem d_M_analyse_176 : decode b_M_analyse 176 = .ok (.iload_n 2, 1) := by decide +kernel
theorem d_M_analyse_177 : decode b_M_analyse 177 = .ok (.iaload, 1) := by decide +kernel
theorem d_M_analyse_178 : decode b_M_analyse 178 = .ok (.goto 7, 3) := by decide +kernel
theorem d_M_analyse_181 : decode b_M_analyse 181 = .ok (.aload_n 0, 1) := by decide +kernel
theorem d_M_analyse_182 : decode b_M_analyse 182 = .ok (.getfield 201, 3) := by decide +kernel
theorem d_M_analyse_185 : decode b_M_analyse 185 = .ok (.putfield 201, 3) := by decide +kernel
theorem d_M_analyse_188 : decode b_M_analyse 188 = .ok (.iinc 2 1, 3) := by decide +kernel
theorem d_M_analyse_191 : decode b_M_analyse 191 = .ok (.goto (-145), 3) := by decide +kernel
theorem d_M_analyse_194 : decode b_M_analyse 194 = .ok (.aload_n 0, 1) := by decide +kernel
theorem d_M_analyse_195 : decode b_M_analyse 195 = .ok (.iconst 1, 1) := by decide +kernel
theorem d_M_analyse_196 : decode b_M_analyse 196 = .ok (.putfield 198, 3) := by decide +kernel
theorem d_M_analyse_199 : decode b_M_analyse 199 = .ok (.return_, 1) := by decide +kernel
theorem d_M_redo_0 : decode b_M_redo 0 = .ok (.aload_n 0, 1) := by decide +kernel
theorem d_M_redo_1 : decode b_M_redo 1 = .ok (.getfield 16, 3) := by decide +kernel
theorem d_M_redo_4 : decode b_M_redo 4 = .ok (.iload_n 1, 1) := by decide +kernel
theorem d_M_redo_5 : decode b_M_redo 5 = .ok (.iaload, 1) := by decide +kernel
theorem d_M_redo_6 : decode b_M_redo 6 = .ok (.iconst 4, 1) := by decide +kernel
theorem d_M_redo_7 : decode b_M_redo 7 = .ok (.idiv, 1) := by decide +kernel
theorem d_M_redo_8 : decode b_M_redo 8 = .ok (.istore_n 2, 1) := by decide +kernel
theorem d_M_redo_9 : decode b_M_redo 9 = .ok (.aload_n 0, 1) := by decide +kernel
theorem d_M_redo_10 : decode b_M_redo 10 = .ok (.getfield 7, 3) := by decide +kernel
theorem d_M_redo_13 : decode b_M_redo 13 = .ok (.iload_n 1, 1) := by decide +kernel
theorem d_M_redo_14 : decode b_M_redo 14 = .ok (.iaload, 1) := by decide +kernel
theorem d_M_redo_15 : decode b_M_redo 15 = .ok (.iconst 3, 1) := by decide +kernel
theorem d_M_redo_16 : decode b_M_redo 16 = .ok (.if_icmp .ge 42, 3) := by decide +kernel
theorem d_M_redo_19 : decode b_M_redo 19 = .ok (.aload_n 0, 1) := by decide +kernel
theorem d_M_redo_20 : decode b_M_redo 20 = .ok (.getfield 90, 3) := by decide +kernel
theorem d_M_redo_23 : decode b_M_redo 23 = .ok (.iload_n 2, 1) := by decide +kernel
theorem d_M_redo_24 : decode b_M_redo 24 = .ok (.iaload, 1) := by decide +kernel
theorem d_M_redo_25 : decode b_M_redo 25 = .ok (.ifCond .le 33, 3) := by decide +kernel
theorem d_M_redo_28 : decode b_M_redo 28 = .ok (.aload_n 0, 1) := by decide +kernel
theorem d_M_redo_29 : decode b_M_redo 29 = .ok (.getfield 90, 3) := by decide +kernel
theorem d_M_redo_32 : decode b_M_redo 32 = .ok (.iload_n 2, 1) := by decide +kernel
theorem d_M_redo_33 : decode b_M_redo 33 = .ok (.iaload, 1) := by decide +kernel
theorem d_M_redo_34 : decode b_M_redo 34 = .ok (.iload_n 1, 1) := by decide +kernel
theorem d_M_redo_35 : decode b_M_redo 35 = .ok (.if_icmp .gt 23, 3) := by decide +kernel
theorem d_M_redo_38 : decode b_M_redo 38 = .ok (.aload_n 0, 1) := by decide +kernel
theorem d_M_redo_39 : decode b_M_redo 39 = .ok (.iload_n 2, 1) := by decide +kernel
theorem d_M_redo_40 : decode b_M_redo 40 = .ok (.invokevirtual 121, 3) := by decide +kernel
theorem d_M_redo_43 : decode b_M_redo 43 = .ok (.aload_n 0, 1) := by decide +kernel
theorem d_M_redo_44 : decode b_M_redo 44 = .ok (.getfield 52, 3) := by decide +kernel
theorem d_M_redo_47 : decode b_M_redo 47 = .ok (.iload_n 2, 1) := by decide +kernel
theorem d_M_redo_48 : decode b_M_redo 48 = .ok (.iaload, 1) := by decide +kernel
theorem d_M_redo_49 : decode b_M_redo 49 = .ok (.iload_n 1, 1) := by decide +kernel
theorem d_M_redo_50 : decode b_M_redo 50 = .ok (.if_icmp .ge 8, 3) := by decide +kernel
theorem d_M_redo_53 : decode b_M_redo 53 = .ok (.aload_n 0, 1) := by decide +kernel
theorem d_M_redo_54 : decode b_M_redo 54 = .ok (.iload_n 1, 1) := by decide +kernel
theorem d_M_redo_55 : decode b_M_redo 55 = .ok (.invokevirtual 128, 3) := by decide +kernel
theorem d_M_redo_58 : decode b_M_redo 58 = .ok (.return_, 1) := by decide +kernel
theorem d_M_finish_0 : decode b_M_finish 0 = .ok (.aload_n 0, 1) := by decide +kernel
theorem d_M_finish_1 : decode b_M_finish 1 = .ok (.iconst 0, 1) := by decide +kernel
theorem d_M_finish_2 : decode b_M_finish 2 = .ok (.putfield 172, 3) := by decide +kernel
theorem d_M_finish_5 : decode b_M_finish 5 = .ok (.iconst 1, 1) := by decide +kernel
theorem d_M_finish_6 : decode b_M_finish 6 = .ok (.istore_n 1, 1) := by decide +kernel
theorem d_M_finish_7 : decode b_M_finish 7 = .ok (.iload_n 1, 1) := by decide +kernel
theorem d_M_finish_8 : decode b_M_finish 8 = .ok (.aload_n 0, 1) := by decide +kernel
theorem d_M_finish_9 : decode b_M_finish 9 = .ok (.getfield 138, 3) := by decide +kernel
theorem d_M_finish_12 : decode b_M_finish 12 = .ok (.if_icmp .gt 39, 3) := by decide +kernel
theorem d_M_finish_15 : decode b_M_finish 15 = .ok (.aload_n 0, 1) := by decide +kernel
theorem d_M_finish_16 : decode b_M_finish 16 = .ok (.getfield 61, 3) := by decide +kernel
theorem d_M_finish_19 : decode b_M_finish 19 = .ok (.iload_n 1, 1) := by decide +kernel
theorem d_M_finish_20 : decode b_M_finish 20 = .ok (.iaload, 1) := by decide +kernel
theorem d_M_finish_21 : decode b_M_finish 21 = .ok (.bipush 6, 2) := by decide +kernel
theorem d_M_finish_23 : decode b_M_finish 23 = .ok (.if_icmp .ne 22, 3) := by decide +kernel
theorem d_M_finish_26 : decode b_M_finish 26 = .ok (.aload_n 0, 1) := by decide +kernel
theorem d_M_finish_27 : decode b_M_finish 27 = .ok (.getfield 61, 3) := by decide +kernel
theorem d_M_finish_30 : decode b_M_finish 30 = .ok (.iload_n 1, 1) := by decide +kernel
theorem d_M_finish_31 : decode b_M_finish 31 = .ok (.aload_n 0, 1) := by decide +kernel
theorem d_M_finish_32 : decode b_M_finish 32 = .ok (.iload_n 1, 1) := by decide +kernel
theorem d_M_finish_33 : decode b_M_finish 33 = .ok (.invokevirtual 117, 3) := by decide +kernel
theorem d_M_finish_36 : decode b_M_finish 36 = .ok (.ifCond .eq 7, 3) := by decide +kernel
theorem d_M_finish_39 : decode b_M_finish 39 = .ok (.iconst 4, 1) := by decide +kernel
theorem d_M_finish_40 : decode b_M_finish 40 = .ok (.goto 4, 3) := by decide +kernel
theorem d_M_finish_43 : decode b_M_finish 43 = .ok (.iconst 5, 1) := by decide +kernel
theorem d_M_finish_44 : decode b_M_finish 44 = .ok (.iastore, 1) := by decide +kernel
theorem d_M_finish_45 : decode b_M_finish 45 = .ok (.iinc 1 1, 3) := by decide +kernel
theorem d_M_finish_48 : decode b_M_finish 48 = .ok (.goto (-41), 3) := by decide +kernel
theorem d_M_finish_51 : decode b_M_finish 51 = .ok (.return_, 1) := by decide +kernel
theorem d_M_unit_0 : decode b_M_unit 0 = .ok (.aload_n 0, 1) := by decide +kernel
theorem d_M_unit_1 : decode b_M_unit 1 = .ok (.getfield 198, 3) := by decide +kernel
theorem d_M_unit_4 : decode b_M_unit 4 = .ok (.ifCond .ne 10, 3) := by decide +kernel
theorem d_M_unit_7 : decode b_M_unit 7 = .ok (.aload_n 0, 1) := by decide +kernel
theorem d_M_unit_8 : decode b_M_unit 8 = .ok (.invokevirtual 204, 3) := by decide +kernel
theorem d_M_unit_11 : decode b_M_unit 11 = .ok (.goto 54, 3) := by decide +kernel
theorem d_M_unit_14 : decode b_M_unit 14 = .ok (.aload_n 0, 1) := by decide +kernel
theorem d_M_unit_15 : decode b_M_unit 15 = .ok (.getfield 201, 3) := by decide +kernel
theorem d_M_unit_18 : decode b_M_unit 18 = .ok (.aload_n 0, 1) := by decide +kernel
theorem d_M_unit_19 : decode b_M_unit 19 = .ok (.getfield 114, 3) := by decide +kernel
theorem d_M_unit_22 : decode b_M_unit 22 = .ok (.if_icmp .gt 34, 3) := by decide +kernel
theorem d_M_unit_25 : decode b_M_unit 25 = .ok (.aload_n 0, 1) := by decide +kernel
theorem d_M_unit_26 : decode b_M_unit 26 = .ok (.getfield 201, 3) := by decide +kernel
theorem d_M_unit_29 : decode b_M_unit 29 = .ok (.sipush 1000, 3) := by decide +kernel
theorem d_M_unit_32 : decode b_M_unit 32 = .ok (.if_icmp .ge 24, 3) := by decide +kernel
theorem d_M_unit_35 : decode b_M_unit 35 = .ok (.aload_n 0, 1) := by decide +kernel
theorem d_M_unit_36 : decode b_M_unit 36 = .ok (.aload_n 0, 1) := by decide +kernel
theorem d_M_unit_37 : decode b_M_unit 37 = .ok (.getfield 201, 3) := by decide +kernel
theorem d_M_unit_40 : decode b_M_unit 40 = .ok (.invokevirtual 207, 3) := by decide +kernel
theorem d_M_unit_43 : decode b_M_unit 43 = .ok (.aload_n 0, 1) := by decide +kernel
theorem d_M_unit_44 : decode b_M_unit 44 = .ok (.dup, 1) := by decide +kernel
theorem d_M_unit_45 : decode b_M_unit 45 = .ok (.getfield 201, 3) := by decide +kernel
theorem d_M_unit_48 : decode b_M_unit 48 = .ok (.iconst 1, 1) := by decide +kernel
theorem d_M_unit_49 : decode b_M_unit 49 = .ok (.iadd, 1) := by decide +kernel
theorem d_M_unit_50 : decode b_M_unit 50 = .ok (.putfield 201, 3) := by decide +kernel
theorem d_M_unit_53 : decode b_M_unit 53 = .ok (.goto 12, 3) := by decide +kernel
theorem d_M_unit_56 : decode b_M_unit 56 = .ok (.aload_n 0, 1) := by decide +kernel
theorem d_M_unit_57 : decode b_M_unit 57 = .ok (.aload_n 0, 1) := by decide +kernel
theorem d_M_unit_58 : decode b_M_unit 58 = .ok (.iconst 0, 1) := by decide +kernel
theorem d_M_unit_59 : decode b_M_unit 59 = .ok (.invokevirtual 150, 3) := by decide +kernel
theorem d_M_unit_62 : decode b_M_unit 62 = .ok (.invokevirtual 153, 3) := by decide +kernel
theorem d_M_unit_65 : decode b_M_unit 65 = .ok (.aload_n 0, 1) := by decide +kernel
theorem d_M_unit_66 : decode b_M_unit 66 = .ok (.aload_n 0, 1) := by decide +kernel
theorem d_M_unit_67 : decode b_M_unit 67 = .ok (.getfield 201, 3) := by decide +kernel
theorem d_M_unit_70 : decode b_M_unit 70 = .ok (.aload_n 0, 1) := by decide +kernel
theorem d_M_unit_71 : decode b_M_unit 71 = .ok (.getfield 114, 3) := by decide +kernel
theorem d_M_unit_74 : decode b_M_unit 74 = .ok (.if_icmp .le 9, 3) := by decide +kernel
theorem d_M_unit_77 : decode b_M_unit 77 = .ok (.sipush 1000, 3) := by decide +kernel
theorem d_M_unit_80 : decode b_M_unit 80 = .ok (.goto 7, 3) := by decide +kernel
theorem d_M_unit_83 : decode b_M_unit 83 = .ok (.aload_n 0, 1) := by decide +kernel
theorem d_M_unit_84 : decode b_M_unit 84 = .ok (.getfield 201, 3) := by decide +kernel
theorem d_M_unit_87 : decode b_M_unit 87 = .ok (.putfield 201, 3) := by decide +kernel
theorem d_M_unit_90 : decode b_M_unit 90 = .ok (.aload_n 0, 1) := by decide +kernel
theorem d_M_unit_91 : decode b_M_unit 91 = .ok (.getfield 201, 3) := by decide +kernel
theorem d_M_unit_94 : decode b_M_unit 94 = .ok (.sipush 1000, 3) := by decide +kernel
theorem d_M_unit_97 : decode b_M_unit 97 = .ok (.if_icmp .ne 15, 3) := by decide +kernel
theorem d_M_unit_100 : decode b_M_unit 100 = .ok (.aload_n 0, 1) := by decide +kernel
theorem d_M_unit_101 : decode b_M_unit 101 = .ok (.iconst 0, 1) := by decide +kernel
theorem d_M_unit_102 : decode b_M_unit 102 = .ok (.invokevirtual 150, 3) := by decide +kernel
theorem d_M_unit_105 : decode b_M_unit 105 = .ok (.ifCond .ne 7, 3) := by decide +kernel
theorem d_M_unit_108 : decode b_M_unit 108 = .ok (.aload_n 0, 1) := by decide +kernel
theorem d_M_unit_109 : decode b_M_unit 109 = .ok (.invokevirtual 210, 3) := by decide +kernel
theorem d_M_unit_112 : decode b_M_unit 112 = .ok (.return_, 1) := by decide +kernel
theorem d_M_restart_0 : decode b_M_restart 0 = .ok (.aload_n 0, 1) := by decide +kernel
theorem d_M_restart_1 : decode b_M_restart 1 = .ok (.getfield 172, 3) := by decide +kernel
theorem d_M_restart_4 : decode b_M_restart 4 = .ok (.ifCond .eq 14, 3) := by decide +kernel
theorem d_M_restart_7 : decode b_M_restart 7 = .ok (.iload_n 1, 1) := by decide +kernel
theorem d_M_restart_8 : decode b_M_restart 8 = .ok (.iconst 1, 1) := by decide +kernel
theorem d_M_restart_9 : decode b_M_restart 9 = .ok (.if_icmp .lt 9, 3) := by decide +kernel
theorem d_M_restart_12 : decode b_M_restart 12 = .ok (.iload_n 1, 1) := by decide +kernel
theorem d_M_restart_13 : decode b_M_restart 13 = .ok (.bipush 100, 2) := by decide +kernel
theorem d_M_restart_15 : decode b_M_restart 15 = .ok (.if_icmp .le 5, 3) := by decide +kernel
theorem d_M_restart_18 : decode b_M_restart 18 = .ok (.iconst (-1), 1) := by decide +kernel
theorem d_M_restart_19 : decode b_M_restart 19 = .ok (.ireturn, 1) := by decide +kernel
theorem d_M_restart_20 : decode b_M_restart 20 = .ok (.iconst 0, 1) := by decide +kernel
theorem d_M_restart_21 : decode b_M_restart 21 = .ok (.istore_n 2, 1) := by decide +kernel
theorem d_M_restart_22 : decode b_M_restart 22 = .ok (.iload_n 2, 1) := by decide +kernel
theorem d_M_restart_23 : decode b_M_restart 23 = .ok (.iload_n 1, 1) := by decide +kernel
theorem d_M_restart_24 : decode b_M_restart 24 = .ok (.if_icmp .ge 20, 3) := by decide +kernel
theorem d_M_restart_27 : decode b_M_restart 27 = .ok (.aload_n 0, 1) := by decide +kernel
theorem d_M_restart_28 : decode b_M_restart 28 = .ok (.getfield 172, 3) := by decide +kernel
theorem d_M_restart_31 : decode b_M_restart 31 = .ok (.ifCond .eq 13, 3) := by decide +kernel
theorem d_M_restart_34 : decode b_M_restart 34 = .ok (.aload_n 0, 1) := by decide +kernel
theorem d_M_restart_35 : decode b_M_restart 35 = .ok (.invokevirtual 213, 3) := by decide +kernel
theorem d_M_restart_38 : decode b_M_restart 38 = .ok (.iinc 2 1, 3) := by decide +kernel
theorem d_M_restart_41 : decode b_M_restart 41 = .ok (.goto (-19), 3) := by decide +kernel
theorem d_M_restart_44 : decode b_M_restart 44 = .ok (.iload_n 2, 1) := by decide +kernel
theorem d_M_restart_45 : decode b_M_restart 45 = .ok (.ireturn, 1) := by decide +kernel
theorem d_M_up_0 : decode b_M_up 0 = .ok (.aload_n 0, 1) := by decide +kernel
theorem d_M_up_1 : decode b_M_up 1 = .ok (.getfield 172, 3) := by decide +kernel
theorem d_M_up_4 : decode b_M_up 4 = .ok (.ifCond .ne 7, 3) := by decide +kernel
theorem d_M_up_7 : decode b_M_up 7 = .ok (.iconst 1, 1) := by decide +kernel
theorem d_M_up_8 : decode b_M_up 8 = .ok (.goto 4, 3) := by decide +kernel
theorem d_M_up_11 : decode b_M_up 11 = .ok (.iconst 0, 1) := by decide +kernel
theorem d_M_up_12 : decode b_M_up 12 = .ok (.ireturn, 1) := by decide +kernel
theorem d_M_known_0 : decode b_M_known 0 = .ok (.iload_n 1, 1) := by decide +kernel
theorem d_M_known_1 : decode b_M_known 1 = .ok (.iconst 1, 1) := by decide +kernel
theorem d_M_known_2 : decode b_M_known 2 = .ok (.if_icmp .lt 15, 3) := by decide +kernel
theorem d_M_known_5 : decode b_M_known 5 = .ok (.iload_n 1, 1) := by decide +kernel
theorem d_M_known_6 : decode b_M_known 6 = .ok (.aload_n 0, 1) := by decide +kernel
theorem d_M_known_7 : decode b_M_known 7 = .ok (.getfield 138, 3) := by decide +kernel
theorem d_M_known_10 : decode b_M_known 10 = .ok (.if_icmp .gt 7, 3) := by decide +kernel
theorem d_M_known_13 : decode b_M_known 13 = .ok (.iconst 1, 1) := by decide +kernel
theorem d_M_known_14 : decode b_M_known 14 = .ok (.goto 4, 3) := by decide +kernel
theorem d_M_known_17 : decode b_M_known 17 = .ok (.iconst 0, 1) := by decide +kernel
theorem d_M_known_18 : decode b_M_known 18 = .ok (.ireturn, 1) := by decide +kernel
theorem d_M_state_0 : decode b_M_state 0 = .ok (.aload_n 0, 1) := by decide +kernel
theorem d_M_state_1 : decode b_M_state 1 = .ok (.iload_n 1, 1) := by decide +kernel
theorem d_M_state_2 : decode b_M_state 2 = .ok (.invokevirtual 216, 3) := by decide +kernel
theorem d_M_state_5 : decode b_M_state 5 = .ok (.ifCond .eq 12, 3) := by decide +kernel
theorem d_M_state_8 : decode b_M_state 8 = .ok (.aload_n 0, 1) := by decide +kernel
theorem d_M_state_9 : decode b_M_state 9 = .ok (.getfield 61, 3) := by decide +kernel
theorem d_M_state_12 : decode b_M_state 12 = .ok (.iload_n 1, 1) := by decide +kernel
theorem d_M_state_13 : decode b_M_state 13 = .ok (.iaload, 1) := by decide +kernel
theorem d_M_state_14 : decode b_M_state 14 = .ok (.goto 4, 3) := by decide +kernel
theorem d_M_state_17 : decode b_M_state 17 = .ok (.iconst 0, 1) := by decide +kernel
theorem d_M_state_18 : decode b_M_state 18 = .ok (.ireturn, 1) := by decide +kernel
theorem d_M_outcome_0 : decode b_M_outcome 0 = .ok (.aload_n 0, 1) := by decide +kernel
theorem d_M_outcome_1 : decode b_M_outcome 1 = .ok (.iload_n 1, 1) := by decide +kernel
theorem d_M_outcome_2 : decode b_M_outcome 2 = .ok (.invokevirtual 216, 3) := by decide +kernel
theorem d_M_outcome_5 : decode b_M_outcome 5 = .ok (.ifCond .eq 12, 3) := by decide +kernel
theorem d_M_outcome_8 : decode b_M_outcome 8 = .ok (.aload_n 0, 1) := by decide +kernel
theorem d_M_outcome_9 : decode b_M_outcome 9 = .ok (.getfield 64, 3) := by decide +kernel
theorem d_M_outcome_12 : decode b_M_outcome 12 = .ok (.iload_n 1, 1) := by decide +kernel
theorem d_M_outcome_13 : decode b_M_outcome 13 = .ok (.iaload, 1) := by decide +kernel
theorem d_M_outcome_14 : decode b_M_outcome 14 = .ok (.goto 4, 3) := by decide +kernel
theorem d_M_outcome_17 : decode b_M_outcome 17 = .ok (.iconst (-1), 1) := by decide +kernel
theorem d_M_outcome_18 : decode b_M_outcome 18 = .ok (.ireturn, 1) := by decide +kernel
theorem d_M_value_0 : decode b_M_value 0 = .ok (.aload_n 0, 1) := by decide +kernel
theorem d_M_value_1 : decode b_M_value 1 = .ok (.iload_n 1, 1) := by decide +kernel
theorem d_M_value_2 : decode b_M_value 2 = .ok (.invokevirtual 216, 3) := by decide +kernel
theorem d_M_value_5 : decode b_M_value 5 = .ok (.ifCond .eq 12, 3) := by decide +kernel
theorem d_M_value_8 : decode b_M_value 8 = .ok (.aload_n 0, 1) := by decide +kernel
theorem d_M_value_9 : decode b_M_value 9 = .ok (.getfield 67, 3) := by decide +kernel
theorem d_M_value_12 : decode b_M_value 12 = .ok (.iload_n 1, 1) := by decide +kernel
theorem d_M_value_13 : decode b_M_value 13 = .ok (.iaload, 1) := by decide +kernel
theorem d_M_value_14 : decode b_M_value 14 = .ok (.goto 4, 3) := by decide +kernel
theorem d_M_value_17 : decode b_M_value 17 = .ok (.iconst 0, 1) := by decide +kernel
theorem d_M_value_18 : decode b_M_value 18 = .ok (.ireturn, 1) := by decide +kernel
theorem d_M_stored_0 : decode b_M_stored 0 = .ok (.aload_n 0, 1) := by decide +kernel
theorem d_M_stored_1 : decode b_M_stored 1 = .ok (.iload_n 1, 1) := by decide +kernel
theorem d_M_stored_2 : decode b_M_stored 2 = .ok (.invokevirtual 219, 3) := by decide +kernel
theorem d_M_stored_5 : decode b_M_stored 5 = .ok (.istore_n 2, 1) := by decide +kernel
theorem d_M_stored_6 : decode b_M_stored 6 = .ok (.iload_n 2, 1) := by decide +kernel
theorem d_M_stored_7 : decode b_M_stored 7 = .ok (.ifCond .ge 7, 3) := by decide +kernel
theorem d_M_stored_10 : decode b_M_stored 10 = .ok (.iconst 0, 1) := by decide +kernel
theorem d_M_stored_11 : decode b_M_stored 11 = .ok (.goto 8, 3) := by decide +kernel
theorem d_M_stored_14 : decode b_M_stored 14 = .ok (.aload_n 0, 1) := by decide +kernel
theorem d_M_stored_15 : decode b_M_stored 15 = .ok (.iload_n 2, 1) := by decide +kernel
theorem d_M_stored_16 : decode b_M_stored 16 = .ok (.invokevirtual 222, 3) := by decide +kernel
theorem d_M_stored_19 : decode b_M_stored 19 = .ok (.ireturn, 1) := by decide +kernel
theorem d_M_place_0 : decode b_M_place 0 = .ok (.iload_n 1, 1) := by decide +kernel
theorem d_M_place_1 : decode b_M_place 1 = .ok (.ifCond .lt 9, 3) := by decide +kernel
theorem d_M_place_4 : decode b_M_place 4 = .ok (.iload_n 1, 1) := by decide +kernel
theorem d_M_place_5 : decode b_M_place 5 = .ok (.bipush 99, 2) := by decide +kernel
theorem d_M_place_7 : decode b_M_place 7 = .ok (.if_icmp .le 7, 3) := by decide +kernel
theorem d_M_place_10 : decode b_M_place 10 = .ok (.iconst (-1), 1) := by decide +kernel
theorem d_M_place_11 : decode b_M_place 11 = .ok (.goto 8, 3) := by decide +kernel
theorem d_M_place_14 : decode b_M_place 14 = .ok (.aload_n 0, 1) := by decide +kernel
theorem d_M_place_15 : decode b_M_place 15 = .ok (.iload_n 1, 1) := by decide +kernel
theorem d_M_place_16 : decode b_M_place 16 = .ok (.invokevirtual 144, 3) := by decide +kernel
theorem d_M_place_19 : decode b_M_place 19 = .ok (.ireturn, 1) := by decide +kernel
theorem d_M_after_0 : decode b_M_after 0 = .ok (.iload_n 1, 1) := by decide +kernel
theorem d_M_after_1 : decode b_M_after 1 = .ok (.ifCond .ge 7, 3) := by decide +kernel
theorem d_M_after_4 : decode b_M_after 4 = .ok (.iconst 0, 1) := by decide +kernel
theorem d_M_after_5 : decode b_M_after 5 = .ok (.goto 17, 3) := by decide +kernel
theorem d_M_after_8 : decode b_M_after 8 = .ok (.iload_n 1, 1) := by decide +kernel
theorem d_M_after_9 : decode b_M_after 9 = .ok (.bipush 99, 2) := by decide +kernel
theorem d_M_after_11 : decode b_M_after 11 = .ok (.if_icmp .lt 8, 3) := by decide +kernel
theorem d_M_after_14 : decode b_M_after 14 = .ok (.bipush 100, 2) := by decide +kernel
theorem d_M_after_16 : decode b_M_after 16 = .ok (.goto 6, 3) := by decide +kernel
theorem d_M_after_19 : decode b_M_after 19 = .ok (.iload_n 1, 1) := by decide +kernel
theorem d_M_after_20 : decode b_M_after 20 = .ok (.iconst 1, 1) := by decide +kernel
theorem d_M_after_21 : decode b_M_after 21 = .ok (.iadd, 1) := by decide +kernel
theorem d_M_after_22 : decode b_M_after 22 = .ok (.istore_n 2, 1) := by decide +kernel
theorem d_M_after_23 : decode b_M_after 23 = .ok (.iload_n 2, 1) := by decide +kernel
theorem d_M_after_24 : decode b_M_after 24 = .ok (.bipush 100, 2) := by decide +kernel
theorem d_M_after_26 : decode b_M_after 26 = .ok (.if_icmp .ge 26, 3) := by decide +kernel
theorem d_M_after_29 : decode b_M_after 29 = .ok (.aload_n 0, 1) := by decide +kernel
theorem d_M_after_30 : decode b_M_after 30 = .ok (.getfield 172, 3) := by decide +kernel
theorem d_M_after_33 : decode b_M_after 33 = .ok (.ifCond .ne 19, 3) := by decide +kernel
theorem d_M_after_36 : decode b_M_after 36 = .ok (.aload_n 0, 1) := by decide +kernel
theorem d_M_after_37 : decode b_M_after 37 = .ok (.iload_n 2, 1) := by decide +kernel
theorem d_M_after_38 : decode b_M_after 38 = .ok (.invokevirtual 144, 3) := by decide +kernel
theorem d_M_after_41 : decode b_M_after 41 = .ok (.ifCond .lt 5, 3) := by decide +kernel
theorem d_M_after_44 : decode b_M_after 44 = .ok (.iload_n 2, 1) := by decide +kernel
theorem d_M_after_45 : decode b_M_after 45 = .ok (.ireturn, 1) := by decide +kernel
theorem d_M_after_46 : decode b_M_after 46 = .ok (.iinc 2 1, 3) := by decide +kernel
theorem d_M_after_49 : decode b_M_after 49 = .ok (.goto (-26), 3) := by decide +kernel
theorem d_M_after_52 : decode b_M_after 52 = .ok (.iconst (-1), 1) := by decide +kernel
theorem d_M_after_53 : decode b_M_after 53 = .ok (.ireturn, 1) := by decide +kernel
theorem d_M_count_0 : decode b_M_count 0 = .ok (.iload_n 1, 1) := by decide +kernel
theorem d_M_count_1 : decode b_M_count 1 = .ok (.ifCond .ne 10, 3) := by decide +kernel
theorem d_M_count_4 : decode b_M_count 4 = .ok (.aload_n 0, 1) := by decide +kernel
theorem d_M_count_5 : decode b_M_count 5 = .ok (.getfield 114, 3) := by decide +kernel
theorem d_M_count_8 : decode b_M_count 8 = .ok (.goto 40, 3) := by decide +kernel
theorem d_M_count_11 : decode b_M_count 11 = .ok (.iload_n 1, 1) := by decide +kernel
theorem d_M_count_12 : decode b_M_count 12 = .ok (.iconst 1, 1) := by decide +kernel
theorem d_M_count_13 : decode b_M_count 13 = .ok (.if_icmp .ne 10, 3) := by decide +kernel
theorem d_M_count_16 : decode b_M_count 16 = .ok (.aload_n 0, 1) := by decide +kernel
theorem d_M_count_17 : decode b_M_count 17 = .ok (.getfield 97, 3) := by decide +kernel
theorem d_M_count_20 : decode b_M_count 20 = .ok (.goto 28, 3) := by decide +kernel
theorem d_M_count_23 : decode b_M_count 23 = .ok (.iload_n 1, 1) := by decide +kernel
theorem d_M_count_24 : decode b_M_count 24 = .ok (.iconst 2, 1) := by decide +kernel
theorem d_M_count_25 : decode b_M_count 25 = .ok (.if_icmp .ne 10, 3) := by decide +kernel
theorem d_M_count_28 : decode b_M_count 28 = .ok (.aload_n 0, 1) := by decide +kernel
theorem d_M_count_29 : decode b_M_count 29 = .ok (.getfield 111, 3) := by decide +kernel
theorem d_M_count_32 : decode b_M_count 32 = .ok (.goto 16, 3) := by decide +kernel
theorem d_M_count_35 : decode b_M_count 35 = .ok (.iload_n 1, 1) := by decide +kernel
theorem d_M_count_36 : decode b_M_count 36 = .ok (.iconst 3, 1) := by decide +kernel
theorem d_M_count_37 : decode b_M_count 37 = .ok (.if_icmp .ne 10, 3) := by decide +kernel
theorem d_M_count_40 : decode b_M_count 40 = .ok (.aload_n 0, 1) := by decide +kernel
theorem d_M_count_41 : decode b_M_count 41 = .ok (.getfield 101, 3) := by decide +kernel
theorem d_M_count_44 : decode b_M_count 44 = .ok (.goto 4, 3) := by decide +kernel
theorem d_M_count_47 : decode b_M_count 47 = .ok (.iconst (-1), 1) := by decide +kernel
theorem d_M_count_48 : decode b_M_count 48 = .ok (.ireturn, 1) := by decide +kernel
theorem d_M_page_0 : decode b_M_page 0 = .ok (.iload_n 1, 1) := by decide +kernel
theorem d_M_page_1 : decode b_M_page 1 = .ok (.ifCond .lt 17, 3) := by decide +kernel
theorem d_M_page_4 : decode b_M_page 4 = .ok (.iload_n 1, 1) := by decide +kernel
theorem d_M_page_5 : decode b_M_page 5 = .ok (.iconst 5, 1) := by decide +kernel
theorem d_M_page_6 : decode b_M_page 6 = .ok (.if_icmp .gt 12, 3) := by decide +kernel
theorem d_M_page_9 : decode b_M_page 9 = .ok (.iload_n 2, 1) := by decide +kernel
theorem d_M_page_10 : decode b_M_page 10 = .ok (.ifCond .lt 8, 3) := by decide +kernel
theorem d_M_page_13 : decode b_M_page 13 = .ok (.iload_n 2, 1) := by decide +kernel
theorem d_M_page_14 : decode b_M_page 14 = .ok (.iconst 2, 1) := by decide +kernel
theorem d_M_page_15 : decode b_M_page 15 = .ok (.if_icmp .le 5, 3) := by decide +kernel
theorem d_M_page_18 : decode b_M_page 18 = .ok (.iconst (-1), 1) := by decide +kernel
theorem d_M_page_19 : decode b_M_page 19 = .ok (.ireturn, 1) := by decide +kernel
theorem d_M_page_20 : decode b_M_page 20 = .ok (.iload_n 2, 1) := by decide +kernel
theorem d_M_page_21 : decode b_M_page 21 = .ok (.iconst 2, 1) := by decide +kernel
theorem d_M_page_22 : decode b_M_page 22 = .ok (.if_icmp .ne 10, 3) := by decide +kernel
theorem d_M_page_25 : decode b_M_page 25 = .ok (.aload_n 0, 1) := by decide +kernel
theorem d_M_page_26 : decode b_M_page 26 = .ok (.getfield 43, 3) := by decide +kernel
theorem d_M_page_29 : decode b_M_page 29 = .ok (.iload_n 1, 1) := by decide +kernel
theorem d_M_page_30 : decode b_M_page 30 = .ok (.iaload, 1) := by decide +kernel
theorem d_M_page_31 : decode b_M_page 31 = .ok (.ireturn, 1) := by decide +kernel
theorem d_M_page_32 : decode b_M_page 32 = .ok (.aload_n 0, 1) := by decide +kernel
theorem d_M_page_33 : decode b_M_page 33 = .ok (.getfield 58, 3) := by decide +kernel
theorem d_M_page_36 : decode b_M_page 36 = .ok (.iload_n 1, 1) := by decide +kernel
theorem d_M_page_37 : decode b_M_page 37 = .ok (.iaload, 1) := by decide +kernel
theorem d_M_page_38 : decode b_M_page 38 = .ok (.ifCond .ne 7, 3) := by decide +kernel
theorem d_M_page_41 : decode b_M_page 41 = .ok (.iconst (-1), 1) := by decide +kernel
theorem d_M_page_42 : decode b_M_page 42 = .ok (.goto 22, 3) := by decide +kernel
theorem d_M_page_45 : decode b_M_page 45 = .ok (.iload_n 2, 1) := by decide +kernel
theorem d_M_page_46 : decode b_M_page 46 = .ok (.ifCond .ne 12, 3) := by decide +kernel
theorem d_M_page_49 : decode b_M_page 49 = .ok (.aload_n 0, 1) := by decide +kernel
theorem d_M_page_50 : decode b_M_page 50 = .ok (.getfield 55, 3) := by decide +kernel
theorem d_M_page_53 : decode b_M_page 53 = .ok (.iload_n 1, 1) := by decide +kernel
theorem d_M_page_54 : decode b_M_page 54 = .ok (.iaload, 1) := by decide +kernel
theorem d_M_page_55 : decode b_M_page 55 = .ok (.goto 9, 3) := by decide +kernel
theorem d_M_page_58 : decode b_M_page 58 = .ok (.aload_n 0, 1) := by decide +kernel
theorem d_M_page_59 : decode b_M_page 59 = .ok (.getfield 52, 3) := by decide +kernel
theorem d_M_page_62 : decode b_M_page 62 = .ok (.iload_n 1, 1) := by decide +kernel
theorem d_M_page_63 : decode b_M_page 63 = .ok (.iaload, 1) := by decide +kernel
theorem d_M_page_64 : decode b_M_page 64 = .ok (.ireturn, 1) := by decide +kernel
end
section
-- ===== small facts of the reference's functions =====
theorem m_cp_0 (τ : Hp) (f t g : Int) : m_cp τ f t g (4 * g) = τ := by
  funext a b
  have : ¬ (4 * g ≤ b ∧ b < 4 * g) := by omega
  simp only [m_cp, if_neg this]
theorem cpD_step {τ : Hp} {g x : Int} (hx : 4 * g ≤ x) : st2 (st2 (m_cp τ 14 11 g x) 11 x (m_cp τ 14 11 g x 14 x)) 12 x (st2 (m_cp τ 14 11 g x) 11 x (m_cp τ 14 11 g x 14 x) 15 x) = m_cp τ 14 11 g (x + 1) := by
  funext a b
  simp only [st2, m_cp]
  grind
theorem cpP_step {τ : Hp} {g x : Int} (hx : 4 * g ≤ x) : st2 (st2 (m_cp τ 11 14 g x) 14 x (m_cp τ 11 14 g x 11 x)) 15 x (st2 (m_cp τ 11 14 g x) 14 x (m_cp τ 11 14 g x 11 x) 12 x) = m_cp τ 11 14 g (x + 1) := by
  funext a b
  simp only [st2, m_cp]
  grind
theorem m_cp_1 {τ : Hp} {f t g x i : Int} (h : t = 11 ∨ t = 14) : m_cp τ f t g x 1 i = τ 1 i := by
  rcases h with rfl | rfl <;> simp [m_cp]
theorem m_scan_spec (τ : Hp) : ∀ k : Nat, 0 ≤ (m_scan τ k).1 ∧ (m_scan τ k).1 ≤ (k : Int) ∧ (((m_scan τ k).1 = 0 ∧ (m_scan τ k).2 = -1 ∧ ∀ q : Int, 0 ≤ q → q < (k : Int) → τ 18 q ≤ 0) ∨ (0 < (m_scan τ k).1 ∧ 0 ≤ (m_scan τ k).2 ∧ (m_scan τ k).2 < (k : Int) ∧ 0 < τ 18 (m_scan τ k).2 ∧ ∀ q : Int, 0 ≤ q → q < (k : Int) → 0 < τ 18 q → τ 18 (m_scan τ k).2 ≤ τ 18 q))
  | 0 => ⟨Int.le_refl 0, Int.le_refl 0, Or.inl ⟨rfl, rfl, fun q h1 h2 => by omega⟩⟩
  | k + 1 => by
    obtain ⟨h1, h2, h3⟩ := m_scan_spec τ k
    have e : m_scan τ (k + 1) = ((m_scan τ k).1 + (if 0 < τ 18 (k : Int) then 1 else 0), if 0 < τ 18 (k : Int) ∧ ((m_scan τ k).2 < 0 ∨ τ 18 (k : Int) < τ 18 (m_scan τ k).2) then (k : Int) else (m_scan τ k).2) := rfl
    rw [e]
    generalize hc : (m_scan τ k).1 = c at *
    generalize ho : (m_scan τ k).2 = o at *
    dsimp only
    by_cases hk : 0 < τ 18 (k : Int)
    · rw [if_pos hk]
      refine ⟨by omega, by omega, Or.inr ⟨by omega, ?_⟩⟩
      by_cases hp : o < 0 ∨ τ 18 (k : Int) < τ 18 o
      · rw [if_pos ⟨hk, hp⟩]
        refine ⟨by omega, by omega, hk, fun q q1 q2 q3 => ?_⟩
        by_cases hq : q = (k : Int)
        · rw [hq]; exact Int.le_refl _
        · rcases h3 with ⟨a1, a2, a3⟩ | ⟨a1, a2, a3, a4, a5⟩
          · have := a3 q q1 (by omega); omega
          · have := a5 q q1 (by omega) q3; omega
      · rw [if_neg (fun h => hp h.2)]
        rcases h3 with ⟨a1, a2, a3⟩ | ⟨a1, a2, a3, a4, a5⟩
        · exact absurd (Or.inl (by omega)) hp
        · refine ⟨a2, by omega, a4, fun q q1 q2 q3 => ?_⟩
          by_cases hq : q = (k : Int)
          · rw [hq]; have : ¬ τ 18 (k : Int) < τ 18 o := fun h => hp (Or.inr h); omega
          · exact a5 q q1 (by omega) q3
    · rw [if_neg hk, if_neg (fun h => hk h.1)]
      refine ⟨by omega, by omega, ?_⟩
      rcases h3 with ⟨a1, a2, a3⟩ | ⟨a1, a2, a3, a4, a5⟩
      · refine Or.inl ⟨by omega, a2, fun q q1 q2 => ?_⟩
        by_cases hq : q = (k : Int)
        · rw [hq]; omega
        · exact a3 q q1 (by omega)
      · refine Or.inr ⟨by omega, a2, by omega, a4, fun q q1 q2 q3 => ?_⟩
        by_cases hq : q = (k : Int)
        · rw [hq] at q3; omega
        · exact a5 q q1 (by omega) q3
theorem m_spill_1 (τ : Hp) (g : Int) {i : Int} (h1 : i ≠ 1) (h2 : i ≠ 21) : m_spill τ g 1 i = τ 1 i := by
  simp [m_spill, st2, m_cp, h1, h2]
theorem m_spill_o (τ : Hp) (g : Int) : m_spill τ g 1 21 = τ 1 21 + 1 := by
  simp [m_spill, st2, m_cp]
theorem m_evict_1 (τ : Hp) {i : Int} (h1 : i ≠ 1) (h2 : i ≠ 21) : m_evict τ 1 i = τ 1 i := by
  simp only [m_evict]
  split
  · split <;> simp [st2, m_spill_1 _ _ h1 h2]
  · rfl
theorem m_spill_18 (τ : Hp) (g i : Int) : m_spill τ g 18 i = τ 18 i := by
  simp [m_spill, st2, m_cp]
def mB (σ : Hp) : Prop := 0 ≤ σ 1 19 ∧ σ 1 19 < 2000000000 ∧ 0 ≤ σ 1 20 ∧ σ 1 20 < 2000000000 ∧ 0 ≤ σ 1 21 ∧ σ 1 21 < 2000000000
end
section
-- ===== more facts of the reference's functions =====
theorem m_put_eq (τ : Hp) (k t x : Int) : m_put τ k t x = fun a b => if a = 1 ∧ b = 0 then τ 1 0 + 1 else if b = τ 1 0 + 1 then (if a = 2 then k else if a = 3 then t else if a = 4 then x else τ a b) else τ a b := by
  funext a b
  simp only [m_put, st2]
  grind
theorem m_put_0 (τ : Hp) (k t x : Int) : m_put τ k t x 1 0 = τ 1 0 + 1 := by simp [m_put_eq]
theorem m_put_4 (τ : Hp) (k t x : Int) : m_put τ k t x 4 (τ 1 0 + 1) = x := by simp [m_put_eq]
theorem m_spill_fr (τ : Hp) (g : Int) {a : Int} (h : a < 11 ∨ 18 < a) (h1 : a ≠ 1) : m_spill τ g a = τ a := by
  funext b
  simp only [m_spill, st2, m_cp]
  grind
theorem m_evict_fr (τ : Hp) {a : Int} (h : a < 11 ∨ 18 < a) (h1 : a ≠ 1) : m_evict τ a = τ a := by
  simp only [m_evict]
  have h18 : a ≠ 18 := by omega
  split
  · split
    · rw [st2_ne h18, m_spill_fr _ _ h h1]
    · rw [st2_ne h18]
  · rfl
theorem m_load_fr (τ : Hp) (g : Int) {a : Int} (h : a < 11 ∨ 18 < a) (h1 : a ≠ 1) : m_load τ g a = τ a := by
  funext b
  simp only [m_load, st2, m_cp]
  grind
theorem m_load_1 (τ : Hp) (g : Int) {i : Int} (h : i ≠ 20) : m_load τ g 1 i = τ 1 i := by
  simp only [m_load, st2, m_cp]
  grind
theorem m_fetch_fr (τ : Hp) (g : Int) {a : Int} (h : a < 11 ∨ 18 < a) (h1 : a ≠ 1) : m_fetch τ g a = τ a := by
  have h18 : a ≠ 18 := by omega
  simp only [m_fetch]
  rw [st2_ne h18]
  split
  · rw [m_load_fr _ _ h h1, m_evict_fr _ h h1, st2_ne h1]
  · rw [st2_ne h1]
theorem m_fetch_1 (τ : Hp) (g : Int) {i : Int} (h1 : i ≠ 1) (h2 : i ≠ 19) (h3 : i ≠ 20) (h4 : i ≠ 21) : m_fetch τ g 1 i = τ 1 i := by
  simp only [m_fetch]
  rw [st2_ne (by decide)]
  split
  · rw [m_load_1 _ _ h3, m_evict_1 _ h1 h4, st2_ii h2]
  · rw [st2_ii h2]
theorem m_waitsFor_fr {σ τ : Hp} (h : ∀ a : Int, a ≠ 27 → τ a = σ a) (t u : Int) : m_waitsFor τ t u = m_waitsFor σ t u := by
  unfold m_waitsFor m_conflicts m_ahead m_lk
  rw [h 19 (by decide), h 22 (by decide), h 23 (by decide), h 25 (by decide), h 26 (by decide)]
def mL (σ : Hp) : Prop := 0 ≤ σ 1 22 ∧ σ 1 22 ≤ 60 ∧ ∀ u : Int, 0 ≤ u → u ≤ 60 → 0 ≤ σ 22 u ∧ σ 22 u ≤ 99
theorem m_unlock_0 (τ : Hp) (t : Int) : m_unlock τ t 0 = τ := by
  funext a b
  simp only [m_unlock]
  grind
theorem m_unlock_step {τ : Hp} {t x : Int} (h : 0 ≤ x) : st2 (m_unlock τ t x) 26 (100 * t + x) 0 = m_unlock τ t (x + 1) := by
  funext a b
  simp only [m_unlock, st2]
  grind
end
section
-- ===== the ring: literally =====
def m_r0 (t : Int) : Nat → Int → Hp → Hp
  | 0, _, τ => τ
  | k + 1, u, τ => m_r0 t k (u + 1) (st2 τ 27 u (b2i (m_waitsFor τ t u)))
def m_rv (u : Int) : Nat → Int → Hp → Hp
  | 0, _, τ => τ
  | k + 1, v, τ => if τ 27 u = 0 then τ else m_rv u k (v + 1) (st2 τ 27 v (if ¬ τ 27 v = 0 ∨ m_waitsFor τ u v = true then 1 else 0))
def m_ru (B : Nat) : Nat → Int → Hp → Hp
  | 0, _, τ => τ
  | k + 1, u, τ => m_ru B k (u + 1) (m_rv u B 1 τ)
def m_rr (B : Nat) : Nat → Hp → Hp
  | 0, τ => τ
  | k + 1, τ => m_rr B k (m_ru B B 1 τ)
def m_ring (τ : Hp) (t : Int) : Hp := m_rr (τ 1 22).toNat 4 (m_r0 t (τ 1 22).toNat 1 τ)
theorem st2_fr {σ τ : Hp} (h : ∀ a : Int, a ≠ 27 → τ a = σ a) (i v : Int) : ∀ a : Int, a ≠ 27 → st2 τ 27 i v a = σ a := fun a ha => by rw [st2_ne ha]; exact h a ha
theorem m_r0_fr {σ : Hp} {t : Int} : ∀ (k : Nat) (u : Int) (τ : Hp), (∀ a : Int, a ≠ 27 → τ a = σ a) → ∀ a : Int, a ≠ 27 → m_r0 t k u τ a = σ a
  | 0, _, _, h => h
  | k + 1, u, τ, h => m_r0_fr k (u + 1) _ (st2_fr h _ _)
theorem m_rv_fr {σ : Hp} {u : Int} : ∀ (k : Nat) (v : Int) (τ : Hp), (∀ a : Int, a ≠ 27 → τ a = σ a) → ∀ a : Int, a ≠ 27 → m_rv u k v τ a = σ a
  | 0, _, _, h => h
  | k + 1, v, τ, h => by
    intro a ha
    unfold m_rv
    split
    · exact h a ha
    · exact m_rv_fr k (v + 1) _ (st2_fr h _ _) a ha
theorem m_ru_fr {σ : Hp} {B : Nat} : ∀ (k : Nat) (u : Int) (τ : Hp), (∀ a : Int, a ≠ 27 → τ a = σ a) → ∀ a : Int, a ≠ 27 → m_ru B k u τ a = σ a
  | 0, _, _, h => h
  | k + 1, u, τ, h => m_ru_fr k (u + 1) _ (m_rv_fr B 1 τ h)
theorem m_rr_fr {σ : Hp} {B : Nat} : ∀ (k : Nat) (τ : Hp), (∀ a : Int, a ≠ 27 → τ a = σ a) → ∀ a : Int, a ≠ 27 → m_rr B k τ a = σ a
  | 0, _, h => h
  | k + 1, τ, h => m_rr_fr k _ (m_ru_fr B 1 τ h)
theorem m_ff_le (τ : Hp) : ∀ k : Nat, 0 ≤ m_ff τ k ∧ m_ff τ k ≤ (k : Int)
  | 0 => ⟨Int.le_refl 0, Int.le_refl 0⟩
  | k + 1 => by
    have h := m_ff_le τ k
    unfold m_ff
    split <;> omega
theorem m_lock_fr (σ : Hp) (t : Int) {a : Int} (h1 : a ≠ 19) (h2 : a ≠ 20) (h3 : a ≠ 26) : m_lock σ t a = σ a := by
  simp only [m_lock]
  rw [st2_ne h2, st2_ne h1]
  split
  · rw [st2_ne h3]
  · rfl
end
section
-- ===== the reference's public calls, the restart: literally =====
def m_req2 (τ1 : Hp) (t : Int) : Hp := if m_fit τ1 t = true then m_grant τ1 t else if m_ring (m_wait τ1 t) t 27 t = 0 then m_ring (m_wait τ1 t) t else m_drop (st2 (m_ring (m_wait τ1 t) t) 20 t 2) t
def m_request (τ : Hp) (t key what v : Int) : Int × Hp := if m_isIn τ t 1 = true ∧ 0 ≤ key ∧ key ≤ 99 then (m_req2 (m_ask τ t key what v) t 20 t, m_settle (m_req2 (m_ask τ t key what v) t)) else (-1, τ)
def m_ck0 (τ : Hp) (x : Int) : Hp := fun a b => if a = 10 ∧ 6 * τ 1 0 ≤ b ∧ b < 6 * τ 1 0 + x then (if 0 < τ 18 (b - 6 * τ 1 0) then τ 17 (b - 6 * τ 1 0) else 0) else τ a b
def m_cr0 (τ : Hp) (k : Int) : Hp :=
  let τ1 := st2 τ 1 33 (τ 1 33 + 1)
  let τ2 := st2 τ1 1 1 (if τ1 1 0 - τ1 1 1 < k then τ1 1 0 else τ1 1 1 + k)
  let τ3 := st2 τ2 1 0 (τ2 1 1)
  st2 (st2 τ3 1 32 1) 1 34 0
def m_cr1 (τ : Hp) (x : Int) : Hp := fun a b => if (a = 17 ∨ a = 18) ∧ 0 ≤ b ∧ b < x then 0 else τ a b
def m_cr2 (τ : Hp) (x : Int) : Hp := fun a b => if a = 19 ∧ 1 ≤ b ∧ b < x ∧ m_live τ b = true then 6 else if a = 26 ∧ 1 ≤ b / 100 ∧ b / 100 < x ∧ m_live τ (b / 100) = true then 0 else τ a b
def m_crashS (τ : Hp) (k : Int) : Hp := m_cr2 (m_cr1 (m_cr0 τ k) 6) (τ 1 22 + 1)
def m_lastCk (τ : Hp) : Int := srchD (fun i => decide (τ 2 i = 4)) (τ 1 0).toNat
def m_chg (τ : Hp) (g i : Int) : Bool := decide (τ 2 i < 3) && decide (τ 4 i / 4 = g)
def m_firstCh (τ : Hp) (c g : Int) : Int := if srch (m_chg τ g) (c + 1) (τ 1 0 - c).toNat < 0 then 0 else srch (m_chg τ g) (c + 1) (τ 1 0 - c).toNat
def m_tab (τ : Hp) (c g : Int) : Int := if 0 < c ∧ ¬ τ 10 (6 * c + g) = 0 then τ 10 (6 * c + g) else m_firstCh τ c g
def m_nxt (τ : Hp) (c : Int) : Nat → Int
  | 0 => τ 1 0 + 1
  | g + 1 => if 0 < m_tab τ c (g : Int) ∧ m_tab τ c (g : Int) < m_nxt τ c g then m_tab τ c (g : Int) else m_nxt τ c g
def m_an (τ : Hp) (x : Nat) : Hp := fun a b => if a = 28 ∧ 0 ≤ b ∧ b < (x : Int) then m_tab τ (m_lastCk τ) b else if a = 1 ∧ b = 35 then m_nxt τ (m_lastCk τ) x else τ a b
def m_analyse (τ : Hp) : Hp := st2 (m_an τ 6) 1 34 1
def m_redo (τ : Hp) (i : Int) : Hp :=
  if τ 2 i < 3 ∧ 0 < τ 28 (τ 4 i / 4) ∧ τ 28 (τ 4 i / 4) ≤ i then (if m_fetch τ (τ 4 i / 4) 16 (τ 4 i / 4) < i then m_apply (m_fetch τ (τ 4 i / 4)) i else m_fetch τ (τ 4 i / 4)) else τ
def m_fin (τ : Hp) (x : Int) : Hp := fun a b => if a = 19 ∧ 1 ≤ b ∧ b < x ∧ τ 19 b = 6 then (if m_committed τ b = true then 4 else 5) else τ a b
def m_finish (τ : Hp) : Hp := m_fin (st2 τ 1 32 0) (τ 1 22 + 1)
def m_unit1 (τ : Hp) : Hp :=
  if τ 1 34 = 0 then m_analyse τ
  else if τ 1 35 ≤ τ 1 0 ∧ τ 1 35 < 1000 then st2 (m_redo τ (τ 1 35)) 1 35 (m_redo τ (τ 1 35) 1 35 + 1)
  else m_takeBack τ (m_open τ 0)
def m_unit2 (τ : Hp) : Hp := st2 τ 1 35 (if τ 1 0 < τ 1 35 then 1000 else τ 1 35)
def m_unit3 (τ : Hp) : Hp := if τ 1 35 = 1000 ∧ m_open τ 0 = 0 then m_finish τ else τ
def m_unit (τ : Hp) : Hp := m_unit3 (m_unit2 (m_unit1 τ))
def m_rsL : Nat → Int → Hp → Int × Hp
  | 0, x, τ => (x, τ)
  | k + 1, x, τ => if τ 1 32 = 0 then (x, τ) else m_rsL k (x + 1) (m_unit τ)
def m_restart (τ : Hp) (n : Int) : Int × Hp := if τ 1 32 = 0 ∨ n < 1 ∨ 100 < n then (-1, τ) else m_rsL n.toNat 0 τ
def m_place (τ : Hp) (key : Int) : Int := if key < 0 ∨ 99 < key then -1 else m_find τ key
def m_known (τ : Hp) (t : Int) : Bool := decide (1 ≤ t) && decide (t ≤ τ 1 22)
def m_afterA (τ : Hp) (key : Int) : Int := if τ 1 32 = 0 then m_after τ key else -1
def m_pageA (τ : Hp) (p w : Int) : Int := if p < 0 ∨ 5 < p ∨ w < 0 ∨ 2 < w then -1 else if w = 2 then τ 13 p else if τ 18 p = 0 then -1 else if w = 0 then τ 17 p else τ 16 p
theorem m_find_lt (τ : Hp) (key : Int) : -1 ≤ m_find τ key ∧ m_find τ key < 24 := by
  have h := srch_spec (fun x => decide (m_keyAt τ x = key)) 24 0
  have e : srch (fun x => decide (m_keyAt τ x = key)) 0 24 = m_find τ key := rfl
  rw [e] at h
  rcases h with ⟨a, -⟩ | ⟨a, b, -⟩ <;> omega
theorem m_open_le (τ : Hp) (t : Int) (h : 0 ≤ τ 1 0) : 0 ≤ m_open τ t ∧ m_open τ t ≤ τ 1 0 := by
  have h2 := srchD_spec (m_good τ t) (τ 1 0).toNat
  have e : srchD (m_good τ t) (τ 1 0).toNat = m_open τ t := rfl
  rw [e] at h2
  rcases h2 with ⟨a, -⟩ | ⟨a, b, -⟩ <;> omega
theorem m_ck0_0 (τ : Hp) : m_ck0 τ 0 = τ := by
  funext a b
  simp only [m_ck0]
  grind
theorem m_ck0_step {τ : Hp} {x : Int} (h : 0 ≤ x) : st2 (m_ck0 τ x) 10 (6 * τ 1 0 + x) (if 0 < τ 18 x then τ 17 x else 0) = m_ck0 τ (x + 1) := by
  funext a b
  simp only [m_ck0, st2]
  by_cases hb : b = 6 * τ 1 0 + x
  · have : b - 6 * τ 1 0 = x := by omega
    rw [this]
    grind
  · grind
theorem m_ck0_fr (τ : Hp) (x : Int) {a : Int} (h : a ≠ 10) : m_ck0 τ x a = τ a := by
  funext b
  simp [m_ck0, h]
theorem m_cr1_0 (τ : Hp) : m_cr1 τ 0 = τ := by
  funext a b
  simp only [m_cr1]
  grind
theorem m_cr1_step {τ : Hp} {x : Int} (h : 0 ≤ x) : st2 (st2 (m_cr1 τ x) 18 x 0) 17 x 0 = m_cr1 τ (x + 1) := by
  funext a b
  simp only [m_cr1, st2]
  grind
theorem m_cr1_fr (τ : Hp) (x : Int) {a : Int} (h1 : a ≠ 17) (h2 : a ≠ 18) : m_cr1 τ x a = τ a := by
  funext b
  simp [m_cr1, h1, h2]
theorem m_cr2_1 (τ : Hp) : m_cr2 τ 1 = τ := by
  funext a b
  simp only [m_cr2]
  grind
theorem m_cr2_no {τ : Hp} {x : Int} (h : m_live τ x = false) : m_cr2 τ x = m_cr2 τ (x + 1) := by
  funext a b
  simp only [m_cr2]
  by_cases hb : b = x
  · subst hb
    by_cases hc : b / 100 = b
    · rw [hc]; grind
    · grind
  · by_cases hc : b / 100 = x
    · rw [hc]; grind
    · grind
theorem m_cr2_yes {τ : Hp} {x : Int} (h1 : 1 ≤ x) (h : m_live τ x = true) : m_unlock (st2 (m_cr2 τ x) 19 x 6) x 100 = m_cr2 τ (x + 1) := by
  funext a b
  simp only [m_cr2, st2, m_unlock]
  by_cases hb : b = x
  · subst hb
    by_cases hc : b / 100 = b
    · rw [hc]; grind
    · grind
  · by_cases hc : b / 100 = x
    · rw [hc]; grind
    · grind
theorem m_cr2_fr (τ : Hp) (x : Int) {a : Int} (h1 : a ≠ 19) (h2 : a ≠ 26) : m_cr2 τ x a = τ a := by
  funext b
  simp [m_cr2, h1, h2]
theorem m_cr2_ge {τ : Hp} {x y : Int} (h : x ≤ y) : m_cr2 τ x 19 y = τ 19 y := by
  simp only [m_cr2]
  grind
theorem m_fin_1 (τ : Hp) : m_fin τ 1 = τ := by
  funext a b
  simp only [m_fin]
  grind
theorem m_committed_c {σ τ : Hp} (h1 : τ 1 0 = σ 1 0) (h2 : τ 2 = σ 2) (h3 : τ 3 = σ 3) (t : Int) : m_committed τ t = m_committed σ t := by
  unfold m_committed
  rw [h1, h2, h3]
theorem m_rsL_x (k : Nat) : ∀ (x : Int) (τ : Hp), 0 ≤ x → x ≤ (m_rsL k x τ).1 ∧ (m_rsL k x τ).1 ≤ x + k := by
  induction k with
  | zero => intro x τ h; exact ⟨Int.le_refl _, by simp [m_rsL]⟩
  | succ k ih =>
    intro x τ h
    unfold m_rsL
    split
    · exact ⟨Int.le_refl _, by show x ≤ x + _; omega⟩
    · have := ih (x + 1) (m_unit τ) (by omega)
      omega
end
section
-- ===== the analysis: facts =====
theorem m_an_0 (τ : Hp) : m_an τ 0 = st2 τ 1 35 (τ 1 0 + 1) := by
  funext a b
  simp only [m_an, st2, m_nxt]
  grind
theorem m_an_fr (τ : Hp) (x : Nat) {a : Int} (h1 : a ≠ 28) (h2 : a ≠ 1) : m_an τ x a = τ a := by
  funext b
  simp [m_an, h1, h2]
theorem m_an_1 (τ : Hp) (x : Nat) {b : Int} (h : b ≠ 35) : m_an τ x 1 b = τ 1 b := by
  simp [m_an, h]
theorem m_an_step (τ : Hp) (x : Nat) : st2 (st2 (m_an τ x) 28 (x : Int) (m_tab τ (m_lastCk τ) (x : Int))) 1 35 (m_nxt τ (m_lastCk τ) (x + 1)) = m_an τ (x + 1) := by
  funext a b
  simp only [m_an, st2]
  by_cases ha : a = 28
  · subst ha
    by_cases hb : b = (x : Int)
    · subst hb
      simp; omega
    · have h1 : (0 ≤ b ∧ b < (x : Int)) ↔ (0 ≤ b ∧ b < ((x + 1 : Nat) : Int)) := by omega
      simp [hb, h1]
  · simp [ha]
    grind
theorem srch_dn {p : Int → Bool} {i n : Int} (h1 : i ≤ n) : (if srch p i (n + 1 - i).toNat < 0 then 0 else srch p i (n + 1 - i).toNat) = if p i = true then (if i < 0 then 0 else i) else (if srch p (i + 1) (n - i).toNat < 0 then 0 else srch p (i + 1) (n - i).toNat) := by
  rw [show (n + 1 - i).toNat = (n - i).toNat + 1 by omega]
  rw [show srch p i ((n - i).toNat + 1) = if p i = true then i else srch p (i + 1) (n - i).toNat from rfl]
  split <;> rfl
end
section
-- ===== the reference: places, pages, records =====
theorem c_M_keyAt {σ : Hp} {x : Int} (h0 : 0 ≤ x) (h1 : x < 24) : Ok LyM TM y_M_keyAt b_M_keyAt 2 (some .int) 1 0 0 [.inr 1, .inl x] 28 σ (pI 28 σ (m_keyAt σ x)) := by
  refine ok_mk (by decide) (Nat.le_of_ble_eq_true rfl) (fun K C rt ha hok hfx => ?_)
  show XW LyM TM K 28 σ 0 0 0 [some (.inr 1), some (.inl x)] []
  refine x_aload_n C d_M_keyAt_0 rfl rfl ?_
  refine x_getC C 18 18 cf_M fl_M_58 d_M_keyAt_1 rfl rfl rfl (by omega) (by omega) rfl ?_
  refine x_iload_n C d_M_keyAt_4 rfl rfl ?_
  refine x_iconst C d_M_keyAt_5 (by decide) ?_
  refine x_idiv C d_M_keyAt_6 (by omega) (by decide) ?_
  refine x_iald C d_M_keyAt_7 rfl (by omega) (by omega) (by omega) (by omega) (fun r7 => ?_)
  refine x_if_le (tgt := 20) C d_M_keyAt_8 rfl (fun h8 => ?_) (fun h8 => ?_)
  · refine x_aload_n C d_M_keyAt_20 rfl rfl ?_
    refine x_getC C 11 11 cf_M fl_M_37 d_M_keyAt_21 rfl rfl rfl (by omega) (by omega) rfl ?_
    refine x_iload_n C d_M_keyAt_24 rfl rfl ?_
    refine x_iald C d_M_keyAt_25 rfl (by omega) (by omega) (by omega) (by omega) (fun r25 => ?_)
    exact x_iret rt d_M_keyAt_26 (by omega) (by omega) ⟨by grind [m_keyAt], rfl, rfl⟩
  · refine x_aload_n C d_M_keyAt_11 rfl rfl ?_
    refine x_getC C 14 14 cf_M fl_M_46 d_M_keyAt_12 rfl rfl rfl (by omega) (by omega) rfl ?_
    refine x_iload_n C d_M_keyAt_15 rfl rfl ?_
    refine x_iald C d_M_keyAt_16 rfl (by omega) (by omega) (by omega) (by omega) (fun r16 => ?_)
    refine x_goto (tgt := 26) C d_M_keyAt_17 rfl ?_
    exact x_iret rt d_M_keyAt_26 (by omega) (by omega) ⟨by grind [m_keyAt], rfl, rfl⟩
theorem c_M_valueAt {σ : Hp} {x : Int} (h0 : 0 ≤ x) (h1 : x < 24) : Ok LyM TM y_M_valueAt b_M_valueAt 2 (some .int) 1 0 0 [.inr 1, .inl x] 28 σ (pI 28 σ (m_valueAt σ x)) := by
  refine ok_mk (by decide) (Nat.le_of_ble_eq_true rfl) (fun K C rt ha hok hfx => ?_)
  show XW LyM TM K 28 σ 0 0 0 [some (.inr 1), some (.inl x)] []
  refine x_aload_n C d_M_valueAt_0 rfl rfl ?_
  refine x_getC C 18 18 cf_M fl_M_58 d_M_valueAt_1 rfl rfl rfl (by omega) (by omega) rfl ?_
  refine x_iload_n C d_M_valueAt_4 rfl rfl ?_
  refine x_iconst C d_M_valueAt_5 (by decide) ?_
  refine x_idiv C d_M_valueAt_6 (by omega) (by decide) ?_
  refine x_iald C d_M_valueAt_7 rfl (by omega) (by omega) (by omega) (by omega) (fun r7 => ?_)
  refine x_if_le (tgt := 20) C d_M_valueAt_8 rfl (fun h8 => ?_) (fun h8 => ?_)
  · refine x_aload_n C d_M_valueAt_20 rfl rfl ?_
    refine x_getC C 12 12 cf_M fl_M_40 d_M_valueAt_21 rfl rfl rfl (by omega) (by omega) rfl ?_
    refine x_iload_n C d_M_valueAt_24 rfl rfl ?_
    refine x_iald C d_M_valueAt_25 rfl (by omega) (by omega) (by omega) (by omega) (fun r25 => ?_)
    exact x_iret rt d_M_valueAt_26 (by omega) (by omega) ⟨by grind [m_valueAt], rfl, rfl⟩
  · refine x_aload_n C d_M_valueAt_11 rfl rfl ?_
    refine x_getC C 15 15 cf_M fl_M_49 d_M_valueAt_12 rfl rfl rfl (by omega) (by omega) rfl ?_
    refine x_iload_n C d_M_valueAt_15 rfl rfl ?_
    refine x_iald C d_M_valueAt_16 rfl (by omega) (by omega) (by omega) (by omega) (fun r16 => ?_)
    refine x_goto (tgt := 26) C d_M_valueAt_17 rfl ?_
    exact x_iret rt d_M_valueAt_26 (by omega) (by omega) ⟨by grind [m_valueAt], rfl, rfl⟩
theorem c_M_find {σ : Hp} {key : Int} : Ok LyM TM y_M_find b_M_find 3 (some .int) 2 0 0 [.inr 1, .inl key] 28 σ (pI 28 σ (m_find σ key)) := by
  refine ok_mk (by decide) (Nat.le_of_ble_eq_true rfl) (fun K C rt ha hok hfx => ?_)
  show XW LyM TM K 28 σ 0 0 0 [some (.inr 1), some (.inl key), none] []
  have loop : ∀ (k : Nat) (x : Int), 0 ≤ x → x + k = 24 → srch (fun x => decide (m_keyAt σ x = key)) x k = m_find σ key → XW LyM TM K 28 σ 0 0 2 [some (.inr 1), some (.inl key), some (.inl x)] [] := by
    intro k
    induction k with
    | zero =>
      intro x h0 h1 h2
      refine x_iload_n C d_M_find_2 rfl rfl ?_
      refine x_bipush C d_M_find_3 (by decide) (by decide) ?_
      refine x_icmp_ge (tgt := 25) C d_M_find_5 rfl (fun h5 => ?_) (fun h5 => ?_)
      · refine x_iconst C d_M_find_25 (by decide) ?_
        exact x_iret rt d_M_find_26 (by omega) (by omega) ⟨by rw [← h2]; rfl, rfl, rfl⟩
      · exact absurd h5 (by omega)
    | succ k ih =>
      intro x h0 h1 h2
      have hs : srch (fun x => decide (m_keyAt σ x = key)) x (k + 1) = if m_keyAt σ x = key then x else srch (fun x => decide (m_keyAt σ x = key)) (x + 1) k := by
        simp [srch]
      rw [hs] at h2
      refine x_iload_n C d_M_find_2 rfl rfl ?_
      refine x_bipush C d_M_find_3 (by decide) (by decide) ?_
      refine x_icmp_ge (tgt := 25) C d_M_find_5 rfl (fun h5 => ?_) (fun h5 => ?_)
      · exact absurd h5 (by omega)
      · refine x_aload_n C d_M_find_8 rfl rfl ?_
        refine x_iload_n C d_M_find_9 rfl rfl ?_
        refine x_callV C cl_M_93 cb_M_keyAt cs_M_keyAt d_M_find_10 (c_M_keyAt h0 (by omega)) rfl rfl rfl rfl rfl (by omega) (by omega) (by decide) (by decide) (Nat.le_of_ble_eq_true rfl) (by omega) (by omega) ?_
        rintro _ _ _ ⟨rfl, rfl, rfl⟩ -
        skip
        refine x_iload_n C d_M_find_13 rfl rfl ?_
        refine x_icmp_ne (tgt := 19) C d_M_find_14 rfl (fun h14 => ?_) (fun h14 => ?_)
        · refine x_iinc C d_M_find_19 (by decide) rfl ⟨by omega, by omega⟩ ?_
          refine x_goto (tgt := 2) C d_M_find_22 rfl ?_
          exact ih (x + 1) (by omega) (by omega) (by rw [← h2, if_neg h14])
        · refine x_iload_n C d_M_find_17 rfl rfl ?_
          exact x_iret rt d_M_find_18 (by omega) (by omega) ⟨by rw [← h2, if_pos h14], rfl, rfl⟩
  refine x_iconst C d_M_find_0 (by decide) ?_
  refine x_istore_n C d_M_find_1 rfl (by decide) ?_
  exact loop 24 0 (by omega) (by omega) rfl
theorem c_M_spill {σ : Hp} {g : Int} (h0 : 0 ≤ g) (h1 : g < 6) (hr : R3 (σ 1 21 + 1)) : Ok LyM TM y_M_spill b_M_spill 3 none 1 0 0 [.inr 1, .inl g] 28 σ (pV 28 (m_spill σ g)) := by
  refine ok_mk (by decide) (Nat.le_of_ble_eq_true rfl) (fun K C rt ha hok hfx => ?_)
  show XW LyM TM K 28 σ 0 0 0 [some (.inr 1), some (.inl g), none] []
  have hr1 := hr.1
  have hr2 := hr.2
  have loop : ∀ (k : Nat) (x : Int), 4 * g ≤ x → x + k = 4 * g + 4 → XW LyM TM K 28 (m_cp (st2 σ 1 1 (if σ 1 1 < σ 16 g then σ 16 g else σ 1 1)) 14 11 g x) 0 0 34 [some (.inr 1), some (.inl g), some (.inl x)] [] := by
    intro k
    induction k with
    | zero =>
      intro x hx hk
      obtain rfl : x = 4 * g + 4 := by omega
      refine x_iload_n C d_M_spill_34 rfl rfl ?_
      refine x_iconst C d_M_spill_35 (by decide) ?_
      refine x_iload_n C d_M_spill_36 rfl rfl ?_
      refine x_imul C d_M_spill_37 ⟨by omega, by omega⟩ ?_
      refine x_iconst C d_M_spill_38 (by decide) ?_
      refine x_iadd C d_M_spill_39 ⟨by omega, by omega⟩ ?_
      refine x_icmp_ge (tgt := 73) C d_M_spill_40 rfl (fun h40 => ?_) (fun h40 => ?_)
      · refine x_aload_n C d_M_spill_73 rfl rfl ?_
        refine x_getC C 13 13 cf_M fl_M_43 d_M_spill_74 rfl rfl rfl (by omega) (by omega) rfl ?_
        refine x_iload_n C d_M_spill_77 rfl rfl ?_
        refine x_aload_n C d_M_spill_78 rfl rfl ?_
        refine x_getC C 16 16 cf_M fl_M_52 d_M_spill_79 rfl rfl rfl (by omega) (by omega) rfl ?_
        refine x_iload_n C d_M_spill_82 rfl rfl ?_
        refine x_iald C d_M_spill_83 rfl (by omega) (by omega) (by omega) (by omega) (fun r83 => ?_)
        refine x_iast C d_M_spill_84 rfl rfl (by omega) (by omega) (by omega) (by omega) ?_
        refine x_aload_n C d_M_spill_85 rfl rfl ?_
        refine x_getC C 17 17 cf_M fl_M_55 d_M_spill_86 rfl rfl rfl (by omega) (by omega) rfl ?_
        refine x_iload_n C d_M_spill_89 rfl rfl ?_
        refine x_iconst C d_M_spill_90 (by decide) ?_
        refine x_iast C d_M_spill_91 rfl rfl (by omega) (by omega) (by omega) (by omega) ?_
        refine x_aload_n C d_M_spill_92 rfl rfl ?_
        refine x_dup C d_M_spill_93 ?_
        refine x_getI C 21 cf_M fl_M_101 d_M_spill_94 rfl (by decide) rfl rfl (by omega) (by omega) (fun r94 => ?_)
        refine x_iconst C d_M_spill_97 (by decide) ?_
        refine x_iadd C d_M_spill_98 ⟨by simp [st2, m_cp]; omega, by simp [st2, m_cp]; omega⟩ ?_
        refine x_putI C 21 rfl cf_M fl_M_101 d_M_spill_99 rfl (Or.inl ⟨rfl, rfl⟩) rfl rfl rfl (by omega) (by omega) ?_
        exact x_vret rt d_M_spill_102 (by omega) (by omega) ⟨rfl, rfl, rfl⟩
      · exact absurd h40 (by omega)
    | succ k ih =>
      intro x hx hk
      refine x_iload_n C d_M_spill_34 rfl rfl ?_
      refine x_iconst C d_M_spill_35 (by decide) ?_
      refine x_iload_n C d_M_spill_36 rfl rfl ?_
      refine x_imul C d_M_spill_37 ⟨by omega, by omega⟩ ?_
      refine x_iconst C d_M_spill_38 (by decide) ?_
      refine x_iadd C d_M_spill_39 ⟨by omega, by omega⟩ ?_
      refine x_icmp_ge (tgt := 73) C d_M_spill_40 rfl (fun h40 => ?_) (fun h40 => ?_)
      · exact absurd h40 (by omega)
      · refine x_aload_n C d_M_spill_43 rfl rfl ?_
        refine x_getC C 11 11 cf_M fl_M_37 d_M_spill_44 rfl rfl rfl (by omega) (by omega) rfl ?_
        refine x_iload_n C d_M_spill_47 rfl rfl ?_
        refine x_aload_n C d_M_spill_48 rfl rfl ?_
        refine x_getC C 14 14 cf_M fl_M_46 d_M_spill_49 rfl rfl rfl (by omega) (by omega) rfl ?_
        refine x_iload_n C d_M_spill_52 rfl rfl ?_
        refine x_iald C d_M_spill_53 rfl (by omega) (by omega) (by omega) (by omega) (fun r53 => ?_)
        refine x_iast C d_M_spill_54 rfl rfl (by omega) (by omega) (by omega) (by omega) ?_
        refine x_aload_n C d_M_spill_55 rfl rfl ?_
        refine x_getC C 12 12 cf_M fl_M_40 d_M_spill_56 rfl rfl rfl (by omega) (by omega) rfl ?_
        refine x_iload_n C d_M_spill_59 rfl rfl ?_
        refine x_aload_n C d_M_spill_60 rfl rfl ?_
        refine x_getC C 15 15 cf_M fl_M_49 d_M_spill_61 rfl rfl rfl (by omega) (by omega) rfl ?_
        refine x_iload_n C d_M_spill_64 rfl rfl ?_
        refine x_iald C d_M_spill_65 rfl (by omega) (by omega) (by omega) (by omega) (fun r65 => ?_)
        refine x_iast C d_M_spill_66 rfl rfl (by omega) (by omega) (by omega) (by omega) ?_
        refine x_iinc C d_M_spill_67 (by decide) rfl ⟨by omega, by omega⟩ ?_
        refine x_goto (tgt := 34) C d_M_spill_70 rfl ?_
        rw [cpD_step hx]
        exact ih (x + 1) (by omega) (by omega)
  have J : ∀ v : Int, v = (if σ 1 1 < σ 16 g then σ 16 g else σ 1 1) → XW LyM TM K 28 σ 0 0 27 [some (.inr 1), some (.inl g), none] [.inl v, .inr 1] := by
    intro v hv
    subst hv
    have e := loop 4 (4 * g) (by omega) (by omega)
    rw [m_cp_0] at e
    refine x_putI C 1 rfl cf_M fl_M_97 d_M_spill_27 rfl (Or.inl ⟨rfl, rfl⟩) rfl rfl rfl (by omega) (by omega) ?_
    refine x_iconst C d_M_spill_30 (by decide) ?_
    refine x_iload_n C d_M_spill_31 rfl rfl ?_
    refine x_imul C d_M_spill_32 ⟨by omega, by omega⟩ ?_
    refine x_istore_n C d_M_spill_33 rfl (by decide) ?_
    exact e
  refine x_aload_n C d_M_spill_0 rfl rfl ?_
  refine x_aload_n C d_M_spill_1 rfl rfl ?_
  refine x_getI C 1 cf_M fl_M_97 d_M_spill_2 rfl (by decide) rfl rfl (by omega) (by omega) (fun r2 => ?_)
  refine x_aload_n C d_M_spill_5 rfl rfl ?_
  refine x_getC C 16 16 cf_M fl_M_52 d_M_spill_6 rfl rfl rfl (by omega) (by omega) rfl ?_
  refine x_iload_n C d_M_spill_9 rfl rfl ?_
  refine x_iald C d_M_spill_10 rfl (by omega) (by omega) (by omega) (by omega) (fun r10 => ?_)
  refine x_icmp_ge (tgt := 23) C d_M_spill_11 rfl (fun h11 => ?_) (fun h11 => ?_)
  · refine x_aload_n C d_M_spill_23 rfl rfl ?_
    refine x_getI C 1 cf_M fl_M_97 d_M_spill_24 rfl (by decide) rfl rfl (by omega) (by omega) (fun r24 => ?_)
    exact J _ (by grind)
  · refine x_aload_n C d_M_spill_14 rfl rfl ?_
    refine x_getC C 16 16 cf_M fl_M_52 d_M_spill_15 rfl rfl rfl (by omega) (by omega) rfl ?_
    refine x_iload_n C d_M_spill_18 rfl rfl ?_
    refine x_iald C d_M_spill_19 rfl (by omega) (by omega) (by omega) (by omega) (fun r19 => ?_)
    refine x_goto (tgt := 27) C d_M_spill_20 rfl ?_
    exact J _ (by grind)
theorem c_M_fetch {σ : Hp} {g : Int} (h0 : 0 ≤ g) (h1 : g < 6) (hB : mB σ) : Ok LyM TM y_M_fetch b_M_fetch 5 none 2 0 0 [.inr 1, .inl g] 28 σ (pV 28 (m_fetch σ g)) := by
  refine ok_mk (by decide) (Nat.le_of_ble_eq_true rfl) (fun K C rt ha hok hfx => ?_)
  show XW LyM TM K 28 σ 0 0 0 [some (.inr 1), some (.inl g), none, none, none] []
  obtain ⟨b1, b2, b3, b4, b5, b6⟩ := hB
  have e20 : st2 σ 1 19 (σ 1 19 + 1) 1 20 = σ 1 20 := by simp [st2]
  have e21 : st2 σ 1 19 (σ 1 19 + 1) 1 21 = σ 1 21 := by simp [st2]
  have hend : ∀ τ1 : Hp, τ1 = (if st2 σ 1 19 (σ 1 19 + 1) 18 g = 0 then m_load (m_evict (st2 σ 1 19 (σ 1 19 + 1))) g else st2 σ 1 19 (σ 1 19 + 1)) → st2 τ1 18 g (τ1 1 19) = m_fetch σ g := fun τ1 h => by subst h; rfl
  have e0 : ∀ {P : Hp → Prop}, P (st2 σ 1 19 (σ 1 19 + 1)) → P (st2 σ 1 19 (σ 1 19 + 1)) := fun h => h
  generalize hτ0 : st2 σ 1 19 (σ 1 19 + 1) = τ0 at e20 e21 hend
  have J198 : ∀ (τ : Hp) (a b c : Option AV), τ = (if τ0 18 g = 0 then m_load (m_evict τ0) g else τ0) → XW LyM TM K 28 τ 0 0 198 [some (.inr 1), some (.inl g), a, b, c] [] := by
    intro τ a b c hτ
    refine x_aload_n C d_M_fetch_198 rfl rfl ?_
    refine x_getC C 18 18 cf_M fl_M_58 d_M_fetch_199 rfl rfl rfl (by omega) (by omega) rfl ?_
    refine x_iload_n C d_M_fetch_202 rfl rfl ?_
    refine x_aload_n C d_M_fetch_203 rfl rfl ?_
    refine x_getI C 19 cf_M fl_M_104 d_M_fetch_204 rfl (by decide) rfl rfl (by omega) (by omega) (fun r204 => ?_)
    refine x_iast C d_M_fetch_207 rfl rfl (by omega) (by omega) (by omega) (by omega) ?_
    exact x_vret rt d_M_fetch_208 (by omega) (by omega) ⟨rfl, rfl, (hend τ hτ).symm⟩
  have J120 : ∀ (τ : Hp) (a b c : Option AV), τ = m_evict τ0 → τ0 18 g = 0 → XW LyM TM K 28 τ 0 0 120 [some (.inr 1), some (.inl g), a, b, c] [] := by
    intro τ a b c hτ hz
    have e : τ 1 20 = σ 1 20 := by rw [hτ, m_evict_1 _ (by decide) (by decide), e20]
    have loop : ∀ (k : Nat) (x : Int), 4 * g ≤ x → x + k = 4 * g + 4 → XW LyM TM K 28 (m_cp τ 11 14 g x) 0 0 125 [some (.inr 1), some (.inl g), a, b, some (.inl x)] [] := by
      intro k
      induction k with
      | zero =>
        intro x hx hk
        obtain rfl : x = 4 * g + 4 := by omega
        refine x_iload C d_M_fetch_125 rfl ?_
        refine x_iconst C d_M_fetch_127 (by decide) ?_
        refine x_iload_n C d_M_fetch_128 rfl rfl ?_
        refine x_imul C d_M_fetch_129 ⟨by omega, by omega⟩ ?_
        refine x_iconst C d_M_fetch_130 (by decide) ?_
        refine x_iadd C d_M_fetch_131 ⟨by omega, by omega⟩ ?_
        refine x_icmp_ge (tgt := 169) C d_M_fetch_132 rfl (fun h132 => ?_) (fun h132 => ?_)
        · refine x_aload_n C d_M_fetch_169 rfl rfl ?_
          refine x_getC C 16 16 cf_M fl_M_52 d_M_fetch_170 rfl rfl rfl (by omega) (by omega) rfl ?_
          refine x_iload_n C d_M_fetch_173 rfl rfl ?_
          refine x_aload_n C d_M_fetch_174 rfl rfl ?_
          refine x_getC C 13 13 cf_M fl_M_43 d_M_fetch_175 rfl rfl rfl (by omega) (by omega) rfl ?_
          refine x_iload_n C d_M_fetch_178 rfl rfl ?_
          refine x_iald C d_M_fetch_179 rfl (by omega) (by omega) (by omega) (by omega) (fun r179 => ?_)
          refine x_iast C d_M_fetch_180 rfl rfl (by omega) (by omega) (by omega) (by omega) ?_
          refine x_aload_n C d_M_fetch_181 rfl rfl ?_
          refine x_getC C 17 17 cf_M fl_M_55 d_M_fetch_182 rfl rfl rfl (by omega) (by omega) rfl ?_
          refine x_iload_n C d_M_fetch_185 rfl rfl ?_
          refine x_iconst C d_M_fetch_186 (by decide) ?_
          refine x_iast C d_M_fetch_187 rfl rfl (by omega) (by omega) (by omega) (by omega) ?_
          refine x_aload_n C d_M_fetch_188 rfl rfl ?_
          refine x_dup C d_M_fetch_189 ?_
          refine x_getI C 20 cf_M fl_M_111 d_M_fetch_190 rfl (by decide) rfl rfl (by omega) (by omega) (fun r190 => ?_)
          refine x_iconst C d_M_fetch_193 (by decide) ?_
          refine x_iadd C d_M_fetch_194 ⟨by simp [st2, m_cp]; omega, by simp [st2, m_cp]; omega⟩ ?_
          refine x_putI C 20 rfl cf_M fl_M_111 d_M_fetch_195 rfl (Or.inl ⟨rfl, rfl⟩) rfl rfl rfl (by omega) (by omega) ?_
          exact J198 _ _ _ _ (by rw [if_pos hz, ← hτ]; rfl)
        · exact absurd h132 (by omega)
      | succ k ih =>
        intro x hx hk
        refine x_iload C d_M_fetch_125 rfl ?_
        refine x_iconst C d_M_fetch_127 (by decide) ?_
        refine x_iload_n C d_M_fetch_128 rfl rfl ?_
        refine x_imul C d_M_fetch_129 ⟨by omega, by omega⟩ ?_
        refine x_iconst C d_M_fetch_130 (by decide) ?_
        refine x_iadd C d_M_fetch_131 ⟨by omega, by omega⟩ ?_
        refine x_icmp_ge (tgt := 169) C d_M_fetch_132 rfl (fun h132 => ?_) (fun h132 => ?_)
        · exact absurd h132 (by omega)
        · refine x_aload_n C d_M_fetch_135 rfl rfl ?_
          refine x_getC C 14 14 cf_M fl_M_46 d_M_fetch_136 rfl rfl rfl (by omega) (by omega) rfl ?_
          refine x_iload C d_M_fetch_139 rfl ?_
          refine x_aload_n C d_M_fetch_141 rfl rfl ?_
          refine x_getC C 11 11 cf_M fl_M_37 d_M_fetch_142 rfl rfl rfl (by omega) (by omega) rfl ?_
          refine x_iload C d_M_fetch_145 rfl ?_
          refine x_iald C d_M_fetch_147 rfl (by omega) (by omega) (by omega) (by omega) (fun r147 => ?_)
          refine x_iast C d_M_fetch_148 rfl rfl (by omega) (by omega) (by omega) (by omega) ?_
          refine x_aload_n C d_M_fetch_149 rfl rfl ?_
          refine x_getC C 15 15 cf_M fl_M_49 d_M_fetch_150 rfl rfl rfl (by omega) (by omega) rfl ?_
          refine x_iload C d_M_fetch_153 rfl ?_
          refine x_aload_n C d_M_fetch_155 rfl rfl ?_
          refine x_getC C 12 12 cf_M fl_M_40 d_M_fetch_156 rfl rfl rfl (by omega) (by omega) rfl ?_
          refine x_iload C d_M_fetch_159 rfl ?_
          refine x_iald C d_M_fetch_161 rfl (by omega) (by omega) (by omega) (by omega) (fun r161 => ?_)
          refine x_iast C d_M_fetch_162 rfl rfl (by omega) (by omega) (by omega) (by omega) ?_
          refine x_iinc C d_M_fetch_163 (by decide) rfl ⟨by omega, by omega⟩ ?_
          refine x_goto (tgt := 125) C d_M_fetch_166 rfl ?_
          rw [cpP_step hx]
          exact ih (x + 1) (by omega) (by omega)
    have e2 := loop 4 (4 * g) (by omega) (by omega)
    rw [m_cp_0] at e2
    refine x_iconst C d_M_fetch_120 (by decide) ?_
    refine x_iload_n C d_M_fetch_121 rfl rfl ?_
    refine x_imul C d_M_fetch_122 ⟨by omega, by omega⟩ ?_
    refine x_istore C d_M_fetch_123 (by decide) ?_
    exact e2
  have J94 : XW LyM TM K 28 τ0 0 0 94 [some (.inr 1), some (.inl g), some (.inl (m_scan τ0 6).1), some (.inl (m_scan τ0 6).2), some (.inl 6)] [] ∨ ¬ τ0 18 g = 0 := by
    by_cases hz : τ0 18 g = 0
    · left
      obtain ⟨-, -, s3⟩ := m_scan_spec τ0 6
      generalize hc : (m_scan τ0 6).1 = cn at s3
      generalize ho : (m_scan τ0 6).2 = o at s3
      have J113 : ∀ τ : Hp, cn = 3 → τ = (if 0 < τ0 17 o then m_spill τ0 o else τ0) → XW LyM TM K 28 τ 0 0 113 [some (.inr 1), some (.inl g), some (.inl cn), some (.inl o), some (.inl 6)] [] := by
        intro τ h3 hτ
        refine x_aload_n C d_M_fetch_113 rfl rfl ?_
        refine x_getC C 18 18 cf_M fl_M_58 d_M_fetch_114 rfl rfl rfl (by omega) (by omega) rfl ?_
        refine x_iload_n C d_M_fetch_117 rfl rfl ?_
        refine x_iconst C d_M_fetch_118 (by decide) ?_
        refine x_iast C d_M_fetch_119 rfl rfl (by omega) (by omega) (by omega) (by omega) ?_
        exact J120 _ _ _ _ (by rw [m_evict, hc, ho, if_pos h3, hτ]) hz
      refine x_iload_n C d_M_fetch_94 rfl rfl ?_
      refine x_iconst C d_M_fetch_95 (by decide) ?_
      refine x_icmp_ne (tgt := 120) C d_M_fetch_96 rfl (fun h96 => ?_) (fun h96 => ?_)
      · exact J120 _ _ _ _ (by rw [m_evict, hc, if_neg h96]) hz
      · refine x_aload_n C d_M_fetch_99 rfl rfl ?_
        refine x_getC C 17 17 cf_M fl_M_55 d_M_fetch_100 rfl rfl rfl (by omega) (by omega) rfl ?_
        refine x_iload_n C d_M_fetch_103 rfl rfl ?_
        refine x_iald C d_M_fetch_104 rfl (by omega) (by omega) (by omega) (by omega) (fun r104 => ?_)
        refine x_if_le (tgt := 113) C d_M_fetch_105 rfl (fun h105 => ?_) (fun h105 => ?_)
        · exact J113 _ h96 (by grind)
        · refine x_aload_n C d_M_fetch_108 rfl rfl ?_
          refine x_iload_n C d_M_fetch_109 rfl rfl ?_
          refine x_callV C cl_M_107 cb_M_spill cs_M_spill d_M_fetch_110 (c_M_spill (by omega) (by omega) ⟨by omega, by omega⟩) rfl rfl rfl rfl rfl (by omega) (by omega) (by decide) (by decide) (Nat.le_of_ble_eq_true rfl) (by omega) (by omega) ?_
          rintro _ _ _ ⟨rfl, rfl, rfl⟩ -
          skip
          exact J113 _ h96 (by grind)
    · right; exact hz
  have scan : ∀ (k : Nat) (i : Nat), i + k = 6 → τ0 18 g = 0 → XW LyM TM K 28 τ0 0 0 26 [some (.inr 1), some (.inl g), some (.inl (m_scan τ0 i).1), some (.inl (m_scan τ0 i).2), some (.inl (i : Int))] [] := by
    intro k
    induction k with
    | zero =>
      intro i hi hz
      obtain rfl : i = 6 := by omega
      refine x_iload C d_M_fetch_26 rfl ?_
      refine x_bipush C d_M_fetch_28 (by decide) (by decide) ?_
      refine x_icmp_ge (tgt := 94) C d_M_fetch_30 rfl (fun h30 => ?_) (fun h30 => ?_)
      · exact J94.resolve_right (fun h => h hz)
      · exact absurd h30 (by decide)
    | succ k ih =>
      intro i hi hz
      obtain ⟨s1, s2, s3⟩ := m_scan_spec τ0 i
      have e3 : (m_scan τ0 (i + 1)).1 = (m_scan τ0 i).1 + (if 0 < τ0 18 (i : Int) then 1 else 0) := rfl
      have e4 : (m_scan τ0 (i + 1)).2 = if 0 < τ0 18 (i : Int) ∧ ((m_scan τ0 i).2 < 0 ∨ τ0 18 (i : Int) < τ0 18 (m_scan τ0 i).2) then (i : Int) else (m_scan τ0 i).2 := rfl
      have ih2 := ih (i + 1) (by omega) hz
      rw [e3, e4] at ih2
      generalize (m_scan τ0 i).1 = cn at *
      generalize (m_scan τ0 i).2 = o at *
      have J87 : ∀ v w : Int, v = (if 0 < τ0 18 (i : Int) then 1 else 0) → w = (if 0 < τ0 18 (i : Int) ∧ (o < 0 ∨ τ0 18 (i : Int) < τ0 18 o) then (i : Int) else o) → XW LyM TM K 28 τ0 0 0 87 [some (.inr 1), some (.inl g), some (.inl (cn + v)), some (.inl o), some (.inl (i : Int))] [.inl w] := by
        intro v w hv hw
        subst hv
        subst hw
        refine x_istore_n C d_M_fetch_87 rfl (by decide) ?_
        refine x_iinc C d_M_fetch_88 (by decide) rfl ⟨by omega, by omega⟩ ?_
        refine x_goto (tgt := 26) C d_M_fetch_91 rfl ?_
        exact ih2
      have J49 : ∀ v : Int, v = (if 0 < τ0 18 (i : Int) then 1 else 0) → XW LyM TM K 28 τ0 0 0 49 [some (.inr 1), some (.inl g), some (.inl cn), some (.inl o), some (.inl (i : Int))] [.inl v, .inl cn] := by
        intro v hv
        have hv2 : v = 0 ∨ v = 1 := by grind
        refine x_iadd C d_M_fetch_49 ⟨by omega, by omega⟩ ?_
        refine x_istore_n C d_M_fetch_50 rfl (by decide) ?_
        refine x_aload_n C d_M_fetch_51 rfl rfl ?_
        refine x_getC C 18 18 cf_M fl_M_58 d_M_fetch_52 rfl rfl rfl (by omega) (by omega) rfl ?_
        refine x_iload C d_M_fetch_55 rfl ?_
        refine x_iald C d_M_fetch_57 rfl (by omega) (by omega) (by omega) (by omega) (fun r57 => ?_)
        refine x_if_le (tgt := 86) C d_M_fetch_58 rfl (fun h58 => ?_) (fun h58 => ?_)
        · refine x_iload_n C d_M_fetch_86 rfl rfl ?_
          exact J87 _ _ hv (by grind)
        · refine x_iload_n C d_M_fetch_61 rfl rfl ?_
          refine x_if_lt (tgt := 81) C d_M_fetch_62 rfl (fun h62 => ?_) (fun h62 => ?_)
          · refine x_iload C d_M_fetch_81 rfl ?_
            refine x_goto (tgt := 87) C d_M_fetch_83 rfl ?_
            exact J87 _ _ hv (by grind)
          · refine x_aload_n C d_M_fetch_65 rfl rfl ?_
            refine x_getC C 18 18 cf_M fl_M_58 d_M_fetch_66 rfl rfl rfl (by omega) (by omega) rfl ?_
            refine x_iload C d_M_fetch_69 rfl ?_
            refine x_iald C d_M_fetch_71 rfl (by omega) (by omega) (by omega) (by omega) (fun r71 => ?_)
            refine x_aload_n C d_M_fetch_72 rfl rfl ?_
            refine x_getC C 18 18 cf_M fl_M_58 d_M_fetch_73 rfl rfl rfl (by omega) (by omega) rfl ?_
            refine x_iload_n C d_M_fetch_76 rfl rfl ?_
            refine x_iald C d_M_fetch_77 rfl (by omega) (by omega) (by omega) (by omega) (fun r77 => ?_)
            refine x_icmp_ge (tgt := 86) C d_M_fetch_78 rfl (fun h78 => ?_) (fun h78 => ?_)
            · refine x_iload_n C d_M_fetch_86 rfl rfl ?_
              exact J87 _ _ hv (by grind)
            · refine x_iload C d_M_fetch_81 rfl ?_
              refine x_goto (tgt := 87) C d_M_fetch_83 rfl ?_
              exact J87 _ _ hv (by grind)
      refine x_iload C d_M_fetch_26 rfl ?_
      refine x_bipush C d_M_fetch_28 (by decide) (by decide) ?_
      refine x_icmp_ge (tgt := 94) C d_M_fetch_30 rfl (fun h30 => ?_) (fun h30 => ?_)
      · exact absurd h30 (by omega)
      · refine x_iload_n C d_M_fetch_33 rfl rfl ?_
        refine x_aload_n C d_M_fetch_34 rfl rfl ?_
        refine x_getC C 18 18 cf_M fl_M_58 d_M_fetch_35 rfl rfl rfl (by omega) (by omega) rfl ?_
        refine x_iload C d_M_fetch_38 rfl ?_
        refine x_iald C d_M_fetch_40 rfl (by omega) (by omega) (by omega) (by omega) (fun r40 => ?_)
        refine x_if_le (tgt := 48) C d_M_fetch_41 rfl (fun h41 => ?_) (fun h41 => ?_)
        · refine x_iconst C d_M_fetch_48 (by decide) ?_
          exact J49 _ (by grind)
        · refine x_iconst C d_M_fetch_44 (by decide) ?_
          refine x_goto (tgt := 49) C d_M_fetch_45 rfl ?_
          exact J49 _ (by grind)
  refine x_aload_n C d_M_fetch_0 rfl rfl ?_
  refine x_dup C d_M_fetch_1 ?_
  refine x_getI C 19 cf_M fl_M_104 d_M_fetch_2 rfl (by decide) rfl rfl (by omega) (by omega) (fun r2 => ?_)
  refine x_iconst C d_M_fetch_5 (by decide) ?_
  refine x_iadd C d_M_fetch_6 ⟨by omega, by omega⟩ ?_
  refine x_putI C 19 rfl cf_M fl_M_104 d_M_fetch_7 rfl (Or.inl ⟨rfl, rfl⟩) rfl rfl rfl (by omega) (by omega) ?_
  refine x_aload_n C d_M_fetch_10 rfl rfl ?_
  refine x_getC C 18 18 cf_M fl_M_58 d_M_fetch_11 rfl rfl rfl (by omega) (by omega) rfl ?_
  refine x_iload_n C d_M_fetch_14 rfl rfl ?_
  refine x_iald C d_M_fetch_15 rfl (by omega) (by omega) (by omega) (by omega) (fun r15 => ?_)
  refine x_if_ne (tgt := 198) C d_M_fetch_16 rfl (fun h16 => ?_) (fun h16 => ?_)
  · rw [hτ0] at *
    exact J198 _ _ _ _ (by rw [if_neg h16])
  · refine x_iconst C d_M_fetch_19 (by decide) ?_
    refine x_istore_n C d_M_fetch_20 rfl (by decide) ?_
    refine x_iconst C d_M_fetch_21 (by decide) ?_
    refine x_istore_n C d_M_fetch_22 rfl (by decide) ?_
    refine x_iconst C d_M_fetch_23 (by decide) ?_
    refine x_istore C d_M_fetch_24 (by decide) ?_
    rw [hτ0] at *
    exact scan 6 0 (by omega) h16

theorem c_M_apply {σ : Hp} {r : Int} (h0 : 0 ≤ r) (h1 : r < 204) (h2 : 0 ≤ σ 4 r) (h3 : σ 4 r < 24) : Ok LyM TM y_M_apply b_M_apply 4 none 1 0 0 [.inr 1, .inl r] 28 σ (pV 28 (m_apply σ r)) := by
  refine ok_mk (by decide) (Nat.le_of_ble_eq_true rfl) (fun K C rt ha hok hfx => ?_)
  show XW LyM TM K 28 σ 0 0 0 [some (.inr 1), some (.inl r), none, none] []
  refine x_aload_n C d_M_apply_0 rfl rfl ?_
  refine x_getC C 4 4 cf_M fl_M_16 d_M_apply_1 rfl rfl rfl (by omega) (by omega) rfl ?_
  refine x_iload_n C d_M_apply_4 rfl rfl ?_
  refine x_iald C d_M_apply_5 rfl (by omega) (by omega) (by omega) (by omega) (fun r5 => ?_)
  refine x_istore_n C d_M_apply_6 rfl (by decide) ?_
  refine x_iload_n C d_M_apply_7 rfl rfl ?_
  refine x_iconst C d_M_apply_8 (by decide) ?_
  refine x_idiv C d_M_apply_9 (by omega) (by decide) ?_
  refine x_istore_n C d_M_apply_10 rfl (by decide) ?_
  refine x_aload_n C d_M_apply_11 rfl rfl ?_
  refine x_getC C 14 14 cf_M fl_M_46 d_M_apply_12 rfl rfl rfl (by omega) (by omega) rfl ?_
  refine x_iload_n C d_M_apply_15 rfl rfl ?_
  refine x_aload_n C d_M_apply_16 rfl rfl ?_
  refine x_getC C 7 7 cf_M fl_M_25 d_M_apply_17 rfl rfl rfl (by omega) (by omega) rfl ?_
  refine x_iload_n C d_M_apply_20 rfl rfl ?_
  refine x_iald C d_M_apply_21 rfl (by omega) (by omega) (by omega) (by omega) (fun r21 => ?_)
  refine x_iast C d_M_apply_22 rfl rfl (by omega) (by omega) (by omega) (by omega) ?_
  refine x_aload_n C d_M_apply_23 rfl rfl ?_
  refine x_getC C 15 15 cf_M fl_M_49 d_M_apply_24 rfl rfl rfl (by omega) (by omega) rfl ?_
  refine x_iload_n C d_M_apply_27 rfl rfl ?_
  refine x_aload_n C d_M_apply_28 rfl rfl ?_
  refine x_getC C 8 8 cf_M fl_M_28 d_M_apply_29 rfl rfl rfl (by omega) (by omega) rfl ?_
  refine x_iload_n C d_M_apply_32 rfl rfl ?_
  refine x_iald C d_M_apply_33 rfl (by omega) (by omega) (by omega) (by omega) (fun r33 => ?_)
  refine x_iast C d_M_apply_34 rfl rfl (by omega) (by omega) (by omega) (by omega) ?_
  refine x_aload_n C d_M_apply_35 rfl rfl ?_
  refine x_getC C 16 16 cf_M fl_M_52 d_M_apply_36 rfl rfl rfl (by omega) (by omega) rfl ?_
  refine x_iload_n C d_M_apply_39 rfl rfl ?_
  refine x_iload_n C d_M_apply_40 rfl rfl ?_
  refine x_iast C d_M_apply_41 rfl rfl (by omega) (by omega) (by omega) (by omega) ?_
  refine x_aload_n C d_M_apply_42 rfl rfl ?_
  refine x_getC C 17 17 cf_M fl_M_55 d_M_apply_43 rfl rfl rfl (by omega) (by omega) rfl ?_
  refine x_iload_n C d_M_apply_46 rfl rfl ?_
  refine x_aload_n C d_M_apply_47 rfl rfl ?_
  refine x_getC C 17 17 cf_M fl_M_55 d_M_apply_48 rfl rfl rfl (by omega) (by omega) rfl ?_
  refine x_iload_n C d_M_apply_51 rfl rfl ?_
  refine x_iald C d_M_apply_52 rfl (by omega) (by omega) (by omega) (by omega) (fun r52 => ?_)
  refine x_if_ne (tgt := 60) C d_M_apply_53 rfl (fun h53 => ?_) (fun h53 => ?_)
  · refine x_aload_n C d_M_apply_60 rfl rfl ?_
    refine x_getC C 17 17 cf_M fl_M_55 d_M_apply_61 rfl rfl rfl (by omega) (by omega) rfl ?_
    refine x_iload_n C d_M_apply_64 rfl rfl ?_
    refine x_iald C d_M_apply_65 rfl (by omega) (by omega) (by omega) (by omega) (fun r65 => ?_)
    refine x_iast C d_M_apply_66 rfl rfl (by omega) (by omega) (by omega) (by omega) ?_
    exact x_vret rt d_M_apply_67 (by omega) (by omega) ⟨rfl, rfl, by simp only [m_apply]; first | rw [if_pos h53] | rw [if_neg h53]⟩
  · refine x_iload_n C d_M_apply_56 rfl rfl ?_
    refine x_goto (tgt := 66) C d_M_apply_57 rfl ?_
    refine x_iast C d_M_apply_66 rfl rfl (by omega) (by omega) (by omega) (by omega) ?_
    exact x_vret rt d_M_apply_67 (by omega) (by omega) ⟨rfl, rfl, by simp only [m_apply]; first | rw [if_pos h53] | rw [if_neg h53]⟩
theorem c_M_put {σ : Hp} {k t x : Int} (h0 : 0 ≤ σ 1 0) (h1 : σ 1 0 < 203) : Ok LyM TM y_M_put b_M_put 4 (some .int) 1 0 0 [.inr 1, .inl k, .inl t, .inl x] 28 σ (pI 28 (m_put σ k t x) (σ 1 0 + 1)) := by
  refine ok_mk (by decide) (Nat.le_of_ble_eq_true rfl) (fun K C rt ha hok hfx => ?_)
  show XW LyM TM K 28 σ 0 0 0 [some (.inr 1), some (.inl k), some (.inl t), some (.inl x)] []
  refine x_aload_n C d_M_put_0 rfl rfl ?_
  refine x_dup C d_M_put_1 ?_
  refine x_getI C 0 cf_M fl_M_114 d_M_put_2 rfl (by decide) rfl rfl (by omega) (by omega) (fun r2 => ?_)
  refine x_iconst C d_M_put_5 (by decide) ?_
  refine x_iadd C d_M_put_6 ⟨by omega, by omega⟩ ?_
  refine x_putI C 0 rfl cf_M fl_M_114 d_M_put_7 rfl (Or.inl ⟨rfl, rfl⟩) rfl rfl rfl (by omega) (by omega) ?_
  refine x_aload_n C d_M_put_10 rfl rfl ?_
  refine x_getC C 2 2 cf_M fl_M_7 d_M_put_11 rfl rfl rfl (by omega) (by omega) rfl ?_
  refine x_aload_n C d_M_put_14 rfl rfl ?_
  refine x_getI C 0 cf_M fl_M_114 d_M_put_15 rfl (by decide) rfl rfl (by omega) (by omega) (fun r15 => ?_)
  refine x_iload_n C d_M_put_18 rfl rfl ?_
  refine x_iast C d_M_put_19 rfl rfl (by omega) (by omega) (by simp [st2]; omega) (by simp [st2]; omega) ?_
  refine x_aload_n C d_M_put_20 rfl rfl ?_
  refine x_getC C 3 3 cf_M fl_M_13 d_M_put_21 rfl rfl rfl (by omega) (by omega) rfl ?_
  refine x_aload_n C d_M_put_24 rfl rfl ?_
  refine x_getI C 0 cf_M fl_M_114 d_M_put_25 rfl (by decide) rfl rfl (by omega) (by omega) (fun r25 => ?_)
  refine x_iload_n C d_M_put_28 rfl rfl ?_
  refine x_iast C d_M_put_29 rfl rfl (by omega) (by omega) (by simp [st2]; omega) (by simp [st2]; omega) ?_
  refine x_aload_n C d_M_put_30 rfl rfl ?_
  refine x_getC C 4 4 cf_M fl_M_16 d_M_put_31 rfl rfl rfl (by omega) (by omega) rfl ?_
  refine x_aload_n C d_M_put_34 rfl rfl ?_
  refine x_getI C 0 cf_M fl_M_114 d_M_put_35 rfl (by decide) rfl rfl (by omega) (by omega) (fun r35 => ?_)
  refine x_iload_n C d_M_put_38 rfl rfl ?_
  refine x_iast C d_M_put_39 rfl rfl (by omega) (by omega) (by simp [st2]; omega) (by simp [st2]; omega) ?_
  refine x_aload_n C d_M_put_40 rfl rfl ?_
  refine x_getI C 0 cf_M fl_M_114 d_M_put_41 rfl (by decide) rfl rfl (by omega) (by omega) (fun r41 => ?_)
  exact x_iret rt d_M_put_44 (by omega) (by omega) ⟨by simp [st2], rfl, rfl⟩
theorem c_M_countOf {σ : Hp} {k : Int} (h0 : 0 ≤ σ 1 0) (h1 : σ 1 0 < 204) : Ok LyM TM y_M_countOf b_M_countOf 4 (some .int) 1 0 0 [.inr 1, .inl k] 28 σ (pI 28 σ (m_countOf σ k)) := by
  refine ok_mk (by decide) (Nat.le_of_ble_eq_true rfl) (fun K C rt ha hok hfx => ?_)
  show XW LyM TM K 28 σ 0 0 0 [some (.inr 1), some (.inl k), none, none] []
  have loop : ∀ (q i : Nat), (i : Int) + q = σ 1 0 → XW LyM TM K 28 σ 0 0 4 [some (.inr 1), some (.inl k), some (.inl (cntU (fun i => decide (σ 2 i = k)) i)), some (.inl ((i : Int) + 1))] [] := by
    intro q
    induction q with
    | zero =>
      intro i hi
      have e : i = (σ 1 0).toNat := by omega
      refine x_iload_n C d_M_countOf_4 rfl rfl ?_
      refine x_aload_n C d_M_countOf_5 rfl rfl ?_
      refine x_getI C 0 cf_M fl_M_114 d_M_countOf_6 rfl (by decide) rfl rfl (by omega) (by omega) (fun r6 => ?_)
      refine x_icmp_gt (tgt := 36) C d_M_countOf_9 rfl (fun h9 => ?_) (fun h9 => ?_)
      · refine x_iload_n C d_M_countOf_36 rfl rfl ?_
        exact x_iret rt d_M_countOf_37 (by omega) (by omega) ⟨by rw [e]; rfl, rfl, rfl⟩
      · exact absurd h9 (by omega)
    | succ q ih =>
      intro i hi
      have hb := cntU_le (fun i => decide (σ 2 i = k)) i
      have ih2 := ih (i + 1) (by omega)
      rw [show cntU (fun i => decide (σ 2 i = k)) (i + 1) = cntU (fun i => decide (σ 2 i = k)) i + b2i (decide (σ 2 ((i : Int) + 1) = k)) from rfl] at ih2
      generalize cntU (fun i => decide (σ 2 i = k)) i = cn at *
      have J : ∀ v : Int, v = b2i (decide (σ 2 ((i : Int) + 1) = k)) → XW LyM TM K 28 σ 0 0 28 [some (.inr 1), some (.inl k), some (.inl cn), some (.inl ((i : Int) + 1))] [.inl v, .inl cn] := by
        intro v hv
        have hv2 := b2i_b (decide (σ 2 ((i : Int) + 1) = k))
        subst hv
        refine x_iadd C d_M_countOf_28 ⟨by omega, by omega⟩ ?_
        refine x_istore_n C d_M_countOf_29 rfl (by decide) ?_
        refine x_iinc C d_M_countOf_30 (by decide) rfl ⟨by omega, by omega⟩ ?_
        refine x_goto (tgt := 4) C d_M_countOf_33 rfl ?_
        exact ih2
      refine x_iload_n C d_M_countOf_4 rfl rfl ?_
      refine x_aload_n C d_M_countOf_5 rfl rfl ?_
      refine x_getI C 0 cf_M fl_M_114 d_M_countOf_6 rfl (by decide) rfl rfl (by omega) (by omega) (fun r6 => ?_)
      refine x_icmp_gt (tgt := 36) C d_M_countOf_9 rfl (fun h9 => ?_) (fun h9 => ?_)
      · exact absurd h9 (by omega)
      · refine x_iload_n C d_M_countOf_12 rfl rfl ?_
        refine x_aload_n C d_M_countOf_13 rfl rfl ?_
        refine x_getC C 2 2 cf_M fl_M_7 d_M_countOf_14 rfl rfl rfl (by omega) (by omega) rfl ?_
        refine x_iload_n C d_M_countOf_17 rfl rfl ?_
        refine x_iald C d_M_countOf_18 rfl (by omega) (by omega) (by omega) (by omega) (fun r18 => ?_)
        refine x_iload_n C d_M_countOf_19 rfl rfl ?_
        refine x_icmp_ne (tgt := 27) C d_M_countOf_20 rfl (fun h20 => ?_) (fun h20 => ?_)
        · refine x_iconst C d_M_countOf_27 (by decide) ?_
          exact J _ (by simp [b2i, h20])
        · refine x_iconst C d_M_countOf_23 (by decide) ?_
          refine x_goto (tgt := 28) C d_M_countOf_24 rfl ?_
          exact J _ (by simp [b2i, h20])
  refine x_iconst C d_M_countOf_0 (by decide) ?_
  refine x_istore_n C d_M_countOf_1 rfl (by decide) ?_
  refine x_iconst C d_M_countOf_2 (by decide) ?_
  refine x_istore_n C d_M_countOf_3 rfl (by decide) ?_
  exact loop (σ 1 0).toNat 0 (by omega)
theorem c_M_committed {σ : Hp} {t : Int} (h0 : 0 ≤ σ 1 0) (h1 : σ 1 0 < 204) : Ok LyM TM y_M_committed b_M_committed 3 (some .boolean) 1 0 0 [.inr 1, .inl t] 28 σ (pI 28 σ (b2i (m_committed σ t))) := by
  refine ok_mk (by decide) (Nat.le_of_ble_eq_true rfl) (fun K C rt ha hok hfx => ?_)
  show XW LyM TM K 28 σ 0 0 0 [some (.inr 1), some (.inl t), none] []
  have loop : ∀ (k : Nat) (x : Int), 1 ≤ x → x + k = σ 1 0 + 1 → anyU (fun i => decide (σ 2 i = 3) && decide (σ 3 i = t)) x k = m_committed σ t → XW LyM TM K 28 σ 0 0 2 [some (.inr 1), some (.inl t), some (.inl x)] [] := by
    intro k
    induction k with
    | zero =>
      intro x hx hk hm
      refine x_iload_n C d_M_committed_2 rfl rfl ?_
      refine x_aload_n C d_M_committed_3 rfl rfl ?_
      refine x_getI C 0 cf_M fl_M_114 d_M_committed_4 rfl (by decide) rfl rfl (by omega) (by omega) (fun r4 => ?_)
      refine x_icmp_gt (tgt := 38) C d_M_committed_7 rfl (fun h7 => ?_) (fun h7 => ?_)
      · refine x_iconst C d_M_committed_38 (by decide) ?_
        exact x_zret rt d_M_committed_39 (by omega) (by omega) ⟨by decide, by decide⟩ ⟨by rw [← hm]; rfl, rfl, rfl⟩
      · exact absurd h7 (by omega)
    | succ k ih =>
      intro x hx hk hm
      have hs : anyU (fun i => decide (σ 2 i = 3) && decide (σ 3 i = t)) x (k + 1) = ((decide (σ 2 x = 3) && decide (σ 3 x = t)) || anyU (fun i => decide (σ 2 i = 3) && decide (σ 3 i = t)) (x + 1) k) := rfl
      rw [hs] at hm
      refine x_iload_n C d_M_committed_2 rfl rfl ?_
      refine x_aload_n C d_M_committed_3 rfl rfl ?_
      refine x_getI C 0 cf_M fl_M_114 d_M_committed_4 rfl (by decide) rfl rfl (by omega) (by omega) (fun r4 => ?_)
      refine x_icmp_gt (tgt := 38) C d_M_committed_7 rfl (fun h7 => ?_) (fun h7 => ?_)
      · exact absurd h7 (by omega)
      · refine x_aload_n C d_M_committed_10 rfl rfl ?_
        refine x_getC C 2 2 cf_M fl_M_7 d_M_committed_11 rfl rfl rfl (by omega) (by omega) rfl ?_
        refine x_iload_n C d_M_committed_14 rfl rfl ?_
        refine x_iald C d_M_committed_15 rfl (by omega) (by omega) (by omega) (by omega) (fun r15 => ?_)
        refine x_iconst C d_M_committed_16 (by decide) ?_
        refine x_icmp_ne (tgt := 32) C d_M_committed_17 rfl (fun h17 => ?_) (fun h17 => ?_)
        · refine x_iinc C d_M_committed_32 (by decide) rfl ⟨by omega, by omega⟩ ?_
          refine x_goto (tgt := 2) C d_M_committed_35 rfl ?_
          exact ih (x + 1) (by omega) (by omega) (by rw [← hm]; simp [*])
        · refine x_aload_n C d_M_committed_20 rfl rfl ?_
          refine x_getC C 3 3 cf_M fl_M_13 d_M_committed_21 rfl rfl rfl (by omega) (by omega) rfl ?_
          refine x_iload_n C d_M_committed_24 rfl rfl ?_
          refine x_iald C d_M_committed_25 rfl (by omega) (by omega) (by omega) (by omega) (fun r25 => ?_)
          refine x_iload_n C d_M_committed_26 rfl rfl ?_
          refine x_icmp_ne (tgt := 32) C d_M_committed_27 rfl (fun h27 => ?_) (fun h27 => ?_)
          · refine x_iinc C d_M_committed_32 (by decide) rfl ⟨by omega, by omega⟩ ?_
            refine x_goto (tgt := 2) C d_M_committed_35 rfl ?_
            exact ih (x + 1) (by omega) (by omega) (by rw [← hm]; simp [*])
          · refine x_iconst C d_M_committed_30 (by decide) ?_
            exact x_zret rt d_M_committed_31 (by omega) (by omega) ⟨by decide, by decide⟩ ⟨by rw [← hm]; simp [h17, h27, b2i], rfl, rfl⟩
  refine x_iconst C d_M_committed_0 (by decide) ?_
  refine x_istore_n C d_M_committed_1 rfl (by decide) ?_
  exact loop (σ 1 0).toNat 1 (by omega) (by omega) rfl
end
section
-- ===== the reference: open records, locks, who waits for whom =====
theorem c_M_open {σ : Hp} {t : Int} (h0 : 0 ≤ σ 1 0) (h1 : σ 1 0 < 204) : Ok LyM TM y_M_open b_M_open 5 (some .int) 2 0 0 [.inr 1, .inl t] 28 σ (pI 28 σ (m_open σ t)) := by
  refine ok_mk (by decide) (Nat.le_of_ble_eq_true rfl) (fun K C rt ha hok hfx => ?_)
  show XW LyM TM K 28 σ 0 0 0 [some (.inr 1), some (.inl t), none, none, none] []
  have loop : ∀ (i : Nat) (a b : Option AV), (i : Int) ≤ σ 1 0 → srchD (m_good σ t) i = m_open σ t → XW LyM TM K 28 σ 0 0 5 [some (.inr 1), some (.inl t), some (.inl (i : Int)), a, b] [] := by
    intro i
    induction i with
    | zero =>
      intro a b hi hm
      refine x_iload_n C d_M_open_5 rfl rfl ?_
      refine x_if_le (tgt := 116) C d_M_open_6 rfl (fun h6 => ?_) (fun h6 => ?_)
      · refine x_iconst C d_M_open_116 (by decide) ?_
        exact x_iret rt d_M_open_117 (by omega) (by omega) ⟨by rw [← hm]; rfl, rfl, rfl⟩
      · exact absurd h6 (by decide)
    | succ i ih =>
      intro a b hi hm
      have hs : srchD (m_good σ t) (i + 1) = if m_good σ t ((i : Int) + 1) = true then (i : Int) + 1 else srchD (m_good σ t) i := rfl
      rw [hs] at hm
      rw [show ((i + 1 : Nat) : Int) = (i : Int) + 1 from rfl]
      have J104 : ∀ (g : Bool) (j : Option AV), g = m_good σ t ((i : Int) + 1) → XW LyM TM K 28 σ 0 0 104 [some (.inr 1), some (.inl t), some (.inl ((i : Int) + 1)), some (.inl (b2i g)), j] [] := by
        intro g j hg
        rw [← hg] at hm
        cases g with
        | false =>
          have ih2 := ih (some (.inl (b2i false))) j (by omega) (by rw [← hm]; rfl)
          rw [show (i : Int) = (i : Int) + 1 + (-1) by omega] at ih2
          refine x_iload_n C d_M_open_104 rfl rfl ?_
          refine x_if_eq (tgt := 110) C d_M_open_105 rfl (fun h105 => ?_) (fun h105 => ?_)
          · refine x_iinc C d_M_open_110 (by decide) rfl ⟨by omega, by omega⟩ ?_
            refine x_goto (tgt := 5) C d_M_open_113 rfl ?_
            exact ih2
          · exact absurd rfl h105
        | true =>
          refine x_iload_n C d_M_open_104 rfl rfl ?_
          refine x_if_eq (tgt := 110) C d_M_open_105 rfl (fun h105 => ?_) (fun h105 => ?_)
          · exact absurd h105 (by decide)
          · refine x_iload_n C d_M_open_108 rfl rfl ?_
            exact x_iret rt d_M_open_109 (by omega) (by omega) ⟨by rw [← hm]; rfl, rfl, rfl⟩
      have inner : ∀ (k : Nat) (j : Int) (g : Bool), j + k = σ 1 0 + 1 → (i : Int) + 2 ≤ j → (g && !anyU (fun j => decide (σ 2 j = 2) && decide (σ 9 j = (i : Int) + 1)) j k) = m_good σ t ((i : Int) + 1) → XW LyM TM K 28 σ 0 0 57 [some (.inr 1), some (.inl t), some (.inl ((i : Int) + 1)), some (.inl (b2i g)), some (.inl j)] [] := by
        intro k
        induction k with
        | zero =>
          intro j g hj hij hg
          refine x_iload C d_M_open_57 rfl ?_
          refine x_aload_n C d_M_open_59 rfl rfl ?_
          refine x_getI C 0 cf_M fl_M_114 d_M_open_60 rfl (by decide) rfl rfl (by omega) (by omega) (fun r60 => ?_)
          refine x_icmp_gt (tgt := 104) C d_M_open_63 rfl (fun h63 => ?_) (fun h63 => ?_)
          · exact J104 g _ (by rw [← hg]; simp [anyU])
          · exact absurd h63 (by omega)
        | succ k ihk =>
          intro j g hj hij hg
          have hs2 : anyU (fun j => decide (σ 2 j = 2) && decide (σ 9 j = (i : Int) + 1)) j (k + 1) = ((decide (σ 2 j = 2) && decide (σ 9 j = (i : Int) + 1)) || anyU (fun j => decide (σ 2 j = 2) && decide (σ 9 j = (i : Int) + 1)) (j + 1) k) := rfl
          rw [hs2] at hg
          cases g with
          | false =>
            refine x_iload C d_M_open_57 rfl ?_
            refine x_aload_n C d_M_open_59 rfl rfl ?_
            refine x_getI C 0 cf_M fl_M_114 d_M_open_60 rfl (by decide) rfl rfl (by omega) (by omega) (fun r60 => ?_)
            refine x_icmp_gt (tgt := 104) C d_M_open_63 rfl (fun h63 => ?_) (fun h63 => ?_)
            · exact absurd h63 (by omega)
            · refine x_iload_n C d_M_open_66 rfl rfl ?_
              refine x_if_eq (tgt := 104) C d_M_open_67 rfl (fun h67 => ?_) (fun h67 => ?_)
              · exact J104 false _ (by rw [← hg]; rfl)
              · exact absurd rfl h67
          | true =>
            have J97 : ∀ g' : Bool, g' = !(decide (σ 2 j = 2) && decide (σ 9 j = (i : Int) + 1)) → XW LyM TM K 28 σ 0 0 97 [some (.inr 1), some (.inl t), some (.inl ((i : Int) + 1)), some (.inl (b2i true)), some (.inl j)] [.inl (b2i g')] := by
              intro g' hg'
              have ihk2 := ihk (j + 1) g' (by omega) (by omega) (by rw [← hg, hg']; simp [Bool.not_or])
              refine x_istore_n C d_M_open_97 rfl (by decide) ?_
              refine x_iinc C d_M_open_98 (by decide) rfl ⟨by omega, by omega⟩ ?_
              refine x_goto (tgt := 57) C d_M_open_101 rfl ?_
              exact ihk2
            refine x_iload C d_M_open_57 rfl ?_
            refine x_aload_n C d_M_open_59 rfl rfl ?_
            refine x_getI C 0 cf_M fl_M_114 d_M_open_60 rfl (by decide) rfl rfl (by omega) (by omega) (fun r60 => ?_)
            refine x_icmp_gt (tgt := 104) C d_M_open_63 rfl (fun h63 => ?_) (fun h63 => ?_)
            · exact absurd h63 (by omega)
            · refine x_iload_n C d_M_open_66 rfl rfl ?_
              refine x_if_eq (tgt := 104) C d_M_open_67 rfl (fun h67 => ?_) (fun h67 => ?_)
              · exact absurd h67 (by decide)
              · refine x_aload_n C d_M_open_70 rfl rfl ?_
                refine x_getC C 2 2 cf_M fl_M_7 d_M_open_71 rfl rfl rfl (by omega) (by omega) rfl ?_
                refine x_iload C d_M_open_74 rfl ?_
                refine x_iald C d_M_open_76 rfl (by omega) (by omega) (by omega) (by omega) (fun r76 => ?_)
                refine x_iconst C d_M_open_77 (by decide) ?_
                refine x_icmp_ne (tgt := 92) C d_M_open_78 rfl (fun h78 => ?_) (fun h78 => ?_)
                · refine x_iconst C d_M_open_92 (by decide) ?_
                  refine x_goto (tgt := 97) C d_M_open_93 rfl ?_
                  first | exact J97 true (by simp [*]) | exact J97 false (by simp [*])
                · refine x_aload_n C d_M_open_81 rfl rfl ?_
                  refine x_getC C 9 9 cf_M fl_M_31 d_M_open_82 rfl rfl rfl (by omega) (by omega) rfl ?_
                  refine x_iload C d_M_open_85 rfl ?_
                  refine x_iald C d_M_open_87 rfl (by omega) (by omega) (by omega) (by omega) (fun r87 => ?_)
                  refine x_iload_n C d_M_open_88 rfl rfl ?_
                  refine x_icmp_eq (tgt := 96) C d_M_open_89 rfl (fun h89 => ?_) (fun h89 => ?_)
                  · refine x_iconst C d_M_open_96 (by decide) ?_
                    first | exact J97 true (by simp [*]) | exact J97 false (by simp [*])
                  · refine x_iconst C d_M_open_92 (by decide) ?_
                    refine x_goto (tgt := 97) C d_M_open_93 rfl ?_
                    first | exact J97 true (by simp [*]) | exact J97 false (by simp [*])
      have J51 : ∀ g : Bool, g = (decide (σ 2 ((i : Int) + 1) = 1) && (decide (t = 0) || decide (σ 3 ((i : Int) + 1) = t)) && !m_committed σ (σ 3 ((i : Int) + 1))) → XW LyM TM K 28 σ 0 0 51 [some (.inr 1), some (.inl t), some (.inl ((i : Int) + 1)), a, b] [.inl (b2i g)] := by
        intro g hg
        have hin := inner (σ 1 0 - ((i : Int) + 1)).toNat ((i : Int) + 1 + 1) g (by omega) (by omega) (by rw [hg]; rfl)
        refine x_istore_n C d_M_open_51 rfl (by decide) ?_
        refine x_iload_n C d_M_open_52 rfl rfl ?_
        refine x_iconst C d_M_open_53 (by decide) ?_
        refine x_iadd C d_M_open_54 ⟨by omega, by omega⟩ ?_
        refine x_istore C d_M_open_55 (by decide) ?_
        exact hin
      refine x_iload_n C d_M_open_5 rfl rfl ?_
      refine x_if_le (tgt := 116) C d_M_open_6 rfl (fun h6 => ?_) (fun h6 => ?_)
      · exact absurd h6 (by omega)
      · refine x_aload_n C d_M_open_9 rfl rfl ?_
        refine x_getC C 2 2 cf_M fl_M_7 d_M_open_10 rfl rfl rfl (by omega) (by omega) rfl ?_
        refine x_iload_n C d_M_open_13 rfl rfl ?_
        refine x_iald C d_M_open_14 rfl (by omega) (by omega) (by omega) (by omega) (fun r14 => ?_)
        refine x_iconst C d_M_open_15 (by decide) ?_
        refine x_icmp_ne (tgt := 50) C d_M_open_16 rfl (fun h16 => ?_) (fun h16 => ?_)
        · refine x_iconst C d_M_open_50 (by decide) ?_
          first | exact J51 true (by cases hc : m_committed σ (σ 3 ((i : Int) + 1)) <;> simp_all [b2i]) | exact J51 false (by cases hc : m_committed σ (σ 3 ((i : Int) + 1)) <;> simp_all [b2i])
        · refine x_iload_n C d_M_open_19 rfl rfl ?_
          refine x_if_eq (tgt := 33) C d_M_open_20 rfl (fun h20 => ?_) (fun h20 => ?_)
          · refine x_aload_n C d_M_open_33 rfl rfl ?_
            refine x_aload_n C d_M_open_34 rfl rfl ?_
            refine x_getC C 3 3 cf_M fl_M_13 d_M_open_35 rfl rfl rfl (by omega) (by omega) rfl ?_
            refine x_iload_n C d_M_open_38 rfl rfl ?_
            refine x_iald C d_M_open_39 rfl (by omega) (by omega) (by omega) (by omega) (fun r39 => ?_)
            refine x_callV C cl_M_117 cb_M_committed cs_M_committed d_M_open_40 (c_M_committed h0 (by omega)) rfl rfl rfl rfl rfl (by omega) (by omega) (by decide) (by decide) (Nat.le_of_ble_eq_true rfl) (by omega) (by omega) ?_
            rintro _ _ _ ⟨rfl, rfl, rfl⟩ -
            skip
            refine x_if_ne (tgt := 50) C d_M_open_43 rfl (fun h43 => ?_) (fun h43 => ?_)
            · refine x_iconst C d_M_open_50 (by decide) ?_
              first | exact J51 true (by cases hc : m_committed σ (σ 3 ((i : Int) + 1)) <;> simp_all [b2i]) | exact J51 false (by cases hc : m_committed σ (σ 3 ((i : Int) + 1)) <;> simp_all [b2i])
            · refine x_iconst C d_M_open_46 (by decide) ?_
              refine x_goto (tgt := 51) C d_M_open_47 rfl ?_
              first | exact J51 true (by cases hc : m_committed σ (σ 3 ((i : Int) + 1)) <;> simp_all [b2i]) | exact J51 false (by cases hc : m_committed σ (σ 3 ((i : Int) + 1)) <;> simp_all [b2i])
          · refine x_aload_n C d_M_open_23 rfl rfl ?_
            refine x_getC C 3 3 cf_M fl_M_13 d_M_open_24 rfl rfl rfl (by omega) (by omega) rfl ?_
            refine x_iload_n C d_M_open_27 rfl rfl ?_
            refine x_iald C d_M_open_28 rfl (by omega) (by omega) (by omega) (by omega) (fun r28 => ?_)
            refine x_iload_n C d_M_open_29 rfl rfl ?_
            refine x_icmp_ne (tgt := 50) C d_M_open_30 rfl (fun h30 => ?_) (fun h30 => ?_)
            · refine x_iconst C d_M_open_50 (by decide) ?_
              first | exact J51 true (by cases hc : m_committed σ (σ 3 ((i : Int) + 1)) <;> simp_all [b2i]) | exact J51 false (by cases hc : m_committed σ (σ 3 ((i : Int) + 1)) <;> simp_all [b2i])
            · refine x_aload_n C d_M_open_33 rfl rfl ?_
              refine x_aload_n C d_M_open_34 rfl rfl ?_
              refine x_getC C 3 3 cf_M fl_M_13 d_M_open_35 rfl rfl rfl (by omega) (by omega) rfl ?_
              refine x_iload_n C d_M_open_38 rfl rfl ?_
              refine x_iald C d_M_open_39 rfl (by omega) (by omega) (by omega) (by omega) (fun r39 => ?_)
              refine x_callV C cl_M_117 cb_M_committed cs_M_committed d_M_open_40 (c_M_committed h0 (by omega)) rfl rfl rfl rfl rfl (by omega) (by omega) (by decide) (by decide) (Nat.le_of_ble_eq_true rfl) (by omega) (by omega) ?_
              rintro _ _ _ ⟨rfl, rfl, rfl⟩ -
              skip
              refine x_if_ne (tgt := 50) C d_M_open_43 rfl (fun h43 => ?_) (fun h43 => ?_)
              · refine x_iconst C d_M_open_50 (by decide) ?_
                first | exact J51 true (by cases hc : m_committed σ (σ 3 ((i : Int) + 1)) <;> simp_all [b2i]) | exact J51 false (by cases hc : m_committed σ (σ 3 ((i : Int) + 1)) <;> simp_all [b2i])
              · refine x_iconst C d_M_open_46 (by decide) ?_
                refine x_goto (tgt := 51) C d_M_open_47 rfl ?_
                first | exact J51 true (by cases hc : m_committed σ (σ 3 ((i : Int) + 1)) <;> simp_all [b2i]) | exact J51 false (by cases hc : m_committed σ (σ 3 ((i : Int) + 1)) <;> simp_all [b2i])
  have hl := loop (σ 1 0).toNat none none (by omega) rfl
  rw [show (((σ 1 0).toNat : Nat) : Int) = σ 1 0 by omega] at hl
  refine x_aload_n C d_M_open_0 rfl rfl ?_
  refine x_getI C 0 cf_M fl_M_114 d_M_open_1 rfl (by decide) rfl rfl (by omega) (by omega) (fun r1 => ?_)
  refine x_istore_n C d_M_open_4 rfl (by decide) ?_
  exact hl
theorem c_M_takeBack {σ : Hp} {r : Int} (h0 : 0 ≤ r) (h1 : r < 204) (h2 : 0 ≤ σ 4 r) (h3 : σ 4 r < 24) (hB : mB σ) (h4 : 0 ≤ σ 1 0) (h5 : σ 1 0 < 203) : Ok LyM TM y_M_takeBack b_M_takeBack 3 none 3 0 0 [.inr 1, .inl r] 28 σ (pV 28 (m_takeBack σ r)) := by
  refine ok_mk (by decide) (Nat.le_of_ble_eq_true rfl) (fun K C rt ha hok hfx => ?_)
  show XW LyM TM K 28 σ 0 0 0 [some (.inr 1), some (.inl r), none] []
  have hsz : m_fetch σ (σ 4 r / 4) 1 0 = σ 1 0 := m_fetch_1 _ _ (by decide) (by decide) (by decide) (by decide)
  have hend : ∀ τ : Hp, τ = m_fetch σ (σ 4 r / 4) → m_apply (st2 (st2 (st2 (m_put τ 2 (τ 3 r) (τ 4 r)) 9 (τ 1 0 + 1) r) 7 (τ 1 0 + 1) (st2 (m_put τ 2 (τ 3 r) (τ 4 r)) 9 (τ 1 0 + 1) r 5 r)) 8 (τ 1 0 + 1) (st2 (st2 (m_put τ 2 (τ 3 r) (τ 4 r)) 9 (τ 1 0 + 1) r) 7 (τ 1 0 + 1) (st2 (m_put τ 2 (τ 3 r) (τ 4 r)) 9 (τ 1 0 + 1) r 5 r) 6 r)) (τ 1 0 + 1) = m_takeBack σ r := by
    intro τ h
    subst h
    simp only [m_takeBack, m_put_0]
  have hsp : m_fetch σ (σ 4 r / 4) 4 r = σ 4 r := by rw [m_fetch_fr _ _ (by decide) (by decide)]
  refine x_aload_n C d_M_takeBack_0 rfl rfl ?_
  refine x_aload_n C d_M_takeBack_1 rfl rfl ?_
  refine x_getC C 4 4 cf_M fl_M_16 d_M_takeBack_2 rfl rfl rfl (by omega) (by omega) rfl ?_
  refine x_iload_n C d_M_takeBack_5 rfl rfl ?_
  refine x_iald C d_M_takeBack_6 rfl (by omega) (by omega) (by omega) (by omega) (fun r6 => ?_)
  refine x_iconst C d_M_takeBack_7 (by decide) ?_
  refine x_idiv C d_M_takeBack_8 (by omega) (by decide) ?_
  refine x_callV C cl_M_121 cb_M_fetch cs_M_fetch d_M_takeBack_9 (c_M_fetch (by omega) (by omega) hB) rfl rfl rfl rfl rfl (by omega) (by omega) (by decide) (by decide) (Nat.le_of_ble_eq_true rfl) (by omega) (by omega) ?_
  rintro _ _ _ ⟨rfl, rfl, rfl⟩ -
  skip
  refine x_aload_n C d_M_takeBack_12 rfl rfl ?_
  refine x_iconst C d_M_takeBack_13 (by decide) ?_
  refine x_aload_n C d_M_takeBack_14 rfl rfl ?_
  refine x_getC C 3 3 cf_M fl_M_13 d_M_takeBack_15 rfl rfl rfl (by omega) (by omega) rfl ?_
  refine x_iload_n C d_M_takeBack_18 rfl rfl ?_
  refine x_iald C d_M_takeBack_19 rfl (by omega) (by omega) (by omega) (by omega) (fun r19 => ?_)
  refine x_aload_n C d_M_takeBack_20 rfl rfl ?_
  refine x_getC C 4 4 cf_M fl_M_16 d_M_takeBack_21 rfl rfl rfl (by omega) (by omega) rfl ?_
  refine x_iload_n C d_M_takeBack_24 rfl rfl ?_
  refine x_iald C d_M_takeBack_25 rfl (by omega) (by omega) (by omega) (by omega) (fun r25 => ?_)
  refine x_callV C cl_M_124 cb_M_put cs_M_put d_M_takeBack_26 (c_M_put (by omega) (by omega)) rfl rfl rfl rfl rfl (by omega) (by omega) (by decide) (by decide) (Nat.le_of_ble_eq_true rfl) (by omega) (by omega) ?_
  rintro _ _ _ ⟨rfl, rfl, rfl⟩ -
  skip
  refine x_istore_n C d_M_takeBack_29 rfl (by decide) ?_
  refine x_aload_n C d_M_takeBack_30 rfl rfl ?_
  refine x_getC C 9 9 cf_M fl_M_31 d_M_takeBack_31 rfl rfl rfl (by omega) (by omega) rfl ?_
  refine x_iload_n C d_M_takeBack_34 rfl rfl ?_
  refine x_iload_n C d_M_takeBack_35 rfl rfl ?_
  refine x_iast C d_M_takeBack_36 rfl rfl (by omega) (by omega) (by omega) (by omega) ?_
  refine x_aload_n C d_M_takeBack_37 rfl rfl ?_
  refine x_getC C 7 7 cf_M fl_M_25 d_M_takeBack_38 rfl rfl rfl (by omega) (by omega) rfl ?_
  refine x_iload_n C d_M_takeBack_41 rfl rfl ?_
  refine x_aload_n C d_M_takeBack_42 rfl rfl ?_
  refine x_getC C 5 5 cf_M fl_M_19 d_M_takeBack_43 rfl rfl rfl (by omega) (by omega) rfl ?_
  refine x_iload_n C d_M_takeBack_46 rfl rfl ?_
  refine x_iald C d_M_takeBack_47 rfl (by omega) (by omega) (by omega) (by omega) (fun r47 => ?_)
  refine x_iast C d_M_takeBack_48 rfl rfl (by omega) (by omega) (by omega) (by omega) ?_
  refine x_aload_n C d_M_takeBack_49 rfl rfl ?_
  refine x_getC C 8 8 cf_M fl_M_28 d_M_takeBack_50 rfl rfl rfl (by omega) (by omega) rfl ?_
  refine x_iload_n C d_M_takeBack_53 rfl rfl ?_
  refine x_aload_n C d_M_takeBack_54 rfl rfl ?_
  refine x_getC C 6 6 cf_M fl_M_22 d_M_takeBack_55 rfl rfl rfl (by omega) (by omega) rfl ?_
  refine x_iload_n C d_M_takeBack_58 rfl rfl ?_
  refine x_iald C d_M_takeBack_59 rfl (by omega) (by omega) (by omega) (by omega) (fun r59 => ?_)
  refine x_iast C d_M_takeBack_60 rfl rfl (by omega) (by omega) (by omega) (by omega) ?_
  refine x_aload_n C d_M_takeBack_61 rfl rfl ?_
  refine x_iload_n C d_M_takeBack_62 rfl rfl ?_
  refine x_callV C cl_M_128 cb_M_apply cs_M_apply d_M_takeBack_63 (c_M_apply (by omega) (by omega) (by simp [st2, m_put_4]; omega) (by simp [st2, m_put_4]; omega)) rfl rfl rfl rfl rfl (by omega) (by omega) (by decide) (by decide) (Nat.le_of_ble_eq_true rfl) (by omega) (by omega) ?_
  rintro _ _ _ ⟨rfl, rfl, rfl⟩ -
  skip
  exact x_vret rt d_M_takeBack_66 (by omega) (by omega) ⟨rfl, rfl, (hend _ rfl).symm⟩
theorem c_M_live {σ : Hp} {t : Int} (h0 : 0 ≤ t) (h1 : t ≤ 60) : Ok LyM TM y_M_live b_M_live 2 (some .boolean) 1 0 0 [.inr 1, .inl t] 28 σ (pI 28 σ (b2i (m_live σ t))) := by
  refine ok_mk (by decide) (Nat.le_of_ble_eq_true rfl) (fun K C rt ha hok hfx => ?_)
  show XW LyM TM K 28 σ 0 0 0 [some (.inr 1), some (.inl t)] []
  refine x_aload_n C d_M_live_0 rfl rfl ?_
  refine x_getC C 23 19 cf_M fl_M_61 d_M_live_1 rfl rfl rfl (by omega) (by omega) rfl ?_
  refine x_iload_n C d_M_live_4 rfl rfl ?_
  refine x_iald C d_M_live_5 rfl (by omega) (by omega) (by omega) (by omega) (fun r5 => ?_)
  refine x_iconst C d_M_live_6 (by decide) ?_
  refine x_icmp_lt (tgt := 24) C d_M_live_7 rfl (fun h7 => ?_) (fun h7 => ?_)
  · refine x_iconst C d_M_live_24 (by decide) ?_
    exact x_zret rt d_M_live_25 (by omega) (by omega) ⟨by decide, by decide⟩ ⟨by grind [m_live, b2i], rfl, rfl⟩
  · refine x_aload_n C d_M_live_10 rfl rfl ?_
    refine x_getC C 23 19 cf_M fl_M_61 d_M_live_11 rfl rfl rfl (by omega) (by omega) rfl ?_
    refine x_iload_n C d_M_live_14 rfl rfl ?_
    refine x_iald C d_M_live_15 rfl (by omega) (by omega) (by omega) (by omega) (fun r15 => ?_)
    refine x_iconst C d_M_live_16 (by decide) ?_
    refine x_icmp_gt (tgt := 24) C d_M_live_17 rfl (fun h17 => ?_) (fun h17 => ?_)
    · refine x_iconst C d_M_live_24 (by decide) ?_
      exact x_zret rt d_M_live_25 (by omega) (by omega) ⟨by decide, by decide⟩ ⟨by grind [m_live, b2i], rfl, rfl⟩
    · refine x_iconst C d_M_live_20 (by decide) ?_
      refine x_goto (tgt := 25) C d_M_live_21 rfl ?_
      exact x_zret rt d_M_live_25 (by omega) (by omega) ⟨by decide, by decide⟩ ⟨by grind [m_live, b2i], rfl, rfl⟩
theorem c_M_unlock {σ : Hp} {t : Int} (h0 : 0 ≤ t) (h1 : t ≤ 60) : Ok LyM TM y_M_unlock b_M_unlock 3 none 1 0 0 [.inr 1, .inl t] 28 σ (pV 28 (m_unlock σ t 100)) := by
  refine ok_mk (by decide) (Nat.le_of_ble_eq_true rfl) (fun K C rt ha hok hfx => ?_)
  show XW LyM TM K 28 σ 0 0 0 [some (.inr 1), some (.inl t), none] []
  have loop : ∀ (k : Nat) (x : Int), 0 ≤ x → x + k = 100 → XW LyM TM K 28 (m_unlock σ t x) 0 0 2 [some (.inr 1), some (.inl t), some (.inl x)] [] := by
    intro k
    induction k with
    | zero =>
      intro x hx hk
      obtain rfl : x = 100 := by omega
      refine x_iload_n C d_M_unlock_2 rfl rfl ?_
      refine x_bipush C d_M_unlock_3 (by decide) (by decide) ?_
      refine x_icmp_ge (tgt := 26) C d_M_unlock_5 rfl (fun h5 => ?_) (fun h5 => ?_)
      · exact x_vret rt d_M_unlock_26 (by omega) (by omega) ⟨rfl, rfl, rfl⟩
      · exact absurd h5 (by omega)
    | succ k ih =>
      intro x hx hk
      refine x_iload_n C d_M_unlock_2 rfl rfl ?_
      refine x_bipush C d_M_unlock_3 (by decide) (by decide) ?_
      refine x_icmp_ge (tgt := 26) C d_M_unlock_5 rfl (fun h5 => ?_) (fun h5 => ?_)
      · exact absurd h5 (by omega)
      · refine x_aload_n C d_M_unlock_8 rfl rfl ?_
        refine x_getC C 30 26 cf_M fl_M_82 d_M_unlock_9 rfl rfl rfl (by omega) (by omega) rfl ?_
        refine x_bipush C d_M_unlock_12 (by decide) (by decide) ?_
        refine x_iload_n C d_M_unlock_14 rfl rfl ?_
        refine x_imul C d_M_unlock_15 ⟨by omega, by omega⟩ ?_
        refine x_iload_n C d_M_unlock_16 rfl rfl ?_
        refine x_iadd C d_M_unlock_17 ⟨by omega, by omega⟩ ?_
        refine x_iconst C d_M_unlock_18 (by decide) ?_
        refine x_bast C d_M_unlock_19 rfl rfl (by omega) (by omega) (by omega) (by omega) (by omega) (by omega) ?_
        refine x_iinc C d_M_unlock_20 (by decide) rfl ⟨by omega, by omega⟩ ?_
        refine x_goto (tgt := 2) C d_M_unlock_23 rfl ?_
        rw [m_unlock_step hx]
        exact ih (x + 1) (by omega) (by omega)
  have e := loop 100 0 (by omega) (by omega)
  rw [m_unlock_0] at e
  refine x_iconst C d_M_unlock_0 (by decide) ?_
  refine x_istore_n C d_M_unlock_1 rfl (by decide) ?_
  exact e
theorem c_M_conflicts {σ : Hp} {t u : Int} (h0 : 0 ≤ t) (h1 : t ≤ 60) (h2 : 0 ≤ u) (h3 : u ≤ 60) (h4 : 0 ≤ σ 22 t) (h5 : σ 22 t ≤ 99) : Ok LyM TM y_M_conflicts b_M_conflicts 4 (some .boolean) 1 0 0 [.inr 1, .inl t, .inl u] 28 σ (pI 28 σ (b2i (m_conflicts σ t u))) := by
  refine ok_mk (by decide) (Nat.le_of_ble_eq_true rfl) (fun K C rt ha hok hfx => ?_)
  show XW LyM TM K 28 σ 0 0 0 [some (.inr 1), some (.inl t), some (.inl u), none] []
  refine x_aload_n C d_M_conflicts_0 rfl rfl ?_
  refine x_getC C 30 26 cf_M fl_M_82 d_M_conflicts_1 rfl rfl rfl (by omega) (by omega) rfl ?_
  refine x_bipush C d_M_conflicts_4 (by decide) (by decide) ?_
  refine x_iload_n C d_M_conflicts_6 rfl rfl ?_
  refine x_imul C d_M_conflicts_7 ⟨by omega, by omega⟩ ?_
  refine x_aload_n C d_M_conflicts_8 rfl rfl ?_
  refine x_getC C 26 22 cf_M fl_M_70 d_M_conflicts_9 rfl rfl rfl (by omega) (by omega) rfl ?_
  refine x_iload_n C d_M_conflicts_12 rfl rfl ?_
  refine x_iald C d_M_conflicts_13 rfl (by omega) (by omega) (by omega) (by omega) (fun r13 => ?_)
  refine x_iadd C d_M_conflicts_14 ⟨by omega, by omega⟩ ?_
  refine x_bald C d_M_conflicts_15 rfl (by omega) (by omega) (by omega) (by omega) (fun r15 => ?_)
  refine x_istore_n C d_M_conflicts_16 rfl (by decide) ?_
  refine x_iload_n C d_M_conflicts_17 rfl rfl ?_
  refine x_iload_n C d_M_conflicts_18 rfl rfl ?_
  refine x_icmp_eq (tgt := 45) C d_M_conflicts_19 rfl (fun h19 => ?_) (fun h19 => ?_)
  · refine x_iconst C d_M_conflicts_45 (by decide) ?_
    exact x_zret rt d_M_conflicts_46 (by omega) (by omega) ⟨by decide, by decide⟩ ⟨by grind [m_conflicts, m_lk, b2i], rfl, rfl⟩
  · refine x_iload_n C d_M_conflicts_22 rfl rfl ?_
    refine x_if_le (tgt := 45) C d_M_conflicts_23 rfl (fun h23 => ?_) (fun h23 => ?_)
    · refine x_iconst C d_M_conflicts_45 (by decide) ?_
      exact x_zret rt d_M_conflicts_46 (by omega) (by omega) ⟨by decide, by decide⟩ ⟨by grind [m_conflicts, m_lk, b2i], rfl, rfl⟩
    · refine x_iload_n C d_M_conflicts_26 rfl rfl ?_
      refine x_iconst C d_M_conflicts_27 (by decide) ?_
      refine x_icmp_eq (tgt := 41) C d_M_conflicts_28 rfl (fun h28 => ?_) (fun h28 => ?_)
      · refine x_iconst C d_M_conflicts_41 (by decide) ?_
        refine x_goto (tgt := 46) C d_M_conflicts_42 rfl ?_
        exact x_zret rt d_M_conflicts_46 (by omega) (by omega) ⟨by decide, by decide⟩ ⟨by grind [m_conflicts, m_lk, b2i], rfl, rfl⟩
      · refine x_aload_n C d_M_conflicts_31 rfl rfl ?_
        refine x_getC C 27 23 cf_M fl_M_73 d_M_conflicts_32 rfl rfl rfl (by omega) (by omega) rfl ?_
        refine x_iload_n C d_M_conflicts_35 rfl rfl ?_
        refine x_iald C d_M_conflicts_36 rfl (by omega) (by omega) (by omega) (by omega) (fun r36 => ?_)
        refine x_iconst C d_M_conflicts_37 (by decide) ?_
        refine x_icmp_ne (tgt := 45) C d_M_conflicts_38 rfl (fun h38 => ?_) (fun h38 => ?_)
        · refine x_iconst C d_M_conflicts_45 (by decide) ?_
          exact x_zret rt d_M_conflicts_46 (by omega) (by omega) ⟨by decide, by decide⟩ ⟨by grind [m_conflicts, m_lk, b2i], rfl, rfl⟩
        · refine x_iconst C d_M_conflicts_41 (by decide) ?_
          refine x_goto (tgt := 46) C d_M_conflicts_42 rfl ?_
          exact x_zret rt d_M_conflicts_46 (by omega) (by omega) ⟨by decide, by decide⟩ ⟨by grind [m_conflicts, m_lk, b2i], rfl, rfl⟩
theorem c_M_ahead {σ : Hp} {t u : Int} (h0 : 0 ≤ t) (h1 : t ≤ 60) (h2 : 0 ≤ u) (h3 : u ≤ 60) : Ok LyM TM y_M_ahead b_M_ahead 3 (some .boolean) 1 0 0 [.inr 1, .inl t, .inl u] 28 σ (pI 28 σ (b2i (m_ahead σ t u))) := by
  refine ok_mk (by decide) (Nat.le_of_ble_eq_true rfl) (fun K C rt ha hok hfx => ?_)
  show XW LyM TM K 28 σ 0 0 0 [some (.inr 1), some (.inl t), some (.inl u)] []
  refine x_iload_n C d_M_ahead_0 rfl rfl ?_
  refine x_iload_n C d_M_ahead_1 rfl rfl ?_
  refine x_icmp_eq (tgt := 49) C d_M_ahead_2 rfl (fun h2 => ?_) (fun h2 => ?_)
  · refine x_iconst C d_M_ahead_49 (by decide) ?_
    exact x_zret rt d_M_ahead_50 (by omega) (by omega) ⟨by decide, by decide⟩ ⟨by grind [m_ahead, b2i], rfl, rfl⟩
  · refine x_aload_n C d_M_ahead_5 rfl rfl ?_
    refine x_getC C 23 19 cf_M fl_M_61 d_M_ahead_6 rfl rfl rfl (by omega) (by omega) rfl ?_
    refine x_iload_n C d_M_ahead_9 rfl rfl ?_
    refine x_iald C d_M_ahead_10 rfl (by omega) (by omega) (by omega) (by omega) (fun r10 => ?_)
    refine x_iconst C d_M_ahead_11 (by decide) ?_
    refine x_icmp_ne (tgt := 49) C d_M_ahead_12 rfl (fun h12 => ?_) (fun h12 => ?_)
    · refine x_iconst C d_M_ahead_49 (by decide) ?_
      exact x_zret rt d_M_ahead_50 (by omega) (by omega) ⟨by decide, by decide⟩ ⟨by grind [m_ahead, b2i], rfl, rfl⟩
    · refine x_aload_n C d_M_ahead_15 rfl rfl ?_
      refine x_getC C 26 22 cf_M fl_M_70 d_M_ahead_16 rfl rfl rfl (by omega) (by omega) rfl ?_
      refine x_iload_n C d_M_ahead_19 rfl rfl ?_
      refine x_iald C d_M_ahead_20 rfl (by omega) (by omega) (by omega) (by omega) (fun r20 => ?_)
      refine x_aload_n C d_M_ahead_21 rfl rfl ?_
      refine x_getC C 26 22 cf_M fl_M_70 d_M_ahead_22 rfl rfl rfl (by omega) (by omega) rfl ?_
      refine x_iload_n C d_M_ahead_25 rfl rfl ?_
      refine x_iald C d_M_ahead_26 rfl (by omega) (by omega) (by omega) (by omega) (fun r26 => ?_)
      refine x_icmp_ne (tgt := 49) C d_M_ahead_27 rfl (fun h27 => ?_) (fun h27 => ?_)
      · refine x_iconst C d_M_ahead_49 (by decide) ?_
        exact x_zret rt d_M_ahead_50 (by omega) (by omega) ⟨by decide, by decide⟩ ⟨by grind [m_ahead, b2i], rfl, rfl⟩
      · refine x_aload_n C d_M_ahead_30 rfl rfl ?_
        refine x_getC C 29 25 cf_M fl_M_79 d_M_ahead_31 rfl rfl rfl (by omega) (by omega) rfl ?_
        refine x_iload_n C d_M_ahead_34 rfl rfl ?_
        refine x_iald C d_M_ahead_35 rfl (by omega) (by omega) (by omega) (by omega) (fun r35 => ?_)
        refine x_aload_n C d_M_ahead_36 rfl rfl ?_
        refine x_getC C 29 25 cf_M fl_M_79 d_M_ahead_37 rfl rfl rfl (by omega) (by omega) rfl ?_
        refine x_iload_n C d_M_ahead_40 rfl rfl ?_
        refine x_iald C d_M_ahead_41 rfl (by omega) (by omega) (by omega) (by omega) (fun r41 => ?_)
        refine x_icmp_ge (tgt := 49) C d_M_ahead_42 rfl (fun h42 => ?_) (fun h42 => ?_)
        · refine x_iconst C d_M_ahead_49 (by decide) ?_
          exact x_zret rt d_M_ahead_50 (by omega) (by omega) ⟨by decide, by decide⟩ ⟨by grind [m_ahead, b2i], rfl, rfl⟩
        · refine x_iconst C d_M_ahead_45 (by decide) ?_
          refine x_goto (tgt := 50) C d_M_ahead_46 rfl ?_
          exact x_zret rt d_M_ahead_50 (by omega) (by omega) ⟨by decide, by decide⟩ ⟨by grind [m_ahead, b2i], rfl, rfl⟩
theorem c_M_waitsFor {σ : Hp} {t u : Int} (h0 : 0 ≤ t) (h1 : t ≤ 60) (h2 : 0 ≤ u) (h3 : u ≤ 60) (h4 : 0 ≤ σ 22 t) (h5 : σ 22 t ≤ 99) : Ok LyM TM y_M_waitsFor b_M_waitsFor 3 (some .boolean) 2 0 0 [.inr 1, .inl t, .inl u] 28 σ (pI 28 σ (b2i (m_waitsFor σ t u))) := by
  refine ok_mk (by decide) (Nat.le_of_ble_eq_true rfl) (fun K C rt ha hok hfx => ?_)
  show XW LyM TM K 28 σ 0 0 0 [some (.inr 1), some (.inl t), some (.inl u)] []
  refine x_aload_n C d_M_waitsFor_0 rfl rfl ?_
  refine x_getC C 23 19 cf_M fl_M_61 d_M_waitsFor_1 rfl rfl rfl (by omega) (by omega) rfl ?_
  refine x_iload_n C d_M_waitsFor_4 rfl rfl ?_
  refine x_iald C d_M_waitsFor_5 rfl (by omega) (by omega) (by omega) (by omega) (fun r5 => ?_)
  refine x_iconst C d_M_waitsFor_6 (by decide) ?_
  refine x_icmp_ne (tgt := 51) C d_M_waitsFor_7 rfl (fun h7 => ?_) (fun h7 => ?_)
  · refine x_iconst C d_M_waitsFor_51 (by decide) ?_
    exact x_zret rt d_M_waitsFor_52 (by omega) (by omega) ⟨by decide, by decide⟩ ⟨by grind [m_waitsFor, m_lk, b2i], rfl, rfl⟩
  · refine x_aload_n C d_M_waitsFor_10 rfl rfl ?_
    refine x_iload_n C d_M_waitsFor_11 rfl rfl ?_
    refine x_iload_n C d_M_waitsFor_12 rfl rfl ?_
    refine x_callV C cl_M_131 cb_M_conflicts cs_M_conflicts d_M_waitsFor_13 (c_M_conflicts h0 h1 h2 h3 h4 h5) rfl rfl rfl rfl rfl (by omega) (by omega) (by decide) (by decide) (Nat.le_of_ble_eq_true rfl) (by omega) (by omega) ?_
    rintro _ _ _ ⟨rfl, rfl, rfl⟩ -
    skip
    refine x_if_ne (tgt := 47) C d_M_waitsFor_16 rfl (fun h16 => ?_) (fun h16 => ?_)
    · refine x_iconst C d_M_waitsFor_47 (by decide) ?_
      refine x_goto (tgt := 52) C d_M_waitsFor_48 rfl ?_
      exact x_zret rt d_M_waitsFor_52 (by omega) (by omega) ⟨by decide, by decide⟩ ⟨by grind [m_waitsFor, m_lk, b2i], rfl, rfl⟩
    · refine x_aload_n C d_M_waitsFor_19 rfl rfl ?_
      refine x_getC C 30 26 cf_M fl_M_82 d_M_waitsFor_20 rfl rfl rfl (by omega) (by omega) rfl ?_
      refine x_bipush C d_M_waitsFor_23 (by decide) (by decide) ?_
      refine x_iload_n C d_M_waitsFor_25 rfl rfl ?_
      refine x_imul C d_M_waitsFor_26 ⟨by omega, by omega⟩ ?_
      refine x_aload_n C d_M_waitsFor_27 rfl rfl ?_
      refine x_getC C 26 22 cf_M fl_M_70 d_M_waitsFor_28 rfl rfl rfl (by omega) (by omega) rfl ?_
      refine x_iload_n C d_M_waitsFor_31 rfl rfl ?_
      refine x_iald C d_M_waitsFor_32 rfl (by omega) (by omega) (by omega) (by omega) (fun r32 => ?_)
      refine x_iadd C d_M_waitsFor_33 ⟨by omega, by omega⟩ ?_
      refine x_bald C d_M_waitsFor_34 rfl (by omega) (by omega) (by omega) (by omega) (fun r34 => ?_)
      refine x_if_ne (tgt := 51) C d_M_waitsFor_35 rfl (fun h35 => ?_) (fun h35 => ?_)
      · refine x_iconst C d_M_waitsFor_51 (by decide) ?_
        exact x_zret rt d_M_waitsFor_52 (by omega) (by omega) ⟨by decide, by decide⟩ ⟨by grind [m_waitsFor, m_lk, b2i], rfl, rfl⟩
      · refine x_aload_n C d_M_waitsFor_38 rfl rfl ?_
        refine x_iload_n C d_M_waitsFor_39 rfl rfl ?_
        refine x_iload_n C d_M_waitsFor_40 rfl rfl ?_
        refine x_callV C cl_M_135 cb_M_ahead cs_M_ahead d_M_waitsFor_41 (c_M_ahead h0 h1 h2 h3) rfl rfl rfl rfl rfl (by omega) (by omega) (by decide) (by decide) (Nat.le_of_ble_eq_true rfl) (by omega) (by omega) ?_
        rintro _ _ _ ⟨rfl, rfl, rfl⟩ -
        skip
        refine x_if_eq (tgt := 51) C d_M_waitsFor_44 rfl (fun h44 => ?_) (fun h44 => ?_)
        · refine x_iconst C d_M_waitsFor_51 (by decide) ?_
          exact x_zret rt d_M_waitsFor_52 (by omega) (by omega) ⟨by decide, by decide⟩ ⟨by grind [m_waitsFor, m_lk, b2i], rfl, rfl⟩
        · refine x_iconst C d_M_waitsFor_47 (by decide) ?_
          refine x_goto (tgt := 52) C d_M_waitsFor_48 rfl ?_
          exact x_zret rt d_M_waitsFor_52 (by omega) (by omega) ⟨by decide, by decide⟩ ⟨by grind [m_waitsFor, m_lk, b2i], rfl, rfl⟩
theorem c_M_fit {σ : Hp} {t : Int} (h0 : 0 ≤ t) (h1 : t ≤ 60) (h4 : 0 ≤ σ 22 t) (h5 : σ 22 t ≤ 99) (h6 : 0 ≤ σ 1 22) (h7 : σ 1 22 ≤ 60) : Ok LyM TM y_M_fit b_M_fit 4 (some .boolean) 2 0 0 [.inr 1, .inl t] 28 σ (pI 28 σ (b2i (m_fit σ t))) := by
  refine ok_mk (by decide) (Nat.le_of_ble_eq_true rfl) (fun K C rt ha hok hfx => ?_)
  show XW LyM TM K 28 σ 0 0 0 [some (.inr 1), some (.inl t), none, none] []
  have loop : ∀ (k : Nat) (x : Int), 1 ≤ x → x + k = σ 1 22 + 1 → (decide (σ 23 t ≤ m_lk σ t (σ 22 t)) || !anyU (fun u => m_conflicts σ t u || (decide (m_lk σ t (σ 22 t) = 0) && m_ahead σ t u)) x k) = m_fit σ t → ¬ σ 23 t ≤ m_lk σ t (σ 22 t) → XW LyM TM K 28 σ 0 0 31 [some (.inr 1), some (.inl t), some (.inl (m_lk σ t (σ 22 t))), some (.inl x)] [] := by
    intro k
    induction k with
    | zero =>
      intro x hx hk hm hn
      refine x_iload_n C d_M_fit_31 rfl rfl ?_
      refine x_aload_n C d_M_fit_32 rfl rfl ?_
      refine x_getI C 22 cf_M fl_M_138 d_M_fit_33 rfl (by decide) rfl rfl (by omega) (by omega) (fun r33 => ?_)
      refine x_icmp_gt (tgt := 69) C d_M_fit_36 rfl (fun h36 => ?_) (fun h36 => ?_)
      · refine x_iconst C d_M_fit_69 (by decide) ?_
        exact x_zret rt d_M_fit_70 (by omega) (by omega) ⟨by decide, by decide⟩ ⟨by rw [← hm]; simp [anyU, b2i], rfl, rfl⟩
      · exact absurd h36 (by omega)
    | succ k ih =>
      intro x hx hk hm hn
      rw [show anyU (fun u => m_conflicts σ t u || (decide (m_lk σ t (σ 22 t) = 0) && m_ahead σ t u)) x (k + 1) = ((m_conflicts σ t x || (decide (m_lk σ t (σ 22 t) = 0) && m_ahead σ t x)) || anyU (fun u => m_conflicts σ t u || (decide (m_lk σ t (σ 22 t) = 0) && m_ahead σ t u)) (x + 1) k) from rfl] at hm
      refine x_iload_n C d_M_fit_31 rfl rfl ?_
      refine x_aload_n C d_M_fit_32 rfl rfl ?_
      refine x_getI C 22 cf_M fl_M_138 d_M_fit_33 rfl (by decide) rfl rfl (by omega) (by omega) (fun r33 => ?_)
      refine x_icmp_gt (tgt := 69) C d_M_fit_36 rfl (fun h36 => ?_) (fun h36 => ?_)
      · exact absurd h36 (by omega)
      · refine x_aload_n C d_M_fit_39 rfl rfl ?_
        refine x_iload_n C d_M_fit_40 rfl rfl ?_
        refine x_iload_n C d_M_fit_41 rfl rfl ?_
        refine x_callV C cl_M_131 cb_M_conflicts cs_M_conflicts d_M_fit_42 (c_M_conflicts h0 h1 (by omega) (by omega) h4 h5) rfl rfl rfl rfl rfl (by omega) (by omega) (by decide) (by decide) (Nat.le_of_ble_eq_true rfl) (by omega) (by omega) ?_
        rintro _ _ _ ⟨rfl, rfl, rfl⟩ -
        skip
        refine x_if_ne (tgt := 61) C d_M_fit_45 rfl (fun h45 => ?_) (fun h45 => ?_)
        · refine x_iconst C d_M_fit_61 (by decide) ?_
          exact x_zret rt d_M_fit_62 (by omega) (by omega) ⟨by decide, by decide⟩ ⟨by rw [← hm]; grind [b2i], rfl, rfl⟩
        · refine x_iload_n C d_M_fit_48 rfl rfl ?_
          refine x_if_ne (tgt := 63) C d_M_fit_49 rfl (fun h49 => ?_) (fun h49 => ?_)
          · refine x_iinc C d_M_fit_63 (by decide) rfl ⟨by omega, by omega⟩ ?_
            refine x_goto (tgt := 31) C d_M_fit_66 rfl ?_
            exact ih (x + 1) (by omega) (by omega) (by rw [← hm]; grind [b2i]) hn
          · refine x_aload_n C d_M_fit_52 rfl rfl ?_
            refine x_iload_n C d_M_fit_53 rfl rfl ?_
            refine x_iload_n C d_M_fit_54 rfl rfl ?_
            refine x_callV C cl_M_135 cb_M_ahead cs_M_ahead d_M_fit_55 (c_M_ahead h0 h1 (by omega) (by omega)) rfl rfl rfl rfl rfl (by omega) (by omega) (by decide) (by decide) (Nat.le_of_ble_eq_true rfl) (by omega) (by omega) ?_
            rintro _ _ _ ⟨rfl, rfl, rfl⟩ -
            skip
            refine x_if_eq (tgt := 63) C d_M_fit_58 rfl (fun h58 => ?_) (fun h58 => ?_)
            · refine x_iinc C d_M_fit_63 (by decide) rfl ⟨by omega, by omega⟩ ?_
              refine x_goto (tgt := 31) C d_M_fit_66 rfl ?_
              exact ih (x + 1) (by omega) (by omega) (by rw [← hm]; grind [b2i]) hn
            · refine x_iconst C d_M_fit_61 (by decide) ?_
              exact x_zret rt d_M_fit_62 (by omega) (by omega) ⟨by decide, by decide⟩ ⟨by rw [← hm]; grind [b2i], rfl, rfl⟩
  refine x_aload_n C d_M_fit_0 rfl rfl ?_
  refine x_getC C 30 26 cf_M fl_M_82 d_M_fit_1 rfl rfl rfl (by omega) (by omega) rfl ?_
  refine x_bipush C d_M_fit_4 (by decide) (by decide) ?_
  refine x_iload_n C d_M_fit_6 rfl rfl ?_
  refine x_imul C d_M_fit_7 ⟨by omega, by omega⟩ ?_
  refine x_aload_n C d_M_fit_8 rfl rfl ?_
  refine x_getC C 26 22 cf_M fl_M_70 d_M_fit_9 rfl rfl rfl (by omega) (by omega) rfl ?_
  refine x_iload_n C d_M_fit_12 rfl rfl ?_
  refine x_iald C d_M_fit_13 rfl (by omega) (by omega) (by omega) (by omega) (fun r13 => ?_)
  refine x_iadd C d_M_fit_14 ⟨by omega, by omega⟩ ?_
  refine x_bald C d_M_fit_15 rfl (by omega) (by omega) (by omega) (by omega) (fun r15 => ?_)
  refine x_istore_n C d_M_fit_16 rfl (by decide) ?_
  refine x_iload_n C d_M_fit_17 rfl rfl ?_
  refine x_aload_n C d_M_fit_18 rfl rfl ?_
  refine x_getC C 27 23 cf_M fl_M_73 d_M_fit_19 rfl rfl rfl (by omega) (by omega) rfl ?_
  refine x_iload_n C d_M_fit_22 rfl rfl ?_
  refine x_iald C d_M_fit_23 rfl (by omega) (by omega) (by omega) (by omega) (fun r23 => ?_)
  refine x_icmp_lt (tgt := 29) C d_M_fit_24 rfl (fun h24 => ?_) (fun h24 => ?_)
  · refine x_iconst C d_M_fit_29 (by decide) ?_
    refine x_istore_n C d_M_fit_30 rfl (by decide) ?_
    exact loop (σ 1 22).toNat 1 (by omega) (by omega) rfl (Int.not_le.mpr h24)
  · refine x_iconst C d_M_fit_27 (by decide) ?_
    exact x_zret rt d_M_fit_28 (by omega) (by omega) ⟨by decide, by decide⟩ ⟨by grind [m_fit, m_lk, b2i], rfl, rfl⟩
theorem c_M_isIn {σ : Hp} {t s : Int} (h7 : σ 1 22 ≤ 60) : Ok LyM TM y_M_isIn b_M_isIn 3 (some .boolean) 1 0 0 [.inr 1, .inl t, .inl s] 28 σ (pI 28 σ (b2i (m_isIn σ t s))) := by
  refine ok_mk (by decide) (Nat.le_of_ble_eq_true rfl) (fun K C rt ha hok hfx => ?_)
  show XW LyM TM K 28 σ 0 0 0 [some (.inr 1), some (.inl t), some (.inl s)] []
  refine x_aload_n C d_M_isIn_0 rfl rfl ?_
  refine x_getI C 32 cf_M fl_M_172 d_M_isIn_1 rfl (by decide) rfl rfl (by omega) (by omega) (fun r1 => ?_)
  refine x_if_ne (tgt := 34) C d_M_isIn_4 rfl (fun h4 => ?_) (fun h4 => ?_)
  · refine x_iconst C d_M_isIn_34 (by decide) ?_
    exact x_zret rt d_M_isIn_35 (by omega) (by omega) ⟨by decide, by decide⟩ ⟨by grind [m_isIn, b2i], rfl, rfl⟩
  · refine x_iload_n C d_M_isIn_7 rfl rfl ?_
    refine x_iconst C d_M_isIn_8 (by decide) ?_
    refine x_icmp_lt (tgt := 34) C d_M_isIn_9 rfl (fun h9 => ?_) (fun h9 => ?_)
    · refine x_iconst C d_M_isIn_34 (by decide) ?_
      exact x_zret rt d_M_isIn_35 (by omega) (by omega) ⟨by decide, by decide⟩ ⟨by grind [m_isIn, b2i], rfl, rfl⟩
    · refine x_iload_n C d_M_isIn_12 rfl rfl ?_
      refine x_aload_n C d_M_isIn_13 rfl rfl ?_
      refine x_getI C 22 cf_M fl_M_138 d_M_isIn_14 rfl (by decide) rfl rfl (by omega) (by omega) (fun r14 => ?_)
      refine x_icmp_gt (tgt := 34) C d_M_isIn_17 rfl (fun h17 => ?_) (fun h17 => ?_)
      · refine x_iconst C d_M_isIn_34 (by decide) ?_
        exact x_zret rt d_M_isIn_35 (by omega) (by omega) ⟨by decide, by decide⟩ ⟨by grind [m_isIn, b2i], rfl, rfl⟩
      · refine x_aload_n C d_M_isIn_20 rfl rfl ?_
        refine x_getC C 23 19 cf_M fl_M_61 d_M_isIn_21 rfl rfl rfl (by omega) (by omega) rfl ?_
        refine x_iload_n C d_M_isIn_24 rfl rfl ?_
        refine x_iald C d_M_isIn_25 rfl (by omega) (by omega) (by omega) (by omega) (fun r25 => ?_)
        refine x_iload_n C d_M_isIn_26 rfl rfl ?_
        refine x_icmp_ne (tgt := 34) C d_M_isIn_27 rfl (fun h27 => ?_) (fun h27 => ?_)
        · refine x_iconst C d_M_isIn_34 (by decide) ?_
          exact x_zret rt d_M_isIn_35 (by omega) (by omega) ⟨by decide, by decide⟩ ⟨by grind [m_isIn, b2i], rfl, rfl⟩
        · refine x_iconst C d_M_isIn_30 (by decide) ?_
          refine x_goto (tgt := 35) C d_M_isIn_31 rfl ?_
          exact x_zret rt d_M_isIn_35 (by omega) (by omega) ⟨by decide, by decide⟩ ⟨by grind [m_isIn, b2i], rfl, rfl⟩
end
section
-- ===== the reference: the ring, granting, settling =====
theorem c_M_ring {σ : Hp} {t : Int} (h0 : 0 ≤ t) (h1 : t ≤ 60) (hL : mL σ) (hbt : 0 ≤ m_ring σ t 27 t ∧ m_ring σ t 27 t ≤ 1) : Ok LyM TM y_M_ring b_M_ring 5 (some .boolean) 3 0 0 [.inr 1, .inl t] 28 σ (pI 28 (m_ring σ t) (m_ring σ t 27 t)) := by
  refine ok_mk (by decide) (Nat.le_of_ble_eq_true rfl) (fun K C rt ha hok hfx => ?_)
  show XW LyM TM K 28 σ 0 0 0 [some (.inr 1), some (.inl t), none, none, none] []
  obtain ⟨l1, l2, l3⟩ := hL
  obtain ⟨B, hB⟩ : ∃ B : Nat, σ 1 22 = (B : Int) := ⟨(σ 1 22).toNat, by omega⟩
  have hBt : (σ 1 22).toNat = B := by omega
  have key : ∀ τ : Hp, (∀ a : Int, a ≠ 27 → τ a = σ a) → τ 1 22 = (B : Int) ∧ ∀ u : Int, 0 ≤ u → u ≤ 60 → 0 ≤ τ 22 u ∧ τ 22 u ≤ 99 := fun τ h => ⟨by rw [h 1 (by decide)]; exact hB, fun u a b => by rw [h 22 (by decide)]; exact l3 u a b⟩
  have vloop : ∀ (u rd : Int), 1 ≤ u → u ≤ (B : Int) → ∀ (k : Nat) (v : Int) (τ : Hp), (∀ a : Int, a ≠ 27 → τ a = σ a) → v + k = (B : Int) + 1 → 1 ≤ v → (∀ w : Option AV, XW LyM TM K 28 (m_rv u k v τ) 0 0 104 [some (.inr 1), some (.inl t), some (.inl rd), some (.inl u), w] []) → XW LyM TM K 28 τ 0 0 48 [some (.inr 1), some (.inl t), some (.inl rd), some (.inl u), some (.inl v)] [] := by
    intro u rd hu1 hu2 k
    induction k with
    | zero =>
      intro v τ hf hv hv1 kk
      obtain ⟨e1, e2⟩ := key τ hf
      refine x_iload C d_M_ring_48 rfl ?_
      refine x_aload_n C d_M_ring_50 rfl rfl ?_
      refine x_getI C 22 cf_M fl_M_138 d_M_ring_51 rfl (by decide) rfl rfl (by omega) (by omega) (fun r51 => ?_)
      refine x_icmp_gt (tgt := 104) C d_M_ring_54 rfl (fun h54 => ?_) (fun h54 => ?_)
      · exact kk _
      · exact absurd h54 (by omega)
    | succ k ih =>
      intro v τ hf hv hv1 kk
      obtain ⟨e1, e2⟩ := key τ hf
      have hs : m_rv u (k + 1) v τ = if τ 27 u = 0 then τ else m_rv u k (v + 1) (st2 τ 27 v (if ¬ τ 27 v = 0 ∨ m_waitsFor τ u v = true then 1 else 0)) := rfl
      rw [hs] at kk
      have J97 : ∀ x : Int, ¬ τ 27 u = 0 → x = (if ¬ τ 27 v = 0 ∨ m_waitsFor τ u v = true then 1 else 0) → XW LyM TM K 28 τ 0 0 97 [some (.inr 1), some (.inl t), some (.inl rd), some (.inl u), some (.inl v)] [.inl x, .inl v, .inr 27] := by
        intro x hz hx
        have hx2 : x = 0 ∨ x = 1 := by grind
        rw [if_neg hz, ← hx] at kk
        have ih2 := ih (v + 1) (st2 τ 27 v x) (st2_fr hf _ _) (by omega) (by omega) kk
        refine x_zast C d_M_ring_97 rfl rfl (by omega) (by omega) (by omega) (by omega) (by omega) (by omega) ?_
        refine x_iinc C d_M_ring_98 (by decide) rfl ⟨by omega, by omega⟩ ?_
        refine x_goto (tgt := 48) C d_M_ring_101 rfl ?_
        exact ih2
      refine x_iload C d_M_ring_48 rfl ?_
      refine x_aload_n C d_M_ring_50 rfl rfl ?_
      refine x_getI C 22 cf_M fl_M_138 d_M_ring_51 rfl (by decide) rfl rfl (by omega) (by omega) (fun r51 => ?_)
      refine x_icmp_gt (tgt := 104) C d_M_ring_54 rfl (fun h54 => ?_) (fun h54 => ?_)
      · exact absurd h54 (by omega)
      · refine x_aload_n C d_M_ring_57 rfl rfl ?_
        refine x_getC C 31 27 cf_M fl_M_86 d_M_ring_58 rfl rfl rfl (by omega) (by omega) rfl ?_
        refine x_iload_n C d_M_ring_61 rfl rfl ?_
        refine x_zald C d_M_ring_62 rfl (by omega) (by omega) (by omega) (by omega) (fun r62 => ?_)
        refine x_if_eq (tgt := 104) C d_M_ring_63 rfl (fun h63 => ?_) (fun h63 => ?_)
        · rw [if_pos h63] at kk
          exact kk _
        · refine x_aload_n C d_M_ring_66 rfl rfl ?_
          refine x_getC C 31 27 cf_M fl_M_86 d_M_ring_67 rfl rfl rfl (by omega) (by omega) rfl ?_
          refine x_iload C d_M_ring_70 rfl ?_
          refine x_aload_n C d_M_ring_72 rfl rfl ?_
          refine x_getC C 31 27 cf_M fl_M_86 d_M_ring_73 rfl rfl rfl (by omega) (by omega) rfl ?_
          refine x_iload C d_M_ring_76 rfl ?_
          refine x_zald C d_M_ring_78 rfl (by omega) (by omega) (by omega) (by omega) (fun r78 => ?_)
          refine x_if_ne (tgt := 92) C d_M_ring_79 rfl (fun h79 => ?_) (fun h79 => ?_)
          · refine x_iconst C d_M_ring_92 (by decide) ?_
            refine x_goto (tgt := 97) C d_M_ring_93 rfl ?_
            exact J97 _ h63 (by grind [b2i])
          · refine x_aload_n C d_M_ring_82 rfl rfl ?_
            refine x_iload_n C d_M_ring_83 rfl rfl ?_
            refine x_iload C d_M_ring_84 rfl ?_
            refine x_callV C cl_M_141 cb_M_waitsFor cs_M_waitsFor d_M_ring_86 (c_M_waitsFor (by omega) (by omega) (by omega) (by omega) (e2 u (by omega) (by omega)).1 (e2 u (by omega) (by omega)).2) rfl rfl rfl rfl rfl (by omega) (by omega) (by decide) (by decide) (Nat.le_of_ble_eq_true rfl) (by omega) (by omega) ?_
            rintro _ _ _ ⟨rfl, rfl, rfl⟩ -
            skip
            refine x_if_eq (tgt := 96) C d_M_ring_89 rfl (fun h89 => ?_) (fun h89 => ?_)
            · refine x_iconst C d_M_ring_96 (by decide) ?_
              exact J97 _ h63 (by grind [b2i])
            · refine x_iconst C d_M_ring_92 (by decide) ?_
              refine x_goto (tgt := 97) C d_M_ring_93 rfl ?_
              exact J97 _ h63 (by grind [b2i])
  have uloop : ∀ (rd : Int) (k : Nat) (u : Int) (τ : Hp) (w : Option AV), (∀ a : Int, a ≠ 27 → τ a = σ a) → u + k = (B : Int) + 1 → 1 ≤ u → (∀ a b : Option AV, XW LyM TM K 28 (m_ru B k u τ) 0 0 110 [some (.inr 1), some (.inl t), some (.inl rd), a, b] []) → XW LyM TM K 28 τ 0 0 37 [some (.inr 1), some (.inl t), some (.inl rd), some (.inl u), w] [] := by
    intro rd k
    induction k with
    | zero =>
      intro u τ w hf hu hu1 kk
      obtain ⟨e1, e2⟩ := key τ hf
      refine x_iload_n C d_M_ring_37 rfl rfl ?_
      refine x_aload_n C d_M_ring_38 rfl rfl ?_
      refine x_getI C 22 cf_M fl_M_138 d_M_ring_39 rfl (by decide) rfl rfl (by omega) (by omega) (fun r39 => ?_)
      refine x_icmp_gt (tgt := 110) C d_M_ring_42 rfl (fun h42 => ?_) (fun h42 => ?_)
      · exact kk _ _
      · exact absurd h42 (by omega)
    | succ k ih =>
      intro u τ w hf hu hu1 kk
      obtain ⟨e1, e2⟩ := key τ hf
      have hv := vloop u rd hu1 (by omega) B 1 τ hf (by omega) (by omega) (fun w' => by
        have ih2 := ih (u + 1) (m_rv u B 1 τ) w' (m_rv_fr B 1 τ hf) (by omega) (by omega) kk
        refine x_iinc C d_M_ring_104 (by decide) rfl ⟨by omega, by omega⟩ ?_
        refine x_goto (tgt := 37) C d_M_ring_107 rfl ?_
        exact ih2
        )
      refine x_iload_n C d_M_ring_37 rfl rfl ?_
      refine x_aload_n C d_M_ring_38 rfl rfl ?_
      refine x_getI C 22 cf_M fl_M_138 d_M_ring_39 rfl (by decide) rfl rfl (by omega) (by omega) (fun r39 => ?_)
      refine x_icmp_gt (tgt := 110) C d_M_ring_42 rfl (fun h42 => ?_) (fun h42 => ?_)
      · exact absurd h42 (by omega)
      · refine x_iconst C d_M_ring_45 (by decide) ?_
        refine x_istore C d_M_ring_46 (by decide) ?_
        exact hv
  have rloop : ∀ (k : Nat) (rd : Int) (τ : Hp) (a b : Option AV), (∀ a : Int, a ≠ 27 → τ a = σ a) → rd + k = 4 → 0 ≤ rd → m_rr B k τ = m_ring σ t → XW LyM TM K 28 τ 0 0 30 [some (.inr 1), some (.inl t), some (.inl rd), a, b] [] := by
    intro k
    induction k with
    | zero =>
      intro rd τ a b hf hr hr0 hm
      have hm : τ = m_ring σ t := hm
      refine x_iload_n C d_M_ring_30 rfl rfl ?_
      refine x_iconst C d_M_ring_31 (by decide) ?_
      refine x_icmp_ge (tgt := 116) C d_M_ring_32 rfl (fun h32 => ?_) (fun h32 => ?_)
      · refine x_aload_n C d_M_ring_116 rfl rfl ?_
        refine x_getC C 31 27 cf_M fl_M_86 d_M_ring_117 rfl rfl rfl (by omega) (by omega) rfl ?_
        refine x_iload_n C d_M_ring_120 rfl rfl ?_
        refine x_zald C d_M_ring_121 rfl (by omega) (by omega) (by omega) (by omega) (fun r121 => ?_)
        exact x_zret rt d_M_ring_122 (by omega) (by omega) (by rw [hm]; exact hbt) ⟨by rw [hm], rfl, hm.symm⟩
      · exact absurd h32 (by omega)
    | succ k ih =>
      intro rd τ a b hf hr hr0 hm
      have hu := uloop rd B 1 τ b hf (by omega) (by omega) (fun a' b' => by
        have ih2 := ih (rd + 1) (m_ru B B 1 τ) a' b' (m_ru_fr B 1 τ hf) (by omega) (by omega) hm
        refine x_iinc C d_M_ring_110 (by decide) rfl ⟨by omega, by omega⟩ ?_
        refine x_goto (tgt := 30) C d_M_ring_113 rfl ?_
        exact ih2
        )
      refine x_iload_n C d_M_ring_30 rfl rfl ?_
      refine x_iconst C d_M_ring_31 (by decide) ?_
      refine x_icmp_ge (tgt := 116) C d_M_ring_32 rfl (fun h32 => ?_) (fun h32 => ?_)
      · exact absurd h32 (by omega)
      · refine x_iconst C d_M_ring_35 (by decide) ?_
        refine x_istore_n C d_M_ring_36 rfl (by decide) ?_
        exact hu
  have loop0 : ∀ (k : Nat) (u : Int) (τ : Hp), (∀ a : Int, a ≠ 27 → τ a = σ a) → u + k = (B : Int) + 1 → 1 ≤ u → m_r0 t k u τ = m_r0 t B 1 σ → XW LyM TM K 28 τ 0 0 2 [some (.inr 1), some (.inl t), some (.inl u), none, none] [] := by
    intro k
    induction k with
    | zero =>
      intro u τ hf hu hu1 hm
      obtain ⟨e1, e2⟩ := key τ hf
      have hm : τ = m_r0 t B 1 σ := hm
      have hr := rloop 4 0 τ none none hf (by omega) (by omega) (by rw [hm, m_ring, hBt])
      refine x_iload_n C d_M_ring_2 rfl rfl ?_
      refine x_aload_n C d_M_ring_3 rfl rfl ?_
      refine x_getI C 22 cf_M fl_M_138 d_M_ring_4 rfl (by decide) rfl rfl (by omega) (by omega) (fun r4 => ?_)
      refine x_icmp_gt (tgt := 28) C d_M_ring_7 rfl (fun h7 => ?_) (fun h7 => ?_)
      · refine x_iconst C d_M_ring_28 (by decide) ?_
        refine x_istore_n C d_M_ring_29 rfl (by decide) ?_
        exact hr
      · exact absurd h7 (by omega)
    | succ k ih =>
      intro u τ hf hu hu1 hm
      obtain ⟨e1, e2⟩ := key τ hf
      have hw := b2i_b (m_waitsFor τ t u)
      have ih2 := ih (u + 1) (st2 τ 27 u (b2i (m_waitsFor τ t u))) (st2_fr hf _ _) (by omega) (by omega) hm
      refine x_iload_n C d_M_ring_2 rfl rfl ?_
      refine x_aload_n C d_M_ring_3 rfl rfl ?_
      refine x_getI C 22 cf_M fl_M_138 d_M_ring_4 rfl (by decide) rfl rfl (by omega) (by omega) (fun r4 => ?_)
      refine x_icmp_gt (tgt := 28) C d_M_ring_7 rfl (fun h7 => ?_) (fun h7 => ?_)
      · exact absurd h7 (by omega)
      · refine x_aload_n C d_M_ring_10 rfl rfl ?_
        refine x_getC C 31 27 cf_M fl_M_86 d_M_ring_11 rfl rfl rfl (by omega) (by omega) rfl ?_
        refine x_iload_n C d_M_ring_14 rfl rfl ?_
        refine x_aload_n C d_M_ring_15 rfl rfl ?_
        refine x_iload_n C d_M_ring_16 rfl rfl ?_
        refine x_iload_n C d_M_ring_17 rfl rfl ?_
        refine x_callV C cl_M_141 cb_M_waitsFor cs_M_waitsFor d_M_ring_18 (c_M_waitsFor h0 h1 (by omega) (by omega) (e2 t h0 h1).1 (e2 t h0 h1).2) rfl rfl rfl rfl rfl (by omega) (by omega) (by decide) (by decide) (Nat.le_of_ble_eq_true rfl) (by omega) (by omega) ?_
        rintro _ _ _ ⟨rfl, rfl, rfl⟩ -
        skip
        refine x_zast C d_M_ring_21 rfl rfl (by omega) (by omega) (by omega) (by omega) (by omega) (by omega) ?_
        refine x_iinc C d_M_ring_22 (by decide) rfl ⟨by omega, by omega⟩ ?_
        refine x_goto (tgt := 2) C d_M_ring_25 rfl ?_
        exact ih2
  refine x_iconst C d_M_ring_0 (by decide) ?_
  refine x_istore_n C d_M_ring_1 rfl (by decide) ?_
  exact loop0 B 1 σ (fun _ _ => rfl) (by omega) (by omega) rfl
theorem c_M_firm {σ : Hp} (h0 : 0 ≤ σ 1 1) (h1 : σ 1 1 < 204) (hw : ∀ i : Int, 1 ≤ i → i ≤ σ 1 1 → σ 2 i = 3 → 0 ≤ σ 3 i ∧ σ 3 i ≤ 60) : Ok LyM TM y_M_firm b_M_firm 2 (some .int) 1 0 0 [.inr 1] 28 σ (pI 28 σ (m_firm σ)) := by
  refine ok_mk (by decide) (Nat.le_of_ble_eq_true rfl) (fun K C rt ha hok hfx => ?_)
  show XW LyM TM K 28 σ 0 0 0 [some (.inr 1), none] []
  have hmf : m_firm σ = if srch (fun i => decide (σ 2 i = 3) && decide (σ 19 (σ 3 i) = 3)) 1 (σ 1 1).toNat < 0 then 0 else σ 3 (srch (fun i => decide (σ 2 i = 3) && decide (σ 19 (σ 3 i) = 3)) 1 (σ 1 1).toNat) := rfl
  have loop : ∀ (k : Nat) (x : Int), 1 ≤ x → x + k = σ 1 1 + 1 → srch (fun i => decide (σ 2 i = 3) && decide (σ 19 (σ 3 i) = 3)) x k = srch (fun i => decide (σ 2 i = 3) && decide (σ 19 (σ 3 i) = 3)) 1 (σ 1 1).toNat → XW LyM TM K 28 σ 0 0 2 [some (.inr 1), some (.inl x)] [] := by
    intro k
    induction k with
    | zero =>
      intro x hx hk hm
      refine x_iload_n C d_M_firm_2 rfl rfl ?_
      refine x_aload_n C d_M_firm_3 rfl rfl ?_
      refine x_getI C 1 cf_M fl_M_97 d_M_firm_4 rfl (by decide) rfl rfl (by omega) (by omega) (fun r4 => ?_)
      refine x_icmp_gt (tgt := 48) C d_M_firm_7 rfl (fun h7 => ?_) (fun h7 => ?_)
      · refine x_iconst C d_M_firm_48 (by decide) ?_
        exact x_iret rt d_M_firm_49 (by omega) (by omega) ⟨by rw [hmf, ← hm]; rfl, rfl, rfl⟩
      · exact absurd h7 (by omega)
    | succ k ih =>
      intro x hx hk hm
      have hs : srch (fun i => decide (σ 2 i = 3) && decide (σ 19 (σ 3 i) = 3)) x (k + 1) = if (decide (σ 2 x = 3) && decide (σ 19 (σ 3 x) = 3)) = true then x else srch (fun i => decide (σ 2 i = 3) && decide (σ 19 (σ 3 i) = 3)) (x + 1) k := rfl
      rw [hs] at hm
      refine x_iload_n C d_M_firm_2 rfl rfl ?_
      refine x_aload_n C d_M_firm_3 rfl rfl ?_
      refine x_getI C 1 cf_M fl_M_97 d_M_firm_4 rfl (by decide) rfl rfl (by omega) (by omega) (fun r4 => ?_)
      refine x_icmp_gt (tgt := 48) C d_M_firm_7 rfl (fun h7 => ?_) (fun h7 => ?_)
      · exact absurd h7 (by omega)
      · refine x_aload_n C d_M_firm_10 rfl rfl ?_
        refine x_getC C 2 2 cf_M fl_M_7 d_M_firm_11 rfl rfl rfl (by omega) (by omega) rfl ?_
        refine x_iload_n C d_M_firm_14 rfl rfl ?_
        refine x_iald C d_M_firm_15 rfl (by omega) (by omega) (by omega) (by omega) (fun r15 => ?_)
        refine x_iconst C d_M_firm_16 (by decide) ?_
        refine x_icmp_ne (tgt := 42) C d_M_firm_17 rfl (fun h17 => ?_) (fun h17 => ?_)
        · refine x_iinc C d_M_firm_42 (by decide) rfl ⟨by omega, by omega⟩ ?_
          refine x_goto (tgt := 2) C d_M_firm_45 rfl ?_
          exact ih (x + 1) (by omega) (by omega) (by rw [← hm, if_neg (by simp [*])])
        · refine x_aload_n C d_M_firm_20 rfl rfl ?_
          refine x_getC C 23 19 cf_M fl_M_61 d_M_firm_21 rfl rfl rfl (by omega) (by omega) rfl ?_
          refine x_aload_n C d_M_firm_24 rfl rfl ?_
          refine x_getC C 3 3 cf_M fl_M_13 d_M_firm_25 rfl rfl rfl (by omega) (by omega) rfl ?_
          refine x_iload_n C d_M_firm_28 rfl rfl ?_
          refine x_iald C d_M_firm_29 rfl (by omega) (by omega) (by omega) (by omega) (fun r29 => ?_)
          have hwx := hw x hx (by omega) h17
          refine x_iald C d_M_firm_30 rfl (by omega) (by omega) (by omega) (by omega) (fun r30 => ?_)
          refine x_iconst C d_M_firm_31 (by decide) ?_
          refine x_icmp_ne (tgt := 42) C d_M_firm_32 rfl (fun h32 => ?_) (fun h32 => ?_)
          · refine x_iinc C d_M_firm_42 (by decide) rfl ⟨by omega, by omega⟩ ?_
            refine x_goto (tgt := 2) C d_M_firm_45 rfl ?_
            exact ih (x + 1) (by omega) (by omega) (by rw [← hm, if_neg (by simp [*])])
          · refine x_aload_n C d_M_firm_35 rfl rfl ?_
            refine x_getC C 3 3 cf_M fl_M_13 d_M_firm_36 rfl rfl rfl (by omega) (by omega) rfl ?_
            refine x_iload_n C d_M_firm_39 rfl rfl ?_
            refine x_iald C d_M_firm_40 rfl (by omega) (by omega) (by omega) (by omega) (fun r40 => ?_)
            have hm2 := hm
            rw [if_pos (by simp [h17, h32])] at hm2
            exact x_iret rt d_M_firm_41 (by omega) (by omega) ⟨by rw [hmf, ← hm2, if_neg (by omega)], rfl, rfl⟩
  refine x_iconst C d_M_firm_0 (by decide) ?_
  refine x_istore_n C d_M_firm_1 rfl (by decide) ?_
  exact loop (σ 1 1).toNat 1 (by omega) (by omega) rfl
theorem c_M_firstFit {σ : Hp} (hL : mL σ) : Ok LyM TM y_M_firstFit b_M_firstFit 3 (some .int) 3 0 0 [.inr 1] 28 σ (pI 28 σ (m_firstFit σ)) := by
  refine ok_mk (by decide) (Nat.le_of_ble_eq_true rfl) (fun K C rt ha hok hfx => ?_)
  show XW LyM TM K 28 σ 0 0 0 [some (.inr 1), none, none] []
  obtain ⟨l1, l2, l3⟩ := hL
  have loop : ∀ (q i : Nat), (i : Int) + q = σ 1 22 → XW LyM TM K 28 σ 0 0 4 [some (.inr 1), some (.inl (m_ff σ i)), some (.inl ((i : Int) + 1))] [] := by
    intro q
    induction q with
    | zero =>
      intro i hi
      have e : i = (σ 1 22).toNat := by omega
      refine x_iload_n C d_M_firstFit_4 rfl rfl ?_
      refine x_aload_n C d_M_firstFit_5 rfl rfl ?_
      refine x_getI C 22 cf_M fl_M_138 d_M_firstFit_6 rfl (by decide) rfl rfl (by omega) (by omega) (fun r6 => ?_)
      refine x_icmp_gt (tgt := 57) C d_M_firstFit_9 rfl (fun h9 => ?_) (fun h9 => ?_)
      · refine x_iload_n C d_M_firstFit_57 rfl rfl ?_
        exact x_iret rt d_M_firstFit_58 (by omega) (by omega) ⟨by rw [e]; rfl, rfl, rfl⟩
      · exact absurd h9 (by omega)
    | succ q ih =>
      intro i hi
      have hb := m_ff_le σ i
      have ih2 := ih (i + 1) (by omega)
      have hs : m_ff σ (i + 1) = if σ 19 ((i : Int) + 1) = 2 ∧ (m_ff σ i = 0 ∨ σ 25 ((i : Int) + 1) < σ 25 (m_ff σ i)) ∧ m_fit σ ((i : Int) + 1) = true then (i : Int) + 1 else m_ff σ i := rfl
      rw [hs] at ih2
      generalize m_ff σ i = best at *
      have J51 : ∀ v : Int, v = (if σ 19 ((i : Int) + 1) = 2 ∧ (best = 0 ∨ σ 25 ((i : Int) + 1) < σ 25 best) ∧ m_fit σ ((i : Int) + 1) = true then (i : Int) + 1 else best) → XW LyM TM K 28 σ 0 0 51 [some (.inr 1), some (.inl v), some (.inl ((i : Int) + 1))] [] := by
        intro v hv
        subst hv
        refine x_iinc C d_M_firstFit_51 (by decide) rfl ⟨by omega, by omega⟩ ?_
        refine x_goto (tgt := 4) C d_M_firstFit_54 rfl ?_
        exact ih2
      have l4 := l3 ((i : Int) + 1) (by omega) (by omega)
      refine x_iload_n C d_M_firstFit_4 rfl rfl ?_
      refine x_aload_n C d_M_firstFit_5 rfl rfl ?_
      refine x_getI C 22 cf_M fl_M_138 d_M_firstFit_6 rfl (by decide) rfl rfl (by omega) (by omega) (fun r6 => ?_)
      refine x_icmp_gt (tgt := 57) C d_M_firstFit_9 rfl (fun h9 => ?_) (fun h9 => ?_)
      · exact absurd h9 (by omega)
      · refine x_aload_n C d_M_firstFit_12 rfl rfl ?_
        refine x_getC C 23 19 cf_M fl_M_61 d_M_firstFit_13 rfl rfl rfl (by omega) (by omega) rfl ?_
        refine x_iload_n C d_M_firstFit_16 rfl rfl ?_
        refine x_iald C d_M_firstFit_17 rfl (by omega) (by omega) (by omega) (by omega) (fun r17 => ?_)
        refine x_iconst C d_M_firstFit_18 (by decide) ?_
        refine x_icmp_ne (tgt := 51) C d_M_firstFit_19 rfl (fun h19 => ?_) (fun h19 => ?_)
        · exact J51 _ (by grind [b2i])
        · refine x_iload_n C d_M_firstFit_22 rfl rfl ?_
          refine x_if_eq (tgt := 41) C d_M_firstFit_23 rfl (fun h23 => ?_) (fun h23 => ?_)
          · refine x_aload_n C d_M_firstFit_41 rfl rfl ?_
            refine x_iload_n C d_M_firstFit_42 rfl rfl ?_
            refine x_callV C cl_M_159 cb_M_fit cs_M_fit d_M_firstFit_43 (c_M_fit (by omega) (by omega) l4.1 l4.2 l1 l2) rfl rfl rfl rfl rfl (by omega) (by omega) (by decide) (by decide) (Nat.le_of_ble_eq_true rfl) (by omega) (by omega) ?_
            rintro _ _ _ ⟨rfl, rfl, rfl⟩ -
            skip
            refine x_if_eq (tgt := 51) C d_M_firstFit_46 rfl (fun h46 => ?_) (fun h46 => ?_)
            · exact J51 _ (by grind [b2i])
            · refine x_iload_n C d_M_firstFit_49 rfl rfl ?_
              refine x_istore_n C d_M_firstFit_50 rfl (by decide) ?_
              exact J51 _ (by grind [b2i])
          · refine x_aload_n C d_M_firstFit_26 rfl rfl ?_
            refine x_getC C 29 25 cf_M fl_M_79 d_M_firstFit_27 rfl rfl rfl (by omega) (by omega) rfl ?_
            refine x_iload_n C d_M_firstFit_30 rfl rfl ?_
            refine x_iald C d_M_firstFit_31 rfl (by omega) (by omega) (by omega) (by omega) (fun r31 => ?_)
            refine x_aload_n C d_M_firstFit_32 rfl rfl ?_
            refine x_getC C 29 25 cf_M fl_M_79 d_M_firstFit_33 rfl rfl rfl (by omega) (by omega) rfl ?_
            refine x_iload_n C d_M_firstFit_36 rfl rfl ?_
            refine x_iald C d_M_firstFit_37 rfl (by omega) (by omega) (by omega) (by omega) (fun r37 => ?_)
            refine x_icmp_ge (tgt := 51) C d_M_firstFit_38 rfl (fun h38 => ?_) (fun h38 => ?_)
            · exact J51 _ (by grind [b2i])
            · refine x_aload_n C d_M_firstFit_41 rfl rfl ?_
              refine x_iload_n C d_M_firstFit_42 rfl rfl ?_
              refine x_callV C cl_M_159 cb_M_fit cs_M_fit d_M_firstFit_43 (c_M_fit (by omega) (by omega) l4.1 l4.2 l1 l2) rfl rfl rfl rfl rfl (by omega) (by omega) (by decide) (by decide) (Nat.le_of_ble_eq_true rfl) (by omega) (by omega) ?_
              rintro _ _ _ ⟨rfl, rfl, rfl⟩ -
              skip
              refine x_if_eq (tgt := 51) C d_M_firstFit_46 rfl (fun h46 => ?_) (fun h46 => ?_)
              · exact J51 _ (by grind [b2i])
              · refine x_iload_n C d_M_firstFit_49 rfl rfl ?_
                refine x_istore_n C d_M_firstFit_50 rfl (by decide) ?_
                exact J51 _ (by grind [b2i])
  refine x_iconst C d_M_firstFit_0 (by decide) ?_
  refine x_istore_n C d_M_firstFit_1 rfl (by decide) ?_
  refine x_iconst C d_M_firstFit_2 (by decide) ?_
  refine x_istore_n C d_M_firstFit_3 rfl (by decide) ?_
  exact loop (σ 1 22).toNat 0 (by omega)

theorem c_M_grant {σ : Hp} {t : Int} (h0 : 0 ≤ t) (h1 : t ≤ 60) (hk0 : 0 ≤ σ 22 t) (hk1 : σ 22 t ≤ 99) (hw : σ 23 t = 1 ∨ σ 23 t = 2) (hB : mB σ) (hs0 : 0 ≤ σ 1 0) (hs1 : σ 1 0 < 203) : Ok LyM TM y_M_grant b_M_grant 5 none 3 0 0 [.inr 1, .inl t] 28 σ (pV 28 (m_grant σ t)) := by
  refine ok_mk (by decide) (Nat.le_of_ble_eq_true rfl) (fun K C rt ha hok hfx => ?_)
  show XW LyM TM K 28 σ 0 0 0 [some (.inr 1), some (.inl t), none, none, none] []
  have J45 : ∀ τ : Hp, τ = (if m_lk σ t (σ 22 t) < σ 23 t then st2 σ 26 (100 * t + σ 22 t) (σ 23 t) else σ) → XW LyM TM K 28 τ 0 0 45 [some (.inr 1), some (.inl t), some (.inl (σ 22 t)), none, none] [] := by
    intro τ hτ
    have hg : st2 (st2 τ 19 t 1) 20 t 0 = m_lock σ t := by rw [hτ]; rfl
    have f22 : m_lock σ t 22 = σ 22 := m_lock_fr _ _ (by decide) (by decide) (by decide)
    have f23 : m_lock σ t 23 = σ 23 := m_lock_fr _ _ (by decide) (by decide) (by decide)
    have f1 : m_lock σ t 1 = σ 1 := m_lock_fr _ _ (by decide) (by decide) (by decide)
    have hB1 : mB (m_lock σ t) := by simpa only [mB, f1] using hB
    have hgr : m_grant σ t = if m_lock σ t 23 t = 1 then m_readFor (m_lock σ t) t else m_writeFor (m_lock σ t) t := rfl
    have J59 : XW LyM TM K 28 (m_lock σ t) 0 0 59 [some (.inr 1), some (.inl t), some (.inl (σ 22 t)), none, none] [] := by
      have g0 : m_lock σ t 22 t = σ 22 t := by rw [f22]
      have g1 : m_lock σ t 23 t = σ 23 t := by rw [f23]
      have g2 : m_lock σ t 1 0 = σ 1 0 := by rw [f1]
      generalize hτ1 : m_lock σ t = τ1 at *
      have hx := srch_spec (fun x => decide (m_keyAt τ1 x = σ 22 t)) 24 0
      have hxe : srch (fun x => decide (m_keyAt τ1 x = σ 22 t)) 0 24 = m_find τ1 (σ 22 t) := rfl
      have hrd : m_readFor τ1 t = if 0 ≤ m_find τ1 (σ 22 t) then st2 (m_fetch τ1 (m_find τ1 (σ 22 t) / 4)) 21 t (m_fetch τ1 (m_find τ1 (σ 22 t) / 4) 15 (m_find τ1 (σ 22 t))) else st2 τ1 21 t 0 := by rw [← g0]; rfl
      have htg : m_target τ1 t = if m_find τ1 (σ 22 t) < 0 then m_find τ1 (-1) else m_find τ1 (σ 22 t) := by rw [← g0]; rfl
      have hwr : m_writeFor τ1 t = if m_target τ1 t < 0 ∨ 60 ≤ m_countOf τ1 1 then st2 τ1 20 t 3 else m_upd τ1 t (m_target τ1 t) := rfl
      rw [hxe] at hx
      have hx24 : m_find τ1 (σ 22 t) < 24 := by rcases hx with ⟨a, -⟩ | ⟨-, a, -⟩ <;> omega
      have hxm : -1 ≤ m_find τ1 (σ 22 t) := by rcases hx with ⟨a, -⟩ | ⟨a, -, -⟩ <;> omega
      have hy := srch_spec (fun x => decide (m_keyAt τ1 x = -1)) 24 0
      have hye : srch (fun x => decide (m_keyAt τ1 x = -1)) 0 24 = m_find τ1 (-1) := rfl
      rw [hye] at hy
      have hy24 : m_find τ1 (-1) < 24 := by rcases hy with ⟨a, -⟩ | ⟨-, a, -⟩ <;> omega
      generalize hX : m_find τ1 (σ 22 t) = X at *
      generalize hY : m_find τ1 (-1) = Y at *
      have hu : ∀ x : Int, m_upd τ1 t x = m_apply (st2 (st2 (st2 (st2 (m_put (m_fetch τ1 (x / 4)) 1 t x) 5 (m_fetch τ1 (x / 4) 1 0 + 1) (m_put (m_fetch τ1 (x / 4)) 1 t x 14 x)) 6 (m_fetch τ1 (x / 4) 1 0 + 1) (st2 (m_put (m_fetch τ1 (x / 4)) 1 t x) 5 (m_fetch τ1 (x / 4) 1 0 + 1) (m_put (m_fetch τ1 (x / 4)) 1 t x 14 x) 15 x)) 7 (m_fetch τ1 (x / 4) 1 0 + 1) (σ 22 t)) 8 (m_fetch τ1 (x / 4) 1 0 + 1) (st2 (st2 (st2 (m_put (m_fetch τ1 (x / 4)) 1 t x) 5 (m_fetch τ1 (x / 4) 1 0 + 1) (m_put (m_fetch τ1 (x / 4)) 1 t x 14 x)) 6 (m_fetch τ1 (x / 4) 1 0 + 1) (st2 (m_put (m_fetch τ1 (x / 4)) 1 t x) 5 (m_fetch τ1 (x / 4) 1 0 + 1) (m_put (m_fetch τ1 (x / 4)) 1 t x 14 x) 15 x)) 7 (m_fetch τ1 (x / 4) 1 0 + 1) (σ 22 t) 24 t)) (m_fetch τ1 (x / 4) 1 0 + 1) := by
        intro x
        simp only [m_upd, m_put_0, g0]
      have hsz : ∀ x : Int, m_fetch τ1 (x / 4) 1 0 = σ 1 0 := fun x => by rw [m_fetch_1 _ _ (by decide) (by decide) (by decide) (by decide)]; exact g2
      have J120 : ∀ z : Int, ¬ τ1 23 t = 1 → z = (if X < 0 then Y else X) → XW LyM TM K 28 τ1 0 0 120 [some (.inr 1), some (.inl t), some (.inl (σ 22 t)), some (.inl X), none] [.inl z] := by
        intro z hn1 hz
        rw [if_neg hn1, hwr, htg, ← hz] at hgr
        have hz24 : z < 24 := by rw [hz]; split <;> omega
        have hs3 := hsz z
        refine x_istore_n C d_M_grant_120 rfl (by decide) ?_
        refine x_iload_n C d_M_grant_121 rfl rfl ?_
        refine x_if_lt (tgt := 135) C d_M_grant_122 rfl (fun h122 => ?_) (fun h122 => ?_)
        · refine x_aload_n C d_M_grant_135 rfl rfl ?_
          refine x_getC C 24 20 cf_M fl_M_64 d_M_grant_136 rfl rfl rfl (by omega) (by omega) rfl ?_
          refine x_iload_n C d_M_grant_139 rfl rfl ?_
          refine x_iconst C d_M_grant_140 (by decide) ?_
          refine x_iast C d_M_grant_141 rfl rfl (by omega) (by omega) (by omega) (by omega) ?_
          exact x_vret rt d_M_grant_142 (by omega) (by omega) ⟨rfl, rfl, by rw [hgr]; first | exact (if_pos (by omega)).trans rfl | exact (if_neg (by omega)).trans (hu z)⟩
        · refine x_aload_n C d_M_grant_125 rfl rfl ?_
          refine x_iconst C d_M_grant_126 (by decide) ?_
          refine x_callV C cl_M_147 cb_M_countOf cs_M_countOf d_M_grant_127 (c_M_countOf (by omega) (by omega)) rfl rfl rfl rfl rfl (by omega) (by omega) (by decide) (by decide) (Nat.le_of_ble_eq_true rfl) (by omega) (by omega) ?_
          rintro _ _ _ ⟨rfl, rfl, rfl⟩ -
          skip
          refine x_bipush C d_M_grant_130 (by decide) (by decide) ?_
          refine x_icmp_lt (tgt := 143) C d_M_grant_132 rfl (fun h132 => ?_) (fun h132 => ?_)
          · refine x_aload_n C d_M_grant_143 rfl rfl ?_
            refine x_iload_n C d_M_grant_144 rfl rfl ?_
            refine x_iconst C d_M_grant_145 (by decide) ?_
            refine x_idiv C d_M_grant_146 (by omega) (by decide) ?_
            refine x_callV C cl_M_121 cb_M_fetch cs_M_fetch d_M_grant_147 (c_M_fetch (by omega) (by omega) hB1) rfl rfl rfl rfl rfl (by omega) (by omega) (by decide) (by decide) (Nat.le_of_ble_eq_true rfl) (by omega) (by omega) ?_
            rintro _ _ _ ⟨rfl, rfl, rfl⟩ -
            skip
            refine x_aload_n C d_M_grant_150 rfl rfl ?_
            refine x_iconst C d_M_grant_151 (by decide) ?_
            refine x_iload_n C d_M_grant_152 rfl rfl ?_
            refine x_iload_n C d_M_grant_153 rfl rfl ?_
            refine x_callV C cl_M_124 cb_M_put cs_M_put d_M_grant_154 (c_M_put (by omega) (by omega)) rfl rfl rfl rfl rfl (by omega) (by omega) (by decide) (by decide) (Nat.le_of_ble_eq_true rfl) (by omega) (by omega) ?_
            rintro _ _ _ ⟨rfl, rfl, rfl⟩ -
            skip
            refine x_istore C d_M_grant_157 (by decide) ?_
            refine x_aload_n C d_M_grant_159 rfl rfl ?_
            refine x_getC C 5 5 cf_M fl_M_19 d_M_grant_160 rfl rfl rfl (by omega) (by omega) rfl ?_
            refine x_iload C d_M_grant_163 rfl ?_
            refine x_aload_n C d_M_grant_165 rfl rfl ?_
            refine x_getC C 14 14 cf_M fl_M_46 d_M_grant_166 rfl rfl rfl (by omega) (by omega) rfl ?_
            refine x_iload_n C d_M_grant_169 rfl rfl ?_
            refine x_iald C d_M_grant_170 rfl (by omega) (by omega) (by omega) (by omega) (fun r170 => ?_)
            refine x_iast C d_M_grant_171 rfl rfl (by omega) (by omega) (by omega) (by omega) ?_
            refine x_aload_n C d_M_grant_172 rfl rfl ?_
            refine x_getC C 6 6 cf_M fl_M_22 d_M_grant_173 rfl rfl rfl (by omega) (by omega) rfl ?_
            refine x_iload C d_M_grant_176 rfl ?_
            refine x_aload_n C d_M_grant_178 rfl rfl ?_
            refine x_getC C 15 15 cf_M fl_M_49 d_M_grant_179 rfl rfl rfl (by omega) (by omega) rfl ?_
            refine x_iload_n C d_M_grant_182 rfl rfl ?_
            refine x_iald C d_M_grant_183 rfl (by omega) (by omega) (by omega) (by omega) (fun r183 => ?_)
            refine x_iast C d_M_grant_184 rfl rfl (by omega) (by omega) (by omega) (by omega) ?_
            refine x_aload_n C d_M_grant_185 rfl rfl ?_
            refine x_getC C 7 7 cf_M fl_M_25 d_M_grant_186 rfl rfl rfl (by omega) (by omega) rfl ?_
            refine x_iload C d_M_grant_189 rfl ?_
            refine x_iload_n C d_M_grant_191 rfl rfl ?_
            refine x_iast C d_M_grant_192 rfl rfl (by omega) (by omega) (by omega) (by omega) ?_
            refine x_aload_n C d_M_grant_193 rfl rfl ?_
            refine x_getC C 8 8 cf_M fl_M_28 d_M_grant_194 rfl rfl rfl (by omega) (by omega) rfl ?_
            refine x_iload C d_M_grant_197 rfl ?_
            refine x_aload_n C d_M_grant_199 rfl rfl ?_
            refine x_getC C 28 24 cf_M fl_M_76 d_M_grant_200 rfl rfl rfl (by omega) (by omega) rfl ?_
            refine x_iload_n C d_M_grant_203 rfl rfl ?_
            refine x_iald C d_M_grant_204 rfl (by omega) (by omega) (by omega) (by omega) (fun r204 => ?_)
            refine x_iast C d_M_grant_205 rfl rfl (by omega) (by omega) (by omega) (by omega) ?_
            refine x_aload_n C d_M_grant_206 rfl rfl ?_
            refine x_iload C d_M_grant_207 rfl ?_
            refine x_callV C cl_M_128 cb_M_apply cs_M_apply d_M_grant_209 (c_M_apply (by omega) (by omega) (by simp [st2, m_put_4]; omega) (by simp [st2, m_put_4]; omega)) rfl rfl rfl rfl rfl (by omega) (by omega) (by decide) (by decide) (Nat.le_of_ble_eq_true rfl) (by omega) (by omega) ?_
            rintro _ _ _ ⟨rfl, rfl, rfl⟩ -
            skip
            exact x_vret rt d_M_grant_212 (by omega) (by omega) ⟨rfl, rfl, by rw [hgr]; first | exact (if_pos (by omega)).trans rfl | exact (if_neg (by omega)).trans (hu z)⟩
          · refine x_aload_n C d_M_grant_135 rfl rfl ?_
            refine x_getC C 24 20 cf_M fl_M_64 d_M_grant_136 rfl rfl rfl (by omega) (by omega) rfl ?_
            refine x_iload_n C d_M_grant_139 rfl rfl ?_
            refine x_iconst C d_M_grant_140 (by decide) ?_
            refine x_iast C d_M_grant_141 rfl rfl (by omega) (by omega) (by omega) (by omega) ?_
            exact x_vret rt d_M_grant_142 (by omega) (by omega) ⟨rfl, rfl, by rw [hgr]; first | exact (if_pos (by omega)).trans rfl | exact (if_neg (by omega)).trans (hu z)⟩
      have J105 : ∀ (τ : Hp) (v : Int), τ1 23 t = 1 → st2 τ 21 t v = m_readFor τ1 t → XW LyM TM K 28 τ 0 0 105 [some (.inr 1), some (.inl t), some (.inl (σ 22 t)), some (.inl X), none] [.inl v, .inl t, .inr 21] := by
        intro τ v h1 hτv
        rw [if_pos h1, ← hτv] at hgr
        refine x_iast C d_M_grant_105 rfl rfl (by omega) (by omega) (by omega) (by omega) ?_
        exact x_vret rt d_M_grant_106 (by omega) (by omega) ⟨rfl, rfl, hgr⟩
      refine x_aload_n C d_M_grant_59 rfl rfl ?_
      refine x_iload_n C d_M_grant_60 rfl rfl ?_
      refine x_callV C cl_M_144 cb_M_find cs_M_find d_M_grant_61 (c_M_find) rfl rfl rfl rfl rfl (by omega) (by omega) (by decide) (by decide) (Nat.le_of_ble_eq_true rfl) (by omega) (by omega) ?_
      rintro _ _ _ ⟨rfl, rfl, rfl⟩ -
      skip
      rw [hX]
      refine x_istore_n C d_M_grant_64 rfl (by decide) ?_
      refine x_aload_n C d_M_grant_65 rfl rfl ?_
      refine x_getC C 27 23 cf_M fl_M_73 d_M_grant_66 rfl rfl rfl (by omega) (by omega) rfl ?_
      refine x_iload_n C d_M_grant_69 rfl rfl ?_
      refine x_iald C d_M_grant_70 rfl (by omega) (by omega) (by omega) (by omega) (fun r70 => ?_)
      refine x_iconst C d_M_grant_71 (by decide) ?_
      refine x_icmp_ne (tgt := 107) C d_M_grant_72 rfl (fun h72 => ?_) (fun h72 => ?_)
      · refine x_iload_n C d_M_grant_107 rfl rfl ?_
        refine x_if_ge (tgt := 119) C d_M_grant_108 rfl (fun h108 => ?_) (fun h108 => ?_)
        · refine x_iload_n C d_M_grant_119 rfl rfl ?_
          exact J120 _ h72 (by first | exact (if_pos (by omega)).symm | exact (if_neg (by omega)).symm)
        · refine x_aload_n C d_M_grant_111 rfl rfl ?_
          refine x_iconst C d_M_grant_112 (by decide) ?_
          refine x_callV C cl_M_144 cb_M_find cs_M_find d_M_grant_113 (c_M_find) rfl rfl rfl rfl rfl (by omega) (by omega) (by decide) (by decide) (Nat.le_of_ble_eq_true rfl) (by omega) (by omega) ?_
          rintro _ _ _ ⟨rfl, rfl, rfl⟩ -
          skip
          rw [hY]
          refine x_goto (tgt := 120) C d_M_grant_116 rfl ?_
          exact J120 _ h72 (by first | exact (if_pos (by omega)).symm | exact (if_neg (by omega)).symm)
      · refine x_iload_n C d_M_grant_75 rfl rfl ?_
        refine x_if_lt (tgt := 86) C d_M_grant_76 rfl (fun h76 => ?_) (fun h76 => ?_)
        · refine x_aload_n C d_M_grant_86 rfl rfl ?_
          refine x_getC C 25 21 cf_M fl_M_67 d_M_grant_87 rfl rfl rfl (by omega) (by omega) rfl ?_
          refine x_iload_n C d_M_grant_90 rfl rfl ?_
          refine x_iload_n C d_M_grant_91 rfl rfl ?_
          refine x_if_lt (tgt := 104) C d_M_grant_92 rfl (fun h92 => ?_) (fun h92 => ?_)
          · refine x_iconst C d_M_grant_104 (by decide) ?_
            first | exact absurd h92 (by omega) | exact J105 _ _ h72 (by rw [hrd]; first | exact (if_pos (by omega)).symm | exact (if_neg (by omega)).symm)
          · refine x_aload_n C d_M_grant_95 rfl rfl ?_
            refine x_getC C 15 15 cf_M fl_M_49 d_M_grant_96 rfl rfl rfl (by omega) (by omega) rfl ?_
            refine x_iload_n C d_M_grant_99 rfl rfl ?_
            refine x_iald C d_M_grant_100 rfl (by omega) (by omega) (by omega) (by omega) (fun r100 => ?_)
            refine x_goto (tgt := 105) C d_M_grant_101 rfl ?_
            first | exact absurd h92 (by omega) | exact J105 _ _ h72 (by rw [hrd]; first | exact (if_pos (by omega)).symm | exact (if_neg (by omega)).symm)
        · refine x_aload_n C d_M_grant_79 rfl rfl ?_
          refine x_iload_n C d_M_grant_80 rfl rfl ?_
          refine x_iconst C d_M_grant_81 (by decide) ?_
          refine x_idiv C d_M_grant_82 (by omega) (by decide) ?_
          refine x_callV C cl_M_121 cb_M_fetch cs_M_fetch d_M_grant_83 (c_M_fetch (by omega) (by omega) hB1) rfl rfl rfl rfl rfl (by omega) (by omega) (by decide) (by decide) (Nat.le_of_ble_eq_true rfl) (by omega) (by omega) ?_
          rintro _ _ _ ⟨rfl, rfl, rfl⟩ -
          skip
          refine x_aload_n C d_M_grant_86 rfl rfl ?_
          refine x_getC C 25 21 cf_M fl_M_67 d_M_grant_87 rfl rfl rfl (by omega) (by omega) rfl ?_
          refine x_iload_n C d_M_grant_90 rfl rfl ?_
          refine x_iload_n C d_M_grant_91 rfl rfl ?_
          refine x_if_lt (tgt := 104) C d_M_grant_92 rfl (fun h92 => ?_) (fun h92 => ?_)
          · refine x_iconst C d_M_grant_104 (by decide) ?_
            first | exact absurd h92 (by omega) | exact J105 _ _ h72 (by rw [hrd]; first | exact (if_pos (by omega)).symm | exact (if_neg (by omega)).symm)
          · refine x_aload_n C d_M_grant_95 rfl rfl ?_
            refine x_getC C 15 15 cf_M fl_M_49 d_M_grant_96 rfl rfl rfl (by omega) (by omega) rfl ?_
            refine x_iload_n C d_M_grant_99 rfl rfl ?_
            refine x_iald C d_M_grant_100 rfl (by omega) (by omega) (by omega) (by omega) (fun r100 => ?_)
            refine x_goto (tgt := 105) C d_M_grant_101 rfl ?_
            first | exact absurd h92 (by omega) | exact J105 _ _ h72 (by rw [hrd]; first | exact (if_pos (by omega)).symm | exact (if_neg (by omega)).symm)
    rw [← hg] at J59
    refine x_aload_n C d_M_grant_45 rfl rfl ?_
    refine x_getC C 23 19 cf_M fl_M_61 d_M_grant_46 rfl rfl rfl (by omega) (by omega) rfl ?_
    refine x_iload_n C d_M_grant_49 rfl rfl ?_
    refine x_iconst C d_M_grant_50 (by decide) ?_
    refine x_iast C d_M_grant_51 rfl rfl (by omega) (by omega) (by omega) (by omega) ?_
    refine x_aload_n C d_M_grant_52 rfl rfl ?_
    refine x_getC C 24 20 cf_M fl_M_64 d_M_grant_53 rfl rfl rfl (by omega) (by omega) rfl ?_
    refine x_iload_n C d_M_grant_56 rfl rfl ?_
    refine x_iconst C d_M_grant_57 (by decide) ?_
    refine x_iast C d_M_grant_58 rfl rfl (by omega) (by omega) (by omega) (by omega) ?_
    exact J59
  refine x_aload_n C d_M_grant_0 rfl rfl ?_
  refine x_getC C 26 22 cf_M fl_M_70 d_M_grant_1 rfl rfl rfl (by omega) (by omega) rfl ?_
  refine x_iload_n C d_M_grant_4 rfl rfl ?_
  refine x_iald C d_M_grant_5 rfl (by omega) (by omega) (by omega) (by omega) (fun r5 => ?_)
  refine x_istore_n C d_M_grant_6 rfl (by decide) ?_
  refine x_aload_n C d_M_grant_7 rfl rfl ?_
  refine x_getC C 30 26 cf_M fl_M_82 d_M_grant_8 rfl rfl rfl (by omega) (by omega) rfl ?_
  refine x_bipush C d_M_grant_11 (by decide) (by decide) ?_
  refine x_iload_n C d_M_grant_13 rfl rfl ?_
  refine x_imul C d_M_grant_14 ⟨by omega, by omega⟩ ?_
  refine x_iload_n C d_M_grant_15 rfl rfl ?_
  refine x_iadd C d_M_grant_16 ⟨by omega, by omega⟩ ?_
  refine x_bald C d_M_grant_17 rfl (by omega) (by omega) (by omega) (by omega) (fun r17 => ?_)
  refine x_aload_n C d_M_grant_18 rfl rfl ?_
  refine x_getC C 27 23 cf_M fl_M_73 d_M_grant_19 rfl rfl rfl (by omega) (by omega) rfl ?_
  refine x_iload_n C d_M_grant_22 rfl rfl ?_
  refine x_iald C d_M_grant_23 rfl (by omega) (by omega) (by omega) (by omega) (fun r23 => ?_)
  refine x_icmp_ge (tgt := 45) C d_M_grant_24 rfl (fun h24 => ?_) (fun h24 => ?_)
  · exact J45 _ (by grind [m_lk])
  · refine x_aload_n C d_M_grant_27 rfl rfl ?_
    refine x_getC C 30 26 cf_M fl_M_82 d_M_grant_28 rfl rfl rfl (by omega) (by omega) rfl ?_
    refine x_bipush C d_M_grant_31 (by decide) (by decide) ?_
    refine x_iload_n C d_M_grant_33 rfl rfl ?_
    refine x_imul C d_M_grant_34 ⟨by omega, by omega⟩ ?_
    refine x_iload_n C d_M_grant_35 rfl rfl ?_
    refine x_iadd C d_M_grant_36 ⟨by omega, by omega⟩ ?_
    refine x_aload_n C d_M_grant_37 rfl rfl ?_
    refine x_getC C 27 23 cf_M fl_M_73 d_M_grant_38 rfl rfl rfl (by omega) (by omega) rfl ?_
    refine x_iload_n C d_M_grant_41 rfl rfl ?_
    refine x_iald C d_M_grant_42 rfl (by omega) (by omega) (by omega) (by omega) (fun r42 => ?_)
    refine x_i2b C d_M_grant_43 (by omega) (by omega) ?_
    refine x_bast C d_M_grant_44 rfl rfl (by omega) (by omega) (by omega) (by omega) (by omega) (by omega) ?_
    exact J45 _ (by grind [m_lk])
end
section
-- ===== the reference: aborting, settling, calls that look, begin =====
theorem c_M_drop {σ : Hp} {t : Int} (P : Nat → Hp → Prop) (h0 : 0 ≤ t) (h1 : t ≤ 60) (hP : P 0 σ) (hs : ∀ (k : Nat) (τ : Hp), P k τ → 0 < m_open τ t → P (k + 1) (m_takeBack τ (m_open τ t)))
    (hb : ∀ (k : Nat) (τ : Hp), P k τ → mB τ ∧ 0 ≤ τ 1 0 ∧ τ 1 0 < 203 ∧ (0 < m_open τ t → 0 ≤ τ 4 (m_open τ t) ∧ τ 4 (m_open τ t) < 24)) : Ok LyM TM y_M_drop b_M_drop 3 none 4 0 0 [.inr 1, .inl t] 28 σ (pV 28 (m_drop σ t)) := by
  refine ok_mk (by decide) (Nat.le_of_ble_eq_true rfl) (fun K C rt ha hok hfx => ?_)
  show XW LyM TM K 28 σ 0 0 0 [some (.inr 1), some (.inl t), none] []
  have J31 : ∀ (τ : Hp) (w : Option AV), τ = m_dropL σ t 60 → XW LyM TM K 28 τ 0 0 31 [some (.inr 1), some (.inl t), w] [] := by
    intro τ w hτ
    refine x_aload_n C d_M_drop_31 rfl rfl ?_
    refine x_getC C 23 19 cf_M fl_M_61 d_M_drop_32 rfl rfl rfl (by omega) (by omega) rfl ?_
    refine x_iload_n C d_M_drop_35 rfl rfl ?_
    refine x_iconst C d_M_drop_36 (by decide) ?_
    refine x_iast C d_M_drop_37 rfl rfl (by omega) (by omega) (by omega) (by omega) ?_
    refine x_aload_n C d_M_drop_38 rfl rfl ?_
    refine x_iload_n C d_M_drop_39 rfl rfl ?_
    refine x_callV C cl_M_156 cb_M_unlock cs_M_unlock d_M_drop_40 (c_M_unlock h0 h1) rfl rfl rfl rfl rfl (by omega) (by omega) (by decide) (by decide) (Nat.le_of_ble_eq_true rfl) (by omega) (by omega) ?_
    rintro _ _ _ ⟨rfl, rfl, rfl⟩ -
    skip
    exact x_vret rt d_M_drop_43 (by omega) (by omega) ⟨rfl, rfl, by rw [hτ]; rfl⟩
  have loop : ∀ (q k : Nat) (τ : Hp), k + q = 60 → P k τ → m_dropL τ t q = m_dropL σ t 60 → XW LyM TM K 28 τ 0 0 2 [some (.inr 1), some (.inl t), some (.inl (k : Int))] [] := by
    intro q
    induction q with
    | zero =>
      intro k τ hk hp hm
      obtain ⟨b1, b2, b3, b4⟩ := hb k τ hp
      refine x_iload_n C d_M_drop_2 rfl rfl ?_
      refine x_bipush C d_M_drop_3 (by decide) (by decide) ?_
      refine x_icmp_ge (tgt := 31) C d_M_drop_5 rfl (fun h5 => ?_) (fun h5 => ?_)
      · exact J31 _ _ hm
      · exact absurd h5 (by omega)
    | succ q ih =>
      intro k τ hk hp hm
      obtain ⟨b1, b2, b3, b4⟩ := hb k τ hp
      have hol := m_open_le τ t b2
      have hm2 : m_dropL τ t (q + 1) = if 0 < m_open τ t then m_dropL (m_takeBack τ (m_open τ t)) t q else τ := rfl
      rw [hm2] at hm
      refine x_iload_n C d_M_drop_2 rfl rfl ?_
      refine x_bipush C d_M_drop_3 (by decide) (by decide) ?_
      refine x_icmp_ge (tgt := 31) C d_M_drop_5 rfl (fun h5 => ?_) (fun h5 => ?_)
      · exact absurd h5 (by omega)
      · refine x_aload_n C d_M_drop_8 rfl rfl ?_
        refine x_iload_n C d_M_drop_9 rfl rfl ?_
        refine x_callV C cl_M_150 cb_M_open cs_M_open d_M_drop_10 (c_M_open b2 (by omega)) rfl rfl rfl rfl rfl (by omega) (by omega) (by decide) (by decide) (Nat.le_of_ble_eq_true rfl) (by omega) (by omega) ?_
        rintro _ _ _ ⟨rfl, rfl, rfl⟩ -
        skip
        refine x_if_le (tgt := 31) C d_M_drop_13 rfl (fun h13 => ?_) (fun h13 => ?_)
        · exact J31 _ _ (by rw [← hm, if_neg (by omega)])
        · refine x_aload_n C d_M_drop_16 rfl rfl ?_
          refine x_aload_n C d_M_drop_17 rfl rfl ?_
          refine x_iload_n C d_M_drop_18 rfl rfl ?_
          refine x_callV C cl_M_150 cb_M_open cs_M_open d_M_drop_19 (c_M_open b2 (by omega)) rfl rfl rfl rfl rfl (by omega) (by omega) (by decide) (by decide) (Nat.le_of_ble_eq_true rfl) (by omega) (by omega) ?_
          rintro _ _ _ ⟨rfl, rfl, rfl⟩ -
          skip
          refine x_callV C cl_M_153 cb_M_takeBack cs_M_takeBack d_M_drop_22 (c_M_takeBack hol.1 (by omega) (b4 h13).1 (b4 h13).2 b1 b2 b3) rfl rfl rfl rfl rfl (by omega) (by omega) (by decide) (by decide) (Nat.le_of_ble_eq_true rfl) (by omega) (by omega) ?_
          rintro _ _ _ ⟨rfl, rfl, rfl⟩ -
          skip
          refine x_iinc C d_M_drop_25 (by decide) rfl ⟨by omega, by omega⟩ ?_
          refine x_goto (tgt := 2) C d_M_drop_28 rfl ?_
          exact ih (k + 1) _ (by omega) (hs k τ hp h13) (by rw [← hm, if_pos h13])
  refine x_iconst C d_M_drop_0 (by decide) ?_
  refine x_istore_n C d_M_drop_1 rfl (by decide) ?_
  exact loop 60 0 σ (by omega) hP rfl
theorem c_M_settle {σ : Hp} (P : Nat → Hp → Prop) (hP : P 0 σ) (hs1 : ∀ (k : Nat) (τ : Hp), P k τ → 0 < m_firm τ → P (k + 1) (m_unlock (st2 τ 19 (m_firm τ) 4) (m_firm τ) 100)) (hs2 : ∀ (k : Nat) (τ : Hp), P k τ → ¬ 0 < m_firm τ → 0 < m_firstFit τ → P (k + 1) (m_grant τ (m_firstFit τ)))
    (hb : ∀ (k : Nat) (τ : Hp), P k τ → mL τ ∧ mB τ ∧ (0 ≤ τ 1 1 ∧ τ 1 1 < 204) ∧ (0 ≤ τ 1 0 ∧ τ 1 0 < 203) ∧ (∀ i : Int, 1 ≤ i → i ≤ τ 1 1 → τ 2 i = 3 → 0 ≤ τ 3 i ∧ τ 3 i ≤ 60) ∧ (0 < m_firstFit τ → τ 23 (m_firstFit τ) = 1 ∨ τ 23 (m_firstFit τ) = 2)) : Ok LyM TM y_M_settle b_M_settle 5 none 4 0 0 [.inr 1] 28 σ (pV 28 (m_settle σ)) := by
  refine ok_mk (by decide) (Nat.le_of_ble_eq_true rfl) (fun K C rt ha hok hfx => ?_)
  show XW LyM TM K 28 σ 0 0 0 [some (.inr 1), none, none, none, none] []
  have loop : ∀ (q k : Nat) (τ : Hp) (a b : Option AV), k + q = 1000 → P k τ → m_settleL τ q = m_settle σ → XW LyM TM K 28 τ 0 0 4 [some (.inr 1), some (.inl 1), some (.inl (k : Int)), a, b] [] := by
    intro q
    induction q with
    | zero =>
      intro k τ a b hk hp hm
      refine x_iload_n C d_M_settle_4 rfl rfl ?_
      refine x_sipush C d_M_settle_5 (by decide) (by decide) ?_
      refine x_icmp_ge (tgt := 80) C d_M_settle_8 rfl (fun h8 => ?_) (fun h8 => ?_)
      · exact x_vret rt d_M_settle_80 (by omega) (by omega) ⟨rfl, rfl, hm.symm⟩
      · exact absurd h8 (by omega)
    | succ q ih =>
      intro k τ a b hk hp hm
      obtain ⟨b1, b2, b3, b4, b5, b6⟩ := hb k τ hp
      have hm2 : m_settleL τ (q + 1) = if 0 < m_firm τ then m_settleL (m_unlock (st2 τ 19 (m_firm τ) 4) (m_firm τ) 100) q else if 0 < m_firstFit τ then m_settleL (m_grant τ (m_firstFit τ)) q else τ := rfl
      rw [hm2] at hm
      have hF := hs1 k τ hp
      have hG := hs2 k τ hp
      have hfr : 0 ≤ m_firm τ ∧ m_firm τ ≤ 60 := by
        have h := srch_spec (fun i => decide (τ 2 i = 3) && decide (τ 19 (τ 3 i) = 3)) (τ 1 1).toNat 1
        simp only [m_firm]
        generalize srch (fun i => decide (τ 2 i = 3) && decide (τ 19 (τ 3 i) = 3)) 1 (τ 1 1).toNat = i at h
        rcases h with ⟨a1, -⟩ | ⟨a1, a2, a3, -⟩
        · rw [if_pos (by omega)]; omega
        · rw [if_neg (by omega)]
          simp only [Bool.and_eq_true, decide_eq_true_eq] at a3
          exact b5 i a1 (by omega) a3.1
      have hff : 0 ≤ m_firstFit τ ∧ m_firstFit τ ≤ 60 := by
        have := m_ff_le τ (τ 1 22).toNat
        have e : m_firstFit τ = m_ff τ (τ 1 22).toNat := rfl
        have := b1.1
        have := b1.2.1
        rw [e]; omega
      have hkk : 0 < m_firstFit τ → 0 ≤ τ 22 (m_firstFit τ) ∧ τ 22 (m_firstFit τ) ≤ 99 := fun _ => b1.2.2 _ hff.1 hff.2
      generalize hf : m_firm τ = f at *
      generalize hu : m_firstFit τ = u at *
      have J73 : ∀ (τ' : Hp) (u' : Int), (0 < f ∧ u' = 0 ∧ τ' = m_unlock (st2 τ 19 f 4) f 100) ∨ (¬ 0 < f ∧ u' = u ∧ 0 < u ∧ τ' = m_grant τ u) → XW LyM TM K 28 τ' 0 0 73 [some (.inr 1), some (.inl 1), some (.inl (k : Int)), some (.inl f), some (.inl u')] [.inl 1] := by
        intro τ' u' hc
        have ih2 := ih (k + 1) τ' (some (.inl f)) (some (.inl u')) (by omega) (by
          rcases hc with ⟨c1, -, c2⟩ | ⟨c1, -, c2, c3⟩
          · rw [c2]; exact hF c1
          · rw [c3]; exact hG c1 c2) (by
          rcases hc with ⟨c1, -, c2⟩ | ⟨c1, -, c2, c3⟩
          · rw [c2, ← hm, if_pos c1]
          · rw [c3, ← hm, if_neg c1, if_pos c2])
        refine x_istore_n C d_M_settle_73 rfl (by decide) ?_
        refine x_iinc C d_M_settle_74 (by decide) rfl ⟨by omega, by omega⟩ ?_
        refine x_goto (tgt := 4) C d_M_settle_77 rfl ?_
        exact ih2
      have J80 : ∀ u' : Int, ¬ 0 < f → ¬ 0 < u → XW LyM TM K 28 τ 0 0 73 [some (.inr 1), some (.inl 1), some (.inl (k : Int)), some (.inl f), some (.inl u')] [.inl 0] := by
        intro u' n1 n2
        rw [if_neg n1, if_neg n2] at hm
        refine x_istore_n C d_M_settle_73 rfl (by decide) ?_
        refine x_iinc C d_M_settle_74 (by decide) rfl ⟨by omega, by omega⟩ ?_
        refine x_goto (tgt := 4) C d_M_settle_77 rfl ?_
        refine x_iload_n C d_M_settle_4 rfl rfl ?_
        refine x_sipush C d_M_settle_5 (by decide) (by decide) ?_
        refine x_icmp_ge (tgt := 80) C d_M_settle_8 rfl (fun h8 => ?_) (fun h8 => ?_)
        · exact x_vret rt d_M_settle_80 (by omega) (by omega) ⟨rfl, rfl, hm.symm⟩
        · refine x_iload_n C d_M_settle_11 rfl rfl ?_
          refine x_if_eq (tgt := 80) C d_M_settle_12 rfl (fun h12 => ?_) (fun h12 => ?_)
          · exact x_vret rt d_M_settle_80 (by omega) (by omega) ⟨rfl, rfl, hm.symm⟩
          · exact absurd rfl h12
      have J32 : ∀ u' : Int, u' = (if 0 < f then 0 else u) → XW LyM TM K 28 τ 0 0 32 [some (.inr 1), some (.inl 1), some (.inl (k : Int)), some (.inl f), b] [.inl u'] := by
        intro u' hu'
        by_cases hf0 : 0 < f
        · rw [if_pos hf0] at hu'
          subst hu'
          refine x_istore C d_M_settle_32 (by decide) ?_
          refine x_iload_n C d_M_settle_34 rfl rfl ?_
          refine x_if_le (tgt := 50) C d_M_settle_35 rfl (fun h35 => ?_) (fun h35 => ?_)
          · exact absurd h35 (by omega)
          · refine x_aload_n C d_M_settle_38 rfl rfl ?_
            refine x_getC C 23 19 cf_M fl_M_61 d_M_settle_39 rfl rfl rfl (by omega) (by omega) rfl ?_
            refine x_iload_n C d_M_settle_42 rfl rfl ?_
            refine x_iconst C d_M_settle_43 (by decide) ?_
            refine x_iast C d_M_settle_44 rfl rfl (by omega) (by omega) (by omega) (by omega) ?_
            refine x_aload_n C d_M_settle_45 rfl rfl ?_
            refine x_iload_n C d_M_settle_46 rfl rfl ?_
            refine x_callV C cl_M_156 cb_M_unlock cs_M_unlock d_M_settle_47 (c_M_unlock hfr.1 hfr.2) rfl rfl rfl rfl rfl (by omega) (by omega) (by decide) (by decide) (Nat.le_of_ble_eq_true rfl) (by omega) (by omega) ?_
            rintro _ _ _ ⟨rfl, rfl, rfl⟩ -
            skip
            refine x_iload C d_M_settle_50 rfl ?_
            refine x_if_le (tgt := 61) C d_M_settle_52 rfl (fun h52 => ?_) (fun h52 => ?_)
            · refine x_iload_n C d_M_settle_61 rfl rfl ?_
              refine x_iload C d_M_settle_62 rfl ?_
              refine x_iadd C d_M_settle_64 ⟨by omega, by omega⟩ ?_
              refine x_if_le (tgt := 72) C d_M_settle_65 rfl (fun h65 => ?_) (fun h65 => ?_)
              · exact absurd h65 (by omega)
              · refine x_iconst C d_M_settle_68 (by decide) ?_
                refine x_goto (tgt := 73) C d_M_settle_69 rfl ?_
                exact J73 _ 0 (Or.inl ⟨hf0, rfl, rfl⟩)
            · exact absurd h52 (by decide)
        · rw [if_neg hf0] at hu'
          subst hu'
          by_cases hu0 : 0 < u'
          · have hk2 := hkk hu0
            refine x_istore C d_M_settle_32 (by decide) ?_
            refine x_iload_n C d_M_settle_34 rfl rfl ?_
            refine x_if_le (tgt := 50) C d_M_settle_35 rfl (fun h35 => ?_) (fun h35 => ?_)
            · refine x_iload C d_M_settle_50 rfl ?_
              refine x_if_le (tgt := 61) C d_M_settle_52 rfl (fun h52 => ?_) (fun h52 => ?_)
              · exact absurd h52 (by omega)
              · refine x_aload_n C d_M_settle_55 rfl rfl ?_
                refine x_iload C d_M_settle_56 rfl ?_
                refine x_callV C cl_M_169 cb_M_grant cs_M_grant d_M_settle_58 (c_M_grant hff.1 hff.2 hk2.1 hk2.2 (b6 hu0) b2 b4.1 b4.2) rfl rfl rfl rfl rfl (by omega) (by omega) (by decide) (by decide) (Nat.le_of_ble_eq_true rfl) (by omega) (by omega) ?_
                rintro _ _ _ ⟨rfl, rfl, rfl⟩ -
                skip
                refine x_iload_n C d_M_settle_61 rfl rfl ?_
                refine x_iload C d_M_settle_62 rfl ?_
                refine x_iadd C d_M_settle_64 ⟨by omega, by omega⟩ ?_
                refine x_if_le (tgt := 72) C d_M_settle_65 rfl (fun h65 => ?_) (fun h65 => ?_)
                · exact absurd h65 (by omega)
                · refine x_iconst C d_M_settle_68 (by decide) ?_
                  refine x_goto (tgt := 73) C d_M_settle_69 rfl ?_
                  exact J73 _ _ (Or.inr ⟨hf0, rfl, hu0, rfl⟩)
            · exact absurd h35 (by omega)
          · skip
            refine x_istore C d_M_settle_32 (by decide) ?_
            refine x_iload_n C d_M_settle_34 rfl rfl ?_
            refine x_if_le (tgt := 50) C d_M_settle_35 rfl (fun h35 => ?_) (fun h35 => ?_)
            · refine x_iload C d_M_settle_50 rfl ?_
              refine x_if_le (tgt := 61) C d_M_settle_52 rfl (fun h52 => ?_) (fun h52 => ?_)
              · refine x_iload_n C d_M_settle_61 rfl rfl ?_
                refine x_iload C d_M_settle_62 rfl ?_
                refine x_iadd C d_M_settle_64 ⟨by omega, by omega⟩ ?_
                refine x_if_le (tgt := 72) C d_M_settle_65 rfl (fun h65 => ?_) (fun h65 => ?_)
                · refine x_iconst C d_M_settle_72 (by decide) ?_
                  exact J80 _ hf0 hu0
                · exact absurd h65 (by omega)
              · exact absurd h52 (by omega)
            · exact absurd h35 (by omega)
      refine x_iload_n C d_M_settle_4 rfl rfl ?_
      refine x_sipush C d_M_settle_5 (by decide) (by decide) ?_
      refine x_icmp_ge (tgt := 80) C d_M_settle_8 rfl (fun h8 => ?_) (fun h8 => ?_)
      · exact absurd h8 (by omega)
      · refine x_iload_n C d_M_settle_11 rfl rfl ?_
        refine x_if_eq (tgt := 80) C d_M_settle_12 rfl (fun h12 => ?_) (fun h12 => ?_)
        · exact absurd h12 (by decide)
        · refine x_aload_n C d_M_settle_15 rfl rfl ?_
          refine x_callV C cl_M_162 cb_M_firm cs_M_firm d_M_settle_16 (c_M_firm b3.1 b3.2 b5) rfl rfl rfl rfl rfl (by omega) (by omega) (by decide) (by decide) (Nat.le_of_ble_eq_true rfl) (by omega) (by omega) ?_
          rintro _ _ _ ⟨rfl, rfl, rfl⟩ -
          skip
          rw [hf]
          refine x_istore_n C d_M_settle_19 rfl (by decide) ?_
          refine x_iload_n C d_M_settle_20 rfl rfl ?_
          refine x_if_le (tgt := 28) C d_M_settle_21 rfl (fun h21 => ?_) (fun h21 => ?_)
          · refine x_aload_n C d_M_settle_28 rfl rfl ?_
            refine x_callV C cl_M_166 cb_M_firstFit cs_M_firstFit d_M_settle_29 (c_M_firstFit b1) rfl rfl rfl rfl rfl (by omega) (by omega) (by decide) (by decide) (Nat.le_of_ble_eq_true rfl) (by omega) (by omega) ?_
            rintro _ _ _ ⟨rfl, rfl, rfl⟩ -
            skip
            rw [hu]
            exact J32 _ (by first | exact (if_pos (by omega)).symm | exact (if_neg (by omega)).symm)
          · refine x_iconst C d_M_settle_24 (by decide) ?_
            refine x_goto (tgt := 32) C d_M_settle_25 rfl ?_
            exact J32 _ (by first | exact (if_pos (by omega)).symm | exact (if_neg (by omega)).symm)
  refine x_iconst C d_M_settle_0 (by decide) ?_
  refine x_istore_n C d_M_settle_1 rfl (by decide) ?_
  refine x_iconst C d_M_settle_2 (by decide) ?_
  refine x_istore_n C d_M_settle_3 rfl (by decide) ?_
  exact loop 1000 0 σ none none (by omega) hP rfl
theorem c_M_up {σ : Hp} : Ok LyM TM y_M_up b_M_up 1 (some .boolean) 1 0 0 [.inr 1] 28 σ (pI 28 σ (if σ 1 32 = 0 then 1 else 0)) := by
  refine ok_mk (by decide) (Nat.le_of_ble_eq_true rfl) (fun K C rt ha hok hfx => ?_)
  show XW LyM TM K 28 σ 0 0 0 [some (.inr 1)] []
  refine x_aload_n C d_M_up_0 rfl rfl ?_
  refine x_getI C 32 cf_M fl_M_172 d_M_up_1 rfl (by decide) rfl rfl (by omega) (by omega) (fun r1 => ?_)
  refine x_if_ne (tgt := 11) C d_M_up_4 rfl (fun h4 => ?_) (fun h4 => ?_)
  · refine x_iconst C d_M_up_11 (by decide) ?_
    exact x_zret rt d_M_up_12 (by omega) (by omega) ⟨by decide, by decide⟩ ⟨by simp [h4], rfl, rfl⟩
  · refine x_iconst C d_M_up_7 (by decide) ?_
    refine x_goto (tgt := 12) C d_M_up_8 rfl ?_
    exact x_zret rt d_M_up_12 (by omega) (by omega) ⟨by decide, by decide⟩ ⟨by simp [h4], rfl, rfl⟩
theorem c_M_known {σ : Hp} {t : Int} : Ok LyM TM y_M_known b_M_known 2 (some .boolean) 1 0 0 [.inr 1, .inl t] 28 σ (pI 28 σ (b2i (m_known σ t))) := by
  refine ok_mk (by decide) (Nat.le_of_ble_eq_true rfl) (fun K C rt ha hok hfx => ?_)
  show XW LyM TM K 28 σ 0 0 0 [some (.inr 1), some (.inl t)] []
  refine x_iload_n C d_M_known_0 rfl rfl ?_
  refine x_iconst C d_M_known_1 (by decide) ?_
  refine x_icmp_lt (tgt := 17) C d_M_known_2 rfl (fun h2 => ?_) (fun h2 => ?_)
  · refine x_iconst C d_M_known_17 (by decide) ?_
    exact x_zret rt d_M_known_18 (by omega) (by omega) ⟨by decide, by decide⟩ ⟨by grind [m_known, b2i], rfl, rfl⟩
  · refine x_iload_n C d_M_known_5 rfl rfl ?_
    refine x_aload_n C d_M_known_6 rfl rfl ?_
    refine x_getI C 22 cf_M fl_M_138 d_M_known_7 rfl (by decide) rfl rfl (by omega) (by omega) (fun r7 => ?_)
    refine x_icmp_gt (tgt := 17) C d_M_known_10 rfl (fun h10 => ?_) (fun h10 => ?_)
    · refine x_iconst C d_M_known_17 (by decide) ?_
      exact x_zret rt d_M_known_18 (by omega) (by omega) ⟨by decide, by decide⟩ ⟨by grind [m_known, b2i], rfl, rfl⟩
    · refine x_iconst C d_M_known_13 (by decide) ?_
      refine x_goto (tgt := 18) C d_M_known_14 rfl ?_
      exact x_zret rt d_M_known_18 (by omega) (by omega) ⟨by decide, by decide⟩ ⟨by grind [m_known, b2i], rfl, rfl⟩
theorem c_M_state {σ : Hp} {t : Int} (hb : σ 1 22 ≤ 60) : Ok LyM TM y_M_state b_M_state 2 (some .int) 2 0 0 [.inr 1, .inl t] 28 σ (pI 28 σ (if m_known σ t = true then σ 19 t else 0)) := by
  refine ok_mk (by decide) (Nat.le_of_ble_eq_true rfl) (fun K C rt ha hok hfx => ?_)
  show XW LyM TM K 28 σ 0 0 0 [some (.inr 1), some (.inl t)] []
  refine x_aload_n C d_M_state_0 rfl rfl ?_
  refine x_iload_n C d_M_state_1 rfl rfl ?_
  refine x_callV C cl_M_216 cb_M_known cs_M_known d_M_state_2 (c_M_known) rfl rfl rfl rfl rfl (by omega) (by omega) (by decide) (by decide) (Nat.le_of_ble_eq_true rfl) (by omega) (by omega) ?_
  rintro _ _ _ ⟨rfl, rfl, rfl⟩ -
  skip
  refine x_if_eq (tgt := 17) C d_M_state_5 rfl (fun h5 => ?_) (fun h5 => ?_)
  · refine x_iconst C d_M_state_17 (by decide) ?_
    exact x_iret rt d_M_state_18 (by omega) (by omega) ⟨by grind [b2i], rfl, rfl⟩
  · have hkn : 1 ≤ t ∧ t ≤ σ 1 22 := by grind [m_known, b2i]
    refine x_aload_n C d_M_state_8 rfl rfl ?_
    refine x_getC C 23 19 cf_M fl_M_61 d_M_state_9 rfl rfl rfl (by omega) (by omega) rfl ?_
    refine x_iload_n C d_M_state_12 rfl rfl ?_
    refine x_iald C d_M_state_13 rfl (by omega) (by omega) (by omega) (by omega) (fun r13 => ?_)
    refine x_goto (tgt := 18) C d_M_state_14 rfl ?_
    exact x_iret rt d_M_state_18 (by omega) (by omega) ⟨by grind [b2i], rfl, rfl⟩
theorem c_M_outcome {σ : Hp} {t : Int} (hb : σ 1 22 ≤ 60) : Ok LyM TM y_M_outcome b_M_outcome 2 (some .int) 2 0 0 [.inr 1, .inl t] 28 σ (pI 28 σ (if m_known σ t = true then σ 20 t else -1)) := by
  refine ok_mk (by decide) (Nat.le_of_ble_eq_true rfl) (fun K C rt ha hok hfx => ?_)
  show XW LyM TM K 28 σ 0 0 0 [some (.inr 1), some (.inl t)] []
  refine x_aload_n C d_M_outcome_0 rfl rfl ?_
  refine x_iload_n C d_M_outcome_1 rfl rfl ?_
  refine x_callV C cl_M_216 cb_M_known cs_M_known d_M_outcome_2 (c_M_known) rfl rfl rfl rfl rfl (by omega) (by omega) (by decide) (by decide) (Nat.le_of_ble_eq_true rfl) (by omega) (by omega) ?_
  rintro _ _ _ ⟨rfl, rfl, rfl⟩ -
  skip
  refine x_if_eq (tgt := 17) C d_M_outcome_5 rfl (fun h5 => ?_) (fun h5 => ?_)
  · refine x_iconst C d_M_outcome_17 (by decide) ?_
    exact x_iret rt d_M_outcome_18 (by omega) (by omega) ⟨by grind [b2i], rfl, rfl⟩
  · have hkn : 1 ≤ t ∧ t ≤ σ 1 22 := by grind [m_known, b2i]
    refine x_aload_n C d_M_outcome_8 rfl rfl ?_
    refine x_getC C 24 20 cf_M fl_M_64 d_M_outcome_9 rfl rfl rfl (by omega) (by omega) rfl ?_
    refine x_iload_n C d_M_outcome_12 rfl rfl ?_
    refine x_iald C d_M_outcome_13 rfl (by omega) (by omega) (by omega) (by omega) (fun r13 => ?_)
    refine x_goto (tgt := 18) C d_M_outcome_14 rfl ?_
    exact x_iret rt d_M_outcome_18 (by omega) (by omega) ⟨by grind [b2i], rfl, rfl⟩
theorem c_M_value {σ : Hp} {t : Int} (hb : σ 1 22 ≤ 60) : Ok LyM TM y_M_value b_M_value 2 (some .int) 2 0 0 [.inr 1, .inl t] 28 σ (pI 28 σ (if m_known σ t = true then σ 21 t else 0)) := by
  refine ok_mk (by decide) (Nat.le_of_ble_eq_true rfl) (fun K C rt ha hok hfx => ?_)
  show XW LyM TM K 28 σ 0 0 0 [some (.inr 1), some (.inl t)] []
  refine x_aload_n C d_M_value_0 rfl rfl ?_
  refine x_iload_n C d_M_value_1 rfl rfl ?_
  refine x_callV C cl_M_216 cb_M_known cs_M_known d_M_value_2 (c_M_known) rfl rfl rfl rfl rfl (by omega) (by omega) (by decide) (by decide) (Nat.le_of_ble_eq_true rfl) (by omega) (by omega) ?_
  rintro _ _ _ ⟨rfl, rfl, rfl⟩ -
  skip
  refine x_if_eq (tgt := 17) C d_M_value_5 rfl (fun h5 => ?_) (fun h5 => ?_)
  · refine x_iconst C d_M_value_17 (by decide) ?_
    exact x_iret rt d_M_value_18 (by omega) (by omega) ⟨by grind [b2i], rfl, rfl⟩
  · have hkn : 1 ≤ t ∧ t ≤ σ 1 22 := by grind [m_known, b2i]
    refine x_aload_n C d_M_value_8 rfl rfl ?_
    refine x_getC C 25 21 cf_M fl_M_67 d_M_value_9 rfl rfl rfl (by omega) (by omega) rfl ?_
    refine x_iload_n C d_M_value_12 rfl rfl ?_
    refine x_iald C d_M_value_13 rfl (by omega) (by omega) (by omega) (by omega) (fun r13 => ?_)
    refine x_goto (tgt := 18) C d_M_value_14 rfl ?_
    exact x_iret rt d_M_value_18 (by omega) (by omega) ⟨by grind [b2i], rfl, rfl⟩
theorem c_M_place {σ : Hp} {key : Int} : Ok LyM TM y_M_place b_M_place 2 (some .int) 3 0 0 [.inr 1, .inl key] 28 σ (pI 28 σ (m_place σ key)) := by
  refine ok_mk (by decide) (Nat.le_of_ble_eq_true rfl) (fun K C rt ha hok hfx => ?_)
  show XW LyM TM K 28 σ 0 0 0 [some (.inr 1), some (.inl key)] []
  refine x_iload_n C d_M_place_0 rfl rfl ?_
  refine x_if_lt (tgt := 10) C d_M_place_1 rfl (fun h1 => ?_) (fun h1 => ?_)
  · refine x_iconst C d_M_place_10 (by decide) ?_
    refine x_goto (tgt := 19) C d_M_place_11 rfl ?_
    exact x_iret rt d_M_place_19 (by omega) (by omega) ⟨by simp only [m_place]; first | rw [if_pos (by omega)] | rw [if_neg (by omega)], rfl, rfl⟩
  · refine x_iload_n C d_M_place_4 rfl rfl ?_
    refine x_bipush C d_M_place_5 (by decide) (by decide) ?_
    refine x_icmp_le (tgt := 14) C d_M_place_7 rfl (fun h7 => ?_) (fun h7 => ?_)
    · refine x_aload_n C d_M_place_14 rfl rfl ?_
      refine x_iload_n C d_M_place_15 rfl rfl ?_
      refine x_callV C cl_M_144 cb_M_find cs_M_find d_M_place_16 (c_M_find) rfl rfl rfl rfl rfl (by omega) (by omega) (by decide) (by decide) (Nat.le_of_ble_eq_true rfl) (by omega) (by omega) ?_
      rintro _ _ _ ⟨rfl, rfl, rfl⟩ -
      skip
      exact x_iret rt d_M_place_19 (by omega) (by omega) ⟨by simp only [m_place]; first | rw [if_pos (by omega)] | rw [if_neg (by omega)], rfl, rfl⟩
    · refine x_iconst C d_M_place_10 (by decide) ?_
      refine x_goto (tgt := 19) C d_M_place_11 rfl ?_
      exact x_iret rt d_M_place_19 (by omega) (by omega) ⟨by simp only [m_place]; first | rw [if_pos (by omega)] | rw [if_neg (by omega)], rfl, rfl⟩
theorem c_M_stored {σ : Hp} {key : Int} : Ok LyM TM y_M_stored b_M_stored 3 (some .int) 4 0 0 [.inr 1, .inl key] 28 σ (pI 28 σ (if m_place σ key < 0 then 0 else m_valueAt σ (m_place σ key))) := by
  refine ok_mk (by decide) (Nat.le_of_ble_eq_true rfl) (fun K C rt ha hok hfx => ?_)
  show XW LyM TM K 28 σ 0 0 0 [some (.inr 1), some (.inl key), none] []
  have hp : m_place σ key < 24 := by
    have := m_find_lt σ key
    simp only [m_place]
    split <;> omega
  refine x_aload_n C d_M_stored_0 rfl rfl ?_
  refine x_iload_n C d_M_stored_1 rfl rfl ?_
  refine x_callV C cl_M_219 cb_M_place cs_M_place d_M_stored_2 (c_M_place) rfl rfl rfl rfl rfl (by omega) (by omega) (by decide) (by decide) (Nat.le_of_ble_eq_true rfl) (by omega) (by omega) ?_
  rintro _ _ _ ⟨rfl, rfl, rfl⟩ -
  skip
  refine x_istore_n C d_M_stored_5 rfl (by decide) ?_
  refine x_iload_n C d_M_stored_6 rfl rfl ?_
  refine x_if_ge (tgt := 14) C d_M_stored_7 rfl (fun h7 => ?_) (fun h7 => ?_)
  · refine x_aload_n C d_M_stored_14 rfl rfl ?_
    refine x_iload_n C d_M_stored_15 rfl rfl ?_
    refine x_callV C cl_M_222 cb_M_valueAt cs_M_valueAt d_M_stored_16 (c_M_valueAt h7 hp) rfl rfl rfl rfl rfl (by omega) (by omega) (by decide) (by decide) (Nat.le_of_ble_eq_true rfl) (by omega) (by omega) ?_
    rintro _ _ _ ⟨rfl, rfl, rfl⟩ -
    skip
    exact x_iret rt d_M_stored_19 (by omega) (by omega) ⟨by first | rw [if_pos h7] | rw [if_neg (by omega)], rfl, rfl⟩
  · refine x_iconst C d_M_stored_10 (by decide) ?_
    refine x_goto (tgt := 19) C d_M_stored_11 rfl ?_
    exact x_iret rt d_M_stored_19 (by omega) (by omega) ⟨by first | rw [if_pos h7] | rw [if_neg (by omega)], rfl, rfl⟩
theorem c_M_count {σ : Hp} {w : Int} : Ok LyM TM y_M_count b_M_count 2 (some .int) 1 0 0 [.inr 1, .inl w] 28 σ (pI 28 σ (if w = 0 then σ 1 0 else if w = 1 then σ 1 1 else if w = 2 then σ 1 20 else if w = 3 then σ 1 21 else -1)) := by
  refine ok_mk (by decide) (Nat.le_of_ble_eq_true rfl) (fun K C rt ha hok hfx => ?_)
  show XW LyM TM K 28 σ 0 0 0 [some (.inr 1), some (.inl w)] []
  refine x_iload_n C d_M_count_0 rfl rfl ?_
  refine x_if_ne (tgt := 11) C d_M_count_1 rfl (fun h1 => ?_) (fun h1 => ?_)
  · refine x_iload_n C d_M_count_11 rfl rfl ?_
    refine x_iconst C d_M_count_12 (by decide) ?_
    refine x_icmp_ne (tgt := 23) C d_M_count_13 rfl (fun h13 => ?_) (fun h13 => ?_)
    · refine x_iload_n C d_M_count_23 rfl rfl ?_
      refine x_iconst C d_M_count_24 (by decide) ?_
      refine x_icmp_ne (tgt := 35) C d_M_count_25 rfl (fun h25 => ?_) (fun h25 => ?_)
      · refine x_iload_n C d_M_count_35 rfl rfl ?_
        refine x_iconst C d_M_count_36 (by decide) ?_
        refine x_icmp_ne (tgt := 47) C d_M_count_37 rfl (fun h37 => ?_) (fun h37 => ?_)
        · refine x_iconst C d_M_count_47 (by decide) ?_
          exact x_iret rt d_M_count_48 (by omega) (by omega) ⟨by grind, rfl, rfl⟩
        · refine x_aload_n C d_M_count_40 rfl rfl ?_
          refine x_getI C 21 cf_M fl_M_101 d_M_count_41 rfl (by decide) rfl rfl (by omega) (by omega) (fun r41 => ?_)
          refine x_goto (tgt := 48) C d_M_count_44 rfl ?_
          exact x_iret rt d_M_count_48 (by omega) (by omega) ⟨by grind, rfl, rfl⟩
      · refine x_aload_n C d_M_count_28 rfl rfl ?_
        refine x_getI C 20 cf_M fl_M_111 d_M_count_29 rfl (by decide) rfl rfl (by omega) (by omega) (fun r29 => ?_)
        refine x_goto (tgt := 48) C d_M_count_32 rfl ?_
        exact x_iret rt d_M_count_48 (by omega) (by omega) ⟨by grind, rfl, rfl⟩
    · refine x_aload_n C d_M_count_16 rfl rfl ?_
      refine x_getI C 1 cf_M fl_M_97 d_M_count_17 rfl (by decide) rfl rfl (by omega) (by omega) (fun r17 => ?_)
      refine x_goto (tgt := 48) C d_M_count_20 rfl ?_
      exact x_iret rt d_M_count_48 (by omega) (by omega) ⟨by grind, rfl, rfl⟩
  · refine x_aload_n C d_M_count_4 rfl rfl ?_
    refine x_getI C 0 cf_M fl_M_114 d_M_count_5 rfl (by decide) rfl rfl (by omega) (by omega) (fun r5 => ?_)
    refine x_goto (tgt := 48) C d_M_count_8 rfl ?_
    exact x_iret rt d_M_count_48 (by omega) (by omega) ⟨by grind, rfl, rfl⟩
theorem c_M_page {σ : Hp} {p w : Int} : Ok LyM TM y_M_page b_M_page 3 (some .int) 1 0 0 [.inr 1, .inl p, .inl w] 28 σ (pI 28 σ (m_pageA σ p w)) := by
  refine ok_mk (by decide) (Nat.le_of_ble_eq_true rfl) (fun K C rt ha hok hfx => ?_)
  show XW LyM TM K 28 σ 0 0 0 [some (.inr 1), some (.inl p), some (.inl w)] []
  refine x_iload_n C d_M_page_0 rfl rfl ?_
  refine x_if_lt (tgt := 18) C d_M_page_1 rfl (fun h1 => ?_) (fun h1 => ?_)
  · refine x_iconst C d_M_page_18 (by decide) ?_
    exact x_iret rt d_M_page_19 (by omega) (by omega) ⟨by grind [m_pageA], rfl, rfl⟩
  · refine x_iload_n C d_M_page_4 rfl rfl ?_
    refine x_iconst C d_M_page_5 (by decide) ?_
    refine x_icmp_gt (tgt := 18) C d_M_page_6 rfl (fun h6 => ?_) (fun h6 => ?_)
    · refine x_iconst C d_M_page_18 (by decide) ?_
      exact x_iret rt d_M_page_19 (by omega) (by omega) ⟨by grind [m_pageA], rfl, rfl⟩
    · refine x_iload_n C d_M_page_9 rfl rfl ?_
      refine x_if_lt (tgt := 18) C d_M_page_10 rfl (fun h10 => ?_) (fun h10 => ?_)
      · refine x_iconst C d_M_page_18 (by decide) ?_
        exact x_iret rt d_M_page_19 (by omega) (by omega) ⟨by grind [m_pageA], rfl, rfl⟩
      · refine x_iload_n C d_M_page_13 rfl rfl ?_
        refine x_iconst C d_M_page_14 (by decide) ?_
        refine x_icmp_le (tgt := 20) C d_M_page_15 rfl (fun h15 => ?_) (fun h15 => ?_)
        · refine x_iload_n C d_M_page_20 rfl rfl ?_
          refine x_iconst C d_M_page_21 (by decide) ?_
          refine x_icmp_ne (tgt := 32) C d_M_page_22 rfl (fun h22 => ?_) (fun h22 => ?_)
          · refine x_aload_n C d_M_page_32 rfl rfl ?_
            refine x_getC C 18 18 cf_M fl_M_58 d_M_page_33 rfl rfl rfl (by omega) (by omega) rfl ?_
            refine x_iload_n C d_M_page_36 rfl rfl ?_
            refine x_iald C d_M_page_37 rfl (by omega) (by omega) (by omega) (by omega) (fun r37 => ?_)
            refine x_if_ne (tgt := 45) C d_M_page_38 rfl (fun h38 => ?_) (fun h38 => ?_)
            · refine x_iload_n C d_M_page_45 rfl rfl ?_
              refine x_if_ne (tgt := 58) C d_M_page_46 rfl (fun h46 => ?_) (fun h46 => ?_)
              · refine x_aload_n C d_M_page_58 rfl rfl ?_
                refine x_getC C 16 16 cf_M fl_M_52 d_M_page_59 rfl rfl rfl (by omega) (by omega) rfl ?_
                refine x_iload_n C d_M_page_62 rfl rfl ?_
                refine x_iald C d_M_page_63 rfl (by omega) (by omega) (by omega) (by omega) (fun r63 => ?_)
                exact x_iret rt d_M_page_64 (by omega) (by omega) ⟨by grind [m_pageA], rfl, rfl⟩
              · refine x_aload_n C d_M_page_49 rfl rfl ?_
                refine x_getC C 17 17 cf_M fl_M_55 d_M_page_50 rfl rfl rfl (by omega) (by omega) rfl ?_
                refine x_iload_n C d_M_page_53 rfl rfl ?_
                refine x_iald C d_M_page_54 rfl (by omega) (by omega) (by omega) (by omega) (fun r54 => ?_)
                refine x_goto (tgt := 64) C d_M_page_55 rfl ?_
                exact x_iret rt d_M_page_64 (by omega) (by omega) ⟨by grind [m_pageA], rfl, rfl⟩
            · refine x_iconst C d_M_page_41 (by decide) ?_
              refine x_goto (tgt := 64) C d_M_page_42 rfl ?_
              exact x_iret rt d_M_page_64 (by omega) (by omega) ⟨by grind [m_pageA], rfl, rfl⟩
          · refine x_aload_n C d_M_page_25 rfl rfl ?_
            refine x_getC C 13 13 cf_M fl_M_43 d_M_page_26 rfl rfl rfl (by omega) (by omega) rfl ?_
            refine x_iload_n C d_M_page_29 rfl rfl ?_
            refine x_iald C d_M_page_30 rfl (by omega) (by omega) (by omega) (by omega) (fun r30 => ?_)
            exact x_iret rt d_M_page_31 (by omega) (by omega) ⟨by grind [m_pageA], rfl, rfl⟩
        · refine x_iconst C d_M_page_18 (by decide) ?_
          exact x_iret rt d_M_page_19 (by omega) (by omega) ⟨by grind [m_pageA], rfl, rfl⟩
theorem c_M_after {σ : Hp} {key : Int} : Ok LyM TM y_M_after b_M_after 3 (some .int) 3 0 0 [.inr 1, .inl key] 28 σ (pI 28 σ (m_afterA σ key)) := by
  refine ok_mk (by decide) (Nat.le_of_ble_eq_true rfl) (fun K C rt ha hok hfx => ?_)
  show XW LyM TM K 28 σ 0 0 0 [some (.inr 1), some (.inl key), none] []
  have loop : ∀ (k : Nat) (x : Int), 0 ≤ x → x + k = 100 → srch (fun k => decide (0 ≤ m_find σ k)) x k = m_after σ key → XW LyM TM K 28 σ 0 0 23 [some (.inr 1), some (.inl key), some (.inl x)] [] := by
    intro k
    induction k with
    | zero =>
      intro x hx hk hm
      refine x_iload_n C d_M_after_23 rfl rfl ?_
      refine x_bipush C d_M_after_24 (by decide) (by decide) ?_
      refine x_icmp_ge (tgt := 52) C d_M_after_26 rfl (fun h26 => ?_) (fun h26 => ?_)
      · refine x_iconst C d_M_after_52 (by decide) ?_
        exact x_iret rt d_M_after_53 (by omega) (by omega) ⟨by simp only [m_afterA]; rw [← hm]; simp [srch], rfl, rfl⟩
      · exact absurd h26 (by omega)
    | succ k ih =>
      intro x hx hk hm
      have hs : srch (fun k => decide (0 ≤ m_find σ k)) x (k + 1) = if (decide (0 ≤ m_find σ x)) = true then x else srch (fun k => decide (0 ≤ m_find σ k)) (x + 1) k := rfl
      rw [hs] at hm
      refine x_iload_n C d_M_after_23 rfl rfl ?_
      refine x_bipush C d_M_after_24 (by decide) (by decide) ?_
      refine x_icmp_ge (tgt := 52) C d_M_after_26 rfl (fun h26 => ?_) (fun h26 => ?_)
      · exact absurd h26 (by omega)
      · refine x_aload_n C d_M_after_29 rfl rfl ?_
        refine x_getI C 32 cf_M fl_M_172 d_M_after_30 rfl (by decide) rfl rfl (by omega) (by omega) (fun r30 => ?_)
        refine x_if_ne (tgt := 52) C d_M_after_33 rfl (fun h33 => ?_) (fun h33 => ?_)
        · refine x_iconst C d_M_after_52 (by decide) ?_
          exact x_iret rt d_M_after_53 (by omega) (by omega) ⟨by simp only [m_afterA]; rw [← hm]; simp [*], rfl, rfl⟩
        · refine x_aload_n C d_M_after_36 rfl rfl ?_
          refine x_iload_n C d_M_after_37 rfl rfl ?_
          refine x_callV C cl_M_144 cb_M_find cs_M_find d_M_after_38 (c_M_find) rfl rfl rfl rfl rfl (by omega) (by omega) (by decide) (by decide) (Nat.le_of_ble_eq_true rfl) (by omega) (by omega) ?_
          rintro _ _ _ ⟨rfl, rfl, rfl⟩ -
          skip
          refine x_if_lt (tgt := 46) C d_M_after_41 rfl (fun h41 => ?_) (fun h41 => ?_)
          · refine x_iinc C d_M_after_46 (by decide) rfl ⟨by omega, by omega⟩ ?_
            refine x_goto (tgt := 23) C d_M_after_49 rfl ?_
            exact ih (x + 1) (by omega) (by omega) (by rw [← hm, if_neg (by simp; omega)])
          · refine x_iload_n C d_M_after_44 rfl rfl ?_
            exact x_iret rt d_M_after_45 (by omega) (by omega) ⟨by simp only [m_afterA]; rw [← hm]; simp [*], rfl, rfl⟩
  have J22 : ∀ z : Int, z = (if key < 0 then 0 else if 99 ≤ key then 100 else key + 1) → XW LyM TM K 28 σ 0 0 22 [some (.inr 1), some (.inl key), none] [.inl z] := by
    intro z hz
    have hz2 : (if key < 0 then 100 else if 99 ≤ key then 0 else (99 - key).toNat : Nat) = (100 - z).toNat ∧ 0 ≤ z ∧ z ≤ 100 := by
      rw [hz]
      by_cases k1 : key < 0
      · rw [if_pos k1, if_pos k1]; decide
      · rw [if_neg k1, if_neg k1]
        by_cases k2 : 99 ≤ key
        · rw [if_pos k2, if_pos k2]; decide
        · rw [if_neg k2, if_neg k2]; omega
    obtain ⟨hz2, hzr⟩ := hz2
    have hl := loop (100 - z).toNat z hzr.1 (by omega) (by rw [m_after, ← hz, hz2])
    refine x_istore_n C d_M_after_22 rfl (by decide) ?_
    exact hl
  refine x_iload_n C d_M_after_0 rfl rfl ?_
  refine x_if_ge (tgt := 8) C d_M_after_1 rfl (fun h1 => ?_) (fun h1 => ?_)
  · refine x_iload_n C d_M_after_8 rfl rfl ?_
    refine x_bipush C d_M_after_9 (by decide) (by decide) ?_
    refine x_icmp_lt (tgt := 19) C d_M_after_11 rfl (fun h11 => ?_) (fun h11 => ?_)
    · refine x_iload_n C d_M_after_19 rfl rfl ?_
      refine x_iconst C d_M_after_20 (by decide) ?_
      refine x_iadd C d_M_after_21 ⟨by omega, by omega⟩ ?_
      exact J22 _ (by grind)
    · refine x_bipush C d_M_after_14 (by decide) (by decide) ?_
      refine x_goto (tgt := 22) C d_M_after_16 rfl ?_
      exact J22 _ (by grind)
  · refine x_iconst C d_M_after_4 (by decide) ?_
    refine x_goto (tgt := 22) C d_M_after_5 rfl ?_
    exact J22 _ (by grind)
theorem c_M_begin {σ : Hp} (h0 : 0 ≤ σ 1 22) (h1 : σ 1 22 ≤ 60) : Ok LyM TM y_M_begin b_M_begin 3 (some .int) 2 0 0 [.inr 1] 28 σ (pI 28 (m_begin σ).2 (m_begin σ).1) := by
  refine ok_mk (by decide) (Nat.le_of_ble_eq_true rfl) (fun K C rt ha hok hfx => ?_)
  show XW LyM TM K 28 σ 0 0 0 [some (.inr 1), none, none] []
  have loop : ∀ (q i : Nat), (i : Int) + q = σ 1 22 → XW LyM TM K 28 σ 0 0 4 [some (.inr 1), some (.inl (cntU (m_live σ) i)), some (.inl ((i : Int) + 1))] [] := by
    intro q
    induction q with
    | zero =>
      intro i hi
      have e : i = (σ 1 22).toNat := by omega
      rw [e]
      refine x_iload_n C d_M_begin_4 rfl rfl ?_
      refine x_aload_n C d_M_begin_5 rfl rfl ?_
      refine x_getI C 22 cf_M fl_M_138 d_M_begin_6 rfl (by decide) rfl rfl (by omega) (by omega) (fun r6 => ?_)
      refine x_icmp_gt (tgt := 34) C d_M_begin_9 rfl (fun h9 => ?_) (fun h9 => ?_)
      · refine x_aload_n C d_M_begin_34 rfl rfl ?_
        refine x_getI C 32 cf_M fl_M_172 d_M_begin_35 rfl (by decide) rfl rfl (by omega) (by omega) (fun r35 => ?_)
        refine x_if_ne (tgt := 55) C d_M_begin_38 rfl (fun h38 => ?_) (fun h38 => ?_)
        · refine x_iconst C d_M_begin_55 (by decide) ?_
          exact x_iret rt d_M_begin_56 (by omega) (by omega) ⟨by first | (rw [m_begin, if_pos (by omega)]) | (rw [m_begin, if_neg (by omega)]), rfl, by first | (rw [m_begin, if_pos (by omega)]) | (rw [m_begin, if_neg (by omega)])⟩
        · refine x_iload_n C d_M_begin_41 rfl rfl ?_
          refine x_iconst C d_M_begin_42 (by decide) ?_
          refine x_icmp_ge (tgt := 55) C d_M_begin_43 rfl (fun h43 => ?_) (fun h43 => ?_)
          · refine x_iconst C d_M_begin_55 (by decide) ?_
            exact x_iret rt d_M_begin_56 (by omega) (by omega) ⟨by first | (rw [m_begin, if_pos (by omega)]) | (rw [m_begin, if_neg (by omega)]), rfl, by first | (rw [m_begin, if_pos (by omega)]) | (rw [m_begin, if_neg (by omega)])⟩
          · refine x_aload_n C d_M_begin_46 rfl rfl ?_
            refine x_getI C 22 cf_M fl_M_138 d_M_begin_47 rfl (by decide) rfl rfl (by omega) (by omega) (fun r47 => ?_)
            refine x_bipush C d_M_begin_50 (by decide) (by decide) ?_
            refine x_icmp_lt (tgt := 57) C d_M_begin_52 rfl (fun h52 => ?_) (fun h52 => ?_)
            · refine x_aload_n C d_M_begin_57 rfl rfl ?_
              refine x_dup C d_M_begin_58 ?_
              refine x_getI C 22 cf_M fl_M_138 d_M_begin_59 rfl (by decide) rfl rfl (by omega) (by omega) (fun r59 => ?_)
              refine x_iconst C d_M_begin_62 (by decide) ?_
              refine x_iadd C d_M_begin_63 ⟨by omega, by omega⟩ ?_
              refine x_putI C 22 rfl cf_M fl_M_138 d_M_begin_64 rfl (Or.inl ⟨rfl, rfl⟩) rfl rfl rfl (by omega) (by omega) ?_
              refine x_aload_n C d_M_begin_67 rfl rfl ?_
              refine x_getC C 23 19 cf_M fl_M_61 d_M_begin_68 rfl rfl rfl (by omega) (by omega) rfl ?_
              refine x_aload_n C d_M_begin_71 rfl rfl ?_
              refine x_getI C 22 cf_M fl_M_138 d_M_begin_72 rfl (by decide) rfl rfl (by omega) (by omega) (fun r72 => ?_)
              refine x_iconst C d_M_begin_75 (by decide) ?_
              refine x_iast C d_M_begin_76 rfl rfl (by omega) (by omega) (by simp [st2]; omega) (by simp [st2]; omega) ?_
              refine x_aload_n C d_M_begin_77 rfl rfl ?_
              refine x_getC C 24 20 cf_M fl_M_64 d_M_begin_78 rfl rfl rfl (by omega) (by omega) rfl ?_
              refine x_aload_n C d_M_begin_81 rfl rfl ?_
              refine x_getI C 22 cf_M fl_M_138 d_M_begin_82 rfl (by decide) rfl rfl (by omega) (by omega) (fun r82 => ?_)
              refine x_iconst C d_M_begin_85 (by decide) ?_
              refine x_iast C d_M_begin_86 rfl rfl (by omega) (by omega) (by simp [st2]; omega) (by simp [st2]; omega) ?_
              refine x_aload_n C d_M_begin_87 rfl rfl ?_
              refine x_getI C 22 cf_M fl_M_138 d_M_begin_88 rfl (by decide) rfl rfl (by omega) (by omega) (fun r88 => ?_)
              exact x_iret rt d_M_begin_91 (by omega) (by omega) ⟨by first | (rw [m_begin, if_pos (by omega)]) | (rw [m_begin, if_neg (by omega)]), rfl, by first | (rw [m_begin, if_pos (by omega)]) | (rw [m_begin, if_neg (by omega)])⟩
            · refine x_iconst C d_M_begin_55 (by decide) ?_
              exact x_iret rt d_M_begin_56 (by omega) (by omega) ⟨by first | (rw [m_begin, if_pos (by omega)]) | (rw [m_begin, if_neg (by omega)]), rfl, by first | (rw [m_begin, if_pos (by omega)]) | (rw [m_begin, if_neg (by omega)])⟩
      · exact absurd h9 (by omega)
    | succ q ih =>
      intro i hi
      have hb := cntU_le (m_live σ) i
      have ih2 := ih (i + 1) (by omega)
      rw [show cntU (m_live σ) (i + 1) = cntU (m_live σ) i + b2i (m_live σ ((i : Int) + 1)) from rfl] at ih2
      generalize cntU (m_live σ) i = cn at *
      have J : ∀ v : Int, v = b2i (m_live σ ((i : Int) + 1)) → XW LyM TM K 28 σ 0 0 26 [some (.inr 1), some (.inl cn), some (.inl ((i : Int) + 1))] [.inl v, .inl cn] := by
        intro v hv
        have hv2 := b2i_b (m_live σ ((i : Int) + 1))
        subst hv
        refine x_iadd C d_M_begin_26 ⟨by omega, by omega⟩ ?_
        refine x_istore_n C d_M_begin_27 rfl (by decide) ?_
        refine x_iinc C d_M_begin_28 (by decide) rfl ⟨by omega, by omega⟩ ?_
        refine x_goto (tgt := 4) C d_M_begin_31 rfl ?_
        exact ih2
      refine x_iload_n C d_M_begin_4 rfl rfl ?_
      refine x_aload_n C d_M_begin_5 rfl rfl ?_
      refine x_getI C 22 cf_M fl_M_138 d_M_begin_6 rfl (by decide) rfl rfl (by omega) (by omega) (fun r6 => ?_)
      refine x_icmp_gt (tgt := 34) C d_M_begin_9 rfl (fun h9 => ?_) (fun h9 => ?_)
      · exact absurd h9 (by omega)
      · refine x_iload_n C d_M_begin_12 rfl rfl ?_
        refine x_aload_n C d_M_begin_13 rfl rfl ?_
        refine x_iload_n C d_M_begin_14 rfl rfl ?_
        refine x_callV C cl_M_176 cb_M_live cs_M_live d_M_begin_15 (c_M_live (by omega) (by omega)) rfl rfl rfl rfl rfl (by omega) (by omega) (by decide) (by decide) (Nat.le_of_ble_eq_true rfl) (by omega) (by omega) ?_
        rintro _ _ _ ⟨rfl, rfl, rfl⟩ -
        skip
        refine x_if_eq (tgt := 25) C d_M_begin_18 rfl (fun h18 => ?_) (fun h18 => ?_)
        · refine x_iconst C d_M_begin_25 (by decide) ?_
          exact J _ (by have := b2i_b (m_live σ ((i : Int) + 1)); omega)
        · refine x_iconst C d_M_begin_21 (by decide) ?_
          refine x_goto (tgt := 26) C d_M_begin_22 rfl ?_
          exact J _ (by have := b2i_b (m_live σ ((i : Int) + 1)); omega)
  refine x_iconst C d_M_begin_0 (by decide) ?_
  refine x_istore_n C d_M_begin_1 rfl (by decide) ?_
  refine x_iconst C d_M_begin_2 (by decide) ?_
  refine x_istore_n C d_M_begin_3 rfl (by decide) ?_
  exact loop (σ 1 22).toNat 0 (by omega)
end
section
-- ===== the reference: requests and the other calls =====
abbrev OkS (τ : Hp) : Prop := Ok LyM TM y_M_settle b_M_settle 5 none 4 0 0 [.inr 1] 28 τ (pV 28 (m_settle τ))
abbrev OkD (τ : Hp) (t : Int) : Prop := Ok LyM TM y_M_drop b_M_drop 3 none 4 0 0 [.inr 1, .inl t] 28 τ (pV 28 (m_drop τ t))
abbrev OkR (τ : Hp) (t : Int) : Prop := Ok LyM TM y_M_ring b_M_ring 5 (some .boolean) 3 0 0 [.inr 1, .inl t] 28 τ (pI 28 (m_ring τ t) (m_ring τ t 27 t))
abbrev OkG (τ : Hp) (t : Int) : Prop := Ok LyM TM y_M_grant b_M_grant 5 none 3 0 0 [.inr 1, .inl t] 28 τ (pV 28 (m_grant τ t))
theorem m_isIn_b {σ : Hp} {t s : Int} (h : m_isIn σ t s = true) : σ 1 32 = 0 ∧ 1 ≤ t ∧ t ≤ σ 1 22 ∧ σ 19 t = s := by
  simp only [m_isIn, Bool.and_eq_true, decide_eq_true_eq] at h
  exact ⟨h.1.1.1, h.1.1.2, h.1.2, h.2⟩
theorem b2i_1 {b : Bool} (h : ¬ b2i b = 0) : b = true := by cases b <;> simp [b2i] at *
theorem b2i_0 {b : Bool} (h : b2i b = 0) : b = false := by cases b <;> simp [b2i] at *
theorem c_M_request {σ : Hp} {t key what v : Int} (h0 : 0 ≤ σ 1 22) (h1 : σ 1 22 ≤ 60) (hB : mB σ)
    (hG : m_isIn σ t 1 = true → 0 ≤ key → key ≤ 99 → m_fit (m_ask σ t key what v) t = true → OkG (m_ask σ t key what v) t)
    (hR : m_isIn σ t 1 = true → 0 ≤ key → key ≤ 99 → m_fit (m_ask σ t key what v) t = false → OkR (m_wait (m_ask σ t key what v) t) t)
    (hD : m_isIn σ t 1 = true → 0 ≤ key → key ≤ 99 → m_fit (m_ask σ t key what v) t = false → ¬ m_ring (m_wait (m_ask σ t key what v) t) t 27 t = 0 → OkD (st2 (m_ring (m_wait (m_ask σ t key what v) t) t) 20 t 2) t)
    (hS : m_isIn σ t 1 = true → 0 ≤ key → key ≤ 99 → OkS (m_req2 (m_ask σ t key what v) t)) : Ok LyM TM y_M_request b_M_request 6 (some .int) 5 0 0 [.inr 1, .inl t, .inl key, .inl what, .inl v] 28 σ (pI 28 (m_request σ t key what v).2 (m_request σ t key what v).1) := by
  refine ok_mk (by decide) (Nat.le_of_ble_eq_true rfl) (fun K C rt ha hok hfx => ?_)
  show XW LyM TM K 28 σ 0 0 0 [some (.inr 1), some (.inl t), some (.inl key), some (.inl what), some (.inl v), none] []
  obtain ⟨b1, b2, b3, b4, b5, b6⟩ := hB
  have J63 : m_isIn σ t 1 = true → 0 ≤ key → key ≤ 99 → XW LyM TM K 28 (m_ask σ t key what v) 0 0 63 [some (.inr 1), some (.inl t), some (.inl key), some (.inl what), some (.inl v), none] [] := by
    intro hi k0 k1
    obtain ⟨i1, i2, i3, i4⟩ := m_isIn_b hi
    have e1 : m_ask σ t key what v 22 t = key := by simp [m_ask, st2]
    have e2 : m_ask σ t key what v 1 22 = σ 1 22 := by simp [m_ask, st2]
    have hG := hG hi k0 k1
    have hR := hR hi k0 k1
    have hD := hD hi k0 k1
    have hS := hS hi k0 k1
    have hrq : m_request σ t key what v = (m_req2 (m_ask σ t key what v) t 20 t, m_settle (m_req2 (m_ask σ t key what v) t)) := if_pos ⟨hi, k0, k1⟩
    rw [hrq] at rt
    clear hrq
    generalize m_ask σ t key what v = τ1 at *
    have J113 : ∀ τ : Hp, τ = m_req2 τ1 t → XW LyM TM K 28 τ 0 0 113 [some (.inr 1), some (.inl t), some (.inl key), some (.inl what), some (.inl v), none] [] := by
      intro τ hτ
      subst hτ
      refine x_aload_n C d_M_request_113 rfl rfl ?_
      refine x_getC C 24 20 cf_M fl_M_64 d_M_request_114 rfl rfl rfl (by omega) (by omega) rfl ?_
      refine x_iload_n C d_M_request_117 rfl rfl ?_
      refine x_iald C d_M_request_118 rfl (by omega) (by omega) (by omega) (by omega) (fun r118 => ?_)
      refine x_istore C d_M_request_119 (by decide) ?_
      refine x_aload_n C d_M_request_121 rfl rfl ?_
      refine x_callV C cl_M_188 cb_M_settle cs_M_settle d_M_request_122 (hS) rfl rfl rfl rfl rfl (by omega) (by omega) (by decide) (by decide) (Nat.le_of_ble_eq_true rfl) (by omega) (by omega) ?_
      rintro _ _ _ ⟨rfl, rfl, rfl⟩ -
      skip
      refine x_iload C d_M_request_125 rfl ?_
      exact x_iret rt d_M_request_127 (by omega) (by omega) ⟨rfl, rfl, rfl⟩
    refine x_aload_n C d_M_request_63 rfl rfl ?_
    refine x_iload_n C d_M_request_64 rfl rfl ?_
    refine x_callV C cl_M_159 cb_M_fit cs_M_fit d_M_request_65 (c_M_fit (by omega) (by omega) (by omega) (by omega) (by omega) (by omega)) rfl rfl rfl rfl rfl (by omega) (by omega) (by decide) (by decide) (Nat.le_of_ble_eq_true rfl) (by omega) (by omega) ?_
    rintro _ _ _ ⟨rfl, rfl, rfl⟩ -
    skip
    refine x_if_eq (tgt := 79) C d_M_request_68 rfl (fun h68 => ?_) (fun h68 => ?_)
    · refine x_aload_n C d_M_request_79 rfl rfl ?_
      refine x_getC C 23 19 cf_M fl_M_61 d_M_request_80 rfl rfl rfl (by omega) (by omega) rfl ?_
      refine x_iload_n C d_M_request_83 rfl rfl ?_
      refine x_iconst C d_M_request_84 (by decide) ?_
      refine x_iast C d_M_request_85 rfl rfl (by omega) (by omega) (by omega) (by omega) ?_
      refine x_aload_n C d_M_request_86 rfl rfl ?_
      refine x_getC C 24 20 cf_M fl_M_64 d_M_request_87 rfl rfl rfl (by omega) (by omega) rfl ?_
      refine x_iload_n C d_M_request_90 rfl rfl ?_
      refine x_iconst C d_M_request_91 (by decide) ?_
      refine x_iast C d_M_request_92 rfl rfl (by omega) (by omega) (by omega) (by omega) ?_
      refine x_aload_n C d_M_request_93 rfl rfl ?_
      refine x_iload_n C d_M_request_94 rfl rfl ?_
      refine x_callV C cl_M_182 cb_M_ring cs_M_ring d_M_request_95 (hR (b2i_0 h68)) rfl rfl rfl rfl rfl (by omega) (by omega) (by decide) (by decide) (Nat.le_of_ble_eq_true rfl) (by omega) (by omega) ?_
      rintro _ _ _ ⟨rfl, rfl, rfl⟩ -
      skip
      refine x_if_eq (tgt := 113) C d_M_request_98 rfl (fun h98 => ?_) (fun h98 => ?_)
      · exact J113 _ (by simp only [m_req2]; first | rw [if_pos (b2i_1 h68)] | rw [if_neg (by rw [b2i_0 h68]; decide), if_pos h98] | rw [if_neg (by rw [b2i_0 h68]; decide), if_neg h98])
      · refine x_aload_n C d_M_request_101 rfl rfl ?_
        refine x_getC C 24 20 cf_M fl_M_64 d_M_request_102 rfl rfl rfl (by omega) (by omega) rfl ?_
        refine x_iload_n C d_M_request_105 rfl rfl ?_
        refine x_iconst C d_M_request_106 (by decide) ?_
        refine x_iast C d_M_request_107 rfl rfl (by omega) (by omega) (by omega) (by omega) ?_
        refine x_aload_n C d_M_request_108 rfl rfl ?_
        refine x_iload_n C d_M_request_109 rfl rfl ?_
        refine x_callV C cl_M_185 cb_M_drop cs_M_drop d_M_request_110 (hD (b2i_0 h68) h98) rfl rfl rfl rfl rfl (by omega) (by omega) (by decide) (by decide) (Nat.le_of_ble_eq_true rfl) (by omega) (by omega) ?_
        rintro _ _ _ ⟨rfl, rfl, rfl⟩ -
        skip
        exact J113 _ (by simp only [m_req2]; first | rw [if_pos (b2i_1 h68)] | rw [if_neg (by rw [b2i_0 h68]; decide), if_pos h98] | rw [if_neg (by rw [b2i_0 h68]; decide), if_neg h98])
    · refine x_aload_n C d_M_request_71 rfl rfl ?_
      refine x_iload_n C d_M_request_72 rfl rfl ?_
      refine x_callV C cl_M_169 cb_M_grant cs_M_grant d_M_request_73 (hG (b2i_1 h68)) rfl rfl rfl rfl rfl (by omega) (by omega) (by decide) (by decide) (Nat.le_of_ble_eq_true rfl) (by omega) (by omega) ?_
      rintro _ _ _ ⟨rfl, rfl, rfl⟩ -
      skip
      refine x_goto (tgt := 113) C d_M_request_76 rfl ?_
      exact J113 _ (by simp only [m_req2]; first | rw [if_pos (b2i_1 h68)] | rw [if_neg (by rw [b2i_0 h68]; decide), if_pos h98] | rw [if_neg (by rw [b2i_0 h68]; decide), if_neg h98])
  refine x_aload_n C d_M_request_0 rfl rfl ?_
  refine x_iload_n C d_M_request_1 rfl rfl ?_
  refine x_iconst C d_M_request_2 (by decide) ?_
  refine x_callV C cl_M_179 cb_M_isIn cs_M_isIn d_M_request_3 (c_M_isIn h1) rfl rfl rfl rfl rfl (by omega) (by omega) (by decide) (by decide) (Nat.le_of_ble_eq_true rfl) (by omega) (by omega) ?_
  rintro _ _ _ ⟨rfl, rfl, rfl⟩ -
  skip
  refine x_if_eq (tgt := 19) C d_M_request_6 rfl (fun h6 => ?_) (fun h6 => ?_)
  · refine x_iconst C d_M_request_19 (by decide) ?_
    have hrq : m_request σ t key what v = (-1, σ) := if_neg (by first | (rw [b2i_0 h6]; simp; done) | omega)
    rw [hrq] at rt
    exact x_iret rt d_M_request_20 (by omega) (by omega) ⟨rfl, rfl, rfl⟩
  · refine x_iload_n C d_M_request_9 rfl rfl ?_
    refine x_if_lt (tgt := 19) C d_M_request_10 rfl (fun h10 => ?_) (fun h10 => ?_)
    · refine x_iconst C d_M_request_19 (by decide) ?_
      have hrq : m_request σ t key what v = (-1, σ) := if_neg (by first | (rw [b2i_0 h6]; simp; done) | omega)
      rw [hrq] at rt
      exact x_iret rt d_M_request_20 (by omega) (by omega) ⟨rfl, rfl, rfl⟩
    · refine x_iload_n C d_M_request_13 rfl rfl ?_
      refine x_bipush C d_M_request_14 (by decide) (by decide) ?_
      refine x_icmp_le (tgt := 21) C d_M_request_16 rfl (fun h16 => ?_) (fun h16 => ?_)
      · have hi := b2i_1 h6
        obtain ⟨i1, i2, i3, i4⟩ := m_isIn_b hi
        refine x_aload_n C d_M_request_21 rfl rfl ?_
        refine x_dup C d_M_request_22 ?_
        refine x_getI C 19 cf_M fl_M_104 d_M_request_23 rfl (by decide) rfl rfl (by omega) (by omega) (fun r23 => ?_)
        refine x_iconst C d_M_request_26 (by decide) ?_
        refine x_iadd C d_M_request_27 ⟨by omega, by omega⟩ ?_
        refine x_putI C 19 rfl cf_M fl_M_104 d_M_request_28 rfl (Or.inl ⟨rfl, rfl⟩) rfl rfl rfl (by omega) (by omega) ?_
        refine x_aload_n C d_M_request_31 rfl rfl ?_
        refine x_getC C 26 22 cf_M fl_M_70 d_M_request_32 rfl rfl rfl (by omega) (by omega) rfl ?_
        refine x_iload_n C d_M_request_35 rfl rfl ?_
        refine x_iload_n C d_M_request_36 rfl rfl ?_
        refine x_iast C d_M_request_37 rfl rfl (by omega) (by omega) (by omega) (by omega) ?_
        refine x_aload_n C d_M_request_38 rfl rfl ?_
        refine x_getC C 27 23 cf_M fl_M_73 d_M_request_39 rfl rfl rfl (by omega) (by omega) rfl ?_
        refine x_iload_n C d_M_request_42 rfl rfl ?_
        refine x_iload_n C d_M_request_43 rfl rfl ?_
        refine x_iast C d_M_request_44 rfl rfl (by omega) (by omega) (by omega) (by omega) ?_
        refine x_aload_n C d_M_request_45 rfl rfl ?_
        refine x_getC C 28 24 cf_M fl_M_76 d_M_request_46 rfl rfl rfl (by omega) (by omega) rfl ?_
        refine x_iload_n C d_M_request_49 rfl rfl ?_
        refine x_iload C d_M_request_50 rfl ?_
        refine x_iast C d_M_request_52 rfl rfl (by omega) (by omega) (by omega) (by omega) ?_
        refine x_aload_n C d_M_request_53 rfl rfl ?_
        refine x_getC C 29 25 cf_M fl_M_79 d_M_request_54 rfl rfl rfl (by omega) (by omega) rfl ?_
        refine x_iload_n C d_M_request_57 rfl rfl ?_
        refine x_aload_n C d_M_request_58 rfl rfl ?_
        refine x_getI C 19 cf_M fl_M_104 d_M_request_59 rfl (by decide) rfl rfl (by omega) (by omega) (fun r59 => ?_)
        refine x_iast C d_M_request_62 rfl rfl (by omega) (by omega) (by omega) (by omega) ?_
        exact J63 hi (by omega) (by omega)
      · refine x_iconst C d_M_request_19 (by decide) ?_
        have hrq : m_request σ t key what v = (-1, σ) := if_neg (by first | (rw [b2i_0 h6]; simp; done) | omega)
        rw [hrq] at rt
        exact x_iret rt d_M_request_20 (by omega) (by omega) ⟨rfl, rfl, rfl⟩
theorem c_M_read {σ : Hp} {t key : Int} (h : Ok LyM TM y_M_request b_M_request 6 (some .int) 5 0 0 [.inr 1, .inl t, .inl key, .inl 1, .inl 0] 28 σ (pI 28 (m_request σ t key 1 0).2 (m_request σ t key 1 0).1)) : Ok LyM TM y_M_read b_M_read 3 (some .int) 6 0 0 [.inr 1, .inl t, .inl key] 28 σ (pI 28 (m_request σ t key 1 0).2 (m_request σ t key 1 0).1) := by
  refine ok_mk (by decide) (Nat.le_of_ble_eq_true rfl) (fun K C rt ha hok hfx => ?_)
  show XW LyM TM K 28 σ 0 0 0 [some (.inr 1), some (.inl t), some (.inl key)] []
  refine x_aload_n C d_M_read_0 rfl rfl ?_
  refine x_iload_n C d_M_read_1 rfl rfl ?_
  refine x_iload_n C d_M_read_2 rfl rfl ?_
  refine x_iconst C d_M_read_3 (by decide) ?_
  refine x_iconst C d_M_read_4 (by decide) ?_
  refine x_callV C cl_M_191 cb_M_request cs_M_request d_M_read_5 (h) rfl rfl rfl rfl rfl (by omega) (by omega) (by decide) (by decide) (Nat.le_of_ble_eq_true rfl) (by omega) (by omega) ?_
  rintro _ _ _ ⟨rfl, rfl, rfl⟩ -
  skip
  exact x_iret rt d_M_read_8 (by omega) (by omega) ⟨rfl, rfl, rfl⟩
theorem c_M_write {σ : Hp} {t key v : Int} (h : Ok LyM TM y_M_request b_M_request 6 (some .int) 5 0 0 [.inr 1, .inl t, .inl key, .inl 2, .inl v] 28 σ (pI 28 (m_request σ t key 2 v).2 (m_request σ t key 2 v).1)) : Ok LyM TM y_M_write b_M_write 4 (some .int) 6 0 0 [.inr 1, .inl t, .inl key, .inl v] 28 σ (pI 28 (m_request σ t key 2 v).2 (m_request σ t key 2 v).1) := by
  refine ok_mk (by decide) (Nat.le_of_ble_eq_true rfl) (fun K C rt ha hok hfx => ?_)
  show XW LyM TM K 28 σ 0 0 0 [some (.inr 1), some (.inl t), some (.inl key), some (.inl v)] []
  refine x_aload_n C d_M_write_0 rfl rfl ?_
  refine x_iload_n C d_M_write_1 rfl rfl ?_
  refine x_iload_n C d_M_write_2 rfl rfl ?_
  refine x_iconst C d_M_write_3 (by decide) ?_
  refine x_iload_n C d_M_write_4 rfl rfl ?_
  refine x_callV C cl_M_191 cb_M_request cs_M_request d_M_write_5 (h) rfl rfl rfl rfl rfl (by omega) (by omega) (by decide) (by decide) (Nat.le_of_ble_eq_true rfl) (by omega) (by omega) ?_
  rintro _ _ _ ⟨rfl, rfl, rfl⟩ -
  skip
  exact x_iret rt d_M_write_8 (by omega) (by omega) ⟨rfl, rfl, rfl⟩
theorem c_M_commit {σ : Hp} {t : Int} (h1 : σ 1 22 ≤ 60) (hz : 0 ≤ σ 1 0) (hz1 : σ 1 0 < 203) (hS : m_isIn σ t 1 = true → OkS (st2 (m_put σ 3 t 0) 19 t 3)) : Ok LyM TM y_M_commit b_M_commit 2 (some .boolean) 5 0 0 [.inr 1, .inl t] 28 σ (pI 28 (if m_isIn σ t 1 = true then m_settle (st2 (m_put σ 3 t 0) 19 t 3) else σ) (b2i (m_isIn σ t 1))) := by
  refine ok_mk (by decide) (Nat.le_of_ble_eq_true rfl) (fun K C rt ha hok hfx => ?_)
  show XW LyM TM K 28 σ 0 0 0 [some (.inr 1), some (.inl t)] []
  refine x_aload_n C d_M_commit_0 rfl rfl ?_
  refine x_iload_n C d_M_commit_1 rfl rfl ?_
  refine x_iconst C d_M_commit_2 (by decide) ?_
  refine x_callV C cl_M_179 cb_M_isIn cs_M_isIn d_M_commit_3 (c_M_isIn h1) rfl rfl rfl rfl rfl (by omega) (by omega) (by decide) (by decide) (Nat.le_of_ble_eq_true rfl) (by omega) (by omega) ?_
  rintro _ _ _ ⟨rfl, rfl, rfl⟩ -
  skip
  refine x_if_ne (tgt := 11) C d_M_commit_6 rfl (fun h6 => ?_) (fun h6 => ?_)
  · have hi := b2i_1 h6
    obtain ⟨i1, i2, i3, i4⟩ := m_isIn_b hi
    refine x_aload_n C d_M_commit_11 rfl rfl ?_
    refine x_iconst C d_M_commit_12 (by decide) ?_
    refine x_iload_n C d_M_commit_13 rfl rfl ?_
    refine x_iconst C d_M_commit_14 (by decide) ?_
    refine x_callV C cl_M_124 cb_M_put cs_M_put d_M_commit_15 (c_M_put hz hz1) rfl rfl rfl rfl rfl (by omega) (by omega) (by decide) (by decide) (Nat.le_of_ble_eq_true rfl) (by omega) (by omega) ?_
    rintro _ _ _ ⟨rfl, rfl, rfl⟩ -
    skip
    refine x_pop C d_M_commit_18 ?_
    refine x_aload_n C d_M_commit_19 rfl rfl ?_
    refine x_getC C 23 19 cf_M fl_M_61 d_M_commit_20 rfl rfl rfl (by omega) (by omega) rfl ?_
    refine x_iload_n C d_M_commit_23 rfl rfl ?_
    refine x_iconst C d_M_commit_24 (by decide) ?_
    refine x_iast C d_M_commit_25 rfl rfl (by omega) (by omega) (by omega) (by omega) ?_
    refine x_aload_n C d_M_commit_26 rfl rfl ?_
    refine x_callV C cl_M_188 cb_M_settle cs_M_settle d_M_commit_27 (hS hi) rfl rfl rfl rfl rfl (by omega) (by omega) (by decide) (by decide) (Nat.le_of_ble_eq_true rfl) (by omega) (by omega) ?_
    rintro _ _ _ ⟨rfl, rfl, rfl⟩ -
    skip
    refine x_iconst C d_M_commit_30 (by decide) ?_
    exact x_zret rt d_M_commit_31 (by omega) (by omega) ⟨by decide, by decide⟩ (by first | (rw [b2i_0 h6]; exact ⟨rfl, rfl, rfl⟩) | (rw [b2i_1 h6]; exact ⟨rfl, rfl, rfl⟩))
  · refine x_iconst C d_M_commit_9 (by decide) ?_
    exact x_zret rt d_M_commit_10 (by omega) (by omega) ⟨by decide, by decide⟩ (by first | (rw [b2i_0 h6]; exact ⟨rfl, rfl, rfl⟩) | (rw [b2i_1 h6]; exact ⟨rfl, rfl, rfl⟩))
theorem c_M_abort {σ : Hp} {t : Int} (h1 : σ 1 22 ≤ 60) (hD : m_isIn σ t 1 = true ∨ m_isIn σ t 2 = true → OkD σ t) (hS : m_isIn σ t 1 = true ∨ m_isIn σ t 2 = true → OkS (m_drop σ t)) : Ok LyM TM y_M_abort b_M_abort 2 (some .boolean) 5 0 0 [.inr 1, .inl t] 28 σ (pI 28 (if m_isIn σ t 1 = true ∨ m_isIn σ t 2 = true then m_settle (m_drop σ t) else σ) (if m_isIn σ t 1 = true ∨ m_isIn σ t 2 = true then 1 else 0)) := by
  refine ok_mk (by decide) (Nat.le_of_ble_eq_true rfl) (fun K C rt ha hok hfx => ?_)
  show XW LyM TM K 28 σ 0 0 0 [some (.inr 1), some (.inl t)] []
  have J20 : m_isIn σ t 1 = true ∨ m_isIn σ t 2 = true → XW LyM TM K 28 σ 0 0 20 [some (.inr 1), some (.inl t)] [] := by
    intro h
    refine x_aload_n C d_M_abort_20 rfl rfl ?_
    refine x_iload_n C d_M_abort_21 rfl rfl ?_
    refine x_callV C cl_M_185 cb_M_drop cs_M_drop d_M_abort_22 (hD h) rfl rfl rfl rfl rfl (by omega) (by omega) (by decide) (by decide) (Nat.le_of_ble_eq_true rfl) (by omega) (by omega) ?_
    rintro _ _ _ ⟨rfl, rfl, rfl⟩ -
    skip
    refine x_aload_n C d_M_abort_25 rfl rfl ?_
    refine x_callV C cl_M_188 cb_M_settle cs_M_settle d_M_abort_26 (hS h) rfl rfl rfl rfl rfl (by omega) (by omega) (by decide) (by decide) (Nat.le_of_ble_eq_true rfl) (by omega) (by omega) ?_
    rintro _ _ _ ⟨rfl, rfl, rfl⟩ -
    skip
    refine x_iconst C d_M_abort_29 (by decide) ?_
    exact x_zret rt d_M_abort_30 (by omega) (by omega) ⟨by decide, by decide⟩ ⟨by rw [if_pos h], rfl, by rw [if_pos h]⟩
  refine x_aload_n C d_M_abort_0 rfl rfl ?_
  refine x_iload_n C d_M_abort_1 rfl rfl ?_
  refine x_iconst C d_M_abort_2 (by decide) ?_
  refine x_callV C cl_M_179 cb_M_isIn cs_M_isIn d_M_abort_3 (c_M_isIn h1) rfl rfl rfl rfl rfl (by omega) (by omega) (by decide) (by decide) (Nat.le_of_ble_eq_true rfl) (by omega) (by omega) ?_
  rintro _ _ _ ⟨rfl, rfl, rfl⟩ -
  skip
  refine x_if_ne (tgt := 20) C d_M_abort_6 rfl (fun h6 => ?_) (fun h6 => ?_)
  · first | exact J20 (Or.inl (b2i_1 h6)) | exact J20 (Or.inr (b2i_1 h15))
  · refine x_aload_n C d_M_abort_9 rfl rfl ?_
    refine x_iload_n C d_M_abort_10 rfl rfl ?_
    refine x_iconst C d_M_abort_11 (by decide) ?_
    refine x_callV C cl_M_179 cb_M_isIn cs_M_isIn d_M_abort_12 (c_M_isIn h1) rfl rfl rfl rfl rfl (by omega) (by omega) (by decide) (by decide) (Nat.le_of_ble_eq_true rfl) (by omega) (by omega) ?_
    rintro _ _ _ ⟨rfl, rfl, rfl⟩ -
    skip
    refine x_if_ne (tgt := 20) C d_M_abort_15 rfl (fun h15 => ?_) (fun h15 => ?_)
    · first | exact J20 (Or.inl (b2i_1 h6)) | exact J20 (Or.inr (b2i_1 h15))
    · refine x_iconst C d_M_abort_18 (by decide) ?_
      have hn : ¬ (m_isIn σ t 1 = true ∨ m_isIn σ t 2 = true) := by rw [b2i_0 h6, b2i_0 h15]; decide
      exact x_zret rt d_M_abort_19 (by omega) (by omega) ⟨by decide, by decide⟩ ⟨by rw [if_neg hn], rfl, by rw [if_neg hn]⟩
theorem c_M_force {σ : Hp} (hS : σ 1 32 = 0 → OkS (st2 σ 1 1 (σ 1 0))) : Ok LyM TM y_M_force b_M_force 1 (some .boolean) 5 0 0 [.inr 1] 28 σ (pI 28 (if σ 1 32 = 0 then m_settle (st2 σ 1 1 (σ 1 0)) else σ) (if σ 1 32 = 0 then 1 else 0)) := by
  refine ok_mk (by decide) (Nat.le_of_ble_eq_true rfl) (fun K C rt ha hok hfx => ?_)
  show XW LyM TM K 28 σ 0 0 0 [some (.inr 1)] []
  refine x_aload_n C d_M_force_0 rfl rfl ?_
  refine x_getI C 32 cf_M fl_M_172 d_M_force_1 rfl (by decide) rfl rfl (by omega) (by omega) (fun r1 => ?_)
  refine x_if_eq (tgt := 9) C d_M_force_4 rfl (fun h4 => ?_) (fun h4 => ?_)
  · refine x_aload_n C d_M_force_9 rfl rfl ?_
    refine x_aload_n C d_M_force_10 rfl rfl ?_
    refine x_getI C 0 cf_M fl_M_114 d_M_force_11 rfl (by decide) rfl rfl (by omega) (by omega) (fun r11 => ?_)
    refine x_putI C 1 rfl cf_M fl_M_97 d_M_force_14 rfl (Or.inl ⟨rfl, rfl⟩) rfl rfl rfl (by omega) (by omega) ?_
    refine x_aload_n C d_M_force_17 rfl rfl ?_
    refine x_callV C cl_M_188 cb_M_settle cs_M_settle d_M_force_18 (hS h4) rfl rfl rfl rfl rfl (by omega) (by omega) (by decide) (by decide) (Nat.le_of_ble_eq_true rfl) (by omega) (by omega) ?_
    rintro _ _ _ ⟨rfl, rfl, rfl⟩ -
    skip
    refine x_iconst C d_M_force_21 (by decide) ?_
    exact x_zret rt d_M_force_22 (by omega) (by omega) ⟨by decide, by decide⟩ (by first | (rw [if_pos h4, if_pos h4]; exact ⟨rfl, rfl, rfl⟩) | (rw [if_neg h4, if_neg h4]; exact ⟨rfl, rfl, rfl⟩))
  · refine x_iconst C d_M_force_7 (by decide) ?_
    exact x_zret rt d_M_force_8 (by omega) (by omega) ⟨by decide, by decide⟩ (by first | (rw [if_pos h4, if_pos h4]; exact ⟨rfl, rfl, rfl⟩) | (rw [if_neg h4, if_neg h4]; exact ⟨rfl, rfl, rfl⟩))
theorem c_M_checkpoint {σ : Hp} (hz : 0 ≤ σ 1 0) (hz1 : σ 1 0 < 203) (hS : σ 1 32 = 0 → m_countOf σ 4 < 20 → OkS (m_ck0 (m_put σ 4 0 0) 6)) : Ok LyM TM y_M_checkpoint b_M_checkpoint 3 (some .int) 5 0 0 [.inr 1] 28 σ (pI 28 (if σ 1 32 = 0 ∧ m_countOf σ 4 < 20 then m_settle (m_ck0 (m_put σ 4 0 0) 6) else σ) (if σ 1 32 = 0 ∧ m_countOf σ 4 < 20 then σ 1 0 + 1 else -1)) := by
  refine ok_mk (by decide) (Nat.le_of_ble_eq_true rfl) (fun K C rt ha hok hfx => ?_)
  show XW LyM TM K 28 σ 0 0 0 [some (.inr 1), none, none] []
  have e0 : m_put σ 4 0 0 1 0 = σ 1 0 + 1 := m_put_0 _ _ _ _
  have loop : σ 1 32 = 0 ∧ m_countOf σ 4 < 20 → ∀ (k : Nat) (x : Int), 0 ≤ x → x + k = 6 → XW LyM TM K 28 (m_ck0 (m_put σ 4 0 0) x) 0 0 29 [some (.inr 1), some (.inl (σ 1 0 + 1)), some (.inl x)] [] := by
    intro hc k
    induction k with
    | zero =>
      intro x hx hk
      obtain rfl : x = 6 := by omega
      refine x_iload_n C d_M_checkpoint_29 rfl rfl ?_
      refine x_bipush C d_M_checkpoint_30 (by decide) (by decide) ?_
      refine x_icmp_ge (tgt := 71) C d_M_checkpoint_32 rfl (fun h32 => ?_) (fun h32 => ?_)
      · refine x_aload_n C d_M_checkpoint_71 rfl rfl ?_
        refine x_callV C cl_M_188 cb_M_settle cs_M_settle d_M_checkpoint_72 (hS hc.1 hc.2) rfl rfl rfl rfl rfl (by omega) (by omega) (by decide) (by decide) (Nat.le_of_ble_eq_true rfl) (by omega) (by omega) ?_
        rintro _ _ _ ⟨rfl, rfl, rfl⟩ -
        skip
        refine x_iload_n C d_M_checkpoint_75 rfl rfl ?_
        exact x_iret rt d_M_checkpoint_76 (by omega) (by omega) ⟨by rw [if_pos hc], rfl, by rw [if_pos hc]⟩
      · exact absurd h32 (by omega)
    | succ k ih =>
      intro x hx hk
      have ih2 := ih (x + 1) (by omega) (by omega)
      rw [← m_ck0_step hx, e0] at ih2
      have f18 : m_ck0 (m_put σ 4 0 0) x 18 = m_put σ 4 0 0 18 := m_ck0_fr _ _ (by decide)
      have f17 : m_ck0 (m_put σ 4 0 0) x 17 = m_put σ 4 0 0 17 := m_ck0_fr _ _ (by decide)
      have J64 : ∀ v : Int, v = (if 0 < m_put σ 4 0 0 18 x then m_put σ 4 0 0 17 x else 0) → XW LyM TM K 28 (m_ck0 (m_put σ 4 0 0) x) 0 0 64 [some (.inr 1), some (.inl (σ 1 0 + 1)), some (.inl x)] [.inl v, .inl (6 * (σ 1 0 + 1) + x), .inr 10] := by
        intro v hv
        subst hv
        refine x_iast C d_M_checkpoint_64 rfl rfl (by omega) (by omega) (by omega) (by omega) ?_
        refine x_iinc C d_M_checkpoint_65 (by decide) rfl ⟨by omega, by omega⟩ ?_
        refine x_goto (tgt := 29) C d_M_checkpoint_68 rfl ?_
        exact ih2
      refine x_iload_n C d_M_checkpoint_29 rfl rfl ?_
      refine x_bipush C d_M_checkpoint_30 (by decide) (by decide) ?_
      refine x_icmp_ge (tgt := 71) C d_M_checkpoint_32 rfl (fun h32 => ?_) (fun h32 => ?_)
      · exact absurd h32 (by omega)
      · refine x_aload_n C d_M_checkpoint_35 rfl rfl ?_
        refine x_getC C 10 10 cf_M fl_M_34 d_M_checkpoint_36 rfl rfl rfl (by omega) (by omega) rfl ?_
        refine x_bipush C d_M_checkpoint_39 (by decide) (by decide) ?_
        refine x_iload_n C d_M_checkpoint_41 rfl rfl ?_
        refine x_imul C d_M_checkpoint_42 ⟨by omega, by omega⟩ ?_
        refine x_iload_n C d_M_checkpoint_43 rfl rfl ?_
        refine x_iadd C d_M_checkpoint_44 ⟨by omega, by omega⟩ ?_
        refine x_aload_n C d_M_checkpoint_45 rfl rfl ?_
        refine x_getC C 18 18 cf_M fl_M_58 d_M_checkpoint_46 rfl rfl rfl (by omega) (by omega) rfl ?_
        refine x_iload_n C d_M_checkpoint_49 rfl rfl ?_
        refine x_iald C d_M_checkpoint_50 rfl (by omega) (by omega) (by omega) (by omega) (fun r50 => ?_)
        refine x_if_le (tgt := 63) C d_M_checkpoint_51 rfl (fun h51 => ?_) (fun h51 => ?_)
        · refine x_iconst C d_M_checkpoint_63 (by decide) ?_
          exact J64 _ (by rw [f18] at h51; first | (rw [if_pos (by omega), f17]; done) | (rw [if_neg (by omega)]; done))
        · refine x_aload_n C d_M_checkpoint_54 rfl rfl ?_
          refine x_getC C 17 17 cf_M fl_M_55 d_M_checkpoint_55 rfl rfl rfl (by omega) (by omega) rfl ?_
          refine x_iload_n C d_M_checkpoint_58 rfl rfl ?_
          refine x_iald C d_M_checkpoint_59 rfl (by omega) (by omega) (by omega) (by omega) (fun r59 => ?_)
          refine x_goto (tgt := 64) C d_M_checkpoint_60 rfl ?_
          exact J64 _ (by rw [f18] at h51; first | (rw [if_pos (by omega), f17]; done) | (rw [if_neg (by omega)]; done))
  refine x_aload_n C d_M_checkpoint_0 rfl rfl ?_
  refine x_getI C 32 cf_M fl_M_172 d_M_checkpoint_1 rfl (by decide) rfl rfl (by omega) (by omega) (fun r1 => ?_)
  refine x_if_ne (tgt := 17) C d_M_checkpoint_4 rfl (fun h4 => ?_) (fun h4 => ?_)
  · refine x_iconst C d_M_checkpoint_17 (by decide) ?_
    have hn : ¬ (σ 1 32 = 0 ∧ m_countOf σ 4 < 20) := by omega
    exact x_iret rt d_M_checkpoint_18 (by omega) (by omega) ⟨by rw [if_neg hn], rfl, by rw [if_neg hn]⟩
  · refine x_aload_n C d_M_checkpoint_7 rfl rfl ?_
    refine x_iconst C d_M_checkpoint_8 (by decide) ?_
    refine x_callV C cl_M_147 cb_M_countOf cs_M_countOf d_M_checkpoint_9 (c_M_countOf hz (by omega)) rfl rfl rfl rfl rfl (by omega) (by omega) (by decide) (by decide) (Nat.le_of_ble_eq_true rfl) (by omega) (by omega) ?_
    rintro _ _ _ ⟨rfl, rfl, rfl⟩ -
    skip
    refine x_bipush C d_M_checkpoint_12 (by decide) (by decide) ?_
    refine x_icmp_lt (tgt := 19) C d_M_checkpoint_14 rfl (fun h14 => ?_) (fun h14 => ?_)
    · refine x_aload_n C d_M_checkpoint_19 rfl rfl ?_
      refine x_iconst C d_M_checkpoint_20 (by decide) ?_
      refine x_iconst C d_M_checkpoint_21 (by decide) ?_
      refine x_iconst C d_M_checkpoint_22 (by decide) ?_
      refine x_callV C cl_M_124 cb_M_put cs_M_put d_M_checkpoint_23 (c_M_put hz hz1) rfl rfl rfl rfl rfl (by omega) (by omega) (by decide) (by decide) (Nat.le_of_ble_eq_true rfl) (by omega) (by omega) ?_
      rintro _ _ _ ⟨rfl, rfl, rfl⟩ -
      skip
      refine x_istore_n C d_M_checkpoint_26 rfl (by decide) ?_
      refine x_iconst C d_M_checkpoint_27 (by decide) ?_
      refine x_istore_n C d_M_checkpoint_28 rfl (by decide) ?_
      have hl := loop ⟨h4, h14⟩ 6 0 (by omega) (by omega)
      rw [m_ck0_0] at hl
      exact hl
    · refine x_iconst C d_M_checkpoint_17 (by decide) ?_
      have hn : ¬ (σ 1 32 = 0 ∧ m_countOf σ 4 < 20) := by omega
      exact x_iret rt d_M_checkpoint_18 (by omega) (by omega) ⟨by rw [if_neg hn], rfl, by rw [if_neg hn]⟩
theorem c_M_flush {σ : Hp} {p : Int} (hB : mB σ) (hS : (σ 1 32 = 0 ∧ 0 ≤ p ∧ p ≤ 5 ∧ ¬ σ 18 p = 0 ∧ ¬ σ 17 p = 0) → OkS (m_spill σ p)) : Ok LyM TM y_M_flush b_M_flush 2 (some .boolean) 5 0 0 [.inr 1, .inl p] 28 σ (pI 28 (if σ 1 32 = 0 ∧ 0 ≤ p ∧ p ≤ 5 ∧ ¬ σ 18 p = 0 ∧ ¬ σ 17 p = 0 then m_settle (m_spill σ p) else σ) (if σ 1 32 = 0 ∧ 0 ≤ p ∧ p ≤ 5 ∧ ¬ σ 18 p = 0 ∧ ¬ σ 17 p = 0 then 1 else 0)) := by
  refine ok_mk (by decide) (Nat.le_of_ble_eq_true rfl) (fun K C rt ha hok hfx => ?_)
  show XW LyM TM K 28 σ 0 0 0 [some (.inr 1), some (.inl p)] []
  obtain ⟨b1, b2, b3, b4, b5, b6⟩ := hB
  have J : ∀ q : Prop, q = (σ 1 32 = 0 ∧ 0 ≤ p ∧ p ≤ 5 ∧ ¬ σ 18 p = 0 ∧ ¬ σ 17 p = 0) → ¬ q → ∀ lv : List (Option AV), XW LyM TM K 28 σ 0 0 35 lv [.inl 0] := by
    intro q hq hn lv
    rw [hq] at hn
    exact x_zret rt d_M_flush_35 (by omega) (by omega) ⟨by decide, by decide⟩ ⟨by rw [if_neg hn], rfl, by rw [if_neg hn]⟩
  refine x_aload_n C d_M_flush_0 rfl rfl ?_
  refine x_getI C 32 cf_M fl_M_172 d_M_flush_1 rfl (by decide) rfl rfl (by omega) (by omega) (fun r1 => ?_)
  refine x_if_ne (tgt := 34) C d_M_flush_4 rfl (fun h4 => ?_) (fun h4 => ?_)
  · refine x_iconst C d_M_flush_34 (by decide) ?_
    exact J _ rfl (by omega) _
  · refine x_iload_n C d_M_flush_7 rfl rfl ?_
    refine x_if_lt (tgt := 34) C d_M_flush_8 rfl (fun h8 => ?_) (fun h8 => ?_)
    · refine x_iconst C d_M_flush_34 (by decide) ?_
      exact J _ rfl (by omega) _
    · refine x_iload_n C d_M_flush_11 rfl rfl ?_
      refine x_iconst C d_M_flush_12 (by decide) ?_
      refine x_icmp_gt (tgt := 34) C d_M_flush_13 rfl (fun h13 => ?_) (fun h13 => ?_)
      · refine x_iconst C d_M_flush_34 (by decide) ?_
        exact J _ rfl (by omega) _
      · refine x_aload_n C d_M_flush_16 rfl rfl ?_
        refine x_getC C 18 18 cf_M fl_M_58 d_M_flush_17 rfl rfl rfl (by omega) (by omega) rfl ?_
        refine x_iload_n C d_M_flush_20 rfl rfl ?_
        refine x_iald C d_M_flush_21 rfl (by omega) (by omega) (by omega) (by omega) (fun r21 => ?_)
        refine x_if_eq (tgt := 34) C d_M_flush_22 rfl (fun h22 => ?_) (fun h22 => ?_)
        · refine x_iconst C d_M_flush_34 (by decide) ?_
          exact J _ rfl (by omega) _
        · refine x_aload_n C d_M_flush_25 rfl rfl ?_
          refine x_getC C 17 17 cf_M fl_M_55 d_M_flush_26 rfl rfl rfl (by omega) (by omega) rfl ?_
          refine x_iload_n C d_M_flush_29 rfl rfl ?_
          refine x_iald C d_M_flush_30 rfl (by omega) (by omega) (by omega) (by omega) (fun r30 => ?_)
          refine x_if_ne (tgt := 36) C d_M_flush_31 rfl (fun h31 => ?_) (fun h31 => ?_)
          · have hc : σ 1 32 = 0 ∧ 0 ≤ p ∧ p ≤ 5 ∧ ¬ σ 18 p = 0 ∧ ¬ σ 17 p = 0 := ⟨h4, h8, h13, h22, h31⟩
            refine x_aload_n C d_M_flush_36 rfl rfl ?_
            refine x_iload_n C d_M_flush_37 rfl rfl ?_
            refine x_callV C cl_M_107 cb_M_spill cs_M_spill d_M_flush_38 (c_M_spill (by omega) (by omega) ⟨by omega, by omega⟩) rfl rfl rfl rfl rfl (by omega) (by omega) (by decide) (by decide) (Nat.le_of_ble_eq_true rfl) (by omega) (by omega) ?_
            rintro _ _ _ ⟨rfl, rfl, rfl⟩ -
            skip
            refine x_aload_n C d_M_flush_41 rfl rfl ?_
            refine x_callV C cl_M_188 cb_M_settle cs_M_settle d_M_flush_42 (hS hc) rfl rfl rfl rfl rfl (by omega) (by omega) (by decide) (by decide) (Nat.le_of_ble_eq_true rfl) (by omega) (by omega) ?_
            rintro _ _ _ ⟨rfl, rfl, rfl⟩ -
            skip
            refine x_iconst C d_M_flush_45 (by decide) ?_
            exact x_zret rt d_M_flush_46 (by omega) (by omega) ⟨by decide, by decide⟩ ⟨by rw [if_pos hc], rfl, by rw [if_pos hc]⟩
          · refine x_iconst C d_M_flush_34 (by decide) ?_
            exact J _ rfl (by omega) _
theorem c_M_crash {σ : Hp} {k : Int} (h0 : 0 ≤ σ 1 22) (h1 : σ 1 22 ≤ 60) (hz0 : 0 ≤ σ 1 1) (hz : σ 1 1 ≤ σ 1 0) (hz1 : σ 1 0 < 204) (hc0 : 0 ≤ σ 1 33) : Ok LyM TM y_M_crash b_M_crash 3 (some .int) 2 0 0 [.inr 1, .inl k] 28 σ (pI 28 (if k < 0 ∨ 8 ≤ σ 1 33 then σ else m_crashS σ k) (if k < 0 ∨ 8 ≤ σ 1 33 then -1 else m_crashS σ k 1 0)) := by
  refine ok_mk (by decide) (Nat.le_of_ble_eq_true rfl) (fun K C rt ha hok hfx => ?_)
  show XW LyM TM K 28 σ 0 0 0 [some (.inr 1), some (.inl k), none] []
  have hbg : m_cr1 (m_cr0 σ k) 6 1 22 = σ 1 22 := by rw [m_cr1_fr _ _ (by decide) (by decide)]; simp [m_cr0, st2]
  have loop2 : ¬ (k < 0 ∨ 8 ≤ σ 1 33) → ∀ (q : Nat) (x : Int), 1 ≤ x → x + q = σ 1 22 + 1 → XW LyM TM K 28 (m_cr2 (m_cr1 (m_cr0 σ k) 6) x) 0 0 103 [some (.inr 1), some (.inl k), some (.inl x)] [] := by
    intro hn q
    induction q with
    | zero =>
      intro x hx hq
      have e1 : m_cr2 (m_cr1 (m_cr0 σ k) 6) x 1 22 = σ 1 22 := by rw [m_cr2_fr _ _ (by decide) (by decide)]; exact hbg
      obtain rfl : x = σ 1 22 + 1 := by omega
      refine x_iload_n C d_M_crash_103 rfl rfl ?_
      refine x_aload_n C d_M_crash_104 rfl rfl ?_
      refine x_getI C 22 cf_M fl_M_138 d_M_crash_105 rfl (by decide) rfl rfl (by omega) (by omega) (fun r105 => ?_)
      refine x_icmp_gt (tgt := 138) C d_M_crash_108 rfl (fun h108 => ?_) (fun h108 => ?_)
      · refine x_aload_n C d_M_crash_138 rfl rfl ?_
        refine x_getI C 0 cf_M fl_M_114 d_M_crash_139 rfl (by decide) rfl rfl (by omega) (by omega) (fun r139 => ?_)
        exact x_iret rt d_M_crash_142 (by omega) (by omega) ⟨by rw [if_neg hn]; rfl, rfl, by rw [if_neg hn]; rfl⟩
      · exact absurd h108 (by omega)
    | succ q ih =>
      intro x hx hq
      have e1 : m_cr2 (m_cr1 (m_cr0 σ k) 6) x 1 22 = σ 1 22 := by rw [m_cr2_fr _ _ (by decide) (by decide)]; exact hbg
      have ih2 := ih (x + 1) (by omega) (by omega)
      have hlv : m_live (m_cr2 (m_cr1 (m_cr0 σ k) 6) x) x = m_live (m_cr1 (m_cr0 σ k) 6) x := by simp only [m_live]; rw [m_cr2_ge (Int.le_refl x)]
      refine x_iload_n C d_M_crash_103 rfl rfl ?_
      refine x_aload_n C d_M_crash_104 rfl rfl ?_
      refine x_getI C 22 cf_M fl_M_138 d_M_crash_105 rfl (by decide) rfl rfl (by omega) (by omega) (fun r105 => ?_)
      refine x_icmp_gt (tgt := 138) C d_M_crash_108 rfl (fun h108 => ?_) (fun h108 => ?_)
      · exact absurd h108 (by omega)
      · refine x_aload_n C d_M_crash_111 rfl rfl ?_
        refine x_iload_n C d_M_crash_112 rfl rfl ?_
        refine x_callV C cl_M_176 cb_M_live cs_M_live d_M_crash_113 (c_M_live (by omega) (by omega)) rfl rfl rfl rfl rfl (by omega) (by omega) (by decide) (by decide) (Nat.le_of_ble_eq_true rfl) (by omega) (by omega) ?_
        rintro _ _ _ ⟨rfl, rfl, rfl⟩ -
        skip
        refine x_if_eq (tgt := 132) C d_M_crash_116 rfl (fun h116 => ?_) (fun h116 => ?_)
        · refine x_iinc C d_M_crash_132 (by decide) rfl ⟨by omega, by omega⟩ ?_
          refine x_goto (tgt := 103) C d_M_crash_135 rfl ?_
          first | (rw [m_cr2_yes hx (by rw [← hlv]; exact b2i_1 h116)]; exact ih2) | (rw [m_cr2_no (by rw [← hlv]; exact b2i_0 h116)]; exact ih2)
        · refine x_aload_n C d_M_crash_119 rfl rfl ?_
          refine x_getC C 23 19 cf_M fl_M_61 d_M_crash_120 rfl rfl rfl (by omega) (by omega) rfl ?_
          refine x_iload_n C d_M_crash_123 rfl rfl ?_
          refine x_bipush C d_M_crash_124 (by decide) (by decide) ?_
          refine x_iast C d_M_crash_126 rfl rfl (by omega) (by omega) (by omega) (by omega) ?_
          refine x_aload_n C d_M_crash_127 rfl rfl ?_
          refine x_iload_n C d_M_crash_128 rfl rfl ?_
          refine x_callV C cl_M_156 cb_M_unlock cs_M_unlock d_M_crash_129 (c_M_unlock (by omega) (by omega)) rfl rfl rfl rfl rfl (by omega) (by omega) (by decide) (by decide) (Nat.le_of_ble_eq_true rfl) (by omega) (by omega) ?_
          rintro _ _ _ ⟨rfl, rfl, rfl⟩ -
          skip
          refine x_iinc C d_M_crash_132 (by decide) rfl ⟨by omega, by omega⟩ ?_
          refine x_goto (tgt := 103) C d_M_crash_135 rfl ?_
          first | (rw [m_cr2_yes hx (by rw [← hlv]; exact b2i_1 h116)]; exact ih2) | (rw [m_cr2_no (by rw [← hlv]; exact b2i_0 h116)]; exact ih2)
  have loop1 : ¬ (k < 0 ∨ 8 ≤ σ 1 33) → ∀ (q : Nat) (x : Int), 0 ≤ x → x + q = 6 → XW LyM TM K 28 (m_cr1 (m_cr0 σ k) x) 0 0 75 [some (.inr 1), some (.inl k), some (.inl x)] [] := by
    intro hn q
    induction q with
    | zero =>
      intro x hx hq
      obtain rfl : x = 6 := by omega
      have hl := loop2 hn (σ 1 22).toNat 1 (by omega) (by omega)
      rw [m_cr2_1] at hl
      refine x_iload_n C d_M_crash_75 rfl rfl ?_
      refine x_bipush C d_M_crash_76 (by decide) (by decide) ?_
      refine x_icmp_ge (tgt := 101) C d_M_crash_78 rfl (fun h78 => ?_) (fun h78 => ?_)
      · refine x_iconst C d_M_crash_101 (by decide) ?_
        refine x_istore_n C d_M_crash_102 rfl (by decide) ?_
        exact hl
      · exact absurd h78 (by omega)
    | succ q ih =>
      intro x hx hq
      refine x_iload_n C d_M_crash_75 rfl rfl ?_
      refine x_bipush C d_M_crash_76 (by decide) (by decide) ?_
      refine x_icmp_ge (tgt := 101) C d_M_crash_78 rfl (fun h78 => ?_) (fun h78 => ?_)
      · exact absurd h78 (by omega)
      · refine x_aload_n C d_M_crash_81 rfl rfl ?_
        refine x_getC C 18 18 cf_M fl_M_58 d_M_crash_82 rfl rfl rfl (by omega) (by omega) rfl ?_
        refine x_iload_n C d_M_crash_85 rfl rfl ?_
        refine x_iconst C d_M_crash_86 (by decide) ?_
        refine x_iast C d_M_crash_87 rfl rfl (by omega) (by omega) (by omega) (by omega) ?_
        refine x_aload_n C d_M_crash_88 rfl rfl ?_
        refine x_getC C 17 17 cf_M fl_M_55 d_M_crash_89 rfl rfl rfl (by omega) (by omega) rfl ?_
        refine x_iload_n C d_M_crash_92 rfl rfl ?_
        refine x_iconst C d_M_crash_93 (by decide) ?_
        refine x_iast C d_M_crash_94 rfl rfl (by omega) (by omega) (by omega) (by omega) ?_
        refine x_iinc C d_M_crash_95 (by decide) rfl ⟨by omega, by omega⟩ ?_
        refine x_goto (tgt := 75) C d_M_crash_98 rfl ?_
        rw [m_cr1_step hx]
        exact ih (x + 1) (by omega) (by omega)
  have J52 : ¬ (k < 0 ∨ 8 ≤ σ 1 33) → ∀ v : Int, v = (if st2 σ 1 33 (σ 1 33 + 1) 1 0 - st2 σ 1 33 (σ 1 33 + 1) 1 1 < k then st2 σ 1 33 (σ 1 33 + 1) 1 0 else st2 σ 1 33 (σ 1 33 + 1) 1 1 + k) → XW LyM TM K 28 (st2 σ 1 33 (σ 1 33 + 1)) 0 0 52 [some (.inr 1), some (.inl k), none] [.inl v, .inr 1] := by
    intro hn v hv
    subst hv
    have hl := loop1 hn 6 0 (by omega) (by omega)
    rw [m_cr1_0] at hl
    refine x_putI C 1 rfl cf_M fl_M_97 d_M_crash_52 rfl (Or.inl ⟨rfl, rfl⟩) rfl rfl rfl (by omega) (by omega) ?_
    refine x_aload_n C d_M_crash_55 rfl rfl ?_
    refine x_aload_n C d_M_crash_56 rfl rfl ?_
    refine x_getI C 1 cf_M fl_M_97 d_M_crash_57 rfl (by decide) rfl rfl (by omega) (by omega) (fun r57 => ?_)
    refine x_putI C 0 rfl cf_M fl_M_114 d_M_crash_60 rfl (Or.inl ⟨rfl, rfl⟩) rfl rfl rfl (by omega) (by omega) ?_
    refine x_aload_n C d_M_crash_63 rfl rfl ?_
    refine x_iconst C d_M_crash_64 (by decide) ?_
    refine x_putI C 32 rfl cf_M fl_M_172 d_M_crash_65 rfl (Or.inr ⟨rfl, rfl, by omega, by omega⟩) rfl rfl rfl (by omega) (by omega) ?_
    refine x_aload_n C d_M_crash_68 rfl rfl ?_
    refine x_iconst C d_M_crash_69 (by decide) ?_
    refine x_putI C 34 rfl cf_M fl_M_198 d_M_crash_70 rfl (Or.inl ⟨rfl, rfl⟩) rfl rfl rfl (by omega) (by omega) ?_
    refine x_iconst C d_M_crash_73 (by decide) ?_
    refine x_istore_n C d_M_crash_74 rfl (by decide) ?_
    exact hl
  have e0 : st2 σ 1 33 (σ 1 33 + 1) 1 0 = σ 1 0 := by simp [st2]
  have e1 : st2 σ 1 33 (σ 1 33 + 1) 1 1 = σ 1 1 := by simp [st2]
  refine x_iload_n C d_M_crash_0 rfl rfl ?_
  refine x_if_lt (tgt := 13) C d_M_crash_1 rfl (fun h1 => ?_) (fun h1 => ?_)
  · refine x_iconst C d_M_crash_13 (by decide) ?_
    have hn : k < 0 ∨ 8 ≤ σ 1 33 := by omega
    exact x_iret rt d_M_crash_14 (by omega) (by omega) ⟨by rw [if_pos hn], rfl, by rw [if_pos hn]⟩
  · refine x_aload_n C d_M_crash_4 rfl rfl ?_
    refine x_getI C 33 cf_M fl_M_195 d_M_crash_5 rfl (by decide) rfl rfl (by omega) (by omega) (fun r5 => ?_)
    refine x_bipush C d_M_crash_8 (by decide) (by decide) ?_
    refine x_icmp_lt (tgt := 15) C d_M_crash_10 rfl (fun h10 => ?_) (fun h10 => ?_)
    · refine x_aload_n C d_M_crash_15 rfl rfl ?_
      refine x_dup C d_M_crash_16 ?_
      refine x_getI C 33 cf_M fl_M_195 d_M_crash_17 rfl (by decide) rfl rfl (by omega) (by omega) (fun r17 => ?_)
      refine x_iconst C d_M_crash_20 (by decide) ?_
      refine x_iadd C d_M_crash_21 ⟨by omega, by omega⟩ ?_
      refine x_putI C 33 rfl cf_M fl_M_195 d_M_crash_22 rfl (Or.inl ⟨rfl, rfl⟩) rfl rfl rfl (by omega) (by omega) ?_
      refine x_aload_n C d_M_crash_25 rfl rfl ?_
      refine x_iload_n C d_M_crash_26 rfl rfl ?_
      refine x_aload_n C d_M_crash_27 rfl rfl ?_
      refine x_getI C 0 cf_M fl_M_114 d_M_crash_28 rfl (by decide) rfl rfl (by omega) (by omega) (fun r28 => ?_)
      refine x_aload_n C d_M_crash_31 rfl rfl ?_
      refine x_getI C 1 cf_M fl_M_97 d_M_crash_32 rfl (by decide) rfl rfl (by omega) (by omega) (fun r32 => ?_)
      refine x_isub C d_M_crash_35 ⟨by omega, by omega⟩ ?_
      refine x_icmp_le (tgt := 46) C d_M_crash_36 rfl (fun h36 => ?_) (fun h36 => ?_)
      · refine x_aload_n C d_M_crash_46 rfl rfl ?_
        refine x_getI C 1 cf_M fl_M_97 d_M_crash_47 rfl (by decide) rfl rfl (by omega) (by omega) (fun r47 => ?_)
        refine x_iload_n C d_M_crash_50 rfl rfl ?_
        refine x_iadd C d_M_crash_51 ⟨by omega, by omega⟩ ?_
        exact J52 (by omega) _ (by first | (rw [if_pos (by omega)]; done) | (rw [if_neg (by omega)]; done))
      · refine x_aload_n C d_M_crash_39 rfl rfl ?_
        refine x_getI C 0 cf_M fl_M_114 d_M_crash_40 rfl (by decide) rfl rfl (by omega) (by omega) (fun r40 => ?_)
        refine x_goto (tgt := 52) C d_M_crash_43 rfl ?_
        exact J52 (by omega) _ (by first | (rw [if_pos (by omega)]; done) | (rw [if_neg (by omega)]; done))
    · refine x_iconst C d_M_crash_13 (by decide) ?_
      have hn : k < 0 ∨ 8 ≤ σ 1 33 := by omega
      exact x_iret rt d_M_crash_14 (by omega) (by omega) ⟨by rw [if_pos hn], rfl, by rw [if_pos hn]⟩
end
section
-- ===== the reference: the restart =====
theorem c_M_analyse {σ : Hp} (hz : 0 ≤ σ 1 0) (hz1 : σ 1 0 < 203) (hsp : ∀ i : Int, 0 ≤ i → i ≤ σ 1 0 → 0 ≤ σ 4 i) : Ok LyM TM y_M_analyse b_M_analyse 4 none 1 0 0 [.inr 1] 28 σ (pV 28 (m_analyse σ)) := by
  refine ok_mk (by decide) (Nat.le_of_ble_eq_true rfl) (fun K C rt ha hok hfx => ?_)
  show XW LyM TM K 28 σ 0 0 0 [some (.inr 1), none, none, none] []
  have hc : 0 ≤ m_lastCk σ ∧ m_lastCk σ ≤ σ 1 0 := by
    have h := srchD_spec (fun i => decide (σ 2 i = 4)) (σ 1 0).toNat
    have e : srchD (fun i => decide (σ 2 i = 4)) (σ 1 0).toNat = m_lastCk σ := rfl
    rw [e] at h
    rcases h with ⟨a, -⟩ | ⟨a, b, -⟩ <;> omega
  generalize hcc : m_lastCk σ = c at hc
  have gl : ∀ (q x : Nat) (w : Option AV), x + q = 6 → XW LyM TM K 28 (m_an σ x) 0 0 46 [some (.inr 1), some (.inl c), some (.inl (x : Int)), w] [] := by
    intro q
    induction q with
    | zero =>
      intro x w hq
      obtain rfl : x = 6 := by omega
      refine x_iload_n C d_M_analyse_46 rfl rfl ?_
      refine x_bipush C d_M_analyse_47 (by decide) (by decide) ?_
      refine x_icmp_ge (tgt := 194) C d_M_analyse_49 rfl (fun h49 => ?_) (fun h49 => ?_)
      · refine x_aload_n C d_M_analyse_194 rfl rfl ?_
        refine x_iconst C d_M_analyse_195 (by decide) ?_
        refine x_putI C 34 rfl cf_M fl_M_198 d_M_analyse_196 rfl (Or.inl ⟨rfl, rfl⟩) rfl rfl rfl (by omega) (by omega) ?_
        exact x_vret rt d_M_analyse_199 (by omega) (by omega) ⟨rfl, rfl, rfl⟩
      · exact absurd h49 (by omega)
    | succ q ih =>
      intro x w hq
      have f10 : m_an σ x 10 = σ 10 := m_an_fr _ _ (by decide) (by decide)
      have f2 : m_an σ x 2 = σ 2 := m_an_fr _ _ (by decide) (by decide)
      have f4 : m_an σ x 4 = σ 4 := m_an_fr _ _ (by decide) (by decide)
      have fz : m_an σ x 1 0 = σ 1 0 := m_an_1 _ _ (by decide)
      have fn : m_an σ x 1 35 = m_nxt σ c x := by rw [← hcc]; simp [m_an]
      have ih2 := fun w => ih (x + 1) w (by omega)
      have e10 : ∀ v : Int, st2 (m_an σ x) 28 (x : Int) v 10 = σ 10 := fun v => by rw [st2_ne (by decide)]; exact f10
      have e2 : ∀ v : Int, st2 (m_an σ x) 28 (x : Int) v 2 = σ 2 := fun v => by rw [st2_ne (by decide)]; exact f2
      have e4 : ∀ v : Int, st2 (m_an σ x) 28 (x : Int) v 4 = σ 4 := fun v => by rw [st2_ne (by decide)]; exact f4
      have ez : ∀ v : Int, st2 (m_an σ x) 28 (x : Int) v 1 0 = σ 1 0 := fun v => by rw [st2_ne (by decide)]; exact fz
      have en : ∀ v : Int, st2 (m_an σ x) 28 (x : Int) v 1 35 = m_nxt σ c x := fun v => by rw [st2_ne (by decide)]; exact fn
      have J149 : ∀ (v : Int) (w : Option AV), v = m_tab σ c (x : Int) → XW LyM TM K 28 (st2 (m_an σ x) 28 (x : Int) v) 0 0 149 [some (.inr 1), some (.inl c), some (.inl (x : Int)), w] [] := by
        intro v w hv
        have es : st2 (m_an σ x) 28 (x : Int) v 28 (x : Int) = v := st2_eq
        have J185 : ∀ y : Int, y = m_nxt σ c (x + 1) → XW LyM TM K 28 (st2 (m_an σ x) 28 (x : Int) v) 0 0 185 [some (.inr 1), some (.inl c), some (.inl (x : Int)), w] [.inl y, .inr 1] := by
          intro y hy
          have ih3 := ih2 w
          rw [← m_an_step, hcc, ← hy, ← hv] at ih3
          refine x_putI C 35 rfl cf_M fl_M_201 d_M_analyse_185 rfl (Or.inl ⟨rfl, rfl⟩) rfl rfl rfl (by omega) (by omega) ?_
          refine x_iinc C d_M_analyse_188 (by decide) rfl ⟨by omega, by omega⟩ ?_
          refine x_goto (tgt := 46) C d_M_analyse_191 rfl ?_
          exact ih3
        have hnx : m_nxt σ c (x + 1) = if 0 < v ∧ v < m_nxt σ c x then v else m_nxt σ c x := by rw [hv]; rfl
        have e5 := en v
        refine x_aload_n C d_M_analyse_149 rfl rfl ?_
        refine x_aload_n C d_M_analyse_150 rfl rfl ?_
        refine x_getC C 36 28 cf_M fl_M_90 d_M_analyse_151 rfl rfl rfl (by omega) (by omega) rfl ?_
        refine x_iload_n C d_M_analyse_154 rfl rfl ?_
        refine x_iald C d_M_analyse_155 rfl (by omega) (by omega) (by omega) (by omega) (fun r155 => ?_)
        refine x_if_le (tgt := 181) C d_M_analyse_156 rfl (fun h156 => ?_) (fun h156 => ?_)
        · refine x_aload_n C d_M_analyse_181 rfl rfl ?_
          refine x_getI C 35 cf_M fl_M_201 d_M_analyse_182 rfl (by decide) rfl rfl (by omega) (by omega) (fun r182 => ?_)
          exact J185 _ (by rw [hnx]; first | (rw [if_pos (by omega)]; omega) | (rw [if_neg (by omega)]; omega))
        · refine x_aload_n C d_M_analyse_159 rfl rfl ?_
          refine x_getC C 36 28 cf_M fl_M_90 d_M_analyse_160 rfl rfl rfl (by omega) (by omega) rfl ?_
          refine x_iload_n C d_M_analyse_163 rfl rfl ?_
          refine x_iald C d_M_analyse_164 rfl (by omega) (by omega) (by omega) (by omega) (fun r164 => ?_)
          refine x_aload_n C d_M_analyse_165 rfl rfl ?_
          refine x_getI C 35 cf_M fl_M_201 d_M_analyse_166 rfl (by decide) rfl rfl (by omega) (by omega) (fun r166 => ?_)
          refine x_icmp_ge (tgt := 181) C d_M_analyse_169 rfl (fun h169 => ?_) (fun h169 => ?_)
          · refine x_aload_n C d_M_analyse_181 rfl rfl ?_
            refine x_getI C 35 cf_M fl_M_201 d_M_analyse_182 rfl (by decide) rfl rfl (by omega) (by omega) (fun r182 => ?_)
            exact J185 _ (by rw [hnx]; first | (rw [if_pos (by omega)]; omega) | (rw [if_neg (by omega)]; omega))
          · refine x_aload_n C d_M_analyse_172 rfl rfl ?_
            refine x_getC C 36 28 cf_M fl_M_90 d_M_analyse_173 rfl rfl rfl (by omega) (by omega) rfl ?_
            refine x_iload_n C d_M_analyse_176 rfl rfl ?_
            refine x_iald C d_M_analyse_177 rfl (by omega) (by omega) (by omega) (by omega) (fun r177 => ?_)
            refine x_goto (tgt := 185) C d_M_analyse_178 rfl ?_
            exact J185 _ (by rw [hnx]; first | (rw [if_pos (by omega)]; omega) | (rw [if_neg (by omega)]; omega))
      have il : ∀ (k : Nat) (i v : Int), i = c + k → i ≤ σ 1 0 → (c = 0 ∨ σ 10 (6 * c + (x : Int)) = 0) → v = (if srch (m_chg σ (x : Int)) (i + 1) (σ 1 0 - i).toNat < 0 then 0 else srch (m_chg σ (x : Int)) (i + 1) (σ 1 0 - i).toNat) → XW LyM TM K 28 (st2 (m_an σ x) 28 (x : Int) v) 0 0 82 [some (.inr 1), some (.inl c), some (.inl (x : Int)), some (.inl i)] [] := by
        intro k
        induction k with
        | zero =>
          intro i v hi hi2 hcz hv
          obtain rfl : i = c := by omega
          have ht : v = m_tab σ i (x : Int) := by
            have hneg : ¬ (0 < i ∧ ¬ σ 10 (6 * i + (x : Int)) = 0) := by omega
            rw [m_tab, if_neg hneg]; exact hv
          refine x_iload_n C d_M_analyse_82 rfl rfl ?_
          refine x_iload_n C d_M_analyse_83 rfl rfl ?_
          refine x_icmp_le (tgt := 149) C d_M_analyse_84 rfl (fun h84 => ?_) (fun h84 => ?_)
          · exact J149 _ _ ht
          · exact absurd h84 (by omega)
        | succ k ihk =>
          intro i v hi hi2 hcz hv
          have hd := srch_dn (p := m_chg σ (x : Int)) (i := i) (n := σ 1 0) hi2
          have es : st2 (m_an σ x) 28 (x : Int) v 28 (x : Int) = v := st2_eq
          have hs4 := hsp i (by omega) hi2
          have q10 := e10 v
          have q2 := e2 v
          have q4 := e4 v
          have J142 : ∀ y : Int, y = (if m_chg σ (x : Int) i = true then i else v) → XW LyM TM K 28 (st2 (m_an σ x) 28 (x : Int) v) 0 0 142 [some (.inr 1), some (.inl c), some (.inl (x : Int)), some (.inl i)] [.inl y, .inl (x : Int), .inr 28] := by
            intro y hy
            have ih3 := ihk (i + -1) y (by omega) (by omega) hcz (by
              rw [show i + -1 + 1 = i by omega, show σ 1 0 - (i + -1) = σ 1 0 + 1 - i by omega, hd, hy, hv]
              split
              · rw [if_neg (by omega)]
              · rfl)
            have ess : st2 (st2 (m_an σ x) 28 (x : Int) v) 28 (x : Int) y = st2 (m_an σ x) 28 (x : Int) y := by
              funext a b; simp only [st2]; by_cases h1 : a = 28 <;> by_cases h2 : b = (x : Int) <;> simp [h1, h2]
            rw [← ess] at ih3
            refine x_iast C d_M_analyse_142 rfl rfl (by omega) (by omega) (by omega) (by omega) ?_
            refine x_iinc C d_M_analyse_143 (by decide) rfl ⟨by omega, by omega⟩ ?_
            refine x_goto (tgt := 82) C d_M_analyse_146 rfl ?_
            exact ih3
          refine x_iload_n C d_M_analyse_82 rfl rfl ?_
          refine x_iload_n C d_M_analyse_83 rfl rfl ?_
          refine x_icmp_le (tgt := 149) C d_M_analyse_84 rfl (fun h84 => ?_) (fun h84 => ?_)
          · exact absurd h84 (by omega)
          · refine x_iload_n C d_M_analyse_87 rfl rfl ?_
            refine x_if_eq (tgt := 105) C d_M_analyse_88 rfl (fun h88 => ?_) (fun h88 => ?_)
            · refine x_aload_n C d_M_analyse_105 rfl rfl ?_
              refine x_getC C 36 28 cf_M fl_M_90 d_M_analyse_106 rfl rfl rfl (by omega) (by omega) rfl ?_
              refine x_iload_n C d_M_analyse_109 rfl rfl ?_
              refine x_aload_n C d_M_analyse_110 rfl rfl ?_
              refine x_getC C 2 2 cf_M fl_M_7 d_M_analyse_111 rfl rfl rfl (by omega) (by omega) rfl ?_
              refine x_iload_n C d_M_analyse_114 rfl rfl ?_
              refine x_iald C d_M_analyse_115 rfl (by omega) (by omega) (by omega) (by omega) (fun r115 => ?_)
              refine x_iconst C d_M_analyse_116 (by decide) ?_
              refine x_icmp_ge (tgt := 136) C d_M_analyse_117 rfl (fun h117 => ?_) (fun h117 => ?_)
              · refine x_aload_n C d_M_analyse_136 rfl rfl ?_
                refine x_getC C 36 28 cf_M fl_M_90 d_M_analyse_137 rfl rfl rfl (by omega) (by omega) rfl ?_
                refine x_iload_n C d_M_analyse_140 rfl rfl ?_
                refine x_iald C d_M_analyse_141 rfl (by omega) (by omega) (by omega) (by omega) (fun r141 => ?_)
                exact J142 _ (by simp only [m_chg]; rw [q2] at h117; first | (rw [q4] at h129; simp [h117, h129]; done) | (rw [es]; simp [show ¬ σ 2 i < 3 by omega]; done) | (rw [q4] at h129; rw [es]; simp [h129]; done))
              · refine x_aload_n C d_M_analyse_120 rfl rfl ?_
                refine x_getC C 4 4 cf_M fl_M_16 d_M_analyse_121 rfl rfl rfl (by omega) (by omega) rfl ?_
                refine x_iload_n C d_M_analyse_124 rfl rfl ?_
                refine x_iald C d_M_analyse_125 rfl (by omega) (by omega) (by omega) (by omega) (fun r125 => ?_)
                refine x_iconst C d_M_analyse_126 (by decide) ?_
                refine x_idiv C d_M_analyse_127 (by rw [q4]; exact hs4) (by decide) ?_
                refine x_iload_n C d_M_analyse_128 rfl rfl ?_
                refine x_icmp_ne (tgt := 136) C d_M_analyse_129 rfl (fun h129 => ?_) (fun h129 => ?_)
                · refine x_aload_n C d_M_analyse_136 rfl rfl ?_
                  refine x_getC C 36 28 cf_M fl_M_90 d_M_analyse_137 rfl rfl rfl (by omega) (by omega) rfl ?_
                  refine x_iload_n C d_M_analyse_140 rfl rfl ?_
                  refine x_iald C d_M_analyse_141 rfl (by omega) (by omega) (by omega) (by omega) (fun r141 => ?_)
                  exact J142 _ (by simp only [m_chg]; rw [q2] at h117; first | (rw [q4] at h129; simp [h117, h129]; done) | (rw [es]; simp [show ¬ σ 2 i < 3 by omega]; done) | (rw [q4] at h129; rw [es]; simp [h129]; done))
                · refine x_iload_n C d_M_analyse_132 rfl rfl ?_
                  refine x_goto (tgt := 142) C d_M_analyse_133 rfl ?_
                  exact J142 _ (by simp only [m_chg]; rw [q2] at h117; first | (rw [q4] at h129; simp [h117, h129]; done) | (rw [es]; simp [show ¬ σ 2 i < 3 by omega]; done) | (rw [q4] at h129; rw [es]; simp [h129]; done))
            · refine x_aload_n C d_M_analyse_91 rfl rfl ?_
              refine x_getC C 10 10 cf_M fl_M_34 d_M_analyse_92 rfl rfl rfl (by omega) (by omega) rfl ?_
              refine x_bipush C d_M_analyse_95 (by decide) (by decide) ?_
              refine x_iload_n C d_M_analyse_97 rfl rfl ?_
              refine x_imul C d_M_analyse_98 ⟨by omega, by omega⟩ ?_
              refine x_iload_n C d_M_analyse_99 rfl rfl ?_
              refine x_iadd C d_M_analyse_100 ⟨by omega, by omega⟩ ?_
              refine x_iald C d_M_analyse_101 rfl (by omega) (by omega) (by omega) (by omega) (fun r101 => ?_)
              refine x_if_ne (tgt := 149) C d_M_analyse_102 rfl (fun h102 => ?_) (fun h102 => ?_)
              · exact absurd h102 (by rw [q10]; omega)
              · refine x_aload_n C d_M_analyse_105 rfl rfl ?_
                refine x_getC C 36 28 cf_M fl_M_90 d_M_analyse_106 rfl rfl rfl (by omega) (by omega) rfl ?_
                refine x_iload_n C d_M_analyse_109 rfl rfl ?_
                refine x_aload_n C d_M_analyse_110 rfl rfl ?_
                refine x_getC C 2 2 cf_M fl_M_7 d_M_analyse_111 rfl rfl rfl (by omega) (by omega) rfl ?_
                refine x_iload_n C d_M_analyse_114 rfl rfl ?_
                refine x_iald C d_M_analyse_115 rfl (by omega) (by omega) (by omega) (by omega) (fun r115 => ?_)
                refine x_iconst C d_M_analyse_116 (by decide) ?_
                refine x_icmp_ge (tgt := 136) C d_M_analyse_117 rfl (fun h117 => ?_) (fun h117 => ?_)
                · refine x_aload_n C d_M_analyse_136 rfl rfl ?_
                  refine x_getC C 36 28 cf_M fl_M_90 d_M_analyse_137 rfl rfl rfl (by omega) (by omega) rfl ?_
                  refine x_iload_n C d_M_analyse_140 rfl rfl ?_
                  refine x_iald C d_M_analyse_141 rfl (by omega) (by omega) (by omega) (by omega) (fun r141 => ?_)
                  exact J142 _ (by simp only [m_chg]; rw [q2] at h117; first | (rw [q4] at h129; simp [h117, h129]; done) | (rw [es]; simp [show ¬ σ 2 i < 3 by omega]; done) | (rw [q4] at h129; rw [es]; simp [h129]; done))
                · refine x_aload_n C d_M_analyse_120 rfl rfl ?_
                  refine x_getC C 4 4 cf_M fl_M_16 d_M_analyse_121 rfl rfl rfl (by omega) (by omega) rfl ?_
                  refine x_iload_n C d_M_analyse_124 rfl rfl ?_
                  refine x_iald C d_M_analyse_125 rfl (by omega) (by omega) (by omega) (by omega) (fun r125 => ?_)
                  refine x_iconst C d_M_analyse_126 (by decide) ?_
                  refine x_idiv C d_M_analyse_127 (by rw [q4]; exact hs4) (by decide) ?_
                  refine x_iload_n C d_M_analyse_128 rfl rfl ?_
                  refine x_icmp_ne (tgt := 136) C d_M_analyse_129 rfl (fun h129 => ?_) (fun h129 => ?_)
                  · refine x_aload_n C d_M_analyse_136 rfl rfl ?_
                    refine x_getC C 36 28 cf_M fl_M_90 d_M_analyse_137 rfl rfl rfl (by omega) (by omega) rfl ?_
                    refine x_iload_n C d_M_analyse_140 rfl rfl ?_
                    refine x_iald C d_M_analyse_141 rfl (by omega) (by omega) (by omega) (by omega) (fun r141 => ?_)
                    exact J142 _ (by simp only [m_chg]; rw [q2] at h117; first | (rw [q4] at h129; simp [h117, h129]; done) | (rw [es]; simp [show ¬ σ 2 i < 3 by omega]; done) | (rw [q4] at h129; rw [es]; simp [h129]; done))
                  · refine x_iload_n C d_M_analyse_132 rfl rfl ?_
                    refine x_goto (tgt := 142) C d_M_analyse_133 rfl ?_
                    exact J142 _ (by simp only [m_chg]; rw [q2] at h117; first | (rw [q4] at h129; simp [h117, h129]; done) | (rw [es]; simp [show ¬ σ 2 i < 3 by omega]; done) | (rw [q4] at h129; rw [es]; simp [h129]; done))
      have J76 : ∀ v : Int, v = (if 0 < c then σ 10 (6 * c + (x : Int)) else 0) → XW LyM TM K 28 (m_an σ x) 0 0 76 [some (.inr 1), some (.inl c), some (.inl (x : Int)), w] [.inl v, .inl (x : Int), .inr 28] := by
        intro v hv
        by_cases hcz : c = 0 ∨ σ 10 (6 * c + (x : Int)) = 0
        · have hi := il (σ 1 0 - c).toNat (σ 1 0) v (by omega) (Int.le_refl _) hcz (by
            rw [show σ 1 0 - σ 1 0 = 0 by omega, hv]
            rcases hcz with h | h
            · simp [h, srch]
            · rw [h]; simp [srch])
          have ez2 := ez v
          rw [← ez2] at hi
          refine x_iast C d_M_analyse_76 rfl rfl (by omega) (by omega) (by omega) (by omega) ?_
          refine x_aload_n C d_M_analyse_77 rfl rfl ?_
          refine x_getI C 0 cf_M fl_M_114 d_M_analyse_78 rfl (by decide) rfl rfl (by omega) (by omega) (fun r78 => ?_)
          refine x_istore_n C d_M_analyse_81 rfl (by decide) ?_
          exact hi
        · have hc1 : ¬ c = 0 := fun h => hcz (Or.inl h)
          have hc2 : ¬ σ 10 (6 * c + (x : Int)) = 0 := fun h => hcz (Or.inr h)
          have hv2 : v = m_tab σ c (x : Int) := by rw [hv, if_pos (by omega), m_tab, if_pos ⟨by omega, hc2⟩]
          have q10 := e10 v
          have ez2 := ez v
          refine x_iast C d_M_analyse_76 rfl rfl (by omega) (by omega) (by omega) (by omega) ?_
          refine x_aload_n C d_M_analyse_77 rfl rfl ?_
          refine x_getI C 0 cf_M fl_M_114 d_M_analyse_78 rfl (by decide) rfl rfl (by omega) (by omega) (fun r78 => ?_)
          refine x_istore_n C d_M_analyse_81 rfl (by decide) ?_
          refine x_iload_n C d_M_analyse_82 rfl rfl ?_
          refine x_iload_n C d_M_analyse_83 rfl rfl ?_
          refine x_icmp_le (tgt := 149) C d_M_analyse_84 rfl (fun h84 => ?_) (fun h84 => ?_)
          · exact J149 _ _ hv2
          · refine x_iload_n C d_M_analyse_87 rfl rfl ?_
            refine x_if_eq (tgt := 105) C d_M_analyse_88 rfl (fun h88 => ?_) (fun h88 => ?_)
            · first | exact absurd h88 hc1 | exact absurd h102 (by rw [q10]; exact hc2)
            · refine x_aload_n C d_M_analyse_91 rfl rfl ?_
              refine x_getC C 10 10 cf_M fl_M_34 d_M_analyse_92 rfl rfl rfl (by omega) (by omega) rfl ?_
              refine x_bipush C d_M_analyse_95 (by decide) (by decide) ?_
              refine x_iload_n C d_M_analyse_97 rfl rfl ?_
              refine x_imul C d_M_analyse_98 ⟨by omega, by omega⟩ ?_
              refine x_iload_n C d_M_analyse_99 rfl rfl ?_
              refine x_iadd C d_M_analyse_100 ⟨by omega, by omega⟩ ?_
              refine x_iald C d_M_analyse_101 rfl (by omega) (by omega) (by omega) (by omega) (fun r101 => ?_)
              refine x_if_ne (tgt := 149) C d_M_analyse_102 rfl (fun h102 => ?_) (fun h102 => ?_)
              · exact J149 _ _ hv2
              · first | exact absurd h88 hc1 | exact absurd h102 (by rw [q10]; exact hc2)
      refine x_iload_n C d_M_analyse_46 rfl rfl ?_
      refine x_bipush C d_M_analyse_47 (by decide) (by decide) ?_
      refine x_icmp_ge (tgt := 194) C d_M_analyse_49 rfl (fun h49 => ?_) (fun h49 => ?_)
      · exact absurd h49 (by omega)
      · refine x_aload_n C d_M_analyse_52 rfl rfl ?_
        refine x_getC C 36 28 cf_M fl_M_90 d_M_analyse_53 rfl rfl rfl (by omega) (by omega) rfl ?_
        refine x_iload_n C d_M_analyse_56 rfl rfl ?_
        refine x_iload_n C d_M_analyse_57 rfl rfl ?_
        refine x_if_le (tgt := 75) C d_M_analyse_58 rfl (fun h58 => ?_) (fun h58 => ?_)
        · refine x_iconst C d_M_analyse_75 (by decide) ?_
          exact J76 _ (by first | (rw [if_pos (by omega), f10]; done) | (rw [if_neg (by omega)]; done))
        · refine x_aload_n C d_M_analyse_61 rfl rfl ?_
          refine x_getC C 10 10 cf_M fl_M_34 d_M_analyse_62 rfl rfl rfl (by omega) (by omega) rfl ?_
          refine x_bipush C d_M_analyse_65 (by decide) (by decide) ?_
          refine x_iload_n C d_M_analyse_67 rfl rfl ?_
          refine x_imul C d_M_analyse_68 ⟨by omega, by omega⟩ ?_
          refine x_iload_n C d_M_analyse_69 rfl rfl ?_
          refine x_iadd C d_M_analyse_70 ⟨by omega, by omega⟩ ?_
          refine x_iald C d_M_analyse_71 rfl (by omega) (by omega) (by omega) (by omega) (fun r71 => ?_)
          refine x_goto (tgt := 76) C d_M_analyse_72 rfl ?_
          exact J76 _ (by first | (rw [if_pos (by omega), f10]; done) | (rw [if_neg (by omega)]; done))
  have cl : ∀ (q i : Nat), (i : Int) + q = σ 1 0 → XW LyM TM K 28 σ 0 0 4 [some (.inr 1), some (.inl (srchD (fun i => decide (σ 2 i = 4)) i)), some (.inl ((i : Int) + 1)), none] [] := by
    intro q
    induction q with
    | zero =>
      intro i hi
      have e : i = (σ 1 0).toNat := by omega
      have e2 : srchD (fun i => decide (σ 2 i = 4)) i = c := by rw [e, ← hcc]; rfl
      rw [e2]
      have hg := gl 6 0 none (by omega)
      rw [m_an_0] at hg
      refine x_iload_n C d_M_analyse_4 rfl rfl ?_
      refine x_aload_n C d_M_analyse_5 rfl rfl ?_
      refine x_getI C 0 cf_M fl_M_114 d_M_analyse_6 rfl (by decide) rfl rfl (by omega) (by omega) (fun r6 => ?_)
      refine x_icmp_gt (tgt := 34) C d_M_analyse_9 rfl (fun h9 => ?_) (fun h9 => ?_)
      · refine x_aload_n C d_M_analyse_34 rfl rfl ?_
        refine x_aload_n C d_M_analyse_35 rfl rfl ?_
        refine x_getI C 0 cf_M fl_M_114 d_M_analyse_36 rfl (by decide) rfl rfl (by omega) (by omega) (fun r36 => ?_)
        refine x_iconst C d_M_analyse_39 (by decide) ?_
        refine x_iadd C d_M_analyse_40 ⟨by omega, by omega⟩ ?_
        refine x_putI C 35 rfl cf_M fl_M_201 d_M_analyse_41 rfl (Or.inl ⟨rfl, rfl⟩) rfl rfl rfl (by omega) (by omega) ?_
        refine x_iconst C d_M_analyse_44 (by decide) ?_
        refine x_istore_n C d_M_analyse_45 rfl (by decide) ?_
        exact hg
      · exact absurd h9 (by omega)
    | succ q ih =>
      intro i hi
      have ih2 := ih (i + 1) (by omega)
      rw [show srchD (fun i => decide (σ 2 i = 4)) (i + 1) = if decide (σ 2 ((i : Int) + 1) = 4) = true then (i : Int) + 1 else srchD (fun i => decide (σ 2 i = 4)) i from rfl] at ih2
      generalize srchD (fun i => decide (σ 2 i = 4)) i = cn at *
      have J27 : ∀ v : Int, v = (if decide (σ 2 ((i : Int) + 1) = 4) = true then (i : Int) + 1 else cn) → XW LyM TM K 28 σ 0 0 27 [some (.inr 1), some (.inl cn), some (.inl ((i : Int) + 1)), none] [.inl v] := by
        intro v hv
        subst hv
        refine x_istore_n C d_M_analyse_27 rfl (by decide) ?_
        refine x_iinc C d_M_analyse_28 (by decide) rfl ⟨by omega, by omega⟩ ?_
        refine x_goto (tgt := 4) C d_M_analyse_31 rfl ?_
        exact ih2
      refine x_iload_n C d_M_analyse_4 rfl rfl ?_
      refine x_aload_n C d_M_analyse_5 rfl rfl ?_
      refine x_getI C 0 cf_M fl_M_114 d_M_analyse_6 rfl (by decide) rfl rfl (by omega) (by omega) (fun r6 => ?_)
      refine x_icmp_gt (tgt := 34) C d_M_analyse_9 rfl (fun h9 => ?_) (fun h9 => ?_)
      · exact absurd h9 (by omega)
      · refine x_aload_n C d_M_analyse_12 rfl rfl ?_
        refine x_getC C 2 2 cf_M fl_M_7 d_M_analyse_13 rfl rfl rfl (by omega) (by omega) rfl ?_
        refine x_iload_n C d_M_analyse_16 rfl rfl ?_
        refine x_iald C d_M_analyse_17 rfl (by omega) (by omega) (by omega) (by omega) (fun r17 => ?_)
        refine x_iconst C d_M_analyse_18 (by decide) ?_
        refine x_icmp_ne (tgt := 26) C d_M_analyse_19 rfl (fun h19 => ?_) (fun h19 => ?_)
        · refine x_iload_n C d_M_analyse_26 rfl rfl ?_
          exact J27 _ (by simp [h19])
        · refine x_iload_n C d_M_analyse_22 rfl rfl ?_
          refine x_goto (tgt := 27) C d_M_analyse_23 rfl ?_
          exact J27 _ (by simp [h19])
  refine x_iconst C d_M_analyse_0 (by decide) ?_
  refine x_istore_n C d_M_analyse_1 rfl (by decide) ?_
  refine x_iconst C d_M_analyse_2 (by decide) ?_
  refine x_istore_n C d_M_analyse_3 rfl (by decide) ?_
  exact cl (σ 1 0).toNat 0 (by omega)
theorem c_M_redo {σ : Hp} {i : Int} (h0 : 0 ≤ i) (h1 : i < 204) (h2 : 0 ≤ σ 4 i) (h3 : σ 4 i < 24) (hB : mB σ) : Ok LyM TM y_M_redo b_M_redo 3 none 3 0 0 [.inr 1, .inl i] 28 σ (pV 28 (m_redo σ i)) := by
  refine ok_mk (by decide) (Nat.le_of_ble_eq_true rfl) (fun K C rt ha hok hfx => ?_)
  show XW LyM TM K 28 σ 0 0 0 [some (.inr 1), some (.inl i), none] []
  have f4 : m_fetch σ (σ 4 i / 4) 4 i = σ 4 i := by rw [m_fetch_fr _ _ (by decide) (by decide)]
  refine x_aload_n C d_M_redo_0 rfl rfl ?_
  refine x_getC C 4 4 cf_M fl_M_16 d_M_redo_1 rfl rfl rfl (by omega) (by omega) rfl ?_
  refine x_iload_n C d_M_redo_4 rfl rfl ?_
  refine x_iald C d_M_redo_5 rfl (by omega) (by omega) (by omega) (by omega) (fun r5 => ?_)
  refine x_iconst C d_M_redo_6 (by decide) ?_
  refine x_idiv C d_M_redo_7 (by omega) (by decide) ?_
  refine x_istore_n C d_M_redo_8 rfl (by decide) ?_
  refine x_aload_n C d_M_redo_9 rfl rfl ?_
  refine x_getC C 2 2 cf_M fl_M_7 d_M_redo_10 rfl rfl rfl (by omega) (by omega) rfl ?_
  refine x_iload_n C d_M_redo_13 rfl rfl ?_
  refine x_iald C d_M_redo_14 rfl (by omega) (by omega) (by omega) (by omega) (fun r14 => ?_)
  refine x_iconst C d_M_redo_15 (by decide) ?_
  refine x_icmp_ge (tgt := 58) C d_M_redo_16 rfl (fun h16 => ?_) (fun h16 => ?_)
  · exact x_vret rt d_M_redo_58 (by omega) (by omega) ⟨rfl, rfl, by rw [m_redo]; first | (rw [if_pos ⟨by omega, by omega, by omega⟩, if_pos (by omega)]; done) | (rw [if_pos ⟨by omega, by omega, by omega⟩, if_neg (by omega)]; done) | (rw [if_neg (by omega)]; done)⟩
  · refine x_aload_n C d_M_redo_19 rfl rfl ?_
    refine x_getC C 36 28 cf_M fl_M_90 d_M_redo_20 rfl rfl rfl (by omega) (by omega) rfl ?_
    refine x_iload_n C d_M_redo_23 rfl rfl ?_
    refine x_iald C d_M_redo_24 rfl (by omega) (by omega) (by omega) (by omega) (fun r24 => ?_)
    refine x_if_le (tgt := 58) C d_M_redo_25 rfl (fun h25 => ?_) (fun h25 => ?_)
    · exact x_vret rt d_M_redo_58 (by omega) (by omega) ⟨rfl, rfl, by rw [m_redo]; first | (rw [if_pos ⟨by omega, by omega, by omega⟩, if_pos (by omega)]; done) | (rw [if_pos ⟨by omega, by omega, by omega⟩, if_neg (by omega)]; done) | (rw [if_neg (by omega)]; done)⟩
    · refine x_aload_n C d_M_redo_28 rfl rfl ?_
      refine x_getC C 36 28 cf_M fl_M_90 d_M_redo_29 rfl rfl rfl (by omega) (by omega) rfl ?_
      refine x_iload_n C d_M_redo_32 rfl rfl ?_
      refine x_iald C d_M_redo_33 rfl (by omega) (by omega) (by omega) (by omega) (fun r33 => ?_)
      refine x_iload_n C d_M_redo_34 rfl rfl ?_
      refine x_icmp_gt (tgt := 58) C d_M_redo_35 rfl (fun h35 => ?_) (fun h35 => ?_)
      · exact x_vret rt d_M_redo_58 (by omega) (by omega) ⟨rfl, rfl, by rw [m_redo]; first | (rw [if_pos ⟨by omega, by omega, by omega⟩, if_pos (by omega)]; done) | (rw [if_pos ⟨by omega, by omega, by omega⟩, if_neg (by omega)]; done) | (rw [if_neg (by omega)]; done)⟩
      · refine x_aload_n C d_M_redo_38 rfl rfl ?_
        refine x_iload_n C d_M_redo_39 rfl rfl ?_
        refine x_callV C cl_M_121 cb_M_fetch cs_M_fetch d_M_redo_40 (c_M_fetch (by omega) (by omega) hB) rfl rfl rfl rfl rfl (by omega) (by omega) (by decide) (by decide) (Nat.le_of_ble_eq_true rfl) (by omega) (by omega) ?_
        rintro _ _ _ ⟨rfl, rfl, rfl⟩ -
        skip
        refine x_aload_n C d_M_redo_43 rfl rfl ?_
        refine x_getC C 16 16 cf_M fl_M_52 d_M_redo_44 rfl rfl rfl (by omega) (by omega) rfl ?_
        refine x_iload_n C d_M_redo_47 rfl rfl ?_
        refine x_iald C d_M_redo_48 rfl (by omega) (by omega) (by omega) (by omega) (fun r48 => ?_)
        refine x_iload_n C d_M_redo_49 rfl rfl ?_
        refine x_icmp_ge (tgt := 58) C d_M_redo_50 rfl (fun h50 => ?_) (fun h50 => ?_)
        · exact x_vret rt d_M_redo_58 (by omega) (by omega) ⟨rfl, rfl, by rw [m_redo]; first | (rw [if_pos ⟨by omega, by omega, by omega⟩, if_pos (by omega)]; done) | (rw [if_pos ⟨by omega, by omega, by omega⟩, if_neg (by omega)]; done) | (rw [if_neg (by omega)]; done)⟩
        · refine x_aload_n C d_M_redo_53 rfl rfl ?_
          refine x_iload_n C d_M_redo_54 rfl rfl ?_
          refine x_callV C cl_M_128 cb_M_apply cs_M_apply d_M_redo_55 (c_M_apply h0 h1 (by omega) (by omega)) rfl rfl rfl rfl rfl (by omega) (by omega) (by decide) (by decide) (Nat.le_of_ble_eq_true rfl) (by omega) (by omega) ?_
          rintro _ _ _ ⟨rfl, rfl, rfl⟩ -
          skip
          exact x_vret rt d_M_redo_58 (by omega) (by omega) ⟨rfl, rfl, by rw [m_redo]; first | (rw [if_pos ⟨by omega, by omega, by omega⟩, if_pos (by omega)]; done) | (rw [if_pos ⟨by omega, by omega, by omega⟩, if_neg (by omega)]; done) | (rw [if_neg (by omega)]; done)⟩
theorem c_M_finish {σ : Hp} (h0 : 0 ≤ σ 1 22) (h1 : σ 1 22 ≤ 60) (hz : 0 ≤ σ 1 0) (hz1 : σ 1 0 < 204) : Ok LyM TM y_M_finish b_M_finish 2 none 2 0 0 [.inr 1] 28 σ (pV 28 (m_finish σ)) := by
  refine ok_mk (by decide) (Nat.le_of_ble_eq_true rfl) (fun K C rt ha hok hfx => ?_)
  show XW LyM TM K 28 σ 0 0 0 [some (.inr 1), none] []
  have loop : ∀ (q : Nat) (x : Int), 1 ≤ x → x + q = σ 1 22 + 1 → XW LyM TM K 28 (m_fin (st2 σ 1 32 0) x) 0 0 7 [some (.inr 1), some (.inl x)] [] := by
    intro q
    induction q with
    | zero =>
      intro x hx hq
      have e1 : m_fin (st2 σ 1 32 0) x 1 22 = σ 1 22 := by simp [m_fin, st2]
      obtain rfl : x = σ 1 22 + 1 := by omega
      refine x_iload_n C d_M_finish_7 rfl rfl ?_
      refine x_aload_n C d_M_finish_8 rfl rfl ?_
      refine x_getI C 22 cf_M fl_M_138 d_M_finish_9 rfl (by decide) rfl rfl (by omega) (by omega) (fun r9 => ?_)
      refine x_icmp_gt (tgt := 51) C d_M_finish_12 rfl (fun h12 => ?_) (fun h12 => ?_)
      · exact x_vret rt d_M_finish_51 (by omega) (by omega) ⟨rfl, rfl, rfl⟩
      · exact absurd h12 (by omega)
    | succ q ih =>
      intro x hx hq
      have e1 : m_fin (st2 σ 1 32 0) x 1 22 = σ 1 22 := by simp [m_fin, st2]
      have e2 : m_fin (st2 σ 1 32 0) x 1 0 = σ 1 0 := by simp [m_fin, st2]
      have e3 : m_fin (st2 σ 1 32 0) x 19 x = σ 19 x := by simp [m_fin, st2]
      have hcm : m_committed (m_fin (st2 σ 1 32 0) x) x = m_committed (st2 σ 1 32 0) x := m_committed_c (by simp [m_fin, st2]) (by funext b; simp [m_fin]) (by funext b; simp [m_fin]) x
      have ih2 := ih (x + 1) (by omega) (by omega)
      have hno : ¬ σ 19 x = 6 → m_fin (st2 σ 1 32 0) (x + 1) = m_fin (st2 σ 1 32 0) x := by
        intro hn
        clear ih ih2 rt ha hok hfx C
        funext a b
        simp only [m_fin]
        have e5 : st2 σ 1 32 0 19 b = σ 19 b := by simp [st2]
        rw [e5]
        by_cases hb : b = x
        · subst hb; simp [hn]
        · have : b < x + 1 ↔ b < x := by omega
          simp [this]
      have hyes : σ 19 x = 6 → m_fin (st2 σ 1 32 0) (x + 1) = st2 (m_fin (st2 σ 1 32 0) x) 19 x (if m_committed (st2 σ 1 32 0) x = true then 4 else 5) := by
        intro hy
        clear ih ih2 rt ha hok hfx C
        funext a b
        have e5 : st2 σ 1 32 0 19 b = σ 19 b := by simp [st2]
        by_cases ha : a = 19
        · subst ha
          by_cases hb : b = x
          · subst hb
            rw [st2_eq]
            simp only [m_fin]
            rw [if_pos ⟨trivial, hx, by omega, by rw [e5]; exact hy⟩]
          · rw [st2_ii hb]
            simp only [m_fin]
            have : b < x + 1 ↔ b < x := by omega
            simp [this]
        · rw [st2_ne ha]
          simp [m_fin, ha]
      have J44 : ∀ v : Int, σ 19 x = 6 → v = (if m_committed (st2 σ 1 32 0) x = true then 4 else 5) → XW LyM TM K 28 (m_fin (st2 σ 1 32 0) x) 0 0 44 [some (.inr 1), some (.inl x)] [.inl v, .inl x, .inr 19] := by
        intro v h6 hv
        rw [hyes h6, ← hv] at ih2
        refine x_iast C d_M_finish_44 rfl rfl (by omega) (by omega) (by omega) (by omega) ?_
        refine x_iinc C d_M_finish_45 (by decide) rfl ⟨by omega, by omega⟩ ?_
        refine x_goto (tgt := 7) C d_M_finish_48 rfl ?_
        exact ih2
      refine x_iload_n C d_M_finish_7 rfl rfl ?_
      refine x_aload_n C d_M_finish_8 rfl rfl ?_
      refine x_getI C 22 cf_M fl_M_138 d_M_finish_9 rfl (by decide) rfl rfl (by omega) (by omega) (fun r9 => ?_)
      refine x_icmp_gt (tgt := 51) C d_M_finish_12 rfl (fun h12 => ?_) (fun h12 => ?_)
      · exact absurd h12 (by omega)
      · refine x_aload_n C d_M_finish_15 rfl rfl ?_
        refine x_getC C 23 19 cf_M fl_M_61 d_M_finish_16 rfl rfl rfl (by omega) (by omega) rfl ?_
        refine x_iload_n C d_M_finish_19 rfl rfl ?_
        refine x_iald C d_M_finish_20 rfl (by omega) (by omega) (by omega) (by omega) (fun r20 => ?_)
        refine x_bipush C d_M_finish_21 (by decide) (by decide) ?_
        refine x_icmp_ne (tgt := 45) C d_M_finish_23 rfl (fun h23 => ?_) (fun h23 => ?_)
        · refine x_iinc C d_M_finish_45 (by decide) rfl ⟨by omega, by omega⟩ ?_
          refine x_goto (tgt := 7) C d_M_finish_48 rfl ?_
          rw [hno (by omega)] at ih2
          exact ih2
        · refine x_aload_n C d_M_finish_26 rfl rfl ?_
          refine x_getC C 23 19 cf_M fl_M_61 d_M_finish_27 rfl rfl rfl (by omega) (by omega) rfl ?_
          refine x_iload_n C d_M_finish_30 rfl rfl ?_
          refine x_aload_n C d_M_finish_31 rfl rfl ?_
          refine x_iload_n C d_M_finish_32 rfl rfl ?_
          refine x_callV C cl_M_117 cb_M_committed cs_M_committed d_M_finish_33 (c_M_committed (by omega) (by omega)) rfl rfl rfl rfl rfl (by omega) (by omega) (by decide) (by decide) (Nat.le_of_ble_eq_true rfl) (by omega) (by omega) ?_
          rintro _ _ _ ⟨rfl, rfl, rfl⟩ -
          skip
          refine x_if_eq (tgt := 43) C d_M_finish_36 rfl (fun h36 => ?_) (fun h36 => ?_)
          · refine x_iconst C d_M_finish_43 (by decide) ?_
            exact J44 _ (by omega) (by rw [hcm] at h36; first | (rw [b2i_1 h36]; rfl) | (rw [b2i_0 h36]; rfl))
          · refine x_iconst C d_M_finish_39 (by decide) ?_
            refine x_goto (tgt := 44) C d_M_finish_40 rfl ?_
            exact J44 _ (by omega) (by rw [hcm] at h36; first | (rw [b2i_1 h36]; rfl) | (rw [b2i_0 h36]; rfl))
  have hl := loop (σ 1 22).toNat 1 (by omega) (by omega)
  rw [m_fin_1] at hl
  refine x_aload_n C d_M_finish_0 rfl rfl ?_
  refine x_iconst C d_M_finish_1 (by decide) ?_
  refine x_putI C 32 rfl cf_M fl_M_172 d_M_finish_2 rfl (Or.inr ⟨rfl, rfl, by omega, by omega⟩) rfl rfl rfl (by omega) (by omega) ?_
  refine x_iconst C d_M_finish_5 (by decide) ?_
  refine x_istore_n C d_M_finish_6 rfl (by decide) ?_
  exact hl
theorem c_M_unit {σ : Hp} (h0 : 0 ≤ σ 1 22) (h1 : σ 1 22 ≤ 60) (hz : 0 ≤ σ 1 0) (hz1 : σ 1 0 < 203) (hB : mB σ) (hsp : ∀ i : Int, 0 ≤ i → i ≤ σ 1 0 → 0 ≤ σ 4 i ∧ σ 4 i < 24) (hnx : ¬ σ 1 34 = 0 → 0 ≤ σ 1 35)
    (hz2 : 0 ≤ m_unit1 σ 1 0 ∧ m_unit1 σ 1 0 < 204) (hb2 : m_unit1 σ 1 22 = σ 1 22) : Ok LyM TM y_M_unit b_M_unit 1 none 4 0 0 [.inr 1] 28 σ (pV 28 (m_unit σ)) := by
  refine ok_mk (by decide) (Nat.le_of_ble_eq_true rfl) (fun K C rt ha hok hfx => ?_)
  show XW LyM TM K 28 σ 0 0 0 [some (.inr 1)] []
  have hu1 : m_unit1 σ = if σ 1 34 = 0 then m_analyse σ else if σ 1 35 ≤ σ 1 0 ∧ σ 1 35 < 1000 then st2 (m_redo σ (σ 1 35)) 1 35 (m_redo σ (σ 1 35) 1 35 + 1) else m_takeBack σ (m_open σ 0) := rfl
  have hol := m_open_le σ 0 hz
  have hos := hsp (m_open σ 0) hol.1 hol.2
  have J87 : ∀ v : Int, v = (if m_unit1 σ 1 0 < m_unit1 σ 1 35 then 1000 else m_unit1 σ 1 35) → XW LyM TM K 28 (m_unit1 σ) 0 0 87 [some (.inr 1)] [.inl v, .inr 1] := by
    intro v hv
    have e2 : st2 (m_unit1 σ) 1 35 v = m_unit2 (m_unit1 σ) := by rw [hv]; rfl
    have z2 : m_unit2 (m_unit1 σ) 1 0 = m_unit1 σ 1 0 := by rw [m_unit2, st2_ii (by decide)]
    have b2 : m_unit2 (m_unit1 σ) 1 22 = m_unit1 σ 1 22 := by rw [m_unit2, st2_ii (by decide)]
    have hu : m_unit σ = if m_unit2 (m_unit1 σ) 1 35 = 1000 ∧ m_open (m_unit2 (m_unit1 σ)) 0 = 0 then m_finish (m_unit2 (m_unit1 σ)) else m_unit2 (m_unit1 σ) := rfl
    rw [← z2] at hz2
    rw [← b2] at hb2
    refine x_putI C 35 rfl cf_M fl_M_201 d_M_unit_87 rfl (Or.inl ⟨rfl, rfl⟩) rfl rfl rfl (by omega) (by omega) ?_
    rw [e2]
    refine x_aload_n C d_M_unit_90 rfl rfl ?_
    refine x_getI C 35 cf_M fl_M_201 d_M_unit_91 rfl (by decide) rfl rfl (by omega) (by omega) (fun r91 => ?_)
    refine x_sipush C d_M_unit_94 (by decide) (by decide) ?_
    refine x_icmp_ne (tgt := 112) C d_M_unit_97 rfl (fun h97 => ?_) (fun h97 => ?_)
    · exact x_vret rt d_M_unit_112 (by omega) (by omega) ⟨rfl, rfl, by rw [hu]; first | (rw [if_pos ⟨by omega, by omega⟩]; done) | (rw [if_neg (by omega)]; done)⟩
    · refine x_aload_n C d_M_unit_100 rfl rfl ?_
      refine x_iconst C d_M_unit_101 (by decide) ?_
      refine x_callV C cl_M_150 cb_M_open cs_M_open d_M_unit_102 (c_M_open hz2.1 hz2.2) rfl rfl rfl rfl rfl (by omega) (by omega) (by decide) (by decide) (Nat.le_of_ble_eq_true rfl) (by omega) (by omega) ?_
      rintro _ _ _ ⟨rfl, rfl, rfl⟩ -
      skip
      refine x_if_ne (tgt := 112) C d_M_unit_105 rfl (fun h105 => ?_) (fun h105 => ?_)
      · exact x_vret rt d_M_unit_112 (by omega) (by omega) ⟨rfl, rfl, by rw [hu]; first | (rw [if_pos ⟨by omega, by omega⟩]; done) | (rw [if_neg (by omega)]; done)⟩
      · refine x_aload_n C d_M_unit_108 rfl rfl ?_
        refine x_callV C cl_M_210 cb_M_finish cs_M_finish d_M_unit_109 (c_M_finish (by omega) (by omega) hz2.1 hz2.2) rfl rfl rfl rfl rfl (by omega) (by omega) (by decide) (by decide) (Nat.le_of_ble_eq_true rfl) (by omega) (by omega) ?_
        rintro _ _ _ ⟨rfl, rfl, rfl⟩ -
        skip
        exact x_vret rt d_M_unit_112 (by omega) (by omega) ⟨rfl, rfl, by rw [hu]; first | (rw [if_pos ⟨by omega, by omega⟩]; done) | (rw [if_neg (by omega)]; done)⟩
  have J65 : ∀ τ : Hp, τ = m_unit1 σ → XW LyM TM K 28 τ 0 0 65 [some (.inr 1)] [] := by
    intro τ hτ
    subst hτ
    refine x_aload_n C d_M_unit_65 rfl rfl ?_
    refine x_aload_n C d_M_unit_66 rfl rfl ?_
    refine x_getI C 35 cf_M fl_M_201 d_M_unit_67 rfl (by decide) rfl rfl (by omega) (by omega) (fun r67 => ?_)
    refine x_aload_n C d_M_unit_70 rfl rfl ?_
    refine x_getI C 0 cf_M fl_M_114 d_M_unit_71 rfl (by decide) rfl rfl (by omega) (by omega) (fun r71 => ?_)
    refine x_icmp_le (tgt := 83) C d_M_unit_74 rfl (fun h74 => ?_) (fun h74 => ?_)
    · refine x_aload_n C d_M_unit_83 rfl rfl ?_
      refine x_getI C 35 cf_M fl_M_201 d_M_unit_84 rfl (by decide) rfl rfl (by omega) (by omega) (fun r84 => ?_)
      exact J87 _ (by first | (rw [if_pos (by omega)]; done) | (rw [if_neg (by omega)]; done))
    · refine x_sipush C d_M_unit_77 (by decide) (by decide) ?_
      refine x_goto (tgt := 87) C d_M_unit_80 rfl ?_
      exact J87 _ (by first | (rw [if_pos (by omega)]; done) | (rw [if_neg (by omega)]; done))
  have hrd : ¬ σ 1 34 = 0 → σ 1 35 ≤ σ 1 0 → m_redo σ (σ 1 35) 1 35 = σ 1 35 := by
    intro _ _
    simp only [m_redo]
    split
    · split
      · simp [m_apply, st2, m_fetch_1]
      · rw [m_fetch_1 _ _ (by decide) (by decide) (by decide) (by decide)]
    · rfl
  refine x_aload_n C d_M_unit_0 rfl rfl ?_
  refine x_getI C 34 cf_M fl_M_198 d_M_unit_1 rfl (by decide) rfl rfl (by omega) (by omega) (fun r1 => ?_)
  refine x_if_ne (tgt := 14) C d_M_unit_4 rfl (fun h4 => ?_) (fun h4 => ?_)
  · refine x_aload_n C d_M_unit_14 rfl rfl ?_
    refine x_getI C 35 cf_M fl_M_201 d_M_unit_15 rfl (by decide) rfl rfl (by omega) (by omega) (fun r15 => ?_)
    refine x_aload_n C d_M_unit_18 rfl rfl ?_
    refine x_getI C 0 cf_M fl_M_114 d_M_unit_19 rfl (by decide) rfl rfl (by omega) (by omega) (fun r19 => ?_)
    refine x_icmp_gt (tgt := 56) C d_M_unit_22 rfl (fun h22 => ?_) (fun h22 => ?_)
    · refine x_aload_n C d_M_unit_56 rfl rfl ?_
      refine x_aload_n C d_M_unit_57 rfl rfl ?_
      refine x_iconst C d_M_unit_58 (by decide) ?_
      refine x_callV C cl_M_150 cb_M_open cs_M_open d_M_unit_59 (c_M_open hz (by omega)) rfl rfl rfl rfl rfl (by omega) (by omega) (by decide) (by decide) (Nat.le_of_ble_eq_true rfl) (by omega) (by omega) ?_
      rintro _ _ _ ⟨rfl, rfl, rfl⟩ -
      skip
      refine x_callV C cl_M_153 cb_M_takeBack cs_M_takeBack d_M_unit_62 (c_M_takeBack hol.1 (by omega) hos.1 hos.2 hB hz hz1) rfl rfl rfl rfl rfl (by omega) (by omega) (by decide) (by decide) (Nat.le_of_ble_eq_true rfl) (by omega) (by omega) ?_
      rintro _ _ _ ⟨rfl, rfl, rfl⟩ -
      skip
      exact J65 _ (by rw [hu1]; first | (rw [if_pos h4]; done) | (rw [if_neg h4, if_pos ⟨by omega, by omega⟩]; done) | (rw [if_neg h4, if_neg (by omega)]; done))
    · refine x_aload_n C d_M_unit_25 rfl rfl ?_
      refine x_getI C 35 cf_M fl_M_201 d_M_unit_26 rfl (by decide) rfl rfl (by omega) (by omega) (fun r26 => ?_)
      refine x_sipush C d_M_unit_29 (by decide) (by decide) ?_
      refine x_icmp_ge (tgt := 56) C d_M_unit_32 rfl (fun h32 => ?_) (fun h32 => ?_)
      · refine x_aload_n C d_M_unit_56 rfl rfl ?_
        refine x_aload_n C d_M_unit_57 rfl rfl ?_
        refine x_iconst C d_M_unit_58 (by decide) ?_
        refine x_callV C cl_M_150 cb_M_open cs_M_open d_M_unit_59 (c_M_open hz (by omega)) rfl rfl rfl rfl rfl (by omega) (by omega) (by decide) (by decide) (Nat.le_of_ble_eq_true rfl) (by omega) (by omega) ?_
        rintro _ _ _ ⟨rfl, rfl, rfl⟩ -
        skip
        refine x_callV C cl_M_153 cb_M_takeBack cs_M_takeBack d_M_unit_62 (c_M_takeBack hol.1 (by omega) hos.1 hos.2 hB hz hz1) rfl rfl rfl rfl rfl (by omega) (by omega) (by decide) (by decide) (Nat.le_of_ble_eq_true rfl) (by omega) (by omega) ?_
        rintro _ _ _ ⟨rfl, rfl, rfl⟩ -
        skip
        exact J65 _ (by rw [hu1]; first | (rw [if_pos h4]; done) | (rw [if_neg h4, if_pos ⟨by omega, by omega⟩]; done) | (rw [if_neg h4, if_neg (by omega)]; done))
      · refine x_aload_n C d_M_unit_35 rfl rfl ?_
        refine x_aload_n C d_M_unit_36 rfl rfl ?_
        refine x_getI C 35 cf_M fl_M_201 d_M_unit_37 rfl (by decide) rfl rfl (by omega) (by omega) (fun r37 => ?_)
        refine x_callV C cl_M_207 cb_M_redo cs_M_redo d_M_unit_40 (c_M_redo (hnx h4) (by omega) (hsp _ (hnx h4) h22).1 (hsp _ (hnx h4) h22).2 hB) rfl rfl rfl rfl rfl (by omega) (by omega) (by decide) (by decide) (Nat.le_of_ble_eq_true rfl) (by omega) (by omega) ?_
        rintro _ _ _ ⟨rfl, rfl, rfl⟩ -
        skip
        refine x_aload_n C d_M_unit_43 rfl rfl ?_
        refine x_dup C d_M_unit_44 ?_
        refine x_getI C 35 cf_M fl_M_201 d_M_unit_45 rfl (by decide) rfl rfl (by omega) (by omega) (fun r45 => ?_)
        refine x_iconst C d_M_unit_48 (by decide) ?_
        refine x_iadd C d_M_unit_49 ⟨by rw [hrd h4 h22]; omega, by rw [hrd h4 h22]; omega⟩ ?_
        refine x_putI C 35 rfl cf_M fl_M_201 d_M_unit_50 rfl (Or.inl ⟨rfl, rfl⟩) rfl rfl rfl (by omega) (by omega) ?_
        refine x_goto (tgt := 65) C d_M_unit_53 rfl ?_
        exact J65 _ (by rw [hu1]; first | (rw [if_pos h4]; done) | (rw [if_neg h4, if_pos ⟨by omega, by omega⟩]; done) | (rw [if_neg h4, if_neg (by omega)]; done))
  · refine x_aload_n C d_M_unit_7 rfl rfl ?_
    refine x_callV C cl_M_204 cb_M_analyse cs_M_analyse d_M_unit_8 (c_M_analyse hz hz1 (fun i a b => (hsp i a b).1)) rfl rfl rfl rfl rfl (by omega) (by omega) (by decide) (by decide) (Nat.le_of_ble_eq_true rfl) (by omega) (by omega) ?_
    rintro _ _ _ ⟨rfl, rfl, rfl⟩ -
    skip
    refine x_goto (tgt := 65) C d_M_unit_11 rfl ?_
    exact J65 _ (by rw [hu1]; first | (rw [if_pos h4]; done) | (rw [if_neg h4, if_pos ⟨by omega, by omega⟩]; done) | (rw [if_neg h4, if_neg (by omega)]; done))
theorem c_M_restart {σ : Hp} {n : Int} (P : Nat → Hp → Prop) (hP : ¬ σ 1 32 = 0 → P 0 σ) (hs : ∀ (k : Nat) (τ : Hp), P k τ → ¬ τ 1 32 = 0 → Ok LyM TM y_M_unit b_M_unit 1 none 4 0 0 [.inr 1] 28 τ (pV 28 (m_unit τ)) ∧ P (k + 1) (m_unit τ)) : Ok LyM TM y_M_restart b_M_restart 3 (some .int) 5 0 0 [.inr 1, .inl n] 28 σ (pI 28 (m_restart σ n).2 (m_restart σ n).1) := by
  refine ok_mk (by decide) (Nat.le_of_ble_eq_true rfl) (fun K C rt ha hok hfx => ?_)
  show XW LyM TM K 28 σ 0 0 0 [some (.inr 1), some (.inl n), none] []
  by_cases hc : σ 1 32 = 0 ∨ n < 1 ∨ 100 < n
  · have hr : m_restart σ n = (-1, σ) := if_pos hc
    rw [hr] at rt
    refine x_aload_n C d_M_restart_0 rfl rfl ?_
    refine x_getI C 32 cf_M fl_M_172 d_M_restart_1 rfl (by decide) rfl rfl (by omega) (by omega) (fun r1 => ?_)
    refine x_if_eq (tgt := 18) C d_M_restart_4 rfl (fun h4 => ?_) (fun h4 => ?_)
    · refine x_iconst C d_M_restart_18 (by decide) ?_
      exact x_iret rt d_M_restart_19 (by omega) (by omega) ⟨rfl, rfl, rfl⟩
    · refine x_iload_n C d_M_restart_7 rfl rfl ?_
      refine x_iconst C d_M_restart_8 (by decide) ?_
      refine x_icmp_lt (tgt := 18) C d_M_restart_9 rfl (fun h9 => ?_) (fun h9 => ?_)
      · refine x_iconst C d_M_restart_18 (by decide) ?_
        exact x_iret rt d_M_restart_19 (by omega) (by omega) ⟨rfl, rfl, rfl⟩
      · refine x_iload_n C d_M_restart_12 rfl rfl ?_
        refine x_bipush C d_M_restart_13 (by decide) (by decide) ?_
        refine x_icmp_le (tgt := 20) C d_M_restart_15 rfl (fun h15 => ?_) (fun h15 => ?_)
        · exact absurd hc (by omega)
        · refine x_iconst C d_M_restart_18 (by decide) ?_
          exact x_iret rt d_M_restart_19 (by omega) (by omega) ⟨rfl, rfl, rfl⟩
  · have hr : m_restart σ n = m_rsL n.toNat 0 σ := if_neg hc
    have hP := hP (fun h => hc (Or.inl h))
    rw [hr] at rt
    have loop : ∀ (q k : Nat) (τ : Hp), (k : Int) + q = n → P k τ → m_rsL q (k : Int) τ = m_rsL n.toNat 0 σ → XW LyM TM K 28 τ 0 0 22 [some (.inr 1), some (.inl n), some (.inl (k : Int))] [] := by
      intro q
      induction q with
      | zero =>
        intro k τ hk hp hm
        rw [← hm] at rt
        refine x_iload_n C d_M_restart_22 rfl rfl ?_
        refine x_iload_n C d_M_restart_23 rfl rfl ?_
        refine x_icmp_ge (tgt := 44) C d_M_restart_24 rfl (fun h24 => ?_) (fun h24 => ?_)
        · refine x_iload_n C d_M_restart_44 rfl rfl ?_
          exact x_iret rt d_M_restart_45 (by omega) (by omega) ⟨rfl, rfl, rfl⟩
        · exact absurd h24 (by omega)
      | succ q ih =>
        intro k τ hk hp hm
        have hm2 : m_rsL (q + 1) (k : Int) τ = if τ 1 32 = 0 then ((k : Int), τ) else m_rsL q ((k : Int) + 1) (m_unit τ) := rfl
        rw [hm2] at hm
        by_cases hd : τ 1 32 = 0
        · rw [if_pos hd] at hm
          rw [← hm] at rt
          refine x_iload_n C d_M_restart_22 rfl rfl ?_
          refine x_iload_n C d_M_restart_23 rfl rfl ?_
          refine x_icmp_ge (tgt := 44) C d_M_restart_24 rfl (fun h24 => ?_) (fun h24 => ?_)
          · exact absurd h24 (by omega)
          · refine x_aload_n C d_M_restart_27 rfl rfl ?_
            refine x_getI C 32 cf_M fl_M_172 d_M_restart_28 rfl (by decide) rfl rfl (by omega) (by omega) (fun r28 => ?_)
            refine x_if_eq (tgt := 44) C d_M_restart_31 rfl (fun h31 => ?_) (fun h31 => ?_)
            · refine x_iload_n C d_M_restart_44 rfl rfl ?_
              exact x_iret rt d_M_restart_45 (by omega) (by omega) ⟨rfl, rfl, rfl⟩
            · exact absurd hd h31
        · rw [if_neg hd] at hm
          obtain ⟨o1, o2⟩ := hs k τ hp hd
          have ih2 := ih (k + 1) (m_unit τ) (by omega) o2 hm
          refine x_iload_n C d_M_restart_22 rfl rfl ?_
          refine x_iload_n C d_M_restart_23 rfl rfl ?_
          refine x_icmp_ge (tgt := 44) C d_M_restart_24 rfl (fun h24 => ?_) (fun h24 => ?_)
          · exact absurd h24 (by omega)
          · refine x_aload_n C d_M_restart_27 rfl rfl ?_
            refine x_getI C 32 cf_M fl_M_172 d_M_restart_28 rfl (by decide) rfl rfl (by omega) (by omega) (fun r28 => ?_)
            refine x_if_eq (tgt := 44) C d_M_restart_31 rfl (fun h31 => ?_) (fun h31 => ?_)
            · exact absurd h31 hd
            · refine x_aload_n C d_M_restart_34 rfl rfl ?_
              refine x_callV C cl_M_213 cb_M_unit cs_M_unit d_M_restart_35 (o1) rfl rfl rfl rfl rfl (by omega) (by omega) (by decide) (by decide) (Nat.le_of_ble_eq_true rfl) (by omega) (by omega) ?_
              rintro _ _ _ ⟨rfl, rfl, rfl⟩ -
              skip
              refine x_iinc C d_M_restart_38 (by decide) rfl ⟨by omega, by omega⟩ ?_
              refine x_goto (tgt := 22) C d_M_restart_41 rfl ?_
              exact ih2
    refine x_aload_n C d_M_restart_0 rfl rfl ?_
    refine x_getI C 32 cf_M fl_M_172 d_M_restart_1 rfl (by decide) rfl rfl (by omega) (by omega) (fun r1 => ?_)
    refine x_if_eq (tgt := 18) C d_M_restart_4 rfl (fun h4 => ?_) (fun h4 => ?_)
    · refine x_iconst C d_M_restart_18 (by decide) ?_
      exact absurd hc (by omega)
    · refine x_iload_n C d_M_restart_7 rfl rfl ?_
      refine x_iconst C d_M_restart_8 (by decide) ?_
      refine x_icmp_lt (tgt := 18) C d_M_restart_9 rfl (fun h9 => ?_) (fun h9 => ?_)
      · refine x_iconst C d_M_restart_18 (by decide) ?_
        exact absurd hc (by omega)
      · refine x_iload_n C d_M_restart_12 rfl rfl ?_
        refine x_bipush C d_M_restart_13 (by decide) (by decide) ?_
        refine x_icmp_le (tgt := 20) C d_M_restart_15 rfl (fun h15 => ?_) (fun h15 => ?_)
        · refine x_iconst C d_M_restart_20 (by decide) ?_
          refine x_istore_n C d_M_restart_21 rfl (by decide) ?_
          exact loop n.toNat 0 σ (by omega) hP rfl
        · refine x_iconst C d_M_restart_18 (by decide) ?_
          exact absurd hc (by omega)
end
section
-- ===== the class's cells =====
def LyXt : List LK := [.inl (0, k_X), .inl (1, k_XL)] ++ List.replicate 8 (.inr (0, 201)) ++ [.inr (0, 61), .inr (0, 20), .inr (5, 20)] ++ List.replicate 20 (.inr (0, 6)) ++ [.inl (2, k_XP), .inr (4, 6), .inr (4, 6), .inr (2, 6), .inr (0, 6), .inr (0, 6)] ++ (List.replicate 12 [.inl (3, k_XC), .inr (0, 4), .inr (0, 4)]).flatten ++ [.inl (4, k_XV), .inr (3, 4), .inr (5, 4), .inr (0, 100), .inr (0, 100), .inr (0, 100), .inr (0, 100), .inl (5, k_XR), .inr (0, 6), .inr (3, 61)]
def LyX (v : Int) : LK := (LyXt[(v - 1).toNat]?).getD (.inl (6, k_XT))
def TX (v i : Int) : Option Int :=
  if v = 1 then (if i = 0 then some 2 else if i = 1 then some 34 else if i = 2 then some 76 else if i = 3 then some 83 else if i = 4 then some 85 else none)
  else if v = 2 then (if 0 ≤ i ∧ i ≤ 10 then some (i + 3) else none)
  else if v = 13 then (if 0 ≤ i ∧ i < 20 then some (14 + i) else none)
  else if v = 34 then (if i = 0 then some 2 else if 1 ≤ i ∧ i ≤ 5 then some (34 + i) else none)
  else if v = 35 then (if 0 ≤ i ∧ i < 6 then some (40 + 6 * i) else none)
  else if v = 36 then (if 0 ≤ i ∧ i < 6 then some (43 + 6 * i) else none)
  else if v = 76 then (if i = 0 then some 77 else if i = 1 then some 78 else none)
  else if v = 78 then (if 0 ≤ i ∧ i < 4 then some (79 + i) else none)
  else if v = 83 then (if i = 0 then some 2 else if i = 1 then some 34 else if i = 2 then some 84 else none)
  else if 40 ≤ v ∧ v < 76 ∧ (v - 40) % 3 = 0 then (if i = 0 then some (v + 1) else if i = 1 then some (v + 2) else none)
  else none
theorem lx_C {v : Int} (h1 : 40 ≤ v) (h2 : v < 76) (h3 : (v - 40) % 3 = 0) : LyX v = .inl (3, k_XC) := by
  have : v = 40 ∨ v = 43 ∨ v = 46 ∨ v = 49 ∨ v = 52 ∨ v = 55 ∨ v = 58 ∨ v = 61 ∨ v = 64 ∨ v = 67 ∨ v = 70 ∨ v = 73 := by omega
  rcases this with rfl | rfl | rfl | rfl | rfl | rfl | rfl | rfl | rfl | rfl | rfl | rfl <;> rfl
theorem lx_A {v : Int} (h1 : 40 ≤ v) (h2 : v < 76) (h3 : ¬ (v - 40) % 3 = 0) : LyX v = .inr (0, 4) := by
  have : v = 41 ∨ v = 42 ∨ v = 44 ∨ v = 45 ∨ v = 47 ∨ v = 48 ∨ v = 50 ∨ v = 51 ∨ v = 53 ∨ v = 54 ∨ v = 56 ∨ v = 57 ∨ v = 59 ∨ v = 60 ∨ v = 62 ∨ v = 63 ∨ v = 65 ∨ v = 66 ∨ v = 68 ∨ v = 69 ∨ v = 71 ∨ v = 72 ∨ v = 74 ∨ v = 75 := by omega
  rcases this with rfl | rfl | rfl | rfl | rfl | rfl | rfl | rfl | rfl | rfl | rfl | rfl | rfl | rfl | rfl | rfl | rfl | rfl | rfl | rfl | rfl | rfl | rfl | rfl <;> rfl
theorem lx_T {v : Int} (h : 86 ≤ v) : LyX v = .inl (6, k_XT) := by
  unfold LyX
  rw [List.getElem?_eq_none (by show 85 ≤ _; omega)]
  rfl
theorem lx_H {s : Int} (h1 : 0 ≤ s) (h2 : s < 4) : LyX (79 + s) = .inr (0, 100) := by
  have : s = 0 ∨ s = 1 ∨ s = 2 ∨ s = 3 := by omega
  rcases this with rfl | rfl | rfl | rfl <;> rfl
theorem lx_K {s : Int} (h1 : 0 ≤ s) (h2 : s < 20) : LyX (14 + s) = .inr (0, 6) := by
  have : s = 0 ∨ s = 1 ∨ s = 2 ∨ s = 3 ∨ s = 4 ∨ s = 5 ∨ s = 6 ∨ s = 7 ∨ s = 8 ∨ s = 9 ∨ s = 10 ∨ s = 11 ∨ s = 12 ∨ s = 13 ∨ s = 14 ∨ s = 15 ∨ s = 16 ∨ s = 17 ∨ s = 18 ∨ s = 19 := by omega
  rcases this with rfl | rfl | rfl | rfl | rfl | rfl | rfl | rfl | rfl | rfl | rfl | rfl | rfl | rfl | rfl | rfl | rfl | rfl | rfl | rfl <;> rfl
theorem tx_T {v i : Int} (h : 86 ≤ v) : TX v i = none := by
  unfold TX
  repeat rw [if_neg (by omega)]
theorem tx_A {v i : Int} (h1 : 40 ≤ v) (h2 : v < 76) (h3 : ¬ (v - 40) % 3 = 0) : TX v i = none := by
  unfold TX
  repeat rw [if_neg (by omega)]
theorem tx_L {v : Int} (h1 : 40 ≤ v) (h2 : v < 76) : TX v 2 = none := by
  unfold TX
  repeat (first | rw [if_neg (by omega)] | split)
  all_goals rfl
theorem tx_C0 {v : Int} (h1 : 40 ≤ v) (h2 : v < 76) (h3 : (v - 40) % 3 = 0) : TX v 0 = some (v + 1) := by
  unfold TX
  repeat rw [if_neg (by omega)]
  rw [if_pos ⟨h1, h2, h3⟩]
  rfl
theorem tx_C1 {v : Int} (h1 : 40 ≤ v) (h2 : v < 76) (h3 : (v - 40) % 3 = 0) : TX v 1 = some (v + 2) := by
  unfold TX
  repeat rw [if_neg (by omega)]
  rw [if_pos ⟨h1, h2, h3⟩]
  rfl
theorem tx_D {p : Int} (h1 : 0 ≤ p) (h2 : p < 6) : TX 35 p = some (40 + 6 * p) := by
  unfold TX
  repeat rw [if_neg (by omega)]
  rw [if_pos rfl, if_pos ⟨h1, h2⟩]
theorem tx_F {p : Int} (h1 : 0 ≤ p) (h2 : p < 6) : TX 36 p = some (43 + 6 * p) := by
  unfold TX
  repeat rw [if_neg (by omega)]
  rw [if_pos rfl, if_pos ⟨h1, h2⟩]
theorem tx_H {s : Int} (h1 : 0 ≤ s) (h2 : s < 4) : TX 78 s = some (79 + s) := by
  unfold TX
  repeat rw [if_neg (by omega)]
  rw [if_pos rfl, if_pos ⟨h1, h2⟩]
theorem tx_K {s : Int} (h1 : 0 ≤ s) (h2 : s < 20) : TX 13 s = some (14 + s) := by
  unfold TX
  repeat rw [if_neg (by omega)]
  rw [if_pos rfl, if_pos ⟨h1, h2⟩]
theorem tx_HR {s i : Int} (h1 : 0 ≤ s) (h2 : s < 4) : TX (79 + s) i = none := by
  have : s = 0 ∨ s = 1 ∨ s = 2 ∨ s = 3 := by omega
  rcases this with rfl | rfl | rfl | rfl <;> rfl
theorem tx_KR {s i : Int} (h1 : 0 ≤ s) (h2 : s < 20) : TX (14 + s) i = none := by
  unfold TX
  repeat rw [if_neg (by omega)]
end
section
-- ===== rows that the class's methods want besides =====
def bor (x y : Int) : Int := ((x.toNat ||| y.toNat : Nat) : Int)
def bsh (s : Int) : Int := ((2 ^ s.toNat : Nat) : Int)
def bsr (x s : Int) : Int := ((x.toNat / 2 ^ s.toNat : Nat) : Int)
theorem bor_ok : ∀ a b : Fin 16, iI ((a.val : Nat) : Int) ||| iI ((b.val : Nat) : Int) = iI (((a.val ||| b.val : Nat)) : Int) := by decide +kernel
theorem bsh_ok : ∀ a : Fin 4, (iI 1) <<< (iI ((a.val : Nat) : Int) &&& 31) = iI (((2 ^ a.val : Nat)) : Int) := by decide +kernel
theorem bsr_ok : ∀ (a : Fin 16) (b : Fin 4), iI ((a.val : Nat) : Int) >>> (iI ((b.val : Nat) : Int) &&& 31) = iI (((a.val / 2 ^ b.val : Nat)) : Int) := by decide +kernel
theorem bnd_ok : ∀ a : Fin 16, iI ((a.val : Nat) : Int) &&& iI 1 = iI (((a.val % 2 : Nat)) : Int) := by decide +kernel
theorem bor_lt {x y : Int} (h2 : x < 16) (h4 : y < 16) : 0 ≤ bor x y ∧ bor x y < 16 := by
  have h : x.toNat ||| y.toNat < 2 ^ 4 := Nat.or_lt_two_pow (by omega) (by omega)
  unfold bor; omega
theorem bsh_lt {s : Int} (h1 : 0 ≤ s) (h2 : s < 4) : 0 ≤ bsh s ∧ bsh s < 16 := by
  have : s = 0 ∨ s = 1 ∨ s = 2 ∨ s = 3 := by omega
  rcases this with rfl | rfl | rfl | rfl <;> decide
theorem bsr_lt {x s : Int} (h2 : x < 16) : 0 ≤ bsr x s ∧ bsr x s < 16 := by
  have h := Nat.div_le_self x.toNat (2 ^ s.toNat)
  unfold bsr
  generalize x.toNat / 2 ^ s.toNat = q at h
  omega
section XR2
variable {Ly : Int → LK} {T : Int → Int → Option Int} {K : XK} {n : Nat} {σ : Hp} {bc bs pc nL d mc ms : Nat} {lv : List (Option AV)} {st : List AV} {cc : ByteArray} {own : String}
theorem x_ior (C : Cx K cc nL own d mc ms) {x y : Int} (hd : decode cc pc = .ok (.ior, 1)) (x0 : 0 ≤ x) (x1 : x < 16) (y0 : 0 ≤ y) (y1 : y < 16) (k : XW Ly T K n σ bc bs (pc + 1) lv (.inl (bor x y) :: st)) : XW Ly T K n σ bc bs pc lv (.inl y :: .inl x :: st) := by
  obtain ⟨p, l, e, R, s, m, args, below, meth, c, Q, D, ca, A, H0, ad0, n0⟩ := K
  obtain ⟨hx, hb, hml, ho, hts, hG, hA, hlk, hR⟩ := C
  intro ad H locs ls hW hl hs
  have hr := bor_lt x1 y1
  have k1 : W p l e R s m args below meth c H locs bc bs Q (F0 m (pc + 1) ls (.int (iI (bor x y)) :: st.map (cv ad))) := k ad H locs ls hW hl (oks_c.mpr ⟨⟨by omega, by omega⟩, (oks_c.mp (oks_c.mp hs).2).2⟩)
  have h := bor_ok ⟨x.toNat, by omega⟩ ⟨y.toNat, by omega⟩
  dsimp only at h
  rw [Int.toNat_of_nonneg x0, Int.toNat_of_nonneg y0] at h
  refine lv_ior hx hb hd ?_
  show W p l e R s m args below meth c H locs bc bs Q (F0 m (pc + 1) ls (.int (iI x ||| iI y) :: st.map (cv ad)))
  rw [h]
  exact k1
theorem x_ishl1 (C : Cx K cc nL own d mc ms) {y : Int} (hd : decode cc pc = .ok (.ishl, 1)) (y0 : 0 ≤ y) (y1 : y < 4) (k : XW Ly T K n σ bc bs (pc + 1) lv (.inl (bsh y) :: st)) : XW Ly T K n σ bc bs pc lv (.inl y :: .inl 1 :: st) := by
  obtain ⟨p, l, e, R, s, m, args, below, meth, c, Q, D, ca, A, H0, ad0, n0⟩ := K
  obtain ⟨hx, hb, hml, ho, hts, hG, hA, hlk, hR⟩ := C
  intro ad H locs ls hW hl hs
  have hr := bsh_lt y0 y1
  have k1 : W p l e R s m args below meth c H locs bc bs Q (F0 m (pc + 1) ls (.int (iI (bsh y)) :: st.map (cv ad))) := k ad H locs ls hW hl (oks_c.mpr ⟨⟨by omega, by omega⟩, (oks_c.mp (oks_c.mp hs).2).2⟩)
  have h := bsh_ok ⟨y.toNat, by omega⟩
  dsimp only at h
  rw [Int.toNat_of_nonneg y0] at h
  refine lv_ishl hx hb hd ?_
  show W p l e R s m args below meth c H locs bc bs Q (F0 m (pc + 1) ls (.int (iI 1 <<< (iI y &&& 31)) :: st.map (cv ad)))
  rw [h]
  exact k1
theorem x_ishr (C : Cx K cc nL own d mc ms) {x y : Int} (hd : decode cc pc = .ok (.ishr, 1)) (x0 : 0 ≤ x) (x1 : x < 16) (y0 : 0 ≤ y) (y1 : y < 4) (k : XW Ly T K n σ bc bs (pc + 1) lv (.inl (bsr x y) :: st)) : XW Ly T K n σ bc bs pc lv (.inl y :: .inl x :: st) := by
  obtain ⟨p, l, e, R, s, m, args, below, meth, c, Q, D, ca, A, H0, ad0, n0⟩ := K
  obtain ⟨hx, hb, hml, ho, hts, hG, hA, hlk, hR⟩ := C
  intro ad H locs ls hW hl hs
  have hr := bsr_lt (s := y) x1
  have k1 : W p l e R s m args below meth c H locs bc bs Q (F0 m (pc + 1) ls (.int (iI (bsr x y)) :: st.map (cv ad))) := k ad H locs ls hW hl (oks_c.mpr ⟨⟨by omega, by omega⟩, (oks_c.mp (oks_c.mp hs).2).2⟩)
  have h := bsr_ok ⟨x.toNat, by omega⟩ ⟨y.toNat, by omega⟩
  dsimp only at h
  rw [Int.toNat_of_nonneg x0, Int.toNat_of_nonneg y0] at h
  refine lv_ishr hx hb hd ?_
  show W p l e R s m args below meth c H locs bc bs Q (F0 m (pc + 1) ls (.int (iI x >>> (iI y &&& 31)) :: st.map (cv ad)))
  rw [h]
  exact k1
theorem x_iand1 (C : Cx K cc nL own d mc ms) {x : Int} (hd : decode cc pc = .ok (.iand, 1)) (x0 : 0 ≤ x) (x1 : x < 16) (k : XW Ly T K n σ bc bs (pc + 1) lv (.inl (x % 2) :: st)) : XW Ly T K n σ bc bs pc lv (.inl 1 :: .inl x :: st) := by
  obtain ⟨p, l, e, R, s, m, args, below, meth, c, Q, D, ca, A, H0, ad0, n0⟩ := K
  obtain ⟨hx, hb, hml, ho, hts, hG, hA, hlk, hR⟩ := C
  intro ad H locs ls hW hl hs
  have k1 : W p l e R s m args below meth c H locs bc bs Q (F0 m (pc + 1) ls (.int (iI (x % 2)) :: st.map (cv ad))) := k ad H locs ls hW hl (oks_c.mpr ⟨⟨by omega, by omega⟩, (oks_c.mp (oks_c.mp hs).2).2⟩)
  have h := bnd_ok ⟨x.toNat, by omega⟩
  dsimp only at h
  have e1 : ((x.toNat % 2 : Nat) : Int) = x % 2 := by omega
  rw [Int.toNat_of_nonneg x0, e1] at h
  refine lv_iand hx hb hd ?_
  show W p l e R s m args below meth c H locs bc bs Q (F0 m (pc + 1) ls (.int (iI x &&& iI 1) :: st.map (cv ad)))
  rw [h]
  exact k1
theorem x_table (C : Cx K cc nL own d mc ms) {x dflt lo hi off : Int} {offs : Array Int} {len tgt : Nat} (hd : decode cc pc = .ok (.tableswitch dflt lo hi offs, len)) (h : (lo ≤ x ∧ x ≤ hi ∧ offs[(x - lo).toNat]? = some off) ∨ ((x < lo ∨ hi < x) ∧ off = dflt)) (ht : (pc : Int) + off = (tgt : Int)) (k : XW Ly T K n σ bc bs tgt lv st) : XW Ly T K n σ bc bs pc lv (.inl x :: st) := by
  obtain ⟨p, l, e, R, s, m, args, below, meth, c, Q, D, ca, A, H0, ad0, n0⟩ := K
  obtain ⟨hx, hb, hml, ho, hts, hG, hA, hlk, hR⟩ := C
  intro ad H locs ls hW hl hs
  obtain ⟨hr, hs⟩ := oks_c.mp hs
  have k1 := k ad H locs ls hW hl hs
  have e : (iI x).toInt = x := iI_t hr
  rcases h with ⟨h1, h2, h3⟩ | ⟨h1, rfl⟩
  · exact lv_tableIn hx hb hd (by rw [e]; omega) (by rw [e]; omega) (by rw [e]; exact h3) ht k1
  · exact lv_tableOut hx hb hd (by rw [e]; exact h1) ht k1
theorem x_mmin (C : Cx K cc nL own d mc ms) {x y : Int} {idx : Nat} (hlk : Cond.methodLink own idx Lib.Math.min.name ∈ AW) (hst : Cond.static Lib.Math.min.name ∈ AW) (hin : Cond.initialized "java/lang/Math" ∈ AW) (hcd : Cond.code Lib.Math.min.name Lib.Math.min.code 2 (some .int) ∈ AW) (hd : decode cc pc = .ok (.invokestatic idx, 3)) (hdd : 1 ≤ d) (hsl : st.length ≤ 8) (hbc : bc ≤ mc) (hbs : bs ≤ ms) (k : XW Ly T K n σ bc bs (pc + 3) lv (.inl (if y < x then y else x) :: st)) : XW Ly T K n σ bc bs pc lv (.inl y :: .inl x :: st) := by
  obtain ⟨p, l, e, R, s, m, args, below, meth, c, Q, D, ca, A, H0, ad0, n0⟩ := K
  obtain ⟨hx, hb, hml, ho, hts, hG, hA, hlk', hR⟩ := C
  intro ad H locs ls hW hl hs
  subst hR
  obtain ⟨hy, hs⟩ := oks_c.mp hs
  obtain ⟨hxx, hs⟩ := oks_c.mp hs
  have hr : R3 (if y < x then y else x) := by split <;> assumption
  have k1 : W p l e (rmd d mc ms) s m args below meth c H locs bc bs Q (F0 m (pc + 3) ls (.int (iI (if y < x then y else x)) :: st.map (cv ad))) := k ad H locs ls hW hl (oks_c.mpr ⟨hr, hs⟩)
  refine va_mmin hx hb (by rw [hl.2.1]) ho (hts _ hlk) (hts _ hst) (hts _ hin) (hts _ hcd) hdd (by rw [sum_cat]; show _ ≤ 28 * d + 30; omega) hbc hbs hd ?_
  have e1 : (if iI y < iI x then iI y else iI x) = iI (if y < x then y else x) := by
    by_cases h : y < x
    · rw [if_pos h, if_pos ((iI_lt hy hxx).mpr h)]
    · rw [if_neg h, if_neg (fun q => h ((iI_lt hy hxx).mp q))]
  rw [e1]
  exact k1
theorem x_mmax (C : Cx K cc nL own d mc ms) {x y : Int} {idx : Nat} (hlk : Cond.methodLink own idx Lib.Math.max.name ∈ AW) (hst : Cond.static Lib.Math.max.name ∈ AW) (hin : Cond.initialized "java/lang/Math" ∈ AW) (hcd : Cond.code Lib.Math.max.name Lib.Math.max.code 2 (some .int) ∈ AW) (hd : decode cc pc = .ok (.invokestatic idx, 3)) (hdd : 1 ≤ d) (hsl : st.length ≤ 8) (hbc : bc ≤ mc) (hbs : bs ≤ ms) (k : XW Ly T K n σ bc bs (pc + 3) lv (.inl (if x < y then y else x) :: st)) : XW Ly T K n σ bc bs pc lv (.inl y :: .inl x :: st) := by
  obtain ⟨p, l, e, R, s, m, args, below, meth, c, Q, D, ca, A, H0, ad0, n0⟩ := K
  obtain ⟨hx, hb, hml, ho, hts, hG, hA, hlk', hR⟩ := C
  intro ad H locs ls hW hl hs
  subst hR
  obtain ⟨hy, hs⟩ := oks_c.mp hs
  obtain ⟨hxx, hs⟩ := oks_c.mp hs
  have hr : R3 (if x < y then y else x) := by split <;> assumption
  have k1 : W p l e (rmd d mc ms) s m args below meth c H locs bc bs Q (F0 m (pc + 3) ls (.int (iI (if x < y then y else x)) :: st.map (cv ad))) := k ad H locs ls hW hl (oks_c.mpr ⟨hr, hs⟩)
  refine va_mmax hx hb (by rw [hl.2.1]) ho (hts _ hlk) (hts _ hst) (hts _ hin) (hts _ hcd) hdd (by rw [sum_cat]; show _ ≤ 28 * d + 30; omega) hbc hbs hd ?_
  have e1 : (if iI x < iI y then iI y else iI x) = iI (if x < y then y else x) := by
    by_cases h : x < y
    · rw [if_pos h, if_pos ((iI_lt hxx hy).mpr h)]
    · rw [if_neg h, if_neg (fun q => h ((iI_lt hxx hy).mp q))]
  rw [e1]
  exact k1
/-- an array of references: the load where the table of fixed places knows the cell -/
theorem x_aaldC (C : Cx K cc nL own d mc ms) {a len : Nat} {v i : Int} (u : Int) (hd : decode cc pc = .ok (.aaload, 1)) (hL : Ly v = .inr (a, len)) (ha : a = 3 ∨ a = 4 ∨ a = 5) (h1 : 1 ≤ v) (h2 : v ≤ (n : Int)) (i0 : 0 ≤ i) (i1 : i < (len : Int)) (hT : T v i = some u) (k : XW Ly T K n σ bc bs (pc + 1) lv (.inr u :: st)) : XW Ly T K n σ bc bs pc lv (.inl i :: .inr v :: st) := by
  have C0 := C
  obtain ⟨p, l, e, R, s, m, args, below, meth, c, Q, D, ca, A, H0, ad0, n0⟩ := K
  intro ad H locs ls hW hl hs
  have e1 : σ v i = u := hW.2.2.2.2.1 v i u h1 h2 hT
  refine x_aald (Ly := Ly) (T := T) (K := (p, l, e, R, s, m, args, below, meth, c, Q, D, ca, A, H0, ad0, n0)) C0 hd hL ha h1 h2 i0 i1 (fun _ => ?_) ad H locs ls hW hl hs
  rw [e1]
  exact k
/-- a store into an array of references: kind 3 holds transactions (class 6), kind 4 contents (class 3) -/
theorem x_aast (C : Cx K cc nL own d mc ms) {a len : Nat} {v i w : Int} (hd : decode cc pc = .ok (.aastore, 1)) (hnb : (n : Int) ≤ 2147483647) (hL : Ly v = .inr (a, len)) (ha : a = 3 ∨ a = 4) (hT : T v i = none) (h1 : 1 ≤ v) (h2 : v ≤ (n : Int)) (i0 : 0 ≤ i) (i1 : i < (len : Int)) (hw : w = 0 ∨ (1 ≤ w ∧ w ≤ (n : Int) ∧ ((a = 3 ∧ Ly w = .inl (6, k_XT)) ∨ (a = 4 ∧ Ly w = .inl (3, k_XC))))) (k : XW Ly T K n (st2 σ v i w) bc bs (pc + 1) lv st) : XW Ly T K n σ bc bs pc lv (.inr w :: .inl i :: .inr v :: st) := by
  obtain ⟨p, l, e, R, s, m, args, below, meth, c, Q, D, ca, A, H0, ad0, n0⟩ := K
  obtain ⟨hx, hb, hml, ho, hts, ⟨hK, hN, hO⟩, hA, hlk, hR⟩ := C
  intro ad H locs ls hW hl hs
  obtain ⟨hwr, hs⟩ := oks_c.mp hs
  obtain ⟨hr, hs⟩ := oks_c.mp hs
  obtain ⟨-, hs⟩ := oks_c.mp hs
  obtain ⟨hP, hD, hS, hok, hfx, hn0, hag⟩ := hW
  have he := cls_at (ca := ca) (Ly := Ly) (ad := ad) (σ := σ) h1 h2
  rw [hL] at he
  have he : (cls ca Ly ad n σ)[(v - 1).toNat]? = some (ad v, .inl (ca a, len, .inr (.inr (.inr (.inr (fun i => orf ad (σ v (i : Nat)))))))) := by
    rw [he]; simp only [ctn]; rw [if_neg (by omega)]
  have hset : ctn ca (Ly v) ad (st2 σ v i w v) = .inl (ca a, len, .inr (.inr (.inr (.inr (va_up (fun i => orf ad (σ v (i : Nat))) (iI i).toNatClampNeg (orf ad w)))))) := by
    rw [hL]
    simp only [ctn]
    rw [if_neg (by omega)]
    refine congrArg (fun f => (Sum.inl (ca a, len, Sum.inr (Sum.inr (Sum.inr (Sum.inr f)))) : va_E)) (funext fun q => ?_)
    rw [iI_cl hr]
    by_cases hq : q = i.toNat
    · have h3 : ((q : Nat) : Int) = i := by omega
      rw [h3, st2_eq, hq]
      simp [va_up]
    · have h3 : ¬ ((q : Nat) : Int) = i := by omega
      rw [st2_ii h3]
      simp [va_up, hq]
  have hkd : kdL (Ly v) i = 2 := by rw [hL]; rcases ha with rfl | rfl <;> rfl
  have hR3 : R3 w := by
    rcases hw with rfl | ⟨w1, w2, -⟩
    · exact r3_0
    · exact ⟨by omega, by omega⟩
  have kk : ∀ (H1 : Heap) (locs1 : List Loc), va_P D CL ((cls ca Ly ad n σ).set (v - 1).toNat (ad v, .inl (ca a, len, .inr (.inr (.inr (.inr (va_up (fun i => orf ad (σ v (i : Nat))) (iI i).toNatClampNeg (orf ad w)))))))) H1 → va_D A ((cls ca Ly ad n σ).set (v - 1).toNat (ad v, .inl (ca a, len, .inr (.inr (.inr (.inr (va_up (fun i => orf ad (σ v (i : Nat))) (iI i).toNatClampNeg (orf ad w)))))))) → va_S A H0 H1 locs1 → W p l e R s m args below meth c H1 locs1 bc bs Q (F0 m (pc + 1) ls (st.map (cv ad))) := by
    intro H1 locs1 hP1 hD1 hS1
    rw [cls_set h1 h2 hset (fun u hu => st2_ne hu)] at hP1 hD1
    exact k ad H1 locs1 ls ⟨hP1, hD1, hS1, okh_st hok hR3 (fun _ => hwr), fxd_st hfx hT, hn0, hag⟩ hl hs
  show W p l e R s m args below meth c H locs bc bs Q (F0 m pc ls (cv ad (.inr w) :: .int (iI i) :: cv ad (.inr v) :: st.map (cv ad)))
  rw [cv_r (v := v) (by omega)]
  rcases hw with rfl | ⟨w1, w2, hw3⟩
  · rcases ha with rfl | rfl
    · exact va_astqN (C := "LogStore$Transaction") hx hb hK hP hD hS _ 3 he rfl (iI_in hr i0 i1) hd kk
    · exact va_astqN (C := "LogStore$Contents") hx hb hK hP hD hS _ 4 he rfl (iI_in hr i0 i1) hd kk
  · have hew := cls_at (ca := ca) (Ly := Ly) (ad := ad) (σ := σ) w1 w2
    rw [cv_r (v := w) (by omega)]
    have horf : orf ad w = some (ad w) := if_neg (by omega)
    rw [horf] at kk
    rcases hw3 with ⟨rfl, hLw⟩ | ⟨rfl, hLw⟩
    · rw [hLw] at hew
      exact va_astq hx hb hK hP hD hS _ 3 _ 6 he rfl hew (r := (R_XT, F_XT, 9)) rfl (iI_in hr i0 i1) hd kk
    · rw [hLw] at hew
      exact va_astq hx hb hK hP hD hS _ 4 _ 3 he rfl hew (r := (R_XC, F_XC, 3)) rfl (iI_in hr i0 i1) hd kk
/-- six ints from the array v to the array w -/
def cp6 (σ : Hp) (v w : Int) : Hp := fun a i => if a = w ∧ 0 ≤ i ∧ i < 6 then σ v i else σ a i
theorem x_copy6 (C : Cx K cc nL own d mc ms) {v w : Int} {idx : Nat} (hlk : Cond.methodLink own idx arraycopyName ∈ AW) (hna : Cond.native arraycopyName ∈ AW) (hst : Cond.static arraycopyName ∈ AW) (hin : Cond.initialized "java/lang/System" ∈ AW) (hd : decode cc pc = .ok (.invokestatic idx, 3)) (hLv : Ly v = .inr (0, 6)) (hLw : Ly w = .inr (0, 6)) (hT : ∀ i, T w i = none) (v1 : 1 ≤ v) (v2 : v ≤ (n : Int)) (w1 : 1 ≤ w) (w2 : w ≤ (n : Int)) (hdd : 2 ≤ d) (hsl : st.length ≤ 8) (k : XW Ly T K n (cp6 σ v w) bc bs (pc + 3) lv st) : XW Ly T K n σ bc bs pc lv (.inl 6 :: .inl 0 :: .inr w :: .inl 0 :: .inr v :: st) := by
  obtain ⟨p, l, e, R, s, m, args, below, meth, c, Q, D, ca, A, H0, ad0, n0⟩ := K
  obtain ⟨hx, hb, hml, ho, hts, ⟨hK, hN, hO⟩, hA, hlk', hR⟩ := C
  intro ad H locs ls hW hl hs
  subst hR
  have hs5 : oks n st := (oks_c.mp (oks_c.mp (oks_c.mp (oks_c.mp (oks_c.mp hs).2).2).2).2).2
  obtain ⟨hP, hD, hS, hok, hfx, hn0, hag⟩ := hW
  have hev := cls_at (ca := ca) (Ly := Ly) (ad := ad) (σ := σ) v1 v2
  rw [hLv] at hev
  have hev : (cls ca Ly ad n σ)[(v - 1).toNat]? = some (ad v, .inl (ca 0, 6, .inl (fun i => iI (σ v (i : Nat))))) := hev
  have hew := cls_at (ca := ca) (Ly := Ly) (ad := ad) (σ := σ) w1 w2
  rw [hLw] at hew
  have hew : (cls ca Ly ad n σ)[(w - 1).toNat]? = some (ad w, .inl (ca 0, 6, .inl (fun i => iI (σ w (i : Nat))))) := hew
  have e0 : (iI 0).toNatClampNeg = 0 := by decide
  have e6 : (iI 6).toNatClampNeg = 6 := by decide
  have hset : ctn ca (Ly w) ad (cp6 σ v w w) = .inl (ca 0, 6, .inl (va_cpy (fun i => iI (σ v (i : Nat))) (fun i => iI (σ w (i : Nat))) (iI 0).toNatClampNeg (iI 0).toNatClampNeg (iI 6).toNatClampNeg)) := by
    rw [hLw, e0, e6]
    show Sum.inl (ca 0, 6, Sum.inl _) = Sum.inl (ca 0, 6, Sum.inl _)
    congr 4
    funext q
    by_cases hq : q < 6
    · rw [pk_cpy_in (by omega) (by omega)]
      simp only [cp6]
      rw [if_pos ⟨trivial, by omega, by omega⟩]
      simp
    · rw [pk_cpy_out (by omega)]
      simp only [cp6]
      rw [if_neg (by omega)]
  have hlo : ((st.map (cv ad)).map fun v => v.category).sum + (nativeFrameWords "java/lang/System" "arraycopy" 5 + 11) ≤ (rmd d mc ms).locals := by
    have h1 : nativeFrameWords "java/lang/System" "arraycopy" 5 ≤ 60 := by decide +kernel
    rw [sum_cat]
    show _ ≤ 28 * d + 30
    omega
  show W p l e (rmd d mc ms) s m args below meth c H locs bc bs Q (F0 m pc ls (.int (iI 6) :: .int (iI 0) :: cv ad (.inr w) :: .int (iI 0) :: cv ad (.inr v) :: st.map (cv ad)))
  rw [cv_r (v := v) (by omega), cv_r (v := w) (by omega)]
  refine va_copyi hx hb (by rw [hl.2.1]) ho (hts _ hlk) (hts _ hna) (hts _ hst) (hts _ hin) hK hP hD hS _ _ 0 0 hev hew rfl rfl rfl (by decide) (by decide) (by decide) (by decide) (by decide) (fun i _ => rfl) (by show 1 ≤ d; omega) hlo hd (fun H1 locs1 hP1 hD1 hS1 => ?_)
  rw [cls_set w1 w2 hset (fun u hu => by funext i; simp [cp6, hu])] at hP1 hD1
  refine k ad H1 locs1 ls ⟨hP1, hD1, hS1, ?_, ?_, hn0, hag⟩ hl hs5
  · intro a i a1 a2 i0
    by_cases h : a = w ∧ 0 ≤ i ∧ i < 6
    · have e1 : cp6 σ v w a i = σ v i := by simp only [cp6]; rw [if_pos h]
      rw [e1]
      refine ⟨(hok v i v1 v2 i0).1, fun h2 => ?_⟩
      rw [h.1, hLw] at h2
      simp [kdL, kdA] at h2
    · have e1 : cp6 σ v w a i = σ a i := by simp only [cp6]; rw [if_neg h]
      rw [e1]
      exact hok a i a1 a2 i0
  · intro a i t a1 a2 ht
    have hne : ¬ a = w := fun h => by rw [h, hT] at ht; cases ht
    have e1 : cp6 σ v w a i = σ a i := by simp only [cp6]; rw [if_neg (fun h => hne h.1)]
    rw [e1]
    exact hfx a i t a1 a2 ht
end XR2
set_option maxRecDepth 20000 in
theorem w_mi : Cond.initialized "java/lang/Math" ∈ AW := aw_in (tb_1 (List.mem_of_getElem? (i := 9) rfl)) rfl
set_option maxRecDepth 20000 in
theorem w_si : Cond.initialized "java/lang/System" ∈ AW := aw_in (tb_1 (List.mem_of_getElem? (i := 10) rfl)) rfl
set_option maxRecDepth 20000 in
theorem w_maxL : Cond.methodLink R_XV 39 Lib.Math.max.name ∈ AW := aw_in (tb_2 (List.mem_of_getElem? (i := 74) rfl)) rfl
set_option maxRecDepth 20000 in
theorem w_maxS : Cond.static Lib.Math.max.name ∈ AW := aw_in (tb_2 (List.mem_of_getElem? (i := 75) rfl)) rfl
set_option maxRecDepth 20000 in
theorem w_maxC : Cond.code Lib.Math.max.name Lib.Math.max.code 2 (some .int) ∈ AW := aw_in (tb_2 (List.mem_of_getElem? (i := 76) rfl)) rfl
set_option maxRecDepth 20000 in
theorem w_minLX : Cond.methodLink R_X 120 Lib.Math.min.name ∈ AW := aw_in (tb_2 (List.mem_of_getElem? (i := 229) rfl)) rfl
set_option maxRecDepth 20000 in
theorem w_minLR : Cond.methodLink R_XR 55 Lib.Math.min.name ∈ AW := aw_in (tb_3 (List.mem_of_getElem? (i := 33) rfl)) rfl
set_option maxRecDepth 20000 in
theorem w_minS : Cond.static Lib.Math.min.name ∈ AW := aw_in (tb_2 (List.mem_of_getElem? (i := 230) rfl)) rfl
set_option maxRecDepth 20000 in
theorem w_minC : Cond.code Lib.Math.min.name Lib.Math.min.code 2 (some .int) ∈ AW := aw_in (tb_2 (List.mem_of_getElem? (i := 231) rfl)) rfl
set_option maxRecDepth 20000 in
theorem w_acL : Cond.methodLink R_XL 61 arraycopyName ∈ AW := aw_in (tb_2 (List.mem_of_getElem? (i := 213) rfl)) rfl
set_option maxRecDepth 20000 in
theorem w_acS : Cond.static arraycopyName ∈ AW := aw_in (tb_2 (List.mem_of_getElem? (i := 214) rfl)) rfl
set_option maxRecDepth 20000 in
theorem w_acN : Cond.native arraycopyName ∈ AW := aw_in (tb_2 (List.mem_of_getElem? (i := 215) rfl)) rfl
end
section
theorem d_XC_init_0 : decode b_XC_init 0 = .ok (.aload_n 0, 1) := by decide +kernel
theorem d_XC_init_1 : decode b_XC_init 1 = .ok (.invokespecial 3, 3) := by decide +kernel
theorem d_XC_init_4 : decode b_XC_init 4 = .ok (.aload_n 0, 1) := by decide +kernel
theorem d_XC_init_5 : decode b_XC_init 5 = .ok (.iconst 4, 1) := by decide +kernel
theorem d_XC_init_6 : decode b_XC_init 6 = .ok (.newarray .int, 2) := by decide +kernel
theorem d_XC_init_8 : decode b_XC_init 8 = .ok (.putfield 9, 3) := by decide +kernel
theorem d_XC_init_11 : decode b_XC_init 11 = .ok (.aload_n 0, 1) := by decide +kernel
theorem d_XC_init_12 : decode b_XC_init 12 = .ok (.iconst 4, 1) := by decide +kernel
theorem d_XC_init_13 : decode b_XC_init 13 = .ok (.newarray .int, 2) := by decide +kernel
theorem d_XC_init_15 : decode b_XC_init 15 = .ok (.putfield 15, 3) := by decide +kernel
theorem d_XC_init_18 : decode b_XC_init 18 = .ok (.iconst 0, 1) := by decide +kernel
theorem d_XC_init_19 : decode b_XC_init 19 = .ok (.istore_n 1, 1) := by decide +kernel
theorem d_XC_init_20 : decode b_XC_init 20 = .ok (.iload_n 1, 1) := by decide +kernel
theorem d_XC_init_21 : decode b_XC_init 21 = .ok (.iconst 4, 1) := by decide +kernel
theorem d_XC_init_22 : decode b_XC_init 22 = .ok (.if_icmp .ge 16, 3) := by decide +kernel
theorem d_XC_init_25 : decode b_XC_init 25 = .ok (.aload_n 0, 1) := by decide +kernel
theorem d_XC_init_26 : decode b_XC_init 26 = .ok (.getfield 9, 3) := by decide +kernel
theorem d_XC_init_29 : decode b_XC_init 29 = .ok (.iload_n 1, 1) := by decide +kernel
theorem d_XC_init_30 : decode b_XC_init 30 = .ok (.iconst (-1), 1) := by decide +kernel
theorem d_XC_init_31 : decode b_XC_init 31 = .ok (.iastore, 1) := by decide +kernel
theorem d_XC_init_32 : decode b_XC_init 32 = .ok (.iinc 1 1, 3) := by decide +kernel
theorem d_XC_init_35 : decode b_XC_init 35 = .ok (.goto (-15), 3) := by decide +kernel
theorem d_XC_init_38 : decode b_XC_init 38 = .ok (.return_, 1) := by decide +kernel
theorem d_XC_copy_0 : decode b_XC_copy 0 = .ok (.iconst 0, 1) := by decide +kernel
theorem d_XC_copy_1 : decode b_XC_copy 1 = .ok (.istore_n 2, 1) := by decide +kernel
theorem d_XC_copy_2 : decode b_XC_copy 2 = .ok (.iload_n 2, 1) := by decide +kernel
theorem d_XC_copy_3 : decode b_XC_copy 3 = .ok (.iconst 4, 1) := by decide +kernel
theorem d_XC_copy_4 : decode b_XC_copy 4 = .ok (.if_icmp .ge 33, 3) := by decide +kernel
theorem d_XC_copy_7 : decode b_XC_copy 7 = .ok (.aload_n 0, 1) := by decide +kernel
theorem d_XC_copy_8 : decode b_XC_copy 8 = .ok (.getfield 9, 3) := by decide +kernel
theorem d_XC_copy_11 : decode b_XC_copy 11 = .ok (.iload_n 2, 1) := by decide +kernel
theorem d_XC_copy_12 : decode b_XC_copy 12 = .ok (.aload_n 1, 1) := by decide +kernel
theorem d_XC_copy_13 : decode b_XC_copy 13 = .ok (.getfield 9, 3) := by decide +kernel
theorem d_XC_copy_16 : decode b_XC_copy 16 = .ok (.iload_n 2, 1) := by decide +kernel
theorem d_XC_copy_17 : decode b_XC_copy 17 = .ok (.iaload, 1) := by decide +kernel
theorem d_XC_copy_18 : decode b_XC_copy 18 = .ok (.iastore, 1) := by decide +kernel
theorem d_XC_copy_19 : decode b_XC_copy 19 = .ok (.aload_n 0, 1) := by decide +kernel
theorem d_XC_copy_20 : decode b_XC_copy 20 = .ok (.getfield 15, 3) := by decide +kernel
theorem d_XC_copy_23 : decode b_XC_copy 23 = .ok (.iload_n 2, 1) := by decide +kernel
theorem d_XC_copy_24 : decode b_XC_copy 24 = .ok (.aload_n 1, 1) := by decide +kernel
theorem d_XC_copy_25 : decode b_XC_copy 25 = .ok (.getfield 15, 3) := by decide +kernel
theorem d_XC_copy_28 : decode b_XC_copy 28 = .ok (.iload_n 2, 1) := by decide +kernel
theorem d_XC_copy_29 : decode b_XC_copy 29 = .ok (.iaload, 1) := by decide +kernel
theorem d_XC_copy_30 : decode b_XC_copy 30 = .ok (.iastore, 1) := by decide +kernel
theorem d_XC_copy_31 : decode b_XC_copy 31 = .ok (.iinc 2 1, 3) := by decide +kernel
theorem d_XC_copy_34 : decode b_XC_copy 34 = .ok (.goto (-32), 3) := by decide +kernel
theorem d_XC_copy_37 : decode b_XC_copy 37 = .ok (.aload_n 0, 1) := by decide +kernel
theorem d_XC_copy_38 : decode b_XC_copy 38 = .ok (.aload_n 1, 1) := by decide +kernel
theorem d_XC_copy_39 : decode b_XC_copy 39 = .ok (.getfield 18, 3) := by decide +kernel
theorem d_XC_copy_42 : decode b_XC_copy 42 = .ok (.putfield 18, 3) := by decide +kernel
theorem d_XC_copy_45 : decode b_XC_copy 45 = .ok (.return_, 1) := by decide +kernel
theorem d_XL_init_0 : decode b_XL_init 0 = .ok (.aload_n 0, 1) := by decide +kernel
theorem d_XL_init_1 : decode b_XL_init 1 = .ok (.invokespecial 3, 3) := by decide +kernel
theorem d_XL_init_4 : decode b_XL_init 4 = .ok (.aload_n 0, 1) := by decide +kernel
theorem d_XL_init_5 : decode b_XL_init 5 = .ok (.sipush 201, 3) := by decide +kernel
theorem d_XL_init_8 : decode b_XL_init 8 = .ok (.newarray .int, 2) := by decide +kernel
theorem d_XL_init_10 : decode b_XL_init 10 = .ok (.putfield 9, 3) := by decide +kernel
theorem d_XL_init_13 : decode b_XL_init 13 = .ok (.aload_n 0, 1) := by decide +kernel
theorem d_XL_init_14 : decode b_XL_init 14 = .ok (.sipush 201, 3) := by decide +kernel
theorem d_XL_init_17 : decode b_XL_init 17 = .ok (.newarray .int, 2) := by decide +kernel
theorem d_XL_init_19 : decode b_XL_init 19 = .ok (.putfield 15, 3) := by decide +kernel
theorem d_XL_init_22 : decode b_XL_init 22 = .ok (.aload_n 0, 1) := by decide +kernel
theorem d_XL_init_23 : decode b_XL_init 23 = .ok (.sipush 201, 3) := by decide +kernel
theorem d_XL_init_26 : decode b_XL_init 26 = .ok (.newarray .int, 2) := by decide +kernel
theorem d_XL_init_28 : decode b_XL_init 28 = .ok (.putfield 18, 3) := by decide +kernel
theorem d_XL_init_31 : decode b_XL_init 31 = .ok (.aload_n 0, 1) := by decide +kernel
theorem d_XL_init_32 : decode b_XL_init 32 = .ok (.sipush 201, 3) := by decide +kernel
theorem d_XL_init_35 : decode b_XL_init 35 = .ok (.newarray .int, 2) := by decide +kernel
theorem d_XL_init_37 : decode b_XL_init 37 = .ok (.putfield 21, 3) := by decide +kernel
theorem d_XL_init_40 : decode b_XL_init 40 = .ok (.aload_n 0, 1) := by decide +kernel
theorem d_XL_init_41 : decode b_XL_init 41 = .ok (.sipush 201, 3) := by decide +kernel
theorem d_XL_init_44 : decode b_XL_init 44 = .ok (.newarray .int, 2) := by decide +kernel
theorem d_XL_init_46 : decode b_XL_init 46 = .ok (.putfield 24, 3) := by decide +kernel
theorem d_XL_init_49 : decode b_XL_init 49 = .ok (.aload_n 0, 1) := by decide +kernel
theorem d_XL_init_50 : decode b_XL_init 50 = .ok (.sipush 201, 3) := by decide +kernel
theorem d_XL_init_53 : decode b_XL_init 53 = .ok (.newarray .int, 2) := by decide +kernel
theorem d_XL_init_55 : decode b_XL_init 55 = .ok (.putfield 27, 3) := by decide +kernel
theorem d_XL_init_58 : decode b_XL_init 58 = .ok (.aload_n 0, 1) := by decide +kernel
theorem d_XL_init_59 : decode b_XL_init 59 = .ok (.sipush 201, 3) := by decide +kernel
theorem d_XL_init_62 : decode b_XL_init 62 = .ok (.newarray .int, 2) := by decide +kernel
theorem d_XL_init_64 : decode b_XL_init 64 = .ok (.putfield 30, 3) := by decide +kernel
theorem d_XL_init_67 : decode b_XL_init 67 = .ok (.aload_n 0, 1) := by decide +kernel
theorem d_XL_init_68 : decode b_XL_init 68 = .ok (.sipush 201, 3) := by decide +kernel
theorem d_XL_init_71 : decode b_XL_init 71 = .ok (.newarray .int, 2) := by decide +kernel
theorem d_XL_init_73 : decode b_XL_init 73 = .ok (.putfield 33, 3) := by decide +kernel
theorem d_XL_init_76 : decode b_XL_init 76 = .ok (.aload_n 0, 1) := by decide +kernel
theorem d_XL_init_77 : decode b_XL_init 77 = .ok (.bipush 61, 2) := by decide +kernel
theorem d_XL_init_79 : decode b_XL_init 79 = .ok (.newarray .int, 2) := by decide +kernel
theorem d_XL_init_81 : decode b_XL_init 81 = .ok (.putfield 36, 3) := by decide +kernel
theorem d_XL_init_84 : decode b_XL_init 84 = .ok (.aload_n 0, 1) := by decide +kernel
theorem d_XL_init_85 : decode b_XL_init 85 = .ok (.bipush 20, 2) := by decide +kernel
theorem d_XL_init_87 : decode b_XL_init 87 = .ok (.newarray .int, 2) := by decide +kernel
theorem d_XL_init_89 : decode b_XL_init 89 = .ok (.putfield 39, 3) := by decide +kernel
theorem d_XL_init_92 : decode b_XL_init 92 = .ok (.aload_n 0, 1) := by decide +kernel
theorem d_XL_init_93 : decode b_XL_init 93 = .ok (.bipush 20, 2) := by decide +kernel
theorem d_XL_init_95 : decode b_XL_init 95 = .ok (.bipush 6, 2) := by decide +kernel
theorem d_XL_init_97 : decode b_XL_init 97 = .ok (.multianewarray 42 2, 4) := by decide +kernel
theorem d_XL_init_101 : decode b_XL_init 101 = .ok (.putfield 44, 3) := by decide +kernel
theorem d_XL_init_104 : decode b_XL_init 104 = .ok (.return_, 1) := by decide +kernel
theorem d_XL_append_0 : decode b_XL_append 0 = .ok (.aload_n 0, 1) := by decide +kernel
theorem d_XL_append_1 : decode b_XL_append 1 = .ok (.getfield 47, 3) := by decide +kernel
theorem d_XL_append_4 : decode b_XL_append 4 = .ok (.sipush 200, 3) := by decide +kernel
theorem d_XL_append_7 : decode b_XL_append 7 = .ok (.if_icmp .lt 5, 3) := by decide +kernel
theorem d_XL_append_10 : decode b_XL_append 10 = .ok (.iconst 0, 1) := by decide +kernel
theorem d_XL_append_11 : decode b_XL_append 11 = .ok (.ireturn, 1) := by decide +kernel
theorem d_XL_append_12 : decode b_XL_append 12 = .ok (.aload_n 0, 1) := by decide +kernel
theorem d_XL_append_13 : decode b_XL_append 13 = .ok (.dup, 1) := by decide +kernel
theorem d_XL_append_14 : decode b_XL_append 14 = .ok (.getfield 47, 3) := by decide +kernel
theorem d_XL_append_17 : decode b_XL_append 17 = .ok (.iconst 1, 1) := by decide +kernel
theorem d_XL_append_18 : decode b_XL_append 18 = .ok (.iadd, 1) := by decide +kernel
theorem d_XL_append_19 : decode b_XL_append 19 = .ok (.putfield 47, 3) := by decide +kernel
theorem d_XL_append_22 : decode b_XL_append 22 = .ok (.aload_n 0, 1) := by decide +kernel
theorem d_XL_append_23 : decode b_XL_append 23 = .ok (.getfield 9, 3) := by decide +kernel
theorem d_XL_append_26 : decode b_XL_append 26 = .ok (.aload_n 0, 1) := by decide +kernel
theorem d_XL_append_27 : decode b_XL_append 27 = .ok (.getfield 47, 3) := by decide +kernel
theorem d_XL_append_30 : decode b_XL_append 30 = .ok (.iload_n 1, 1) := by decide +kernel
theorem d_XL_append_31 : decode b_XL_append 31 = .ok (.iastore, 1) := by decide +kernel
theorem d_XL_append_32 : decode b_XL_append 32 = .ok (.aload_n 0, 1) := by decide +kernel
theorem d_XL_append_33 : decode b_XL_append 33 = .ok (.getfield 15, 3) := by decide +kernel
theorem d_XL_append_36 : decode b_XL_append 36 = .ok (.aload_n 0, 1) := by decide +kernel
theorem d_XL_append_37 : decode b_XL_append 37 = .ok (.getfield 47, 3) := by decide +kernel
theorem d_XL_append_40 : decode b_XL_append 40 = .ok (.iload_n 2, 1) := by decide +kernel
theorem d_XL_append_41 : decode b_XL_append 41 = .ok (.iastore, 1) := by decide +kernel
theorem d_XL_append_42 : decode b_XL_append 42 = .ok (.aload_n 0, 1) := by decide +kernel
theorem d_XL_append_43 : decode b_XL_append 43 = .ok (.getfield 33, 3) := by decide +kernel
theorem d_XL_append_46 : decode b_XL_append 46 = .ok (.aload_n 0, 1) := by decide +kernel
theorem d_XL_append_47 : decode b_XL_append 47 = .ok (.getfield 47, 3) := by decide +kernel
theorem d_XL_append_50 : decode b_XL_append 50 = .ok (.iconst 0, 1) := by decide +kernel
theorem d_XL_append_51 : decode b_XL_append 51 = .ok (.iastore, 1) := by decide +kernel
theorem d_XL_append_52 : decode b_XL_append 52 = .ok (.aload_n 0, 1) := by decide +kernel
theorem d_XL_append_53 : decode b_XL_append 53 = .ok (.getfield 47, 3) := by decide +kernel
theorem d_XL_append_56 : decode b_XL_append 56 = .ok (.ireturn, 1) := by decide +kernel
theorem d_XL_addUpdate_0 : decode b_XL_addUpdate 0 = .ok (.aload_n 0, 1) := by decide +kernel
theorem d_XL_addUpdate_1 : decode b_XL_addUpdate 1 = .ok (.iconst 1, 1) := by decide +kernel
theorem d_XL_addUpdate_2 : decode b_XL_addUpdate 2 = .ok (.iload_n 1, 1) := by decide +kernel
theorem d_XL_addUpdate_3 : decode b_XL_addUpdate 3 = .ok (.invokevirtual 51, 3) := by decide +kernel
theorem d_XL_addUpdate_6 : decode b_XL_addUpdate 6 = .ok (.istore 7, 2) := by decide +kernel
theorem d_XL_addUpdate_8 : decode b_XL_addUpdate 8 = .ok (.aload_n 0, 1) := by decide +kernel
theorem d_XL_addUpdate_9 : decode b_XL_addUpdate 9 = .ok (.getfield 18, 3) := by decide +kernel
theorem d_XL_addUpdate_12 : decode b_XL_addUpdate 12 = .ok (.iload 7, 2) := by decide +kernel
theorem d_XL_addUpdate_14 : decode b_XL_addUpdate 14 = .ok (.iload_n 2, 1) := by decide +kernel
theorem d_XL_addUpdate_15 : decode b_XL_addUpdate 15 = .ok (.iastore, 1) := by decide +kernel
theorem d_XL_addUpdate_16 : decode b_XL_addUpdate 16 = .ok (.aload_n 0, 1) := by decide +kernel
theorem d_XL_addUpdate_17 : decode b_XL_addUpdate 17 = .ok (.getfield 21, 3) := by decide +kernel
theorem d_XL_addUpdate_20 : decode b_XL_addUpdate 20 = .ok (.iload 7, 2) := by decide +kernel
theorem d_XL_addUpdate_22 : decode b_XL_addUpdate 22 = .ok (.iload_n 3, 1) := by decide +kernel
theorem d_XL_addUpdate_23 : decode b_XL_addUpdate 23 = .ok (.iastore, 1) := by decide +kernel
theorem d_XL_addUpdate_24 : decode b_XL_addUpdate 24 = .ok (.aload_n 0, 1) := by decide +kernel
theorem d_XL_addUpdate_25 : decode b_XL_addUpdate 25 = .ok (.getfield 24, 3) := by decide +kernel
theorem d_XL_addUpdate_28 : decode b_XL_addUpdate 28 = .ok (.iload 7, 2) := by decide +kernel
theorem d_XL_addUpdate_30 : decode b_XL_addUpdate 30 = .ok (.iload 4, 2) := by decide +kernel
theorem d_XL_addUpdate_32 : decode b_XL_addUpdate 32 = .ok (.iastore, 1) := by decide +kernel
theorem d_XL_addUpdate_33 : decode b_XL_addUpdate 33 = .ok (.aload_n 0, 1) := by decide +kernel
theorem d_XL_addUpdate_34 : decode b_XL_addUpdate 34 = .ok (.getfield 27, 3) := by decide +kernel
theorem d_XL_addUpdate_37 : decode b_XL_addUpdate 37 = .ok (.iload 7, 2) := by decide +kernel
theorem d_XL_addUpdate_39 : decode b_XL_addUpdate 39 = .ok (.iload 5, 2) := by decide +kernel
theorem d_XL_addUpdate_41 : decode b_XL_addUpdate 41 = .ok (.iastore, 1) := by decide +kernel
theorem d_XL_addUpdate_42 : decode b_XL_addUpdate 42 = .ok (.aload_n 0, 1) := by decide +kernel
theorem d_XL_addUpdate_43 : decode b_XL_addUpdate 43 = .ok (.getfield 30, 3) := by decide +kernel
theorem d_XL_addUpdate_46 : decode b_XL_addUpdate 46 = .ok (.iload 7, 2) := by decide +kernel
theorem d_XL_addUpdate_48 : decode b_XL_addUpdate 48 = .ok (.iload 6, 2) := by decide +kernel
theorem d_XL_addUpdate_50 : decode b_XL_addUpdate 50 = .ok (.iastore, 1) := by decide +kernel
theorem d_XL_addUpdate_51 : decode b_XL_addUpdate 51 = .ok (.aload_n 0, 1) := by decide +kernel
theorem d_XL_addUpdate_52 : decode b_XL_addUpdate 52 = .ok (.dup, 1) := by decide +kernel
theorem d_XL_addUpdate_53 : decode b_XL_addUpdate 53 = .ok (.getfield 55, 3) := by decide +kernel
theorem d_XL_addUpdate_56 : decode b_XL_addUpdate 56 = .ok (.iconst 1, 1) := by decide +kernel
theorem d_XL_addUpdate_57 : decode b_XL_addUpdate 57 = .ok (.iadd, 1) := by decide +kernel
theorem d_XL_addUpdate_58 : decode b_XL_addUpdate 58 = .ok (.putfield 55, 3) := by decide +kernel
theorem d_XL_addUpdate_61 : decode b_XL_addUpdate 61 = .ok (.iload 7, 2) := by decide +kernel
theorem d_XL_addUpdate_63 : decode b_XL_addUpdate 63 = .ok (.ireturn, 1) := by decide +kernel
theorem d_XL_addClr_0 : decode b_XL_addClr 0 = .ok (.aload_n 0, 1) := by decide +kernel
theorem d_XL_addClr_1 : decode b_XL_addClr 1 = .ok (.iconst 2, 1) := by decide +kernel
theorem d_XL_addClr_2 : decode b_XL_addClr 2 = .ok (.aload_n 0, 1) := by decide +kernel
theorem d_XL_addClr_3 : decode b_XL_addClr 3 = .ok (.getfield 15, 3) := by decide +kernel
theorem d_XL_addClr_6 : decode b_XL_addClr 6 = .ok (.iload_n 1, 1) := by decide +kernel
theorem d_XL_addClr_7 : decode b_XL_addClr 7 = .ok (.iaload, 1) := by decide +kernel
theorem d_XL_addClr_8 : decode b_XL_addClr 8 = .ok (.invokevirtual 51, 3) := by decide +kernel
theorem d_XL_addClr_11 : decode b_XL_addClr 11 = .ok (.istore_n 2, 1) := by decide +kernel
theorem d_XL_addClr_12 : decode b_XL_addClr 12 = .ok (.aload_n 0, 1) := by decide +kernel
theorem d_XL_addClr_13 : decode b_XL_addClr 13 = .ok (.getfield 18, 3) := by decide +kernel
theorem d_XL_addClr_16 : decode b_XL_addClr 16 = .ok (.iload_n 2, 1) := by decide +kernel
theorem d_XL_addClr_17 : decode b_XL_addClr 17 = .ok (.aload_n 0, 1) := by decide +kernel
theorem d_XL_addClr_18 : decode b_XL_addClr 18 = .ok (.getfield 18, 3) := by decide +kernel
theorem d_XL_addClr_21 : decode b_XL_addClr 21 = .ok (.iload_n 1, 1) := by decide +kernel
theorem d_XL_addClr_22 : decode b_XL_addClr 22 = .ok (.iaload, 1) := by decide +kernel
theorem d_XL_addClr_23 : decode b_XL_addClr 23 = .ok (.iastore, 1) := by decide +kernel
theorem d_XL_addClr_24 : decode b_XL_addClr 24 = .ok (.aload_n 0, 1) := by decide +kernel
theorem d_XL_addClr_25 : decode b_XL_addClr 25 = .ok (.getfield 27, 3) := by decide +kernel
theorem d_XL_addClr_28 : decode b_XL_addClr 28 = .ok (.iload_n 2, 1) := by decide +kernel
theorem d_XL_addClr_29 : decode b_XL_addClr 29 = .ok (.aload_n 0, 1) := by decide +kernel
theorem d_XL_addClr_30 : decode b_XL_addClr 30 = .ok (.getfield 21, 3) := by decide +kernel
theorem d_XL_addClr_33 : decode b_XL_addClr 33 = .ok (.iload_n 1, 1) := by decide +kernel
theorem d_XL_addClr_34 : decode b_XL_addClr 34 = .ok (.iaload, 1) := by decide +kernel
theorem d_XL_addClr_35 : decode b_XL_addClr 35 = .ok (.iastore, 1) := by decide +kernel
theorem d_XL_addClr_36 : decode b_XL_addClr 36 = .ok (.aload_n 0, 1) := by decide +kernel
theorem d_XL_addClr_37 : decode b_XL_addClr 37 = .ok (.getfield 30, 3) := by decide +kernel
theorem d_XL_addClr_40 : decode b_XL_addClr 40 = .ok (.iload_n 2, 1) := by decide +kernel
theorem d_XL_addClr_41 : decode b_XL_addClr 41 = .ok (.aload_n 0, 1) := by decide +kernel
theorem d_XL_addClr_42 : decode b_XL_addClr 42 = .ok (.getfield 24, 3) := by decide +kernel
theorem d_XL_addClr_45 : decode b_XL_addClr 45 = .ok (.iload_n 1, 1) := by decide +kernel
theorem d_XL_addClr_46 : decode b_XL_addClr 46 = .ok (.iaload, 1) := by decide +kernel
theorem d_XL_addClr_47 : decode b_XL_addClr 47 = .ok (.iastore, 1) := by decide +kernel
theorem d_XL_addClr_48 : decode b_XL_addClr 48 = .ok (.aload_n 0, 1) := by decide +kernel
theorem d_XL_addClr_49 : decode b_XL_addClr 49 = .ok (.getfield 33, 3) := by decide +kernel
theorem d_XL_addClr_52 : decode b_XL_addClr 52 = .ok (.iload_n 2, 1) := by decide +kernel
theorem d_XL_addClr_53 : decode b_XL_addClr 53 = .ok (.iload_n 1, 1) := by decide +kernel
theorem d_XL_addClr_54 : decode b_XL_addClr 54 = .ok (.iastore, 1) := by decide +kernel
theorem d_XL_addClr_55 : decode b_XL_addClr 55 = .ok (.aload_n 0, 1) := by decide +kernel
theorem d_XL_addClr_56 : decode b_XL_addClr 56 = .ok (.getfield 33, 3) := by decide +kernel
theorem d_XL_addClr_59 : decode b_XL_addClr 59 = .ok (.iload_n 1, 1) := by decide +kernel
theorem d_XL_addClr_60 : decode b_XL_addClr 60 = .ok (.iload_n 2, 1) := by decide +kernel
theorem d_XL_addClr_61 : decode b_XL_addClr 61 = .ok (.iastore, 1) := by decide +kernel
theorem d_XL_addClr_62 : decode b_XL_addClr 62 = .ok (.iload_n 2, 1) := by decide +kernel
theorem d_XL_addClr_63 : decode b_XL_addClr 63 = .ok (.ireturn, 1) := by decide +kernel
theorem d_XL_addCommit_0 : decode b_XL_addCommit 0 = .ok (.aload_n 0, 1) := by decide +kernel
theorem d_XL_addCommit_1 : decode b_XL_addCommit 1 = .ok (.getfield 36, 3) := by decide +kernel
theorem d_XL_addCommit_4 : decode b_XL_addCommit 4 = .ok (.iload_n 1, 1) := by decide +kernel
theorem d_XL_addCommit_5 : decode b_XL_addCommit 5 = .ok (.aload_n 0, 1) := by decide +kernel
theorem d_XL_addCommit_6 : decode b_XL_addCommit 6 = .ok (.iconst 3, 1) := by decide +kernel
theorem d_XL_addCommit_7 : decode b_XL_addCommit 7 = .ok (.iload_n 1, 1) := by decide +kernel
theorem d_XL_addCommit_8 : decode b_XL_addCommit 8 = .ok (.invokevirtual 51, 3) := by decide +kernel
theorem d_XL_addCommit_11 : decode b_XL_addCommit 11 = .ok (.iastore, 1) := by decide +kernel
theorem d_XL_addCommit_12 : decode b_XL_addCommit 12 = .ok (.return_, 1) := by decide +kernel
theorem d_XL_addCheckpoint_0 : decode b_XL_addCheckpoint 0 = .ok (.aload_n 0, 1) := by decide +kernel
theorem d_XL_addCheckpoint_1 : decode b_XL_addCheckpoint 1 = .ok (.iconst 4, 1) := by decide +kernel
theorem d_XL_addCheckpoint_2 : decode b_XL_addCheckpoint 2 = .ok (.iconst 0, 1) := by decide +kernel
theorem d_XL_addCheckpoint_3 : decode b_XL_addCheckpoint 3 = .ok (.invokevirtual 51, 3) := by decide +kernel
theorem d_XL_addCheckpoint_6 : decode b_XL_addCheckpoint 6 = .ok (.istore_n 2, 1) := by decide +kernel
theorem d_XL_addCheckpoint_7 : decode b_XL_addCheckpoint 7 = .ok (.aload_n 1, 1) := by decide +kernel
theorem d_XL_addCheckpoint_8 : decode b_XL_addCheckpoint 8 = .ok (.iconst 0, 1) := by decide +kernel
theorem d_XL_addCheckpoint_9 : decode b_XL_addCheckpoint 9 = .ok (.aload_n 0, 1) := by decide +kernel
theorem d_XL_addCheckpoint_10 : decode b_XL_addCheckpoint 10 = .ok (.getfield 44, 3) := by decide +kernel
theorem d_XL_addCheckpoint_13 : decode b_XL_addCheckpoint 13 = .ok (.aload_n 0, 1) := by decide +kernel
theorem d_XL_addCheckpoint_14 : decode b_XL_addCheckpoint 14 = .ok (.getfield 58, 3) := by decide +kernel
theorem d_XL_addCheckpoint_17 : decode b_XL_addCheckpoint 17 = .ok (.aaload, 1) := by decide +kernel
theorem d_XL_addCheckpoint_18 : decode b_XL_addCheckpoint 18 = .ok (.iconst 0, 1) := by decide +kernel
theorem d_XL_addCheckpoint_19 : decode b_XL_addCheckpoint 19 = .ok (.bipush 6, 2) := by decide +kernel
theorem d_XL_addCheckpoint_21 : decode b_XL_addCheckpoint 21 = .ok (.invokestatic 61, 3) := by decide +kernel
theorem d_XL_addCheckpoint_24 : decode b_XL_addCheckpoint 24 = .ok (.aload_n 0, 1) := by decide +kernel
theorem d_XL_addCheckpoint_25 : decode b_XL_addCheckpoint 25 = .ok (.getfield 39, 3) := by decide +kernel
theorem d_XL_addCheckpoint_28 : decode b_XL_addCheckpoint 28 = .ok (.aload_n 0, 1) := by decide +kernel
theorem d_XL_addCheckpoint_29 : decode b_XL_addCheckpoint 29 = .ok (.getfield 58, 3) := by decide +kernel
theorem d_XL_addCheckpoint_32 : decode b_XL_addCheckpoint 32 = .ok (.iload_n 2, 1) := by decide +kernel
theorem d_XL_addCheckpoint_33 : decode b_XL_addCheckpoint 33 = .ok (.iastore, 1) := by decide +kernel
theorem d_XL_addCheckpoint_34 : decode b_XL_addCheckpoint 34 = .ok (.aload_n 0, 1) := by decide +kernel
theorem d_XL_addCheckpoint_35 : decode b_XL_addCheckpoint 35 = .ok (.dup, 1) := by decide +kernel
theorem d_XL_addCheckpoint_36 : decode b_XL_addCheckpoint 36 = .ok (.getfield 58, 3) := by decide +kernel
theorem d_XL_addCheckpoint_39 : decode b_XL_addCheckpoint 39 = .ok (.iconst 1, 1) := by decide +kernel
theorem d_XL_addCheckpoint_40 : decode b_XL_addCheckpoint 40 = .ok (.iadd, 1) := by decide +kernel
theorem d_XL_addCheckpoint_41 : decode b_XL_addCheckpoint 41 = .ok (.putfield 58, 3) := by decide +kernel
theorem d_XL_addCheckpoint_44 : decode b_XL_addCheckpoint 44 = .ok (.iload_n 2, 1) := by decide +kernel
theorem d_XL_addCheckpoint_45 : decode b_XL_addCheckpoint 45 = .ok (.ireturn, 1) := by decide +kernel
theorem d_XL_isChange_0 : decode b_XL_isChange 0 = .ok (.aload_n 0, 1) := by decide +kernel
theorem d_XL_isChange_1 : decode b_XL_isChange 1 = .ok (.getfield 9, 3) := by decide +kernel
theorem d_XL_isChange_4 : decode b_XL_isChange 4 = .ok (.iload_n 1, 1) := by decide +kernel
theorem d_XL_isChange_5 : decode b_XL_isChange 5 = .ok (.iaload, 1) := by decide +kernel
theorem d_XL_isChange_6 : decode b_XL_isChange 6 = .ok (.iconst 1, 1) := by decide +kernel
theorem d_XL_isChange_7 : decode b_XL_isChange 7 = .ok (.if_icmp .eq 13, 3) := by decide +kernel
theorem d_XL_isChange_10 : decode b_XL_isChange 10 = .ok (.aload_n 0, 1) := by decide +kernel
theorem d_XL_isChange_11 : decode b_XL_isChange 11 = .ok (.getfield 9, 3) := by decide +kernel
theorem d_XL_isChange_14 : decode b_XL_isChange 14 = .ok (.iload_n 1, 1) := by decide +kernel
theorem d_XL_isChange_15 : decode b_XL_isChange 15 = .ok (.iaload, 1) := by decide +kernel
theorem d_XL_isChange_16 : decode b_XL_isChange 16 = .ok (.iconst 2, 1) := by decide +kernel
theorem d_XL_isChange_17 : decode b_XL_isChange 17 = .ok (.if_icmp .ne 7, 3) := by decide +kernel
theorem d_XL_isChange_20 : decode b_XL_isChange 20 = .ok (.iconst 1, 1) := by decide +kernel
theorem d_XL_isChange_21 : decode b_XL_isChange 21 = .ok (.goto 4, 3) := by decide +kernel
theorem d_XL_isChange_24 : decode b_XL_isChange 24 = .ok (.iconst 0, 1) := by decide +kernel
theorem d_XL_isChange_25 : decode b_XL_isChange 25 = .ok (.ireturn, 1) := by decide +kernel
theorem d_XL_isOpen_0 : decode b_XL_isOpen 0 = .ok (.aload_n 0, 1) := by decide +kernel
theorem d_XL_isOpen_1 : decode b_XL_isOpen 1 = .ok (.getfield 9, 3) := by decide +kernel
theorem d_XL_isOpen_4 : decode b_XL_isOpen 4 = .ok (.iload_n 1, 1) := by decide +kernel
theorem d_XL_isOpen_5 : decode b_XL_isOpen 5 = .ok (.iaload, 1) := by decide +kernel
theorem d_XL_isOpen_6 : decode b_XL_isOpen 6 = .ok (.iconst 1, 1) := by decide +kernel
theorem d_XL_isOpen_7 : decode b_XL_isOpen 7 = .ok (.if_icmp .ne 30, 3) := by decide +kernel
theorem d_XL_isOpen_10 : decode b_XL_isOpen 10 = .ok (.aload_n 0, 1) := by decide +kernel
theorem d_XL_isOpen_11 : decode b_XL_isOpen 11 = .ok (.getfield 33, 3) := by decide +kernel
theorem d_XL_isOpen_14 : decode b_XL_isOpen 14 = .ok (.iload_n 1, 1) := by decide +kernel
theorem d_XL_isOpen_15 : decode b_XL_isOpen 15 = .ok (.iaload, 1) := by decide +kernel
theorem d_XL_isOpen_16 : decode b_XL_isOpen 16 = .ok (.ifCond .ne 21, 3) := by decide +kernel
theorem d_XL_isOpen_19 : decode b_XL_isOpen 19 = .ok (.aload_n 0, 1) := by decide +kernel
theorem d_XL_isOpen_20 : decode b_XL_isOpen 20 = .ok (.getfield 36, 3) := by decide +kernel
theorem d_XL_isOpen_23 : decode b_XL_isOpen 23 = .ok (.aload_n 0, 1) := by decide +kernel
theorem d_XL_isOpen_24 : decode b_XL_isOpen 24 = .ok (.getfield 15, 3) := by decide +kernel
theorem d_XL_isOpen_27 : decode b_XL_isOpen 27 = .ok (.iload_n 1, 1) := by decide +kernel
theorem d_XL_isOpen_28 : decode b_XL_isOpen 28 = .ok (.iaload, 1) := by decide +kernel
theorem d_XL_isOpen_29 : decode b_XL_isOpen 29 = .ok (.iaload, 1) := by decide +kernel
theorem d_XL_isOpen_30 : decode b_XL_isOpen 30 = .ok (.ifCond .ne 7, 3) := by decide +kernel
theorem d_XL_isOpen_33 : decode b_XL_isOpen 33 = .ok (.iconst 1, 1) := by decide +kernel
theorem d_XL_isOpen_34 : decode b_XL_isOpen 34 = .ok (.goto 4, 3) := by decide +kernel
theorem d_XL_isOpen_37 : decode b_XL_isOpen 37 = .ok (.iconst 0, 1) := by decide +kernel
theorem d_XL_isOpen_38 : decode b_XL_isOpen 38 = .ok (.ireturn, 1) := by decide +kernel
theorem d_XL_greatestOpen_0 : decode b_XL_greatestOpen 0 = .ok (.aload_n 0, 1) := by decide +kernel
theorem d_XL_greatestOpen_1 : decode b_XL_greatestOpen 1 = .ok (.getfield 47, 3) := by decide +kernel
theorem d_XL_greatestOpen_4 : decode b_XL_greatestOpen 4 = .ok (.istore_n 1, 1) := by decide +kernel
theorem d_XL_greatestOpen_5 : decode b_XL_greatestOpen 5 = .ok (.iload_n 1, 1) := by decide +kernel
theorem d_XL_greatestOpen_6 : decode b_XL_greatestOpen 6 = .ok (.iconst 1, 1) := by decide +kernel
theorem d_XL_greatestOpen_7 : decode b_XL_greatestOpen 7 = .ok (.if_icmp .lt 19, 3) := by decide +kernel
theorem d_XL_greatestOpen_10 : decode b_XL_greatestOpen 10 = .ok (.aload_n 0, 1) := by decide +kernel
theorem d_XL_greatestOpen_11 : decode b_XL_greatestOpen 11 = .ok (.iload_n 1, 1) := by decide +kernel
theorem d_XL_greatestOpen_12 : decode b_XL_greatestOpen 12 = .ok (.invokevirtual 67, 3) := by decide +kernel
theorem d_XL_greatestOpen_15 : decode b_XL_greatestOpen 15 = .ok (.ifCond .eq 5, 3) := by decide +kernel
theorem d_XL_greatestOpen_18 : decode b_XL_greatestOpen 18 = .ok (.iload_n 1, 1) := by decide +kernel
theorem d_XL_greatestOpen_19 : decode b_XL_greatestOpen 19 = .ok (.ireturn, 1) := by decide +kernel
theorem d_XL_greatestOpen_20 : decode b_XL_greatestOpen 20 = .ok (.iinc 1 (-1), 3) := by decide +kernel
theorem d_XL_greatestOpen_23 : decode b_XL_greatestOpen 23 = .ok (.goto (-18), 3) := by decide +kernel
theorem d_XL_greatestOpen_26 : decode b_XL_greatestOpen 26 = .ok (.iconst 0, 1) := by decide +kernel
theorem d_XL_greatestOpen_27 : decode b_XL_greatestOpen 27 = .ok (.ireturn, 1) := by decide +kernel
theorem d_XL_makeStable_0 : decode b_XL_makeStable 0 = .ok (.aload_n 0, 1) := by decide +kernel
theorem d_XL_makeStable_1 : decode b_XL_makeStable 1 = .ok (.getfield 71, 3) := by decide +kernel
theorem d_XL_makeStable_4 : decode b_XL_makeStable 4 = .ok (.iload_n 1, 1) := by decide +kernel
theorem d_XL_makeStable_5 : decode b_XL_makeStable 5 = .ok (.if_icmp .ge 8, 3) := by decide +kernel
theorem d_XL_makeStable_8 : decode b_XL_makeStable 8 = .ok (.aload_n 0, 1) := by decide +kernel
theorem d_XL_makeStable_9 : decode b_XL_makeStable 9 = .ok (.iload_n 1, 1) := by decide +kernel
theorem d_XL_makeStable_10 : decode b_XL_makeStable 10 = .ok (.putfield 71, 3) := by decide +kernel
theorem d_XL_makeStable_13 : decode b_XL_makeStable 13 = .ok (.return_, 1) := by decide +kernel
theorem d_XL_loseUnstable_0 : decode b_XL_loseUnstable 0 = .ok (.aload_n 0, 1) := by decide +kernel
theorem d_XL_loseUnstable_1 : decode b_XL_loseUnstable 1 = .ok (.getfield 47, 3) := by decide +kernel
theorem d_XL_loseUnstable_4 : decode b_XL_loseUnstable 4 = .ok (.istore_n 1, 1) := by decide +kernel
theorem d_XL_loseUnstable_5 : decode b_XL_loseUnstable 5 = .ok (.iload_n 1, 1) := by decide +kernel
theorem d_XL_loseUnstable_6 : decode b_XL_loseUnstable 6 = .ok (.aload_n 0, 1) := by decide +kernel
theorem d_XL_loseUnstable_7 : decode b_XL_loseUnstable 7 = .ok (.getfield 71, 3) := by decide +kernel
theorem d_XL_loseUnstable_10 : decode b_XL_loseUnstable 10 = .ok (.if_icmp .le 14, 3) := by decide +kernel
theorem d_XL_loseUnstable_13 : decode b_XL_loseUnstable 13 = .ok (.aload_n 0, 1) := by decide +kernel
theorem d_XL_loseUnstable_14 : decode b_XL_loseUnstable 14 = .ok (.iload_n 1, 1) := by decide +kernel
theorem d_XL_loseUnstable_15 : decode b_XL_loseUnstable 15 = .ok (.invokevirtual 74, 3) := by decide +kernel
theorem d_XL_loseUnstable_18 : decode b_XL_loseUnstable 18 = .ok (.iinc 1 (-1), 3) := by decide +kernel
theorem d_XL_loseUnstable_21 : decode b_XL_loseUnstable 21 = .ok (.goto (-16), 3) := by decide +kernel
theorem d_XL_loseUnstable_24 : decode b_XL_loseUnstable 24 = .ok (.aload_n 0, 1) := by decide +kernel
theorem d_XL_loseUnstable_25 : decode b_XL_loseUnstable 25 = .ok (.aload_n 0, 1) := by decide +kernel
theorem d_XL_loseUnstable_26 : decode b_XL_loseUnstable 26 = .ok (.getfield 71, 3) := by decide +kernel
theorem d_XL_loseUnstable_29 : decode b_XL_loseUnstable 29 = .ok (.putfield 47, 3) := by decide +kernel
theorem d_XL_loseUnstable_32 : decode b_XL_loseUnstable 32 = .ok (.return_, 1) := by decide +kernel
theorem d_XL_forget_0 : decode b_XL_forget 0 = .ok (.aload_n 0, 1) := by decide +kernel
theorem d_XL_forget_1 : decode b_XL_forget 1 = .ok (.getfield 9, 3) := by decide +kernel
theorem d_XL_forget_4 : decode b_XL_forget 4 = .ok (.iload_n 1, 1) := by decide +kernel
theorem d_XL_forget_5 : decode b_XL_forget 5 = .ok (.iaload, 1) := by decide +kernel
theorem d_XL_forget_6 : decode b_XL_forget 6 = .ok (.tableswitch 69 1 3 #[26, 39, 54], 26) := by decide +kernel
theorem d_XL_forget_32 : decode b_XL_forget 32 = .ok (.aload_n 0, 1) := by decide +kernel
theorem d_XL_forget_33 : decode b_XL_forget 33 = .ok (.dup, 1) := by decide +kernel
theorem d_XL_forget_34 : decode b_XL_forget 34 = .ok (.getfield 55, 3) := by decide +kernel
theorem d_XL_forget_37 : decode b_XL_forget 37 = .ok (.iconst 1, 1) := by decide +kernel
theorem d_XL_forget_38 : decode b_XL_forget 38 = .ok (.isub, 1) := by decide +kernel
theorem d_XL_forget_39 : decode b_XL_forget 39 = .ok (.putfield 55, 3) := by decide +kernel
theorem d_XL_forget_42 : decode b_XL_forget 42 = .ok (.goto 43, 3) := by decide +kernel
theorem d_XL_forget_45 : decode b_XL_forget 45 = .ok (.aload_n 0, 1) := by decide +kernel
theorem d_XL_forget_46 : decode b_XL_forget 46 = .ok (.getfield 33, 3) := by decide +kernel
theorem d_XL_forget_49 : decode b_XL_forget 49 = .ok (.aload_n 0, 1) := by decide +kernel
theorem d_XL_forget_50 : decode b_XL_forget 50 = .ok (.getfield 33, 3) := by decide +kernel
theorem d_XL_forget_53 : decode b_XL_forget 53 = .ok (.iload_n 1, 1) := by decide +kernel
theorem d_XL_forget_54 : decode b_XL_forget 54 = .ok (.iaload, 1) := by decide +kernel
theorem d_XL_forget_55 : decode b_XL_forget 55 = .ok (.iconst 0, 1) := by decide +kernel
theorem d_XL_forget_56 : decode b_XL_forget 56 = .ok (.iastore, 1) := by decide +kernel
theorem d_XL_forget_57 : decode b_XL_forget 57 = .ok (.goto 28, 3) := by decide +kernel
theorem d_XL_forget_60 : decode b_XL_forget 60 = .ok (.aload_n 0, 1) := by decide +kernel
theorem d_XL_forget_61 : decode b_XL_forget 61 = .ok (.getfield 36, 3) := by decide +kernel
theorem d_XL_forget_64 : decode b_XL_forget 64 = .ok (.aload_n 0, 1) := by decide +kernel
theorem d_XL_forget_65 : decode b_XL_forget 65 = .ok (.getfield 15, 3) := by decide +kernel
theorem d_XL_forget_68 : decode b_XL_forget 68 = .ok (.iload_n 1, 1) := by decide +kernel
theorem d_XL_forget_69 : decode b_XL_forget 69 = .ok (.iaload, 1) := by decide +kernel
theorem d_XL_forget_70 : decode b_XL_forget 70 = .ok (.iconst 0, 1) := by decide +kernel
theorem d_XL_forget_71 : decode b_XL_forget 71 = .ok (.iastore, 1) := by decide +kernel
theorem d_XL_forget_72 : decode b_XL_forget 72 = .ok (.goto 13, 3) := by decide +kernel
theorem d_XL_forget_75 : decode b_XL_forget 75 = .ok (.aload_n 0, 1) := by decide +kernel
theorem d_XL_forget_76 : decode b_XL_forget 76 = .ok (.dup, 1) := by decide +kernel
theorem d_XL_forget_77 : decode b_XL_forget 77 = .ok (.getfield 58, 3) := by decide +kernel
theorem d_XL_forget_80 : decode b_XL_forget 80 = .ok (.iconst 1, 1) := by decide +kernel
theorem d_XL_forget_81 : decode b_XL_forget 81 = .ok (.isub, 1) := by decide +kernel
theorem d_XL_forget_82 : decode b_XL_forget 82 = .ok (.putfield 58, 3) := by decide +kernel
theorem d_XL_forget_85 : decode b_XL_forget 85 = .ok (.return_, 1) := by decide +kernel
theorem d_XT_init_0 : decode b_XT_init 0 = .ok (.aload_n 0, 1) := by decide +kernel
theorem d_XT_init_1 : decode b_XT_init 1 = .ok (.invokespecial 3, 3) := by decide +kernel
theorem d_XT_init_4 : decode b_XT_init 4 = .ok (.aload_n 0, 1) := by decide +kernel
theorem d_XT_init_5 : decode b_XT_init 5 = .ok (.iload_n 1, 1) := by decide +kernel
theorem d_XT_init_6 : decode b_XT_init 6 = .ok (.putfield 9, 3) := by decide +kernel
theorem d_XT_init_9 : decode b_XT_init 9 = .ok (.aload_n 0, 1) := by decide +kernel
theorem d_XT_init_10 : decode b_XT_init 10 = .ok (.iload_n 2, 1) := by decide +kernel
theorem d_XT_init_11 : decode b_XT_init 11 = .ok (.putfield 15, 3) := by decide +kernel
theorem d_XT_init_14 : decode b_XT_init 14 = .ok (.aload_n 0, 1) := by decide +kernel
theorem d_XT_init_15 : decode b_XT_init 15 = .ok (.iconst 1, 1) := by decide +kernel
theorem d_XT_init_16 : decode b_XT_init 16 = .ok (.putfield 18, 3) := by decide +kernel
theorem d_XT_init_19 : decode b_XT_init 19 = .ok (.aload_n 0, 1) := by decide +kernel
theorem d_XT_init_20 : decode b_XT_init 20 = .ok (.iconst (-1), 1) := by decide +kernel
theorem d_XT_init_21 : decode b_XT_init 21 = .ok (.putfield 21, 3) := by decide +kernel
theorem d_XT_init_24 : decode b_XT_init 24 = .ok (.return_, 1) := by decide +kernel
theorem d_XT_ask_0 : decode b_XT_ask 0 = .ok (.aload_n 0, 1) := by decide +kernel
theorem d_XT_ask_1 : decode b_XT_ask 1 = .ok (.iload_n 1, 1) := by decide +kernel
theorem d_XT_ask_2 : decode b_XT_ask 2 = .ok (.putfield 24, 3) := by decide +kernel
theorem d_XT_ask_5 : decode b_XT_ask 5 = .ok (.aload_n 0, 1) := by decide +kernel
theorem d_XT_ask_6 : decode b_XT_ask 6 = .ok (.iload_n 2, 1) := by decide +kernel
theorem d_XT_ask_7 : decode b_XT_ask 7 = .ok (.putfield 27, 3) := by decide +kernel
theorem d_XT_ask_10 : decode b_XT_ask 10 = .ok (.aload_n 0, 1) := by decide +kernel
theorem d_XT_ask_11 : decode b_XT_ask 11 = .ok (.iload_n 3, 1) := by decide +kernel
theorem d_XT_ask_12 : decode b_XT_ask 12 = .ok (.putfield 30, 3) := by decide +kernel
theorem d_XT_ask_15 : decode b_XT_ask 15 = .ok (.aload_n 0, 1) := by decide +kernel
theorem d_XT_ask_16 : decode b_XT_ask 16 = .ok (.iload 4, 2) := by decide +kernel
theorem d_XT_ask_18 : decode b_XT_ask 18 = .ok (.putfield 33, 3) := by decide +kernel
theorem d_XT_ask_21 : decode b_XT_ask 21 = .ok (.return_, 1) := by decide +kernel
end
section
theorem d_XP_init_0 : decode b_XP_init 0 = .ok (.aload_n 0, 1) := by decide +kernel
theorem d_XP_init_1 : decode b_XP_init 1 = .ok (.invokespecial 3, 3) := by decide +kernel
theorem d_XP_init_4 : decode b_XP_init 4 = .ok (.aload_n 0, 1) := by decide +kernel
theorem d_XP_init_5 : decode b_XP_init 5 = .ok (.bipush 6, 2) := by decide +kernel
theorem d_XP_init_7 : decode b_XP_init 7 = .ok (.anewarray 9, 3) := by decide +kernel
theorem d_XP_init_10 : decode b_XP_init 10 = .ok (.putfield 11, 3) := by decide +kernel
theorem d_XP_init_13 : decode b_XP_init 13 = .ok (.aload_n 0, 1) := by decide +kernel
theorem d_XP_init_14 : decode b_XP_init 14 = .ok (.bipush 6, 2) := by decide +kernel
theorem d_XP_init_16 : decode b_XP_init 16 = .ok (.anewarray 9, 3) := by decide +kernel
theorem d_XP_init_19 : decode b_XP_init 19 = .ok (.putfield 17, 3) := by decide +kernel
theorem d_XP_init_22 : decode b_XP_init 22 = .ok (.aload_n 0, 1) := by decide +kernel
theorem d_XP_init_23 : decode b_XP_init 23 = .ok (.bipush 6, 2) := by decide +kernel
theorem d_XP_init_25 : decode b_XP_init 25 = .ok (.newarray .boolean, 2) := by decide +kernel
theorem d_XP_init_27 : decode b_XP_init 27 = .ok (.putfield 20, 3) := by decide +kernel
theorem d_XP_init_30 : decode b_XP_init 30 = .ok (.aload_n 0, 1) := by decide +kernel
theorem d_XP_init_31 : decode b_XP_init 31 = .ok (.bipush 6, 2) := by decide +kernel
theorem d_XP_init_33 : decode b_XP_init 33 = .ok (.newarray .int, 2) := by decide +kernel
theorem d_XP_init_35 : decode b_XP_init 35 = .ok (.putfield 24, 3) := by decide +kernel
theorem d_XP_init_38 : decode b_XP_init 38 = .ok (.aload_n 0, 1) := by decide +kernel
theorem d_XP_init_39 : decode b_XP_init 39 = .ok (.bipush 6, 2) := by decide +kernel
theorem d_XP_init_41 : decode b_XP_init 41 = .ok (.newarray .int, 2) := by decide +kernel
theorem d_XP_init_43 : decode b_XP_init 43 = .ok (.putfield 28, 3) := by decide +kernel
theorem d_XP_init_46 : decode b_XP_init 46 = .ok (.aload_n 0, 1) := by decide +kernel
theorem d_XP_init_47 : decode b_XP_init 47 = .ok (.aload_n 1, 1) := by decide +kernel
theorem d_XP_init_48 : decode b_XP_init 48 = .ok (.putfield 31, 3) := by decide +kernel
theorem d_XP_init_51 : decode b_XP_init 51 = .ok (.iconst 0, 1) := by decide +kernel
theorem d_XP_init_52 : decode b_XP_init 52 = .ok (.istore_n 2, 1) := by decide +kernel
theorem d_XP_init_53 : decode b_XP_init 53 = .ok (.iload_n 2, 1) := by decide +kernel
theorem d_XP_init_54 : decode b_XP_init 54 = .ok (.bipush 6, 2) := by decide +kernel
theorem d_XP_init_56 : decode b_XP_init 56 = .ok (.if_icmp .ge 35, 3) := by decide +kernel
theorem d_XP_init_59 : decode b_XP_init 59 = .ok (.aload_n 0, 1) := by decide +kernel
theorem d_XP_init_60 : decode b_XP_init 60 = .ok (.getfield 11, 3) := by decide +kernel
theorem d_XP_init_63 : decode b_XP_init 63 = .ok (.iload_n 2, 1) := by decide +kernel
theorem d_XP_init_64 : decode b_XP_init 64 = .ok (.new 9, 3) := by decide +kernel
theorem d_XP_init_67 : decode b_XP_init 67 = .ok (.dup, 1) := by decide +kernel
theorem d_XP_init_68 : decode b_XP_init 68 = .ok (.invokespecial 35, 3) := by decide +kernel
theorem d_XP_init_71 : decode b_XP_init 71 = .ok (.aastore, 1) := by decide +kernel
theorem d_XP_init_72 : decode b_XP_init 72 = .ok (.aload_n 0, 1) := by decide +kernel
theorem d_XP_init_73 : decode b_XP_init 73 = .ok (.getfield 17, 3) := by decide +kernel
theorem d_XP_init_76 : decode b_XP_init 76 = .ok (.iload_n 2, 1) := by decide +kernel
theorem d_XP_init_77 : decode b_XP_init 77 = .ok (.new 9, 3) := by decide +kernel
theorem d_XP_init_80 : decode b_XP_init 80 = .ok (.dup, 1) := by decide +kernel
theorem d_XP_init_81 : decode b_XP_init 81 = .ok (.invokespecial 35, 3) := by decide +kernel
theorem d_XP_init_84 : decode b_XP_init 84 = .ok (.aastore, 1) := by decide +kernel
theorem d_XP_init_85 : decode b_XP_init 85 = .ok (.iinc 2 1, 3) := by decide +kernel
theorem d_XP_init_88 : decode b_XP_init 88 = .ok (.goto (-35), 3) := by decide +kernel
theorem d_XP_init_91 : decode b_XP_init 91 = .ok (.return_, 1) := by decide +kernel
theorem d_XP_isDirty_0 : decode b_XP_isDirty 0 = .ok (.aload_n 0, 1) := by decide +kernel
theorem d_XP_isDirty_1 : decode b_XP_isDirty 1 = .ok (.getfield 24, 3) := by decide +kernel
theorem d_XP_isDirty_4 : decode b_XP_isDirty 4 = .ok (.iload_n 1, 1) := by decide +kernel
theorem d_XP_isDirty_5 : decode b_XP_isDirty 5 = .ok (.iaload, 1) := by decide +kernel
theorem d_XP_isDirty_6 : decode b_XP_isDirty 6 = .ok (.ifCond .eq 7, 3) := by decide +kernel
theorem d_XP_isDirty_9 : decode b_XP_isDirty 9 = .ok (.iconst 1, 1) := by decide +kernel
theorem d_XP_isDirty_10 : decode b_XP_isDirty 10 = .ok (.goto 4, 3) := by decide +kernel
theorem d_XP_isDirty_13 : decode b_XP_isDirty 13 = .ok (.iconst 0, 1) := by decide +kernel
theorem d_XP_isDirty_14 : decode b_XP_isDirty 14 = .ok (.ireturn, 1) := by decide +kernel
theorem d_XP_writeOut_0 : decode b_XP_writeOut 0 = .ok (.aload_n 0, 1) := by decide +kernel
theorem d_XP_writeOut_1 : decode b_XP_writeOut 1 = .ok (.getfield 31, 3) := by decide +kernel
theorem d_XP_writeOut_4 : decode b_XP_writeOut 4 = .ok (.aload_n 0, 1) := by decide +kernel
theorem d_XP_writeOut_5 : decode b_XP_writeOut 5 = .ok (.getfield 17, 3) := by decide +kernel
theorem d_XP_writeOut_8 : decode b_XP_writeOut 8 = .ok (.iload_n 1, 1) := by decide +kernel
theorem d_XP_writeOut_9 : decode b_XP_writeOut 9 = .ok (.aaload, 1) := by decide +kernel
theorem d_XP_writeOut_10 : decode b_XP_writeOut 10 = .ok (.getfield 36, 3) := by decide +kernel
theorem d_XP_writeOut_13 : decode b_XP_writeOut 13 = .ok (.invokevirtual 40, 3) := by decide +kernel
theorem d_XP_writeOut_16 : decode b_XP_writeOut 16 = .ok (.aload_n 0, 1) := by decide +kernel
theorem d_XP_writeOut_17 : decode b_XP_writeOut 17 = .ok (.getfield 11, 3) := by decide +kernel
theorem d_XP_writeOut_20 : decode b_XP_writeOut 20 = .ok (.iload_n 1, 1) := by decide +kernel
theorem d_XP_writeOut_21 : decode b_XP_writeOut 21 = .ok (.aaload, 1) := by decide +kernel
theorem d_XP_writeOut_22 : decode b_XP_writeOut 22 = .ok (.aload_n 0, 1) := by decide +kernel
theorem d_XP_writeOut_23 : decode b_XP_writeOut 23 = .ok (.getfield 17, 3) := by decide +kernel
theorem d_XP_writeOut_26 : decode b_XP_writeOut 26 = .ok (.iload_n 1, 1) := by decide +kernel
theorem d_XP_writeOut_27 : decode b_XP_writeOut 27 = .ok (.aaload, 1) := by decide +kernel
theorem d_XP_writeOut_28 : decode b_XP_writeOut 28 = .ok (.invokevirtual 46, 3) := by decide +kernel
theorem d_XP_writeOut_31 : decode b_XP_writeOut 31 = .ok (.aload_n 0, 1) := by decide +kernel
theorem d_XP_writeOut_32 : decode b_XP_writeOut 32 = .ok (.getfield 24, 3) := by decide +kernel
theorem d_XP_writeOut_35 : decode b_XP_writeOut 35 = .ok (.iload_n 1, 1) := by decide +kernel
theorem d_XP_writeOut_36 : decode b_XP_writeOut 36 = .ok (.iconst 0, 1) := by decide +kernel
theorem d_XP_writeOut_37 : decode b_XP_writeOut 37 = .ok (.iastore, 1) := by decide +kernel
theorem d_XP_writeOut_38 : decode b_XP_writeOut 38 = .ok (.aload_n 0, 1) := by decide +kernel
theorem d_XP_writeOut_39 : decode b_XP_writeOut 39 = .ok (.dup, 1) := by decide +kernel
theorem d_XP_writeOut_40 : decode b_XP_writeOut 40 = .ok (.getfield 50, 3) := by decide +kernel
theorem d_XP_writeOut_43 : decode b_XP_writeOut 43 = .ok (.iconst 1, 1) := by decide +kernel
theorem d_XP_writeOut_44 : decode b_XP_writeOut 44 = .ok (.iadd, 1) := by decide +kernel
theorem d_XP_writeOut_45 : decode b_XP_writeOut 45 = .ok (.putfield 50, 3) := by decide +kernel
theorem d_XP_writeOut_48 : decode b_XP_writeOut 48 = .ok (.return_, 1) := by decide +kernel
theorem d_XP_fetch_0 : decode b_XP_fetch 0 = .ok (.aload_n 0, 1) := by decide +kernel
theorem d_XP_fetch_1 : decode b_XP_fetch 1 = .ok (.getfield 20, 3) := by decide +kernel
theorem d_XP_fetch_4 : decode b_XP_fetch 4 = .ok (.iload_n 1, 1) := by decide +kernel
theorem d_XP_fetch_5 : decode b_XP_fetch 5 = .ok (.baload, 1) := by decide +kernel
theorem d_XP_fetch_6 : decode b_XP_fetch 6 = .ok (.ifCond .ne 65, 3) := by decide +kernel
theorem d_XP_fetch_9 : decode b_XP_fetch 9 = .ok (.aload_n 0, 1) := by decide +kernel
theorem d_XP_fetch_10 : decode b_XP_fetch 10 = .ok (.invokevirtual 53, 3) := by decide +kernel
theorem d_XP_fetch_13 : decode b_XP_fetch 13 = .ok (.istore_n 2, 1) := by decide +kernel
theorem d_XP_fetch_14 : decode b_XP_fetch 14 = .ok (.iload_n 2, 1) := by decide +kernel
theorem d_XP_fetch_15 : decode b_XP_fetch 15 = .ok (.iconst (-1), 1) := by decide +kernel
theorem d_XP_fetch_16 : decode b_XP_fetch 16 = .ok (.if_icmp .eq 23, 3) := by decide +kernel
theorem d_XP_fetch_19 : decode b_XP_fetch 19 = .ok (.aload_n 0, 1) := by decide +kernel
theorem d_XP_fetch_20 : decode b_XP_fetch 20 = .ok (.iload_n 2, 1) := by decide +kernel
theorem d_XP_fetch_21 : decode b_XP_fetch 21 = .ok (.invokevirtual 57, 3) := by decide +kernel
theorem d_XP_fetch_24 : decode b_XP_fetch 24 = .ok (.ifCond .eq 8, 3) := by decide +kernel
theorem d_XP_fetch_27 : decode b_XP_fetch 27 = .ok (.aload_n 0, 1) := by decide +kernel
theorem d_XP_fetch_28 : decode b_XP_fetch 28 = .ok (.iload_n 2, 1) := by decide +kernel
theorem d_XP_fetch_29 : decode b_XP_fetch 29 = .ok (.invokevirtual 61, 3) := by decide +kernel
theorem d_XP_fetch_32 : decode b_XP_fetch 32 = .ok (.aload_n 0, 1) := by decide +kernel
theorem d_XP_fetch_33 : decode b_XP_fetch 33 = .ok (.getfield 20, 3) := by decide +kernel
theorem d_XP_fetch_36 : decode b_XP_fetch 36 = .ok (.iload_n 2, 1) := by decide +kernel
theorem d_XP_fetch_37 : decode b_XP_fetch 37 = .ok (.iconst 0, 1) := by decide +kernel
theorem d_XP_fetch_38 : decode b_XP_fetch 38 = .ok (.bastore, 1) := by decide +kernel
theorem d_XP_fetch_39 : decode b_XP_fetch 39 = .ok (.aload_n 0, 1) := by decide +kernel
theorem d_XP_fetch_40 : decode b_XP_fetch 40 = .ok (.getfield 17, 3) := by decide +kernel
theorem d_XP_fetch_43 : decode b_XP_fetch 43 = .ok (.iload_n 1, 1) := by decide +kernel
theorem d_XP_fetch_44 : decode b_XP_fetch 44 = .ok (.aaload, 1) := by decide +kernel
theorem d_XP_fetch_45 : decode b_XP_fetch 45 = .ok (.aload_n 0, 1) := by decide +kernel
theorem d_XP_fetch_46 : decode b_XP_fetch 46 = .ok (.getfield 11, 3) := by decide +kernel
theorem d_XP_fetch_49 : decode b_XP_fetch 49 = .ok (.iload_n 1, 1) := by decide +kernel
theorem d_XP_fetch_50 : decode b_XP_fetch 50 = .ok (.aaload, 1) := by decide +kernel
theorem d_XP_fetch_51 : decode b_XP_fetch 51 = .ok (.invokevirtual 46, 3) := by decide +kernel
theorem d_XP_fetch_54 : decode b_XP_fetch 54 = .ok (.aload_n 0, 1) := by decide +kernel
theorem d_XP_fetch_55 : decode b_XP_fetch 55 = .ok (.getfield 20, 3) := by decide +kernel
theorem d_XP_fetch_58 : decode b_XP_fetch 58 = .ok (.iload_n 1, 1) := by decide +kernel
theorem d_XP_fetch_59 : decode b_XP_fetch 59 = .ok (.iconst 1, 1) := by decide +kernel
theorem d_XP_fetch_60 : decode b_XP_fetch 60 = .ok (.bastore, 1) := by decide +kernel
theorem d_XP_fetch_61 : decode b_XP_fetch 61 = .ok (.aload_n 0, 1) := by decide +kernel
theorem d_XP_fetch_62 : decode b_XP_fetch 62 = .ok (.dup, 1) := by decide +kernel
theorem d_XP_fetch_63 : decode b_XP_fetch 63 = .ok (.getfield 64, 3) := by decide +kernel
theorem d_XP_fetch_66 : decode b_XP_fetch 66 = .ok (.iconst 1, 1) := by decide +kernel
theorem d_XP_fetch_67 : decode b_XP_fetch 67 = .ok (.iadd, 1) := by decide +kernel
theorem d_XP_fetch_68 : decode b_XP_fetch 68 = .ok (.putfield 64, 3) := by decide +kernel
theorem d_XP_fetch_71 : decode b_XP_fetch 71 = .ok (.aload_n 0, 1) := by decide +kernel
theorem d_XP_fetch_72 : decode b_XP_fetch 72 = .ok (.dup, 1) := by decide +kernel
theorem d_XP_fetch_73 : decode b_XP_fetch 73 = .ok (.getfield 67, 3) := by decide +kernel
theorem d_XP_fetch_76 : decode b_XP_fetch 76 = .ok (.iconst 1, 1) := by decide +kernel
theorem d_XP_fetch_77 : decode b_XP_fetch 77 = .ok (.iadd, 1) := by decide +kernel
theorem d_XP_fetch_78 : decode b_XP_fetch 78 = .ok (.putfield 67, 3) := by decide +kernel
theorem d_XP_fetch_81 : decode b_XP_fetch 81 = .ok (.aload_n 0, 1) := by decide +kernel
theorem d_XP_fetch_82 : decode b_XP_fetch 82 = .ok (.getfield 28, 3) := by decide +kernel
theorem d_XP_fetch_85 : decode b_XP_fetch 85 = .ok (.iload_n 1, 1) := by decide +kernel
theorem d_XP_fetch_86 : decode b_XP_fetch 86 = .ok (.aload_n 0, 1) := by decide +kernel
theorem d_XP_fetch_87 : decode b_XP_fetch 87 = .ok (.getfield 67, 3) := by decide +kernel
theorem d_XP_fetch_90 : decode b_XP_fetch 90 = .ok (.iastore, 1) := by decide +kernel
theorem d_XP_fetch_91 : decode b_XP_fetch 91 = .ok (.return_, 1) := by decide +kernel
theorem d_XP_pageToLeave_0 : decode b_XP_pageToLeave 0 = .ok (.iconst 0, 1) := by decide +kernel
theorem d_XP_pageToLeave_1 : decode b_XP_pageToLeave 1 = .ok (.istore_n 1, 1) := by decide +kernel
theorem d_XP_pageToLeave_2 : decode b_XP_pageToLeave 2 = .ok (.iconst (-1), 1) := by decide +kernel
theorem d_XP_pageToLeave_3 : decode b_XP_pageToLeave 3 = .ok (.istore_n 2, 1) := by decide +kernel
theorem d_XP_pageToLeave_4 : decode b_XP_pageToLeave 4 = .ok (.iconst 0, 1) := by decide +kernel
theorem d_XP_pageToLeave_5 : decode b_XP_pageToLeave 5 = .ok (.istore_n 3, 1) := by decide +kernel
theorem d_XP_pageToLeave_6 : decode b_XP_pageToLeave 6 = .ok (.iload_n 3, 1) := by decide +kernel
theorem d_XP_pageToLeave_7 : decode b_XP_pageToLeave 7 = .ok (.bipush 6, 2) := by decide +kernel
theorem d_XP_pageToLeave_9 : decode b_XP_pageToLeave 9 = .ok (.if_icmp .ge 43, 3) := by decide +kernel
theorem d_XP_pageToLeave_12 : decode b_XP_pageToLeave 12 = .ok (.aload_n 0, 1) := by decide +kernel
theorem d_XP_pageToLeave_13 : decode b_XP_pageToLeave 13 = .ok (.getfield 20, 3) := by decide +kernel
theorem d_XP_pageToLeave_16 : decode b_XP_pageToLeave 16 = .ok (.iload_n 3, 1) := by decide +kernel
theorem d_XP_pageToLeave_17 : decode b_XP_pageToLeave 17 = .ok (.baload, 1) := by decide +kernel
theorem d_XP_pageToLeave_18 : decode b_XP_pageToLeave 18 = .ok (.ifCond .eq 28, 3) := by decide +kernel
theorem d_XP_pageToLeave_21 : decode b_XP_pageToLeave 21 = .ok (.iinc 1 1, 3) := by decide +kernel
theorem d_XP_pageToLeave_24 : decode b_XP_pageToLeave 24 = .ok (.iload_n 2, 1) := by decide +kernel
theorem d_XP_pageToLeave_25 : decode b_XP_pageToLeave 25 = .ok (.iconst (-1), 1) := by decide +kernel
theorem d_XP_pageToLeave_26 : decode b_XP_pageToLeave 26 = .ok (.if_icmp .eq 18, 3) := by decide +kernel
theorem d_XP_pageToLeave_29 : decode b_XP_pageToLeave 29 = .ok (.aload_n 0, 1) := by decide +kernel
theorem d_XP_pageToLeave_30 : decode b_XP_pageToLeave 30 = .ok (.getfield 28, 3) := by decide +kernel
theorem d_XP_pageToLeave_33 : decode b_XP_pageToLeave 33 = .ok (.iload_n 3, 1) := by decide +kernel
theorem d_XP_pageToLeave_34 : decode b_XP_pageToLeave 34 = .ok (.iaload, 1) := by decide +kernel
theorem d_XP_pageToLeave_35 : decode b_XP_pageToLeave 35 = .ok (.aload_n 0, 1) := by decide +kernel
theorem d_XP_pageToLeave_36 : decode b_XP_pageToLeave 36 = .ok (.getfield 28, 3) := by decide +kernel
theorem d_XP_pageToLeave_39 : decode b_XP_pageToLeave 39 = .ok (.iload_n 2, 1) := by decide +kernel
theorem d_XP_pageToLeave_40 : decode b_XP_pageToLeave 40 = .ok (.iaload, 1) := by decide +kernel
theorem d_XP_pageToLeave_41 : decode b_XP_pageToLeave 41 = .ok (.if_icmp .ge 5, 3) := by decide +kernel
theorem d_XP_pageToLeave_44 : decode b_XP_pageToLeave 44 = .ok (.iload_n 3, 1) := by decide +kernel
theorem d_XP_pageToLeave_45 : decode b_XP_pageToLeave 45 = .ok (.istore_n 2, 1) := by decide +kernel
theorem d_XP_pageToLeave_46 : decode b_XP_pageToLeave 46 = .ok (.iinc 3 1, 3) := by decide +kernel
theorem d_XP_pageToLeave_49 : decode b_XP_pageToLeave 49 = .ok (.goto (-43), 3) := by decide +kernel
theorem d_XP_pageToLeave_52 : decode b_XP_pageToLeave 52 = .ok (.iload_n 1, 1) := by decide +kernel
theorem d_XP_pageToLeave_53 : decode b_XP_pageToLeave 53 = .ok (.iconst 3, 1) := by decide +kernel
theorem d_XP_pageToLeave_54 : decode b_XP_pageToLeave 54 = .ok (.if_icmp .ge 7, 3) := by decide +kernel
theorem d_XP_pageToLeave_57 : decode b_XP_pageToLeave 57 = .ok (.iconst (-1), 1) := by decide +kernel
theorem d_XP_pageToLeave_58 : decode b_XP_pageToLeave 58 = .ok (.goto 4, 3) := by decide +kernel
theorem d_XP_pageToLeave_61 : decode b_XP_pageToLeave 61 = .ok (.iload_n 2, 1) := by decide +kernel
theorem d_XP_pageToLeave_62 : decode b_XP_pageToLeave 62 = .ok (.ireturn, 1) := by decide +kernel
theorem d_XP_empty_0 : decode b_XP_empty 0 = .ok (.iconst 0, 1) := by decide +kernel
theorem d_XP_empty_1 : decode b_XP_empty 1 = .ok (.istore_n 1, 1) := by decide +kernel
theorem d_XP_empty_2 : decode b_XP_empty 2 = .ok (.iload_n 1, 1) := by decide +kernel
theorem d_XP_empty_3 : decode b_XP_empty 3 = .ok (.bipush 6, 2) := by decide +kernel
theorem d_XP_empty_5 : decode b_XP_empty 5 = .ok (.if_icmp .ge 23, 3) := by decide +kernel
theorem d_XP_empty_8 : decode b_XP_empty 8 = .ok (.aload_n 0, 1) := by decide +kernel
theorem d_XP_empty_9 : decode b_XP_empty 9 = .ok (.getfield 20, 3) := by decide +kernel
theorem d_XP_empty_12 : decode b_XP_empty 12 = .ok (.iload_n 1, 1) := by decide +kernel
theorem d_XP_empty_13 : decode b_XP_empty 13 = .ok (.iconst 0, 1) := by decide +kernel
theorem d_XP_empty_14 : decode b_XP_empty 14 = .ok (.bastore, 1) := by decide +kernel
theorem d_XP_empty_15 : decode b_XP_empty 15 = .ok (.aload_n 0, 1) := by decide +kernel
theorem d_XP_empty_16 : decode b_XP_empty 16 = .ok (.getfield 24, 3) := by decide +kernel
theorem d_XP_empty_19 : decode b_XP_empty 19 = .ok (.iload_n 1, 1) := by decide +kernel
theorem d_XP_empty_20 : decode b_XP_empty 20 = .ok (.iconst 0, 1) := by decide +kernel
theorem d_XP_empty_21 : decode b_XP_empty 21 = .ok (.iastore, 1) := by decide +kernel
theorem d_XP_empty_22 : decode b_XP_empty 22 = .ok (.iinc 1 1, 3) := by decide +kernel
theorem d_XP_empty_25 : decode b_XP_empty 25 = .ok (.goto (-23), 3) := by decide +kernel
theorem d_XP_empty_28 : decode b_XP_empty 28 = .ok (.return_, 1) := by decide +kernel
theorem d_XP_seen_0 : decode b_XP_seen 0 = .ok (.aload_n 0, 1) := by decide +kernel
theorem d_XP_seen_1 : decode b_XP_seen 1 = .ok (.getfield 20, 3) := by decide +kernel
theorem d_XP_seen_4 : decode b_XP_seen 4 = .ok (.iload_n 1, 1) := by decide +kernel
theorem d_XP_seen_5 : decode b_XP_seen 5 = .ok (.baload, 1) := by decide +kernel
theorem d_XP_seen_6 : decode b_XP_seen 6 = .ok (.ifCond .eq 12, 3) := by decide +kernel
theorem d_XP_seen_9 : decode b_XP_seen 9 = .ok (.aload_n 0, 1) := by decide +kernel
theorem d_XP_seen_10 : decode b_XP_seen 10 = .ok (.getfield 17, 3) := by decide +kernel
theorem d_XP_seen_13 : decode b_XP_seen 13 = .ok (.iload_n 1, 1) := by decide +kernel
theorem d_XP_seen_14 : decode b_XP_seen 14 = .ok (.aaload, 1) := by decide +kernel
theorem d_XP_seen_15 : decode b_XP_seen 15 = .ok (.goto 9, 3) := by decide +kernel
theorem d_XP_seen_18 : decode b_XP_seen 18 = .ok (.aload_n 0, 1) := by decide +kernel
theorem d_XP_seen_19 : decode b_XP_seen 19 = .ok (.getfield 11, 3) := by decide +kernel
theorem d_XP_seen_22 : decode b_XP_seen 22 = .ok (.iload_n 1, 1) := by decide +kernel
theorem d_XP_seen_23 : decode b_XP_seen 23 = .ok (.aaload, 1) := by decide +kernel
theorem d_XP_seen_24 : decode b_XP_seen 24 = .ok (.areturn, 1) := by decide +kernel
theorem d_XP_keyAt_0 : decode b_XP_keyAt 0 = .ok (.aload_n 0, 1) := by decide +kernel
theorem d_XP_keyAt_1 : decode b_XP_keyAt 1 = .ok (.iload_n 1, 1) := by decide +kernel
theorem d_XP_keyAt_2 : decode b_XP_keyAt 2 = .ok (.iconst 4, 1) := by decide +kernel
theorem d_XP_keyAt_3 : decode b_XP_keyAt 3 = .ok (.idiv, 1) := by decide +kernel
theorem d_XP_keyAt_4 : decode b_XP_keyAt 4 = .ok (.invokevirtual 70, 3) := by decide +kernel
theorem d_XP_keyAt_7 : decode b_XP_keyAt 7 = .ok (.getfield 74, 3) := by decide +kernel
theorem d_XP_keyAt_10 : decode b_XP_keyAt 10 = .ok (.iload_n 1, 1) := by decide +kernel
theorem d_XP_keyAt_11 : decode b_XP_keyAt 11 = .ok (.iconst 4, 1) := by decide +kernel
theorem d_XP_keyAt_12 : decode b_XP_keyAt 12 = .ok (.irem, 1) := by decide +kernel
theorem d_XP_keyAt_13 : decode b_XP_keyAt 13 = .ok (.iaload, 1) := by decide +kernel
theorem d_XP_keyAt_14 : decode b_XP_keyAt 14 = .ok (.ireturn, 1) := by decide +kernel
theorem d_XP_valueAt_0 : decode b_XP_valueAt 0 = .ok (.aload_n 0, 1) := by decide +kernel
theorem d_XP_valueAt_1 : decode b_XP_valueAt 1 = .ok (.iload_n 1, 1) := by decide +kernel
theorem d_XP_valueAt_2 : decode b_XP_valueAt 2 = .ok (.iconst 4, 1) := by decide +kernel
theorem d_XP_valueAt_3 : decode b_XP_valueAt 3 = .ok (.idiv, 1) := by decide +kernel
theorem d_XP_valueAt_4 : decode b_XP_valueAt 4 = .ok (.invokevirtual 70, 3) := by decide +kernel
theorem d_XP_valueAt_7 : decode b_XP_valueAt 7 = .ok (.getfield 77, 3) := by decide +kernel
theorem d_XP_valueAt_10 : decode b_XP_valueAt 10 = .ok (.iload_n 1, 1) := by decide +kernel
theorem d_XP_valueAt_11 : decode b_XP_valueAt 11 = .ok (.iconst 4, 1) := by decide +kernel
theorem d_XP_valueAt_12 : decode b_XP_valueAt 12 = .ok (.irem, 1) := by decide +kernel
theorem d_XP_valueAt_13 : decode b_XP_valueAt 13 = .ok (.iaload, 1) := by decide +kernel
theorem d_XP_valueAt_14 : decode b_XP_valueAt 14 = .ok (.ireturn, 1) := by decide +kernel
theorem d_XP_placeOf_0 : decode b_XP_placeOf 0 = .ok (.iconst 0, 1) := by decide +kernel
theorem d_XP_placeOf_1 : decode b_XP_placeOf 1 = .ok (.istore_n 2, 1) := by decide +kernel
theorem d_XP_placeOf_2 : decode b_XP_placeOf 2 = .ok (.iload_n 2, 1) := by decide +kernel
theorem d_XP_placeOf_3 : decode b_XP_placeOf 3 = .ok (.bipush 24, 2) := by decide +kernel
theorem d_XP_placeOf_5 : decode b_XP_placeOf 5 = .ok (.if_icmp .ge 20, 3) := by decide +kernel
theorem d_XP_placeOf_8 : decode b_XP_placeOf 8 = .ok (.aload_n 0, 1) := by decide +kernel
theorem d_XP_placeOf_9 : decode b_XP_placeOf 9 = .ok (.iload_n 2, 1) := by decide +kernel
theorem d_XP_placeOf_10 : decode b_XP_placeOf 10 = .ok (.invokevirtual 80, 3) := by decide +kernel
theorem d_XP_placeOf_13 : decode b_XP_placeOf 13 = .ok (.iload_n 1, 1) := by decide +kernel
theorem d_XP_placeOf_14 : decode b_XP_placeOf 14 = .ok (.if_icmp .ne 5, 3) := by decide +kernel
theorem d_XP_placeOf_17 : decode b_XP_placeOf 17 = .ok (.iload_n 2, 1) := by decide +kernel
theorem d_XP_placeOf_18 : decode b_XP_placeOf 18 = .ok (.ireturn, 1) := by decide +kernel
theorem d_XP_placeOf_19 : decode b_XP_placeOf 19 = .ok (.iinc 2 1, 3) := by decide +kernel
theorem d_XP_placeOf_22 : decode b_XP_placeOf 22 = .ok (.goto (-20), 3) := by decide +kernel
theorem d_XP_placeOf_25 : decode b_XP_placeOf 25 = .ok (.iconst (-1), 1) := by decide +kernel
theorem d_XP_placeOf_26 : decode b_XP_placeOf 26 = .ok (.ireturn, 1) := by decide +kernel
theorem d_XP_leastKeyAbove_0 : decode b_XP_leastKeyAbove 0 = .ok (.iconst (-1), 1) := by decide +kernel
theorem d_XP_leastKeyAbove_1 : decode b_XP_leastKeyAbove 1 = .ok (.istore_n 2, 1) := by decide +kernel
theorem d_XP_leastKeyAbove_2 : decode b_XP_leastKeyAbove 2 = .ok (.iconst 0, 1) := by decide +kernel
theorem d_XP_leastKeyAbove_3 : decode b_XP_leastKeyAbove 3 = .ok (.istore_n 3, 1) := by decide +kernel
theorem d_XP_leastKeyAbove_4 : decode b_XP_leastKeyAbove 4 = .ok (.iload_n 3, 1) := by decide +kernel
theorem d_XP_leastKeyAbove_5 : decode b_XP_leastKeyAbove 5 = .ok (.bipush 24, 2) := by decide +kernel
theorem d_XP_leastKeyAbove_7 : decode b_XP_leastKeyAbove 7 = .ok (.if_icmp .ge 42, 3) := by decide +kernel
theorem d_XP_leastKeyAbove_10 : decode b_XP_leastKeyAbove 10 = .ok (.aload_n 0, 1) := by decide +kernel
theorem d_XP_leastKeyAbove_11 : decode b_XP_leastKeyAbove 11 = .ok (.iload_n 3, 1) := by decide +kernel
theorem d_XP_leastKeyAbove_12 : decode b_XP_leastKeyAbove 12 = .ok (.invokevirtual 80, 3) := by decide +kernel
theorem d_XP_leastKeyAbove_15 : decode b_XP_leastKeyAbove 15 = .ok (.istore 4, 2) := by decide +kernel
theorem d_XP_leastKeyAbove_17 : decode b_XP_leastKeyAbove 17 = .ok (.iload 4, 2) := by decide +kernel
theorem d_XP_leastKeyAbove_19 : decode b_XP_leastKeyAbove 19 = .ok (.iconst (-1), 1) := by decide +kernel
theorem d_XP_leastKeyAbove_20 : decode b_XP_leastKeyAbove 20 = .ok (.if_icmp .eq 23, 3) := by decide +kernel
theorem d_XP_leastKeyAbove_23 : decode b_XP_leastKeyAbove 23 = .ok (.iload 4, 2) := by decide +kernel
theorem d_XP_leastKeyAbove_25 : decode b_XP_leastKeyAbove 25 = .ok (.iload_n 1, 1) := by decide +kernel
theorem d_XP_leastKeyAbove_26 : decode b_XP_leastKeyAbove 26 = .ok (.if_icmp .le 17, 3) := by decide +kernel
theorem d_XP_leastKeyAbove_29 : decode b_XP_leastKeyAbove 29 = .ok (.iload_n 2, 1) := by decide +kernel
theorem d_XP_leastKeyAbove_30 : decode b_XP_leastKeyAbove 30 = .ok (.iconst (-1), 1) := by decide +kernel
theorem d_XP_leastKeyAbove_31 : decode b_XP_leastKeyAbove 31 = .ok (.if_icmp .eq 9, 3) := by decide +kernel
theorem d_XP_leastKeyAbove_34 : decode b_XP_leastKeyAbove 34 = .ok (.iload 4, 2) := by decide +kernel
theorem d_XP_leastKeyAbove_36 : decode b_XP_leastKeyAbove 36 = .ok (.iload_n 2, 1) := by decide +kernel
theorem d_XP_leastKeyAbove_37 : decode b_XP_leastKeyAbove 37 = .ok (.if_icmp .ge 6, 3) := by decide +kernel
theorem d_XP_leastKeyAbove_40 : decode b_XP_leastKeyAbove 40 = .ok (.iload 4, 2) := by decide +kernel
theorem d_XP_leastKeyAbove_42 : decode b_XP_leastKeyAbove 42 = .ok (.istore_n 2, 1) := by decide +kernel
theorem d_XP_leastKeyAbove_43 : decode b_XP_leastKeyAbove 43 = .ok (.iinc 3 1, 3) := by decide +kernel
theorem d_XP_leastKeyAbove_46 : decode b_XP_leastKeyAbove 46 = .ok (.goto (-42), 3) := by decide +kernel
theorem d_XP_leastKeyAbove_49 : decode b_XP_leastKeyAbove 49 = .ok (.iload_n 2, 1) := by decide +kernel
theorem d_XP_leastKeyAbove_50 : decode b_XP_leastKeyAbove 50 = .ok (.ireturn, 1) := by decide +kernel
theorem d_XP_takeBack_0 : decode b_XP_takeBack 0 = .ok (.aload_n 0, 1) := by decide +kernel
theorem d_XP_takeBack_1 : decode b_XP_takeBack 1 = .ok (.aload_n 0, 1) := by decide +kernel
theorem d_XP_takeBack_2 : decode b_XP_takeBack 2 = .ok (.getfield 31, 3) := by decide +kernel
theorem d_XP_takeBack_5 : decode b_XP_takeBack 5 = .ok (.getfield 84, 3) := by decide +kernel
theorem d_XP_takeBack_8 : decode b_XP_takeBack 8 = .ok (.iload_n 1, 1) := by decide +kernel
theorem d_XP_takeBack_9 : decode b_XP_takeBack 9 = .ok (.iaload, 1) := by decide +kernel
theorem d_XP_takeBack_10 : decode b_XP_takeBack 10 = .ok (.iconst 4, 1) := by decide +kernel
theorem d_XP_takeBack_11 : decode b_XP_takeBack 11 = .ok (.idiv, 1) := by decide +kernel
theorem d_XP_takeBack_12 : decode b_XP_takeBack 12 = .ok (.invokevirtual 87, 3) := by decide +kernel
theorem d_XP_takeBack_15 : decode b_XP_takeBack 15 = .ok (.aload_n 0, 1) := by decide +kernel
theorem d_XP_takeBack_16 : decode b_XP_takeBack 16 = .ok (.aload_n 0, 1) := by decide +kernel
theorem d_XP_takeBack_17 : decode b_XP_takeBack 17 = .ok (.getfield 31, 3) := by decide +kernel
theorem d_XP_takeBack_20 : decode b_XP_takeBack 20 = .ok (.iload_n 1, 1) := by decide +kernel
theorem d_XP_takeBack_21 : decode b_XP_takeBack 21 = .ok (.invokevirtual 90, 3) := by decide +kernel
theorem d_XP_takeBack_24 : decode b_XP_takeBack 24 = .ok (.invokevirtual 93, 3) := by decide +kernel
theorem d_XP_takeBack_27 : decode b_XP_takeBack 27 = .ok (.return_, 1) := by decide +kernel
theorem d_XP_redo_0 : decode b_XP_redo 0 = .ok (.aload_n 0, 1) := by decide +kernel
theorem d_XP_redo_1 : decode b_XP_redo 1 = .ok (.getfield 31, 3) := by decide +kernel
theorem d_XP_redo_4 : decode b_XP_redo 4 = .ok (.getfield 84, 3) := by decide +kernel
theorem d_XP_redo_7 : decode b_XP_redo 7 = .ok (.iload_n 1, 1) := by decide +kernel
theorem d_XP_redo_8 : decode b_XP_redo 8 = .ok (.iaload, 1) := by decide +kernel
theorem d_XP_redo_9 : decode b_XP_redo 9 = .ok (.iconst 4, 1) := by decide +kernel
theorem d_XP_redo_10 : decode b_XP_redo 10 = .ok (.idiv, 1) := by decide +kernel
theorem d_XP_redo_11 : decode b_XP_redo 11 = .ok (.istore_n 2, 1) := by decide +kernel
theorem d_XP_redo_12 : decode b_XP_redo 12 = .ok (.aload_n 0, 1) := by decide +kernel
theorem d_XP_redo_13 : decode b_XP_redo 13 = .ok (.iload_n 2, 1) := by decide +kernel
theorem d_XP_redo_14 : decode b_XP_redo 14 = .ok (.invokevirtual 87, 3) := by decide +kernel
theorem d_XP_redo_17 : decode b_XP_redo 17 = .ok (.aload_n 0, 1) := by decide +kernel
theorem d_XP_redo_18 : decode b_XP_redo 18 = .ok (.getfield 17, 3) := by decide +kernel
theorem d_XP_redo_21 : decode b_XP_redo 21 = .ok (.iload_n 2, 1) := by decide +kernel
theorem d_XP_redo_22 : decode b_XP_redo 22 = .ok (.aaload, 1) := by decide +kernel
theorem d_XP_redo_23 : decode b_XP_redo 23 = .ok (.getfield 36, 3) := by decide +kernel
theorem d_XP_redo_26 : decode b_XP_redo 26 = .ok (.iload_n 1, 1) := by decide +kernel
theorem d_XP_redo_27 : decode b_XP_redo 27 = .ok (.if_icmp .ge 8, 3) := by decide +kernel
theorem d_XP_redo_30 : decode b_XP_redo 30 = .ok (.aload_n 0, 1) := by decide +kernel
theorem d_XP_redo_31 : decode b_XP_redo 31 = .ok (.iload_n 1, 1) := by decide +kernel
theorem d_XP_redo_32 : decode b_XP_redo 32 = .ok (.invokevirtual 93, 3) := by decide +kernel
theorem d_XP_redo_35 : decode b_XP_redo 35 = .ok (.return_, 1) := by decide +kernel
theorem d_XP_apply_0 : decode b_XP_apply 0 = .ok (.aload_n 0, 1) := by decide +kernel
theorem d_XP_apply_1 : decode b_XP_apply 1 = .ok (.getfield 31, 3) := by decide +kernel
theorem d_XP_apply_4 : decode b_XP_apply 4 = .ok (.getfield 84, 3) := by decide +kernel
theorem d_XP_apply_7 : decode b_XP_apply 7 = .ok (.iload_n 1, 1) := by decide +kernel
theorem d_XP_apply_8 : decode b_XP_apply 8 = .ok (.iaload, 1) := by decide +kernel
theorem d_XP_apply_9 : decode b_XP_apply 9 = .ok (.iconst 4, 1) := by decide +kernel
theorem d_XP_apply_10 : decode b_XP_apply 10 = .ok (.idiv, 1) := by decide +kernel
theorem d_XP_apply_11 : decode b_XP_apply 11 = .ok (.istore_n 2, 1) := by decide +kernel
theorem d_XP_apply_12 : decode b_XP_apply 12 = .ok (.aload_n 0, 1) := by decide +kernel
theorem d_XP_apply_13 : decode b_XP_apply 13 = .ok (.getfield 31, 3) := by decide +kernel
theorem d_XP_apply_16 : decode b_XP_apply 16 = .ok (.getfield 84, 3) := by decide +kernel
theorem d_XP_apply_19 : decode b_XP_apply 19 = .ok (.iload_n 1, 1) := by decide +kernel
theorem d_XP_apply_20 : decode b_XP_apply 20 = .ok (.iaload, 1) := by decide +kernel
theorem d_XP_apply_21 : decode b_XP_apply 21 = .ok (.iconst 4, 1) := by decide +kernel
theorem d_XP_apply_22 : decode b_XP_apply 22 = .ok (.irem, 1) := by decide +kernel
theorem d_XP_apply_23 : decode b_XP_apply 23 = .ok (.istore_n 3, 1) := by decide +kernel
theorem d_XP_apply_24 : decode b_XP_apply 24 = .ok (.aload_n 0, 1) := by decide +kernel
theorem d_XP_apply_25 : decode b_XP_apply 25 = .ok (.getfield 17, 3) := by decide +kernel
theorem d_XP_apply_28 : decode b_XP_apply 28 = .ok (.iload_n 2, 1) := by decide +kernel
theorem d_XP_apply_29 : decode b_XP_apply 29 = .ok (.aaload, 1) := by decide +kernel
theorem d_XP_apply_30 : decode b_XP_apply 30 = .ok (.getfield 74, 3) := by decide +kernel
theorem d_XP_apply_33 : decode b_XP_apply 33 = .ok (.iload_n 3, 1) := by decide +kernel
theorem d_XP_apply_34 : decode b_XP_apply 34 = .ok (.aload_n 0, 1) := by decide +kernel
theorem d_XP_apply_35 : decode b_XP_apply 35 = .ok (.getfield 31, 3) := by decide +kernel
theorem d_XP_apply_38 : decode b_XP_apply 38 = .ok (.getfield 96, 3) := by decide +kernel
theorem d_XP_apply_41 : decode b_XP_apply 41 = .ok (.iload_n 1, 1) := by decide +kernel
theorem d_XP_apply_42 : decode b_XP_apply 42 = .ok (.iaload, 1) := by decide +kernel
theorem d_XP_apply_43 : decode b_XP_apply 43 = .ok (.iastore, 1) := by decide +kernel
theorem d_XP_apply_44 : decode b_XP_apply 44 = .ok (.aload_n 0, 1) := by decide +kernel
theorem d_XP_apply_45 : decode b_XP_apply 45 = .ok (.getfield 17, 3) := by decide +kernel
theorem d_XP_apply_48 : decode b_XP_apply 48 = .ok (.iload_n 2, 1) := by decide +kernel
theorem d_XP_apply_49 : decode b_XP_apply 49 = .ok (.aaload, 1) := by decide +kernel
theorem d_XP_apply_50 : decode b_XP_apply 50 = .ok (.getfield 77, 3) := by decide +kernel
theorem d_XP_apply_53 : decode b_XP_apply 53 = .ok (.iload_n 3, 1) := by decide +kernel
theorem d_XP_apply_54 : decode b_XP_apply 54 = .ok (.aload_n 0, 1) := by decide +kernel
theorem d_XP_apply_55 : decode b_XP_apply 55 = .ok (.getfield 31, 3) := by decide +kernel
theorem d_XP_apply_58 : decode b_XP_apply 58 = .ok (.getfield 99, 3) := by decide +kernel
theorem d_XP_apply_61 : decode b_XP_apply 61 = .ok (.iload_n 1, 1) := by decide +kernel
theorem d_XP_apply_62 : decode b_XP_apply 62 = .ok (.iaload, 1) := by decide +kernel
theorem d_XP_apply_63 : decode b_XP_apply 63 = .ok (.iastore, 1) := by decide +kernel
theorem d_XP_apply_64 : decode b_XP_apply 64 = .ok (.aload_n 0, 1) := by decide +kernel
theorem d_XP_apply_65 : decode b_XP_apply 65 = .ok (.getfield 17, 3) := by decide +kernel
theorem d_XP_apply_68 : decode b_XP_apply 68 = .ok (.iload_n 2, 1) := by decide +kernel
theorem d_XP_apply_69 : decode b_XP_apply 69 = .ok (.aaload, 1) := by decide +kernel
theorem d_XP_apply_70 : decode b_XP_apply 70 = .ok (.iload_n 1, 1) := by decide +kernel
theorem d_XP_apply_71 : decode b_XP_apply 71 = .ok (.putfield 36, 3) := by decide +kernel
theorem d_XP_apply_74 : decode b_XP_apply 74 = .ok (.aload_n 0, 1) := by decide +kernel
theorem d_XP_apply_75 : decode b_XP_apply 75 = .ok (.iload_n 2, 1) := by decide +kernel
theorem d_XP_apply_76 : decode b_XP_apply 76 = .ok (.invokevirtual 57, 3) := by decide +kernel
theorem d_XP_apply_79 : decode b_XP_apply 79 = .ok (.ifCond .ne 10, 3) := by decide +kernel
theorem d_XP_apply_82 : decode b_XP_apply 82 = .ok (.aload_n 0, 1) := by decide +kernel
theorem d_XP_apply_83 : decode b_XP_apply 83 = .ok (.getfield 24, 3) := by decide +kernel
theorem d_XP_apply_86 : decode b_XP_apply 86 = .ok (.iload_n 2, 1) := by decide +kernel
theorem d_XP_apply_87 : decode b_XP_apply 87 = .ok (.iload_n 1, 1) := by decide +kernel
theorem d_XP_apply_88 : decode b_XP_apply 88 = .ok (.iastore, 1) := by decide +kernel
theorem d_XP_apply_89 : decode b_XP_apply 89 = .ok (.return_, 1) := by decide +kernel
theorem d_XR_init_0 : decode b_XR_init 0 = .ok (.aload_n 0, 1) := by decide +kernel
theorem d_XR_init_1 : decode b_XR_init 1 = .ok (.invokespecial 3, 3) := by decide +kernel
theorem d_XR_init_4 : decode b_XR_init 4 = .ok (.aload_n 0, 1) := by decide +kernel
theorem d_XR_init_5 : decode b_XR_init 5 = .ok (.bipush 6, 2) := by decide +kernel
theorem d_XR_init_7 : decode b_XR_init 7 = .ok (.newarray .int, 2) := by decide +kernel
theorem d_XR_init_9 : decode b_XR_init 9 = .ok (.putfield 9, 3) := by decide +kernel
theorem d_XR_init_12 : decode b_XR_init 12 = .ok (.aload_n 0, 1) := by decide +kernel
theorem d_XR_init_13 : decode b_XR_init 13 = .ok (.aload_n 1, 1) := by decide +kernel
theorem d_XR_init_14 : decode b_XR_init 14 = .ok (.putfield 15, 3) := by decide +kernel
theorem d_XR_init_17 : decode b_XR_init 17 = .ok (.aload_n 0, 1) := by decide +kernel
theorem d_XR_init_18 : decode b_XR_init 18 = .ok (.aload_n 2, 1) := by decide +kernel
theorem d_XR_init_19 : decode b_XR_init 19 = .ok (.putfield 19, 3) := by decide +kernel
theorem d_XR_init_22 : decode b_XR_init 22 = .ok (.return_, 1) := by decide +kernel
theorem d_XR_startAnew_0 : decode b_XR_startAnew 0 = .ok (.aload_n 0, 1) := by decide +kernel
theorem d_XR_startAnew_1 : decode b_XR_startAnew 1 = .ok (.iconst 0, 1) := by decide +kernel
theorem d_XR_startAnew_2 : decode b_XR_startAnew 2 = .ok (.putfield 23, 3) := by decide +kernel
theorem d_XR_startAnew_5 : decode b_XR_startAnew 5 = .ok (.return_, 1) := by decide +kernel
theorem d_XR_isFinished_0 : decode b_XR_isFinished 0 = .ok (.aload_n 0, 1) := by decide +kernel
theorem d_XR_isFinished_1 : decode b_XR_isFinished 1 = .ok (.getfield 23, 3) := by decide +kernel
theorem d_XR_isFinished_4 : decode b_XR_isFinished 4 = .ok (.ifCond .eq 28, 3) := by decide +kernel
theorem d_XR_isFinished_7 : decode b_XR_isFinished 7 = .ok (.aload_n 0, 1) := by decide +kernel
theorem d_XR_isFinished_8 : decode b_XR_isFinished 8 = .ok (.getfield 27, 3) := by decide +kernel
theorem d_XR_isFinished_11 : decode b_XR_isFinished 11 = .ok (.aload_n 0, 1) := by decide +kernel
theorem d_XR_isFinished_12 : decode b_XR_isFinished 12 = .ok (.getfield 31, 3) := by decide +kernel
theorem d_XR_isFinished_15 : decode b_XR_isFinished 15 = .ok (.if_icmp .le 17, 3) := by decide +kernel
theorem d_XR_isFinished_18 : decode b_XR_isFinished 18 = .ok (.aload_n 0, 1) := by decide +kernel
theorem d_XR_isFinished_19 : decode b_XR_isFinished 19 = .ok (.getfield 15, 3) := by decide +kernel
theorem d_XR_isFinished_22 : decode b_XR_isFinished 22 = .ok (.invokevirtual 34, 3) := by decide +kernel
theorem d_XR_isFinished_25 : decode b_XR_isFinished 25 = .ok (.ifCond .ne 7, 3) := by decide +kernel
theorem d_XR_isFinished_28 : decode b_XR_isFinished 28 = .ok (.iconst 1, 1) := by decide +kernel
theorem d_XR_isFinished_29 : decode b_XR_isFinished 29 = .ok (.goto 4, 3) := by decide +kernel
theorem d_XR_isFinished_32 : decode b_XR_isFinished 32 = .ok (.iconst 0, 1) := by decide +kernel
theorem d_XR_isFinished_33 : decode b_XR_isFinished 33 = .ok (.ireturn, 1) := by decide +kernel
theorem d_XR_makeUnit_0 : decode b_XR_makeUnit 0 = .ok (.aload_n 0, 1) := by decide +kernel
theorem d_XR_makeUnit_1 : decode b_XR_makeUnit 1 = .ok (.getfield 23, 3) := by decide +kernel
theorem d_XR_makeUnit_4 : decode b_XR_makeUnit 4 = .ok (.ifCond .ne 10, 3) := by decide +kernel
theorem d_XR_makeUnit_7 : decode b_XR_makeUnit 7 = .ok (.aload_n 0, 1) := by decide +kernel
theorem d_XR_makeUnit_8 : decode b_XR_makeUnit 8 = .ok (.invokevirtual 40, 3) := by decide +kernel
theorem d_XR_makeUnit_11 : decode b_XR_makeUnit 11 = .ok (.goto 25, 3) := by decide +kernel
theorem d_XR_makeUnit_14 : decode b_XR_makeUnit 14 = .ok (.aload_n 0, 1) := by decide +kernel
theorem d_XR_makeUnit_15 : decode b_XR_makeUnit 15 = .ok (.getfield 27, 3) := by decide +kernel
theorem d_XR_makeUnit_18 : decode b_XR_makeUnit 18 = .ok (.aload_n 0, 1) := by decide +kernel
theorem d_XR_makeUnit_19 : decode b_XR_makeUnit 19 = .ok (.getfield 31, 3) := by decide +kernel
theorem d_XR_makeUnit_22 : decode b_XR_makeUnit 22 = .ok (.if_icmp .gt 10, 3) := by decide +kernel
theorem d_XR_makeUnit_25 : decode b_XR_makeUnit 25 = .ok (.aload_n 0, 1) := by decide +kernel
theorem d_XR_makeUnit_26 : decode b_XR_makeUnit 26 = .ok (.invokevirtual 43, 3) := by decide +kernel
theorem d_XR_makeUnit_29 : decode b_XR_makeUnit 29 = .ok (.goto 7, 3) := by decide +kernel
theorem d_XR_makeUnit_32 : decode b_XR_makeUnit 32 = .ok (.aload_n 0, 1) := by decide +kernel
theorem d_XR_makeUnit_33 : decode b_XR_makeUnit 33 = .ok (.invokevirtual 46, 3) := by decide +kernel
theorem d_XR_makeUnit_36 : decode b_XR_makeUnit 36 = .ok (.return_, 1) := by decide +kernel
theorem d_XR_analyse_0 : decode b_XR_analyse 0 = .ok (.aload_n 0, 1) := by decide +kernel
theorem d_XR_analyse_1 : decode b_XR_analyse 1 = .ok (.invokevirtual 49, 3) := by decide +kernel
theorem d_XR_analyse_4 : decode b_XR_analyse 4 = .ok (.aload_n 0, 1) := by decide +kernel
theorem d_XR_analyse_5 : decode b_XR_analyse 5 = .ok (.aload_n 0, 1) := by decide +kernel
theorem d_XR_analyse_6 : decode b_XR_analyse 6 = .ok (.getfield 15, 3) := by decide +kernel
theorem d_XR_analyse_9 : decode b_XR_analyse 9 = .ok (.getfield 52, 3) := by decide +kernel
theorem d_XR_analyse_12 : decode b_XR_analyse 12 = .ok (.putfield 31, 3) := by decide +kernel
theorem d_XR_analyse_15 : decode b_XR_analyse 15 = .ok (.aload_n 0, 1) := by decide +kernel
theorem d_XR_analyse_16 : decode b_XR_analyse 16 = .ok (.aload_n 0, 1) := by decide +kernel
theorem d_XR_analyse_17 : decode b_XR_analyse 17 = .ok (.getfield 15, 3) := by decide +kernel
theorem d_XR_analyse_20 : decode b_XR_analyse 20 = .ok (.getfield 52, 3) := by decide +kernel
theorem d_XR_analyse_23 : decode b_XR_analyse 23 = .ok (.iconst 1, 1) := by decide +kernel
theorem d_XR_analyse_24 : decode b_XR_analyse 24 = .ok (.iadd, 1) := by decide +kernel
theorem d_XR_analyse_25 : decode b_XR_analyse 25 = .ok (.putfield 27, 3) := by decide +kernel
theorem d_XR_analyse_28 : decode b_XR_analyse 28 = .ok (.iconst 0, 1) := by decide +kernel
theorem d_XR_analyse_29 : decode b_XR_analyse 29 = .ok (.istore_n 1, 1) := by decide +kernel
theorem d_XR_analyse_30 : decode b_XR_analyse 30 = .ok (.iload_n 1, 1) := by decide +kernel
theorem d_XR_analyse_31 : decode b_XR_analyse 31 = .ok (.bipush 6, 2) := by decide +kernel
theorem d_XR_analyse_33 : decode b_XR_analyse 33 = .ok (.if_icmp .ge 35, 3) := by decide +kernel
theorem d_XR_analyse_36 : decode b_XR_analyse 36 = .ok (.aload_n 0, 1) := by decide +kernel
theorem d_XR_analyse_37 : decode b_XR_analyse 37 = .ok (.getfield 9, 3) := by decide +kernel
theorem d_XR_analyse_40 : decode b_XR_analyse 40 = .ok (.iload_n 1, 1) := by decide +kernel
theorem d_XR_analyse_41 : decode b_XR_analyse 41 = .ok (.iaload, 1) := by decide +kernel
theorem d_XR_analyse_42 : decode b_XR_analyse 42 = .ok (.ifCond .eq 20, 3) := by decide +kernel
theorem d_XR_analyse_45 : decode b_XR_analyse 45 = .ok (.aload_n 0, 1) := by decide +kernel
theorem d_XR_analyse_46 : decode b_XR_analyse 46 = .ok (.aload_n 0, 1) := by decide +kernel
theorem d_XR_analyse_47 : decode b_XR_analyse 47 = .ok (.getfield 27, 3) := by decide +kernel
theorem d_XR_analyse_50 : decode b_XR_analyse 50 = .ok (.aload_n 0, 1) := by decide +kernel
theorem d_XR_analyse_51 : decode b_XR_analyse 51 = .ok (.getfield 9, 3) := by decide +kernel
theorem d_XR_analyse_54 : decode b_XR_analyse 54 = .ok (.iload_n 1, 1) := by decide +kernel
theorem d_XR_analyse_55 : decode b_XR_analyse 55 = .ok (.iaload, 1) := by decide +kernel
theorem d_XR_analyse_56 : decode b_XR_analyse 56 = .ok (.invokestatic 55, 3) := by decide +kernel
theorem d_XR_analyse_59 : decode b_XR_analyse 59 = .ok (.putfield 27, 3) := by decide +kernel
theorem d_XR_analyse_62 : decode b_XR_analyse 62 = .ok (.iinc 1 1, 3) := by decide +kernel
theorem d_XR_analyse_65 : decode b_XR_analyse 65 = .ok (.goto (-35), 3) := by decide +kernel
theorem d_XR_analyse_68 : decode b_XR_analyse 68 = .ok (.aload_n 0, 1) := by decide +kernel
theorem d_XR_analyse_69 : decode b_XR_analyse 69 = .ok (.iconst 1, 1) := by decide +kernel
theorem d_XR_analyse_70 : decode b_XR_analyse 70 = .ok (.putfield 23, 3) := by decide +kernel
theorem d_XR_analyse_73 : decode b_XR_analyse 73 = .ok (.return_, 1) := by decide +kernel
theorem d_XR_fillTable_0 : decode b_XR_fillTable 0 = .ok (.aload_n 0, 1) := by decide +kernel
theorem d_XR_fillTable_1 : decode b_XR_fillTable 1 = .ok (.getfield 15, 3) := by decide +kernel
theorem d_XR_fillTable_4 : decode b_XR_fillTable 4 = .ok (.getfield 61, 3) := by decide +kernel
theorem d_XR_fillTable_7 : decode b_XR_fillTable 7 = .ok (.iconst 1, 1) := by decide +kernel
theorem d_XR_fillTable_8 : decode b_XR_fillTable 8 = .ok (.isub, 1) := by decide +kernel
theorem d_XR_fillTable_9 : decode b_XR_fillTable 9 = .ok (.istore_n 1, 1) := by decide +kernel
theorem d_XR_fillTable_10 : decode b_XR_fillTable 10 = .ok (.iconst 0, 1) := by decide +kernel
theorem d_XR_fillTable_11 : decode b_XR_fillTable 11 = .ok (.istore_n 2, 1) := by decide +kernel
theorem d_XR_fillTable_12 : decode b_XR_fillTable 12 = .ok (.iload_n 2, 1) := by decide +kernel
theorem d_XR_fillTable_13 : decode b_XR_fillTable 13 = .ok (.bipush 6, 2) := by decide +kernel
theorem d_XR_fillTable_15 : decode b_XR_fillTable 15 = .ok (.if_icmp .ge 34, 3) := by decide +kernel
theorem d_XR_fillTable_18 : decode b_XR_fillTable 18 = .ok (.aload_n 0, 1) := by decide +kernel
theorem d_XR_fillTable_19 : decode b_XR_fillTable 19 = .ok (.getfield 9, 3) := by decide +kernel
theorem d_XR_fillTable_22 : decode b_XR_fillTable 22 = .ok (.iload_n 2, 1) := by decide +kernel
theorem d_XR_fillTable_23 : decode b_XR_fillTable 23 = .ok (.iload_n 1, 1) := by decide +kernel
theorem d_XR_fillTable_24 : decode b_XR_fillTable 24 = .ok (.ifCond .ge 7, 3) := by decide +kernel
theorem d_XR_fillTable_27 : decode b_XR_fillTable 27 = .ok (.iconst 0, 1) := by decide +kernel
theorem d_XR_fillTable_28 : decode b_XR_fillTable 28 = .ok (.goto 14, 3) := by decide +kernel
theorem d_XR_fillTable_31 : decode b_XR_fillTable 31 = .ok (.aload_n 0, 1) := by decide +kernel
theorem d_XR_fillTable_32 : decode b_XR_fillTable 32 = .ok (.getfield 15, 3) := by decide +kernel
theorem d_XR_fillTable_35 : decode b_XR_fillTable 35 = .ok (.getfield 64, 3) := by decide +kernel
theorem d_XR_fillTable_38 : decode b_XR_fillTable 38 = .ok (.iload_n 1, 1) := by decide +kernel
theorem d_XR_fillTable_39 : decode b_XR_fillTable 39 = .ok (.aaload, 1) := by decide +kernel
theorem d_XR_fillTable_40 : decode b_XR_fillTable 40 = .ok (.iload_n 2, 1) := by decide +kernel
theorem d_XR_fillTable_41 : decode b_XR_fillTable 41 = .ok (.iaload, 1) := by decide +kernel
theorem d_XR_fillTable_42 : decode b_XR_fillTable 42 = .ok (.iastore, 1) := by decide +kernel
theorem d_XR_fillTable_43 : decode b_XR_fillTable 43 = .ok (.iinc 2 1, 3) := by decide +kernel
theorem d_XR_fillTable_46 : decode b_XR_fillTable 46 = .ok (.goto (-34), 3) := by decide +kernel
theorem d_XR_fillTable_49 : decode b_XR_fillTable 49 = .ok (.iload_n 1, 1) := by decide +kernel
theorem d_XR_fillTable_50 : decode b_XR_fillTable 50 = .ok (.ifCond .ge 7, 3) := by decide +kernel
theorem d_XR_fillTable_53 : decode b_XR_fillTable 53 = .ok (.iconst 1, 1) := by decide +kernel
theorem d_XR_fillTable_54 : decode b_XR_fillTable 54 = .ok (.goto 14, 3) := by decide +kernel
theorem d_XR_fillTable_57 : decode b_XR_fillTable 57 = .ok (.aload_n 0, 1) := by decide +kernel
theorem d_XR_fillTable_58 : decode b_XR_fillTable 58 = .ok (.getfield 15, 3) := by decide +kernel
theorem d_XR_fillTable_61 : decode b_XR_fillTable 61 = .ok (.getfield 68, 3) := by decide +kernel
theorem d_XR_fillTable_64 : decode b_XR_fillTable 64 = .ok (.iload_n 1, 1) := by decide +kernel
theorem d_XR_fillTable_65 : decode b_XR_fillTable 65 = .ok (.iaload, 1) := by decide +kernel
theorem d_XR_fillTable_66 : decode b_XR_fillTable 66 = .ok (.iconst 1, 1) := by decide +kernel
theorem d_XR_fillTable_67 : decode b_XR_fillTable 67 = .ok (.iadd, 1) := by decide +kernel
theorem d_XR_fillTable_68 : decode b_XR_fillTable 68 = .ok (.istore_n 2, 1) := by decide +kernel
theorem d_XR_fillTable_69 : decode b_XR_fillTable 69 = .ok (.iload_n 2, 1) := by decide +kernel
theorem d_XR_fillTable_70 : decode b_XR_fillTable 70 = .ok (.istore_n 3, 1) := by decide +kernel
theorem d_XR_fillTable_71 : decode b_XR_fillTable 71 = .ok (.iload_n 3, 1) := by decide +kernel
theorem d_XR_fillTable_72 : decode b_XR_fillTable 72 = .ok (.aload_n 0, 1) := by decide +kernel
theorem d_XR_fillTable_73 : decode b_XR_fillTable 73 = .ok (.getfield 15, 3) := by decide +kernel
theorem d_XR_fillTable_76 : decode b_XR_fillTable 76 = .ok (.getfield 52, 3) := by decide +kernel
theorem d_XR_fillTable_79 : decode b_XR_fillTable 79 = .ok (.if_icmp .gt 51, 3) := by decide +kernel
theorem d_XR_fillTable_82 : decode b_XR_fillTable 82 = .ok (.aload_n 0, 1) := by decide +kernel
theorem d_XR_fillTable_83 : decode b_XR_fillTable 83 = .ok (.getfield 15, 3) := by decide +kernel
theorem d_XR_fillTable_86 : decode b_XR_fillTable 86 = .ok (.getfield 71, 3) := by decide +kernel
theorem d_XR_fillTable_89 : decode b_XR_fillTable 89 = .ok (.iload_n 3, 1) := by decide +kernel
theorem d_XR_fillTable_90 : decode b_XR_fillTable 90 = .ok (.iaload, 1) := by decide +kernel
theorem d_XR_fillTable_91 : decode b_XR_fillTable 91 = .ok (.iconst 4, 1) := by decide +kernel
theorem d_XR_fillTable_92 : decode b_XR_fillTable 92 = .ok (.idiv, 1) := by decide +kernel
theorem d_XR_fillTable_93 : decode b_XR_fillTable 93 = .ok (.istore 4, 2) := by decide +kernel
theorem d_XR_fillTable_95 : decode b_XR_fillTable 95 = .ok (.aload_n 0, 1) := by decide +kernel
theorem d_XR_fillTable_96 : decode b_XR_fillTable 96 = .ok (.getfield 15, 3) := by decide +kernel
theorem d_XR_fillTable_99 : decode b_XR_fillTable 99 = .ok (.iload_n 3, 1) := by decide +kernel
theorem d_XR_fillTable_100 : decode b_XR_fillTable 100 = .ok (.invokevirtual 74, 3) := by decide +kernel
theorem d_XR_fillTable_103 : decode b_XR_fillTable 103 = .ok (.ifCond .eq 21, 3) := by decide +kernel
theorem d_XR_fillTable_106 : decode b_XR_fillTable 106 = .ok (.aload_n 0, 1) := by decide +kernel
theorem d_XR_fillTable_107 : decode b_XR_fillTable 107 = .ok (.getfield 9, 3) := by decide +kernel
theorem d_XR_fillTable_110 : decode b_XR_fillTable 110 = .ok (.iload 4, 2) := by decide +kernel
theorem d_XR_fillTable_112 : decode b_XR_fillTable 112 = .ok (.iaload, 1) := by decide +kernel
theorem d_XR_fillTable_113 : decode b_XR_fillTable 113 = .ok (.ifCond .ne 11, 3) := by decide +kernel
theorem d_XR_fillTable_116 : decode b_XR_fillTable 116 = .ok (.aload_n 0, 1) := by decide +kernel
theorem d_XR_fillTable_117 : decode b_XR_fillTable 117 = .ok (.getfield 9, 3) := by decide +kernel
theorem d_XR_fillTable_120 : decode b_XR_fillTable 120 = .ok (.iload 4, 2) := by decide +kernel
theorem d_XR_fillTable_122 : decode b_XR_fillTable 122 = .ok (.iload_n 3, 1) := by decide +kernel
theorem d_XR_fillTable_123 : decode b_XR_fillTable 123 = .ok (.iastore, 1) := by decide +kernel
theorem d_XR_fillTable_124 : decode b_XR_fillTable 124 = .ok (.iinc 3 1, 3) := by decide +kernel
theorem d_XR_fillTable_127 : decode b_XR_fillTable 127 = .ok (.goto (-56), 3) := by decide +kernel
theorem d_XR_fillTable_130 : decode b_XR_fillTable 130 = .ok (.return_, 1) := by decide +kernel
theorem d_XR_repeatNext_0 : decode b_XR_repeatNext 0 = .ok (.aload_n 0, 1) := by decide +kernel
theorem d_XR_repeatNext_1 : decode b_XR_repeatNext 1 = .ok (.getfield 27, 3) := by decide +kernel
theorem d_XR_repeatNext_4 : decode b_XR_repeatNext 4 = .ok (.istore_n 1, 1) := by decide +kernel
theorem d_XR_repeatNext_5 : decode b_XR_repeatNext 5 = .ok (.aload_n 0, 1) := by decide +kernel
theorem d_XR_repeatNext_6 : decode b_XR_repeatNext 6 = .ok (.dup, 1) := by decide +kernel
theorem d_XR_repeatNext_7 : decode b_XR_repeatNext 7 = .ok (.getfield 27, 3) := by decide +kernel
theorem d_XR_repeatNext_10 : decode b_XR_repeatNext 10 = .ok (.iconst 1, 1) := by decide +kernel
theorem d_XR_repeatNext_11 : decode b_XR_repeatNext 11 = .ok (.iadd, 1) := by decide +kernel
theorem d_XR_repeatNext_12 : decode b_XR_repeatNext 12 = .ok (.putfield 27, 3) := by decide +kernel
theorem d_XR_repeatNext_15 : decode b_XR_repeatNext 15 = .ok (.aload_n 0, 1) := by decide +kernel
theorem d_XR_repeatNext_16 : decode b_XR_repeatNext 16 = .ok (.getfield 15, 3) := by decide +kernel
theorem d_XR_repeatNext_19 : decode b_XR_repeatNext 19 = .ok (.iload_n 1, 1) := by decide +kernel
theorem d_XR_repeatNext_20 : decode b_XR_repeatNext 20 = .ok (.invokevirtual 74, 3) := by decide +kernel
theorem d_XR_repeatNext_23 : decode b_XR_repeatNext 23 = .ok (.ifCond .ne 4, 3) := by decide +kernel
theorem d_XR_repeatNext_26 : decode b_XR_repeatNext 26 = .ok (.return_, 1) := by decide +kernel
theorem d_XR_repeatNext_27 : decode b_XR_repeatNext 27 = .ok (.aload_n 0, 1) := by decide +kernel
theorem d_XR_repeatNext_28 : decode b_XR_repeatNext 28 = .ok (.getfield 9, 3) := by decide +kernel
theorem d_XR_repeatNext_31 : decode b_XR_repeatNext 31 = .ok (.aload_n 0, 1) := by decide +kernel
theorem d_XR_repeatNext_32 : decode b_XR_repeatNext 32 = .ok (.getfield 15, 3) := by decide +kernel
theorem d_XR_repeatNext_35 : decode b_XR_repeatNext 35 = .ok (.getfield 71, 3) := by decide +kernel
theorem d_XR_repeatNext_38 : decode b_XR_repeatNext 38 = .ok (.iload_n 1, 1) := by decide +kernel
theorem d_XR_repeatNext_39 : decode b_XR_repeatNext 39 = .ok (.iaload, 1) := by decide +kernel
theorem d_XR_repeatNext_40 : decode b_XR_repeatNext 40 = .ok (.iconst 4, 1) := by decide +kernel
theorem d_XR_repeatNext_41 : decode b_XR_repeatNext 41 = .ok (.idiv, 1) := by decide +kernel
theorem d_XR_repeatNext_42 : decode b_XR_repeatNext 42 = .ok (.iaload, 1) := by decide +kernel
theorem d_XR_repeatNext_43 : decode b_XR_repeatNext 43 = .ok (.istore_n 2, 1) := by decide +kernel
theorem d_XR_repeatNext_44 : decode b_XR_repeatNext 44 = .ok (.iload_n 2, 1) := by decide +kernel
theorem d_XR_repeatNext_45 : decode b_XR_repeatNext 45 = .ok (.ifCond .eq 16, 3) := by decide +kernel
theorem d_XR_repeatNext_48 : decode b_XR_repeatNext 48 = .ok (.iload_n 2, 1) := by decide +kernel
theorem d_XR_repeatNext_49 : decode b_XR_repeatNext 49 = .ok (.iload_n 1, 1) := by decide +kernel
theorem d_XR_repeatNext_50 : decode b_XR_repeatNext 50 = .ok (.if_icmp .gt 11, 3) := by decide +kernel
theorem d_XR_repeatNext_53 : decode b_XR_repeatNext 53 = .ok (.aload_n 0, 1) := by decide +kernel
theorem d_XR_repeatNext_54 : decode b_XR_repeatNext 54 = .ok (.getfield 19, 3) := by decide +kernel
theorem d_XR_repeatNext_57 : decode b_XR_repeatNext 57 = .ok (.iload_n 1, 1) := by decide +kernel
theorem d_XR_repeatNext_58 : decode b_XR_repeatNext 58 = .ok (.invokevirtual 78, 3) := by decide +kernel
theorem d_XR_repeatNext_61 : decode b_XR_repeatNext 61 = .ok (.return_, 1) := by decide +kernel
theorem d_XR_takeBackNext_0 : decode b_XR_takeBackNext 0 = .ok (.aload_n 0, 1) := by decide +kernel
theorem d_XR_takeBackNext_1 : decode b_XR_takeBackNext 1 = .ok (.getfield 15, 3) := by decide +kernel
theorem d_XR_takeBackNext_4 : decode b_XR_takeBackNext 4 = .ok (.invokevirtual 34, 3) := by decide +kernel
theorem d_XR_takeBackNext_7 : decode b_XR_takeBackNext 7 = .ok (.istore_n 1, 1) := by decide +kernel
theorem d_XR_takeBackNext_8 : decode b_XR_takeBackNext 8 = .ok (.iload_n 1, 1) := by decide +kernel
theorem d_XR_takeBackNext_9 : decode b_XR_takeBackNext 9 = .ok (.ifCond .eq 11, 3) := by decide +kernel
theorem d_XR_takeBackNext_12 : decode b_XR_takeBackNext 12 = .ok (.aload_n 0, 1) := by decide +kernel
theorem d_XR_takeBackNext_13 : decode b_XR_takeBackNext 13 = .ok (.getfield 19, 3) := by decide +kernel
theorem d_XR_takeBackNext_16 : decode b_XR_takeBackNext 16 = .ok (.iload_n 1, 1) := by decide +kernel
theorem d_XR_takeBackNext_17 : decode b_XR_takeBackNext 17 = .ok (.invokevirtual 84, 3) := by decide +kernel
theorem d_XR_takeBackNext_20 : decode b_XR_takeBackNext 20 = .ok (.return_, 1) := by decide +kernel
end
section
theorem d_XV_init_0 : decode b_XV_init 0 = .ok (.aload_n 0, 1) := by decide +kernel
theorem d_XV_init_1 : decode b_XV_init 1 = .ok (.invokespecial 3, 3) := by decide +kernel
theorem d_XV_init_4 : decode b_XV_init 4 = .ok (.aload_n 0, 1) := by decide +kernel
theorem d_XV_init_5 : decode b_XV_init 5 = .ok (.iconst 4, 1) := by decide +kernel
theorem d_XV_init_6 : decode b_XV_init 6 = .ok (.anewarray 9, 3) := by decide +kernel
theorem d_XV_init_9 : decode b_XV_init 9 = .ok (.putfield 11, 3) := by decide +kernel
theorem d_XV_init_12 : decode b_XV_init 12 = .ok (.aload_n 0, 1) := by decide +kernel
theorem d_XV_init_13 : decode b_XV_init 13 = .ok (.iconst 4, 1) := by decide +kernel
theorem d_XV_init_14 : decode b_XV_init 14 = .ok (.bipush 100, 2) := by decide +kernel
theorem d_XV_init_16 : decode b_XV_init 16 = .ok (.multianewarray 17 2, 4) := by decide +kernel
theorem d_XV_init_20 : decode b_XV_init 20 = .ok (.putfield 19, 3) := by decide +kernel
theorem d_XV_init_23 : decode b_XV_init 23 = .ok (.return_, 1) := by decide +kernel
theorem d_XV_freeSeat_0 : decode b_XV_freeSeat 0 = .ok (.iconst 0, 1) := by decide +kernel
theorem d_XV_freeSeat_1 : decode b_XV_freeSeat 1 = .ok (.istore_n 1, 1) := by decide +kernel
theorem d_XV_freeSeat_2 : decode b_XV_freeSeat 2 = .ok (.iload_n 1, 1) := by decide +kernel
theorem d_XV_freeSeat_3 : decode b_XV_freeSeat 3 = .ok (.iconst 4, 1) := by decide +kernel
theorem d_XV_freeSeat_4 : decode b_XV_freeSeat 4 = .ok (.if_icmp .ge 20, 3) := by decide +kernel
theorem d_XV_freeSeat_7 : decode b_XV_freeSeat 7 = .ok (.aload_n 0, 1) := by decide +kernel
theorem d_XV_freeSeat_8 : decode b_XV_freeSeat 8 = .ok (.getfield 11, 3) := by decide +kernel
theorem d_XV_freeSeat_11 : decode b_XV_freeSeat 11 = .ok (.iload_n 1, 1) := by decide +kernel
theorem d_XV_freeSeat_12 : decode b_XV_freeSeat 12 = .ok (.aaload, 1) := by decide +kernel
theorem d_XV_freeSeat_13 : decode b_XV_freeSeat 13 = .ok (.ifnonnull 5, 3) := by decide +kernel
theorem d_XV_freeSeat_16 : decode b_XV_freeSeat 16 = .ok (.iload_n 1, 1) := by decide +kernel
theorem d_XV_freeSeat_17 : decode b_XV_freeSeat 17 = .ok (.ireturn, 1) := by decide +kernel
theorem d_XV_freeSeat_18 : decode b_XV_freeSeat 18 = .ok (.iinc 1 1, 3) := by decide +kernel
theorem d_XV_freeSeat_21 : decode b_XV_freeSeat 21 = .ok (.goto (-19), 3) := by decide +kernel
theorem d_XV_freeSeat_24 : decode b_XV_freeSeat 24 = .ok (.iconst (-1), 1) := by decide +kernel
theorem d_XV_freeSeat_25 : decode b_XV_freeSeat 25 = .ok (.ireturn, 1) := by decide +kernel
theorem d_XV_enter_0 : decode b_XV_enter 0 = .ok (.aload_n 0, 1) := by decide +kernel
theorem d_XV_enter_1 : decode b_XV_enter 1 = .ok (.getfield 11, 3) := by decide +kernel
theorem d_XV_enter_4 : decode b_XV_enter 4 = .ok (.aload_n 1, 1) := by decide +kernel
theorem d_XV_enter_5 : decode b_XV_enter 5 = .ok (.getfield 22, 3) := by decide +kernel
theorem d_XV_enter_8 : decode b_XV_enter 8 = .ok (.aload_n 1, 1) := by decide +kernel
theorem d_XV_enter_9 : decode b_XV_enter 9 = .ok (.aastore, 1) := by decide +kernel
theorem d_XV_enter_10 : decode b_XV_enter 10 = .ok (.return_, 1) := by decide +kernel
theorem d_XV_leave_0 : decode b_XV_leave 0 = .ok (.aload_n 1, 1) := by decide +kernel
theorem d_XV_leave_1 : decode b_XV_leave 1 = .ok (.iload_n 2, 1) := by decide +kernel
theorem d_XV_leave_2 : decode b_XV_leave 2 = .ok (.putfield 26, 3) := by decide +kernel
theorem d_XV_leave_5 : decode b_XV_leave 5 = .ok (.aload_n 0, 1) := by decide +kernel
theorem d_XV_leave_6 : decode b_XV_leave 6 = .ok (.getfield 11, 3) := by decide +kernel
theorem d_XV_leave_9 : decode b_XV_leave 9 = .ok (.aload_n 1, 1) := by decide +kernel
theorem d_XV_leave_10 : decode b_XV_leave 10 = .ok (.getfield 22, 3) := by decide +kernel
theorem d_XV_leave_13 : decode b_XV_leave 13 = .ok (.aconst_null, 1) := by decide +kernel
theorem d_XV_leave_14 : decode b_XV_leave 14 = .ok (.aastore, 1) := by decide +kernel
theorem d_XV_leave_15 : decode b_XV_leave 15 = .ok (.iconst 0, 1) := by decide +kernel
theorem d_XV_leave_16 : decode b_XV_leave 16 = .ok (.istore_n 3, 1) := by decide +kernel
theorem d_XV_leave_17 : decode b_XV_leave 17 = .ok (.iload_n 3, 1) := by decide +kernel
theorem d_XV_leave_18 : decode b_XV_leave 18 = .ok (.bipush 100, 2) := by decide +kernel
theorem d_XV_leave_20 : decode b_XV_leave 20 = .ok (.if_icmp .ge 21, 3) := by decide +kernel
theorem d_XV_leave_23 : decode b_XV_leave 23 = .ok (.aload_n 0, 1) := by decide +kernel
theorem d_XV_leave_24 : decode b_XV_leave 24 = .ok (.getfield 19, 3) := by decide +kernel
theorem d_XV_leave_27 : decode b_XV_leave 27 = .ok (.aload_n 1, 1) := by decide +kernel
theorem d_XV_leave_28 : decode b_XV_leave 28 = .ok (.getfield 22, 3) := by decide +kernel
theorem d_XV_leave_31 : decode b_XV_leave 31 = .ok (.aaload, 1) := by decide +kernel
theorem d_XV_leave_32 : decode b_XV_leave 32 = .ok (.iload_n 3, 1) := by decide +kernel
theorem d_XV_leave_33 : decode b_XV_leave 33 = .ok (.iconst 0, 1) := by decide +kernel
theorem d_XV_leave_34 : decode b_XV_leave 34 = .ok (.iastore, 1) := by decide +kernel
theorem d_XV_leave_35 : decode b_XV_leave 35 = .ok (.iinc 3 1, 3) := by decide +kernel
theorem d_XV_leave_38 : decode b_XV_leave 38 = .ok (.goto (-21), 3) := by decide +kernel
theorem d_XV_leave_41 : decode b_XV_leave 41 = .ok (.return_, 1) := by decide +kernel
theorem d_XV_leaveAllInDoubt_0 : decode b_XV_leaveAllInDoubt 0 = .ok (.iconst 0, 1) := by decide +kernel
theorem d_XV_leaveAllInDoubt_1 : decode b_XV_leaveAllInDoubt 1 = .ok (.istore_n 1, 1) := by decide +kernel
theorem d_XV_leaveAllInDoubt_2 : decode b_XV_leaveAllInDoubt 2 = .ok (.iload_n 1, 1) := by decide +kernel
theorem d_XV_leaveAllInDoubt_3 : decode b_XV_leaveAllInDoubt 3 = .ok (.iconst 4, 1) := by decide +kernel
theorem d_XV_leaveAllInDoubt_4 : decode b_XV_leaveAllInDoubt 4 = .ok (.if_icmp .ge 30, 3) := by decide +kernel
theorem d_XV_leaveAllInDoubt_7 : decode b_XV_leaveAllInDoubt 7 = .ok (.aload_n 0, 1) := by decide +kernel
theorem d_XV_leaveAllInDoubt_8 : decode b_XV_leaveAllInDoubt 8 = .ok (.getfield 11, 3) := by decide +kernel
theorem d_XV_leaveAllInDoubt_11 : decode b_XV_leaveAllInDoubt 11 = .ok (.iload_n 1, 1) := by decide +kernel
theorem d_XV_leaveAllInDoubt_12 : decode b_XV_leaveAllInDoubt 12 = .ok (.aaload, 1) := by decide +kernel
theorem d_XV_leaveAllInDoubt_13 : decode b_XV_leaveAllInDoubt 13 = .ok (.ifnull 15, 3) := by decide +kernel
theorem d_XV_leaveAllInDoubt_16 : decode b_XV_leaveAllInDoubt 16 = .ok (.aload_n 0, 1) := by decide +kernel
theorem d_XV_leaveAllInDoubt_17 : decode b_XV_leaveAllInDoubt 17 = .ok (.aload_n 0, 1) := by decide +kernel
theorem d_XV_leaveAllInDoubt_18 : decode b_XV_leaveAllInDoubt 18 = .ok (.getfield 11, 3) := by decide +kernel
theorem d_XV_leaveAllInDoubt_21 : decode b_XV_leaveAllInDoubt 21 = .ok (.iload_n 1, 1) := by decide +kernel
theorem d_XV_leaveAllInDoubt_22 : decode b_XV_leaveAllInDoubt 22 = .ok (.aaload, 1) := by decide +kernel
theorem d_XV_leaveAllInDoubt_23 : decode b_XV_leaveAllInDoubt 23 = .ok (.bipush 6, 2) := by decide +kernel
theorem d_XV_leaveAllInDoubt_25 : decode b_XV_leaveAllInDoubt 25 = .ok (.invokevirtual 29, 3) := by decide +kernel
theorem d_XV_leaveAllInDoubt_28 : decode b_XV_leaveAllInDoubt 28 = .ok (.iinc 1 1, 3) := by decide +kernel
theorem d_XV_leaveAllInDoubt_31 : decode b_XV_leaveAllInDoubt 31 = .ok (.goto (-29), 3) := by decide +kernel
theorem d_XV_leaveAllInDoubt_34 : decode b_XV_leaveAllInDoubt 34 = .ok (.return_, 1) := by decide +kernel
theorem d_XV_hold_0 : decode b_XV_hold 0 = .ok (.aload_n 0, 1) := by decide +kernel
theorem d_XV_hold_1 : decode b_XV_hold 1 = .ok (.getfield 19, 3) := by decide +kernel
theorem d_XV_hold_4 : decode b_XV_hold 4 = .ok (.aload_n 1, 1) := by decide +kernel
theorem d_XV_hold_5 : decode b_XV_hold 5 = .ok (.getfield 22, 3) := by decide +kernel
theorem d_XV_hold_8 : decode b_XV_hold 8 = .ok (.aaload, 1) := by decide +kernel
theorem d_XV_hold_9 : decode b_XV_hold 9 = .ok (.aload_n 1, 1) := by decide +kernel
theorem d_XV_hold_10 : decode b_XV_hold 10 = .ok (.getfield 33, 3) := by decide +kernel
theorem d_XV_hold_13 : decode b_XV_hold 13 = .ok (.aload_n 0, 1) := by decide +kernel
theorem d_XV_hold_14 : decode b_XV_hold 14 = .ok (.getfield 19, 3) := by decide +kernel
theorem d_XV_hold_17 : decode b_XV_hold 17 = .ok (.aload_n 1, 1) := by decide +kernel
theorem d_XV_hold_18 : decode b_XV_hold 18 = .ok (.getfield 22, 3) := by decide +kernel
theorem d_XV_hold_21 : decode b_XV_hold 21 = .ok (.aaload, 1) := by decide +kernel
theorem d_XV_hold_22 : decode b_XV_hold 22 = .ok (.aload_n 1, 1) := by decide +kernel
theorem d_XV_hold_23 : decode b_XV_hold 23 = .ok (.getfield 33, 3) := by decide +kernel
theorem d_XV_hold_26 : decode b_XV_hold 26 = .ok (.iaload, 1) := by decide +kernel
theorem d_XV_hold_27 : decode b_XV_hold 27 = .ok (.aload_n 1, 1) := by decide +kernel
theorem d_XV_hold_28 : decode b_XV_hold 28 = .ok (.getfield 36, 3) := by decide +kernel
theorem d_XV_hold_31 : decode b_XV_hold 31 = .ok (.invokestatic 39, 3) := by decide +kernel
theorem d_XV_hold_34 : decode b_XV_hold 34 = .ok (.iastore, 1) := by decide +kernel
theorem d_XV_hold_35 : decode b_XV_hold 35 = .ok (.return_, 1) := by decide +kernel
theorem d_XV_isFit_0 : decode b_XV_isFit 0 = .ok (.aload_n 0, 1) := by decide +kernel
theorem d_XV_isFit_1 : decode b_XV_isFit 1 = .ok (.getfield 19, 3) := by decide +kernel
theorem d_XV_isFit_4 : decode b_XV_isFit 4 = .ok (.aload_n 1, 1) := by decide +kernel
theorem d_XV_isFit_5 : decode b_XV_isFit 5 = .ok (.getfield 22, 3) := by decide +kernel
theorem d_XV_isFit_8 : decode b_XV_isFit 8 = .ok (.aaload, 1) := by decide +kernel
theorem d_XV_isFit_9 : decode b_XV_isFit 9 = .ok (.aload_n 1, 1) := by decide +kernel
theorem d_XV_isFit_10 : decode b_XV_isFit 10 = .ok (.getfield 33, 3) := by decide +kernel
theorem d_XV_isFit_13 : decode b_XV_isFit 13 = .ok (.iaload, 1) := by decide +kernel
theorem d_XV_isFit_14 : decode b_XV_isFit 14 = .ok (.istore_n 2, 1) := by decide +kernel
theorem d_XV_isFit_15 : decode b_XV_isFit 15 = .ok (.iload_n 2, 1) := by decide +kernel
theorem d_XV_isFit_16 : decode b_XV_isFit 16 = .ok (.aload_n 1, 1) := by decide +kernel
theorem d_XV_isFit_17 : decode b_XV_isFit 17 = .ok (.getfield 36, 3) := by decide +kernel
theorem d_XV_isFit_20 : decode b_XV_isFit 20 = .ok (.if_icmp .ge 11, 3) := by decide +kernel
theorem d_XV_isFit_23 : decode b_XV_isFit 23 = .ok (.aload_n 0, 1) := by decide +kernel
theorem d_XV_isFit_24 : decode b_XV_isFit 24 = .ok (.aload_n 1, 1) := by decide +kernel
theorem d_XV_isFit_25 : decode b_XV_isFit 25 = .ok (.invokevirtual 45, 3) := by decide +kernel
theorem d_XV_isFit_28 : decode b_XV_isFit 28 = .ok (.ifCond .ne 7, 3) := by decide +kernel
theorem d_XV_isFit_31 : decode b_XV_isFit 31 = .ok (.iconst 1, 1) := by decide +kernel
theorem d_XV_isFit_32 : decode b_XV_isFit 32 = .ok (.goto 4, 3) := by decide +kernel
theorem d_XV_isFit_35 : decode b_XV_isFit 35 = .ok (.iconst 0, 1) := by decide +kernel
theorem d_XV_isFit_36 : decode b_XV_isFit 36 = .ok (.ireturn, 1) := by decide +kernel
theorem d_XV_obstacles_0 : decode b_XV_obstacles 0 = .ok (.aload_n 0, 1) := by decide +kernel
theorem d_XV_obstacles_1 : decode b_XV_obstacles 1 = .ok (.getfield 19, 3) := by decide +kernel
theorem d_XV_obstacles_4 : decode b_XV_obstacles 4 = .ok (.aload_n 1, 1) := by decide +kernel
theorem d_XV_obstacles_5 : decode b_XV_obstacles 5 = .ok (.getfield 22, 3) := by decide +kernel
theorem d_XV_obstacles_8 : decode b_XV_obstacles 8 = .ok (.aaload, 1) := by decide +kernel
theorem d_XV_obstacles_9 : decode b_XV_obstacles 9 = .ok (.aload_n 1, 1) := by decide +kernel
theorem d_XV_obstacles_10 : decode b_XV_obstacles 10 = .ok (.getfield 33, 3) := by decide +kernel
theorem d_XV_obstacles_13 : decode b_XV_obstacles 13 = .ok (.iaload, 1) := by decide +kernel
theorem d_XV_obstacles_14 : decode b_XV_obstacles 14 = .ok (.ifCond .ne 7, 3) := by decide +kernel
theorem d_XV_obstacles_17 : decode b_XV_obstacles 17 = .ok (.iconst 1, 1) := by decide +kernel
theorem d_XV_obstacles_18 : decode b_XV_obstacles 18 = .ok (.goto 4, 3) := by decide +kernel
theorem d_XV_obstacles_21 : decode b_XV_obstacles 21 = .ok (.iconst 0, 1) := by decide +kernel
theorem d_XV_obstacles_22 : decode b_XV_obstacles 22 = .ok (.istore_n 2, 1) := by decide +kernel
theorem d_XV_obstacles_23 : decode b_XV_obstacles 23 = .ok (.iconst 0, 1) := by decide +kernel
theorem d_XV_obstacles_24 : decode b_XV_obstacles 24 = .ok (.istore_n 3, 1) := by decide +kernel
theorem d_XV_obstacles_25 : decode b_XV_obstacles 25 = .ok (.iconst 0, 1) := by decide +kernel
theorem d_XV_obstacles_26 : decode b_XV_obstacles 26 = .ok (.istore 4, 2) := by decide +kernel
theorem d_XV_obstacles_28 : decode b_XV_obstacles 28 = .ok (.iload 4, 2) := by decide +kernel
theorem d_XV_obstacles_30 : decode b_XV_obstacles 30 = .ok (.iconst 4, 1) := by decide +kernel
theorem d_XV_obstacles_31 : decode b_XV_obstacles 31 = .ok (.if_icmp .ge 110, 3) := by decide +kernel
theorem d_XV_obstacles_34 : decode b_XV_obstacles 34 = .ok (.aload_n 0, 1) := by decide +kernel
theorem d_XV_obstacles_35 : decode b_XV_obstacles 35 = .ok (.getfield 11, 3) := by decide +kernel
theorem d_XV_obstacles_38 : decode b_XV_obstacles 38 = .ok (.iload 4, 2) := by decide +kernel
theorem d_XV_obstacles_40 : decode b_XV_obstacles 40 = .ok (.aaload, 1) := by decide +kernel
theorem d_XV_obstacles_41 : decode b_XV_obstacles 41 = .ok (.astore 5, 2) := by decide +kernel
theorem d_XV_obstacles_43 : decode b_XV_obstacles 43 = .ok (.aload 5, 2) := by decide +kernel
theorem d_XV_obstacles_45 : decode b_XV_obstacles 45 = .ok (.ifnull 90, 3) := by decide +kernel
theorem d_XV_obstacles_48 : decode b_XV_obstacles 48 = .ok (.aload 5, 2) := by decide +kernel
theorem d_XV_obstacles_50 : decode b_XV_obstacles 50 = .ok (.aload_n 1, 1) := by decide +kernel
theorem d_XV_obstacles_51 : decode b_XV_obstacles 51 = .ok (.if_acmp .ne 6, 3) := by decide +kernel
theorem d_XV_obstacles_54 : decode b_XV_obstacles 54 = .ok (.goto 81, 3) := by decide +kernel
theorem d_XV_obstacles_57 : decode b_XV_obstacles 57 = .ok (.aload 5, 2) := by decide +kernel
theorem d_XV_obstacles_59 : decode b_XV_obstacles 59 = .ok (.getfield 26, 3) := by decide +kernel
theorem d_XV_obstacles_62 : decode b_XV_obstacles 62 = .ok (.iconst 2, 1) := by decide +kernel
theorem d_XV_obstacles_63 : decode b_XV_obstacles 63 = .ok (.if_icmp .ne 31, 3) := by decide +kernel
theorem d_XV_obstacles_66 : decode b_XV_obstacles 66 = .ok (.aload 5, 2) := by decide +kernel
theorem d_XV_obstacles_68 : decode b_XV_obstacles 68 = .ok (.getfield 33, 3) := by decide +kernel
theorem d_XV_obstacles_71 : decode b_XV_obstacles 71 = .ok (.aload_n 1, 1) := by decide +kernel
theorem d_XV_obstacles_72 : decode b_XV_obstacles 72 = .ok (.getfield 33, 3) := by decide +kernel
theorem d_XV_obstacles_75 : decode b_XV_obstacles 75 = .ok (.if_icmp .ne 19, 3) := by decide +kernel
theorem d_XV_obstacles_78 : decode b_XV_obstacles 78 = .ok (.aload 5, 2) := by decide +kernel
theorem d_XV_obstacles_80 : decode b_XV_obstacles 80 = .ok (.getfield 49, 3) := by decide +kernel
theorem d_XV_obstacles_83 : decode b_XV_obstacles 83 = .ok (.aload_n 1, 1) := by decide +kernel
theorem d_XV_obstacles_84 : decode b_XV_obstacles 84 = .ok (.getfield 49, 3) := by decide +kernel
theorem d_XV_obstacles_87 : decode b_XV_obstacles 87 = .ok (.if_icmp .ge 7, 3) := by decide +kernel
theorem d_XV_obstacles_90 : decode b_XV_obstacles 90 = .ok (.iconst 1, 1) := by decide +kernel
theorem d_XV_obstacles_91 : decode b_XV_obstacles 91 = .ok (.goto 4, 3) := by decide +kernel
theorem d_XV_obstacles_94 : decode b_XV_obstacles 94 = .ok (.iconst 0, 1) := by decide +kernel
theorem d_XV_obstacles_95 : decode b_XV_obstacles 95 = .ok (.istore 6, 2) := by decide +kernel
theorem d_XV_obstacles_97 : decode b_XV_obstacles 97 = .ok (.aload_n 0, 1) := by decide +kernel
theorem d_XV_obstacles_98 : decode b_XV_obstacles 98 = .ok (.getfield 19, 3) := by decide +kernel
theorem d_XV_obstacles_101 : decode b_XV_obstacles 101 = .ok (.iload 4, 2) := by decide +kernel
theorem d_XV_obstacles_103 : decode b_XV_obstacles 103 = .ok (.aaload, 1) := by decide +kernel
theorem d_XV_obstacles_104 : decode b_XV_obstacles 104 = .ok (.aload_n 1, 1) := by decide +kernel
theorem d_XV_obstacles_105 : decode b_XV_obstacles 105 = .ok (.getfield 33, 3) := by decide +kernel
theorem d_XV_obstacles_108 : decode b_XV_obstacles 108 = .ok (.iaload, 1) := by decide +kernel
theorem d_XV_obstacles_109 : decode b_XV_obstacles 109 = .ok (.aload_n 1, 1) := by decide +kernel
theorem d_XV_obstacles_110 : decode b_XV_obstacles 110 = .ok (.getfield 36, 3) := by decide +kernel
theorem d_XV_obstacles_113 : decode b_XV_obstacles 113 = .ok (.invokestatic 52, 3) := by decide +kernel
theorem d_XV_obstacles_116 : decode b_XV_obstacles 116 = .ok (.ifCond .ne 12, 3) := by decide +kernel
theorem d_XV_obstacles_119 : decode b_XV_obstacles 119 = .ok (.iload_n 2, 1) := by decide +kernel
theorem d_XV_obstacles_120 : decode b_XV_obstacles 120 = .ok (.ifCond .eq 15, 3) := by decide +kernel
theorem d_XV_obstacles_123 : decode b_XV_obstacles 123 = .ok (.iload 6, 2) := by decide +kernel
theorem d_XV_obstacles_125 : decode b_XV_obstacles 125 = .ok (.ifCond .eq 10, 3) := by decide +kernel
theorem d_XV_obstacles_128 : decode b_XV_obstacles 128 = .ok (.iload_n 3, 1) := by decide +kernel
theorem d_XV_obstacles_129 : decode b_XV_obstacles 129 = .ok (.iconst 1, 1) := by decide +kernel
theorem d_XV_obstacles_130 : decode b_XV_obstacles 130 = .ok (.iload 4, 2) := by decide +kernel
theorem d_XV_obstacles_132 : decode b_XV_obstacles 132 = .ok (.ishl, 1) := by decide +kernel
theorem d_XV_obstacles_133 : decode b_XV_obstacles 133 = .ok (.ior, 1) := by decide +kernel
theorem d_XV_obstacles_134 : decode b_XV_obstacles 134 = .ok (.istore_n 3, 1) := by decide +kernel
theorem d_XV_obstacles_135 : decode b_XV_obstacles 135 = .ok (.iinc 4 1, 3) := by decide +kernel
theorem d_XV_obstacles_138 : decode b_XV_obstacles 138 = .ok (.goto (-110), 3) := by decide +kernel
theorem d_XV_obstacles_141 : decode b_XV_obstacles 141 = .ok (.iload_n 3, 1) := by decide +kernel
theorem d_XV_obstacles_142 : decode b_XV_obstacles 142 = .ok (.ireturn, 1) := by decide +kernel
theorem d_XV_conflicts_0 : decode b_XV_conflicts 0 = .ok (.iload_n 0, 1) := by decide +kernel
theorem d_XV_conflicts_1 : decode b_XV_conflicts 1 = .ok (.iconst 2, 1) := by decide +kernel
theorem d_XV_conflicts_2 : decode b_XV_conflicts 2 = .ok (.if_icmp .eq 13, 3) := by decide +kernel
theorem d_XV_conflicts_5 : decode b_XV_conflicts 5 = .ok (.iload_n 0, 1) := by decide +kernel
theorem d_XV_conflicts_6 : decode b_XV_conflicts 6 = .ok (.iconst 1, 1) := by decide +kernel
theorem d_XV_conflicts_7 : decode b_XV_conflicts 7 = .ok (.if_icmp .ne 12, 3) := by decide +kernel
theorem d_XV_conflicts_10 : decode b_XV_conflicts 10 = .ok (.iload_n 1, 1) := by decide +kernel
theorem d_XV_conflicts_11 : decode b_XV_conflicts 11 = .ok (.iconst 2, 1) := by decide +kernel
theorem d_XV_conflicts_12 : decode b_XV_conflicts 12 = .ok (.if_icmp .ne 7, 3) := by decide +kernel
theorem d_XV_conflicts_15 : decode b_XV_conflicts 15 = .ok (.iconst 1, 1) := by decide +kernel
theorem d_XV_conflicts_16 : decode b_XV_conflicts 16 = .ok (.goto 4, 3) := by decide +kernel
theorem d_XV_conflicts_19 : decode b_XV_conflicts 19 = .ok (.iconst 0, 1) := by decide +kernel
theorem d_XV_conflicts_20 : decode b_XV_conflicts 20 = .ok (.ireturn, 1) := by decide +kernel
theorem d_XV_waitsForItself_0 : decode b_XV_waitsForItself 0 = .ok (.aload_n 0, 1) := by decide +kernel
theorem d_XV_waitsForItself_1 : decode b_XV_waitsForItself 1 = .ok (.aload_n 1, 1) := by decide +kernel
theorem d_XV_waitsForItself_2 : decode b_XV_waitsForItself 2 = .ok (.invokevirtual 45, 3) := by decide +kernel
theorem d_XV_waitsForItself_5 : decode b_XV_waitsForItself 5 = .ok (.istore_n 2, 1) := by decide +kernel
theorem d_XV_waitsForItself_6 : decode b_XV_waitsForItself 6 = .ok (.iconst 1, 1) := by decide +kernel
theorem d_XV_waitsForItself_7 : decode b_XV_waitsForItself 7 = .ok (.istore_n 3, 1) := by decide +kernel
theorem d_XV_waitsForItself_8 : decode b_XV_waitsForItself 8 = .ok (.iload_n 3, 1) := by decide +kernel
theorem d_XV_waitsForItself_9 : decode b_XV_waitsForItself 9 = .ok (.iconst 4, 1) := by decide +kernel
theorem d_XV_waitsForItself_10 : decode b_XV_waitsForItself 10 = .ok (.if_icmp .ge 17, 3) := by decide +kernel
theorem d_XV_waitsForItself_13 : decode b_XV_waitsForItself 13 = .ok (.iload_n 2, 1) := by decide +kernel
theorem d_XV_waitsForItself_14 : decode b_XV_waitsForItself 14 = .ok (.aload_n 0, 1) := by decide +kernel
theorem d_XV_waitsForItself_15 : decode b_XV_waitsForItself 15 = .ok (.iload_n 2, 1) := by decide +kernel
theorem d_XV_waitsForItself_16 : decode b_XV_waitsForItself 16 = .ok (.invokevirtual 56, 3) := by decide +kernel
theorem d_XV_waitsForItself_19 : decode b_XV_waitsForItself 19 = .ok (.ior, 1) := by decide +kernel
theorem d_XV_waitsForItself_20 : decode b_XV_waitsForItself 20 = .ok (.istore_n 2, 1) := by decide +kernel
theorem d_XV_waitsForItself_21 : decode b_XV_waitsForItself 21 = .ok (.iinc 3 1, 3) := by decide +kernel
theorem d_XV_waitsForItself_24 : decode b_XV_waitsForItself 24 = .ok (.goto (-16), 3) := by decide +kernel
theorem d_XV_waitsForItself_27 : decode b_XV_waitsForItself 27 = .ok (.iload_n 2, 1) := by decide +kernel
theorem d_XV_waitsForItself_28 : decode b_XV_waitsForItself 28 = .ok (.aload_n 1, 1) := by decide +kernel
theorem d_XV_waitsForItself_29 : decode b_XV_waitsForItself 29 = .ok (.getfield 22, 3) := by decide +kernel
theorem d_XV_waitsForItself_32 : decode b_XV_waitsForItself 32 = .ok (.ishr, 1) := by decide +kernel
theorem d_XV_waitsForItself_33 : decode b_XV_waitsForItself 33 = .ok (.iconst 1, 1) := by decide +kernel
theorem d_XV_waitsForItself_34 : decode b_XV_waitsForItself 34 = .ok (.iand, 1) := by decide +kernel
theorem d_XV_waitsForItself_35 : decode b_XV_waitsForItself 35 = .ok (.iconst 1, 1) := by decide +kernel
theorem d_XV_waitsForItself_36 : decode b_XV_waitsForItself 36 = .ok (.if_icmp .ne 7, 3) := by decide +kernel
theorem d_XV_waitsForItself_39 : decode b_XV_waitsForItself 39 = .ok (.iconst 1, 1) := by decide +kernel
theorem d_XV_waitsForItself_40 : decode b_XV_waitsForItself 40 = .ok (.goto 4, 3) := by decide +kernel
theorem d_XV_waitsForItself_43 : decode b_XV_waitsForItself 43 = .ok (.iconst 0, 1) := by decide +kernel
theorem d_XV_waitsForItself_44 : decode b_XV_waitsForItself 44 = .ok (.ireturn, 1) := by decide +kernel
theorem d_XV_stepFrom_0 : decode b_XV_stepFrom 0 = .ok (.iconst 0, 1) := by decide +kernel
theorem d_XV_stepFrom_1 : decode b_XV_stepFrom 1 = .ok (.istore_n 2, 1) := by decide +kernel
theorem d_XV_stepFrom_2 : decode b_XV_stepFrom 2 = .ok (.iconst 0, 1) := by decide +kernel
theorem d_XV_stepFrom_3 : decode b_XV_stepFrom 3 = .ok (.istore_n 3, 1) := by decide +kernel
theorem d_XV_stepFrom_4 : decode b_XV_stepFrom 4 = .ok (.iload_n 3, 1) := by decide +kernel
theorem d_XV_stepFrom_5 : decode b_XV_stepFrom 5 = .ok (.iconst 4, 1) := by decide +kernel
theorem d_XV_stepFrom_6 : decode b_XV_stepFrom 6 = .ok (.if_icmp .ge 65, 3) := by decide +kernel
theorem d_XV_stepFrom_9 : decode b_XV_stepFrom 9 = .ok (.iload_n 1, 1) := by decide +kernel
theorem d_XV_stepFrom_10 : decode b_XV_stepFrom 10 = .ok (.iload_n 3, 1) := by decide +kernel
theorem d_XV_stepFrom_11 : decode b_XV_stepFrom 11 = .ok (.ishr, 1) := by decide +kernel
theorem d_XV_stepFrom_12 : decode b_XV_stepFrom 12 = .ok (.iconst 1, 1) := by decide +kernel
theorem d_XV_stepFrom_13 : decode b_XV_stepFrom 13 = .ok (.iand, 1) := by decide +kernel
theorem d_XV_stepFrom_14 : decode b_XV_stepFrom 14 = .ok (.iconst 1, 1) := by decide +kernel
theorem d_XV_stepFrom_15 : decode b_XV_stepFrom 15 = .ok (.if_icmp .ne 7, 3) := by decide +kernel
theorem d_XV_stepFrom_18 : decode b_XV_stepFrom 18 = .ok (.iconst 1, 1) := by decide +kernel
theorem d_XV_stepFrom_19 : decode b_XV_stepFrom 19 = .ok (.goto 4, 3) := by decide +kernel
theorem d_XV_stepFrom_22 : decode b_XV_stepFrom 22 = .ok (.iconst 0, 1) := by decide +kernel
theorem d_XV_stepFrom_23 : decode b_XV_stepFrom 23 = .ok (.istore 4, 2) := by decide +kernel
theorem d_XV_stepFrom_25 : decode b_XV_stepFrom 25 = .ok (.iload 4, 2) := by decide +kernel
theorem d_XV_stepFrom_27 : decode b_XV_stepFrom 27 = .ok (.ifCond .eq 38, 3) := by decide +kernel
theorem d_XV_stepFrom_30 : decode b_XV_stepFrom 30 = .ok (.aload_n 0, 1) := by decide +kernel
theorem d_XV_stepFrom_31 : decode b_XV_stepFrom 31 = .ok (.getfield 11, 3) := by decide +kernel
theorem d_XV_stepFrom_34 : decode b_XV_stepFrom 34 = .ok (.iload_n 3, 1) := by decide +kernel
theorem d_XV_stepFrom_35 : decode b_XV_stepFrom 35 = .ok (.aaload, 1) := by decide +kernel
theorem d_XV_stepFrom_36 : decode b_XV_stepFrom 36 = .ok (.ifnull 29, 3) := by decide +kernel
theorem d_XV_stepFrom_39 : decode b_XV_stepFrom 39 = .ok (.aload_n 0, 1) := by decide +kernel
theorem d_XV_stepFrom_40 : decode b_XV_stepFrom 40 = .ok (.getfield 11, 3) := by decide +kernel
theorem d_XV_stepFrom_43 : decode b_XV_stepFrom 43 = .ok (.iload_n 3, 1) := by decide +kernel
theorem d_XV_stepFrom_44 : decode b_XV_stepFrom 44 = .ok (.aaload, 1) := by decide +kernel
theorem d_XV_stepFrom_45 : decode b_XV_stepFrom 45 = .ok (.getfield 26, 3) := by decide +kernel
theorem d_XV_stepFrom_48 : decode b_XV_stepFrom 48 = .ok (.iconst 2, 1) := by decide +kernel
theorem d_XV_stepFrom_49 : decode b_XV_stepFrom 49 = .ok (.if_icmp .ne 16, 3) := by decide +kernel
theorem d_XV_stepFrom_52 : decode b_XV_stepFrom 52 = .ok (.iload_n 2, 1) := by decide +kernel
theorem d_XV_stepFrom_53 : decode b_XV_stepFrom 53 = .ok (.aload_n 0, 1) := by decide +kernel
theorem d_XV_stepFrom_54 : decode b_XV_stepFrom 54 = .ok (.aload_n 0, 1) := by decide +kernel
theorem d_XV_stepFrom_55 : decode b_XV_stepFrom 55 = .ok (.getfield 11, 3) := by decide +kernel
theorem d_XV_stepFrom_58 : decode b_XV_stepFrom 58 = .ok (.iload_n 3, 1) := by decide +kernel
theorem d_XV_stepFrom_59 : decode b_XV_stepFrom 59 = .ok (.aaload, 1) := by decide +kernel
theorem d_XV_stepFrom_60 : decode b_XV_stepFrom 60 = .ok (.invokevirtual 45, 3) := by decide +kernel
theorem d_XV_stepFrom_63 : decode b_XV_stepFrom 63 = .ok (.ior, 1) := by decide +kernel
theorem d_XV_stepFrom_64 : decode b_XV_stepFrom 64 = .ok (.istore_n 2, 1) := by decide +kernel
theorem d_XV_stepFrom_65 : decode b_XV_stepFrom 65 = .ok (.iinc 3 1, 3) := by decide +kernel
theorem d_XV_stepFrom_68 : decode b_XV_stepFrom 68 = .ok (.goto (-64), 3) := by decide +kernel
theorem d_XV_stepFrom_71 : decode b_XV_stepFrom 71 = .ok (.iload_n 2, 1) := by decide +kernel
theorem d_XV_stepFrom_72 : decode b_XV_stepFrom 72 = .ok (.ireturn, 1) := by decide +kernel
theorem d_XV_leastStableCommit_0 : decode b_XV_leastStableCommit 0 = .ok (.aconst_null, 1) := by decide +kernel
theorem d_XV_leastStableCommit_1 : decode b_XV_leastStableCommit 1 = .ok (.astore_n 2, 1) := by decide +kernel
theorem d_XV_leastStableCommit_2 : decode b_XV_leastStableCommit 2 = .ok (.iconst 0, 1) := by decide +kernel
theorem d_XV_leastStableCommit_3 : decode b_XV_leastStableCommit 3 = .ok (.istore_n 3, 1) := by decide +kernel
theorem d_XV_leastStableCommit_4 : decode b_XV_leastStableCommit 4 = .ok (.iload_n 3, 1) := by decide +kernel
theorem d_XV_leastStableCommit_5 : decode b_XV_leastStableCommit 5 = .ok (.iconst 4, 1) := by decide +kernel
theorem d_XV_leastStableCommit_6 : decode b_XV_leastStableCommit 6 = .ok (.if_icmp .ge 77, 3) := by decide +kernel
theorem d_XV_leastStableCommit_9 : decode b_XV_leastStableCommit 9 = .ok (.aload_n 0, 1) := by decide +kernel
theorem d_XV_leastStableCommit_10 : decode b_XV_leastStableCommit 10 = .ok (.getfield 11, 3) := by decide +kernel
theorem d_XV_leastStableCommit_13 : decode b_XV_leastStableCommit 13 = .ok (.iload_n 3, 1) := by decide +kernel
theorem d_XV_leastStableCommit_14 : decode b_XV_leastStableCommit 14 = .ok (.aaload, 1) := by decide +kernel
theorem d_XV_leastStableCommit_15 : decode b_XV_leastStableCommit 15 = .ok (.astore 4, 2) := by decide +kernel
theorem d_XV_leastStableCommit_17 : decode b_XV_leastStableCommit 17 = .ok (.aload 4, 2) := by decide +kernel
theorem d_XV_leastStableCommit_19 : decode b_XV_leastStableCommit 19 = .ok (.ifnull 58, 3) := by decide +kernel
theorem d_XV_leastStableCommit_22 : decode b_XV_leastStableCommit 22 = .ok (.aload 4, 2) := by decide +kernel
theorem d_XV_leastStableCommit_24 : decode b_XV_leastStableCommit 24 = .ok (.getfield 26, 3) := by decide +kernel
theorem d_XV_leastStableCommit_27 : decode b_XV_leastStableCommit 27 = .ok (.iconst 3, 1) := by decide +kernel
theorem d_XV_leastStableCommit_28 : decode b_XV_leastStableCommit 28 = .ok (.if_icmp .ne 49, 3) := by decide +kernel
theorem d_XV_leastStableCommit_31 : decode b_XV_leastStableCommit 31 = .ok (.aload_n 1, 1) := by decide +kernel
theorem d_XV_leastStableCommit_32 : decode b_XV_leastStableCommit 32 = .ok (.getfield 60, 3) := by decide +kernel
theorem d_XV_leastStableCommit_35 : decode b_XV_leastStableCommit 35 = .ok (.aload 4, 2) := by decide +kernel
theorem d_XV_leastStableCommit_37 : decode b_XV_leastStableCommit 37 = .ok (.getfield 66, 3) := by decide +kernel
theorem d_XV_leastStableCommit_40 : decode b_XV_leastStableCommit 40 = .ok (.iaload, 1) := by decide +kernel
theorem d_XV_leastStableCommit_41 : decode b_XV_leastStableCommit 41 = .ok (.aload_n 1, 1) := by decide +kernel
theorem d_XV_leastStableCommit_42 : decode b_XV_leastStableCommit 42 = .ok (.getfield 69, 3) := by decide +kernel
theorem d_XV_leastStableCommit_45 : decode b_XV_leastStableCommit 45 = .ok (.if_icmp .gt 32, 3) := by decide +kernel
theorem d_XV_leastStableCommit_48 : decode b_XV_leastStableCommit 48 = .ok (.aload_n 2, 1) := by decide +kernel
theorem d_XV_leastStableCommit_49 : decode b_XV_leastStableCommit 49 = .ok (.ifnull 25, 3) := by decide +kernel
theorem d_XV_leastStableCommit_52 : decode b_XV_leastStableCommit 52 = .ok (.aload_n 1, 1) := by decide +kernel
theorem d_XV_leastStableCommit_53 : decode b_XV_leastStableCommit 53 = .ok (.getfield 60, 3) := by decide +kernel
theorem d_XV_leastStableCommit_56 : decode b_XV_leastStableCommit 56 = .ok (.aload 4, 2) := by decide +kernel
theorem d_XV_leastStableCommit_58 : decode b_XV_leastStableCommit 58 = .ok (.getfield 66, 3) := by decide +kernel
theorem d_XV_leastStableCommit_61 : decode b_XV_leastStableCommit 61 = .ok (.iaload, 1) := by decide +kernel
theorem d_XV_leastStableCommit_62 : decode b_XV_leastStableCommit 62 = .ok (.aload_n 1, 1) := by decide +kernel
theorem d_XV_leastStableCommit_63 : decode b_XV_leastStableCommit 63 = .ok (.getfield 60, 3) := by decide +kernel
theorem d_XV_leastStableCommit_66 : decode b_XV_leastStableCommit 66 = .ok (.aload_n 2, 1) := by decide +kernel
theorem d_XV_leastStableCommit_67 : decode b_XV_leastStableCommit 67 = .ok (.getfield 66, 3) := by decide +kernel
theorem d_XV_leastStableCommit_70 : decode b_XV_leastStableCommit 70 = .ok (.iaload, 1) := by decide +kernel
theorem d_XV_leastStableCommit_71 : decode b_XV_leastStableCommit 71 = .ok (.if_icmp .ge 6, 3) := by decide +kernel
theorem d_XV_leastStableCommit_74 : decode b_XV_leastStableCommit 74 = .ok (.aload 4, 2) := by decide +kernel
theorem d_XV_leastStableCommit_76 : decode b_XV_leastStableCommit 76 = .ok (.astore_n 2, 1) := by decide +kernel
theorem d_XV_leastStableCommit_77 : decode b_XV_leastStableCommit 77 = .ok (.iinc 3 1, 3) := by decide +kernel
theorem d_XV_leastStableCommit_80 : decode b_XV_leastStableCommit 80 = .ok (.goto (-76), 3) := by decide +kernel
theorem d_XV_leastStableCommit_83 : decode b_XV_leastStableCommit 83 = .ok (.aload_n 2, 1) := by decide +kernel
theorem d_XV_leastStableCommit_84 : decode b_XV_leastStableCommit 84 = .ok (.areturn, 1) := by decide +kernel
theorem d_XV_firstFitWaiting_0 : decode b_XV_firstFitWaiting 0 = .ok (.aconst_null, 1) := by decide +kernel
theorem d_XV_firstFitWaiting_1 : decode b_XV_firstFitWaiting 1 = .ok (.astore_n 1, 1) := by decide +kernel
theorem d_XV_firstFitWaiting_2 : decode b_XV_firstFitWaiting 2 = .ok (.iconst 0, 1) := by decide +kernel
theorem d_XV_firstFitWaiting_3 : decode b_XV_firstFitWaiting 3 = .ok (.istore_n 2, 1) := by decide +kernel
theorem d_XV_firstFitWaiting_4 : decode b_XV_firstFitWaiting 4 = .ok (.iload_n 2, 1) := by decide +kernel
theorem d_XV_firstFitWaiting_5 : decode b_XV_firstFitWaiting 5 = .ok (.iconst 4, 1) := by decide +kernel
theorem d_XV_firstFitWaiting_6 : decode b_XV_firstFitWaiting 6 = .ok (.if_icmp .ge 53, 3) := by decide +kernel
theorem d_XV_firstFitWaiting_9 : decode b_XV_firstFitWaiting 9 = .ok (.aload_n 0, 1) := by decide +kernel
theorem d_XV_firstFitWaiting_10 : decode b_XV_firstFitWaiting 10 = .ok (.getfield 11, 3) := by decide +kernel
theorem d_XV_firstFitWaiting_13 : decode b_XV_firstFitWaiting 13 = .ok (.iload_n 2, 1) := by decide +kernel
theorem d_XV_firstFitWaiting_14 : decode b_XV_firstFitWaiting 14 = .ok (.aaload, 1) := by decide +kernel
theorem d_XV_firstFitWaiting_15 : decode b_XV_firstFitWaiting 15 = .ok (.astore_n 3, 1) := by decide +kernel
theorem d_XV_firstFitWaiting_16 : decode b_XV_firstFitWaiting 16 = .ok (.aload_n 3, 1) := by decide +kernel
theorem d_XV_firstFitWaiting_17 : decode b_XV_firstFitWaiting 17 = .ok (.ifnull 36, 3) := by decide +kernel
theorem d_XV_firstFitWaiting_20 : decode b_XV_firstFitWaiting 20 = .ok (.aload_n 3, 1) := by decide +kernel
theorem d_XV_firstFitWaiting_21 : decode b_XV_firstFitWaiting 21 = .ok (.getfield 26, 3) := by decide +kernel
theorem d_XV_firstFitWaiting_24 : decode b_XV_firstFitWaiting 24 = .ok (.iconst 2, 1) := by decide +kernel
theorem d_XV_firstFitWaiting_25 : decode b_XV_firstFitWaiting 25 = .ok (.if_icmp .ne 28, 3) := by decide +kernel
theorem d_XV_firstFitWaiting_28 : decode b_XV_firstFitWaiting 28 = .ok (.aload_n 1, 1) := by decide +kernel
theorem d_XV_firstFitWaiting_29 : decode b_XV_firstFitWaiting 29 = .ok (.ifnull 14, 3) := by decide +kernel
theorem d_XV_firstFitWaiting_32 : decode b_XV_firstFitWaiting 32 = .ok (.aload_n 3, 1) := by decide +kernel
theorem d_XV_firstFitWaiting_33 : decode b_XV_firstFitWaiting 33 = .ok (.getfield 49, 3) := by decide +kernel
theorem d_XV_firstFitWaiting_36 : decode b_XV_firstFitWaiting 36 = .ok (.aload_n 1, 1) := by decide +kernel
theorem d_XV_firstFitWaiting_37 : decode b_XV_firstFitWaiting 37 = .ok (.getfield 49, 3) := by decide +kernel
theorem d_XV_firstFitWaiting_40 : decode b_XV_firstFitWaiting 40 = .ok (.if_icmp .ge 13, 3) := by decide +kernel
theorem d_XV_firstFitWaiting_43 : decode b_XV_firstFitWaiting 43 = .ok (.aload_n 0, 1) := by decide +kernel
theorem d_XV_firstFitWaiting_44 : decode b_XV_firstFitWaiting 44 = .ok (.aload_n 3, 1) := by decide +kernel
theorem d_XV_firstFitWaiting_45 : decode b_XV_firstFitWaiting 45 = .ok (.invokevirtual 72, 3) := by decide +kernel
theorem d_XV_firstFitWaiting_48 : decode b_XV_firstFitWaiting 48 = .ok (.ifCond .eq 5, 3) := by decide +kernel
theorem d_XV_firstFitWaiting_51 : decode b_XV_firstFitWaiting 51 = .ok (.aload_n 3, 1) := by decide +kernel
theorem d_XV_firstFitWaiting_52 : decode b_XV_firstFitWaiting 52 = .ok (.astore_n 1, 1) := by decide +kernel
theorem d_XV_firstFitWaiting_53 : decode b_XV_firstFitWaiting 53 = .ok (.iinc 2 1, 3) := by decide +kernel
theorem d_XV_firstFitWaiting_56 : decode b_XV_firstFitWaiting 56 = .ok (.goto (-52), 3) := by decide +kernel
theorem d_XV_firstFitWaiting_59 : decode b_XV_firstFitWaiting 59 = .ok (.aload_n 1, 1) := by decide +kernel
theorem d_XV_firstFitWaiting_60 : decode b_XV_firstFitWaiting 60 = .ok (.areturn, 1) := by decide +kernel
end
section
theorem d_X_init_0 : decode b_X_init 0 = .ok (.aload_n 0, 1) := by decide +kernel
theorem d_X_init_1 : decode b_X_init 1 = .ok (.invokespecial 3, 3) := by decide +kernel
theorem d_X_init_4 : decode b_X_init 4 = .ok (.aload_n 0, 1) := by decide +kernel
theorem d_X_init_5 : decode b_X_init 5 = .ok (.new 9, 3) := by decide +kernel
theorem d_X_init_8 : decode b_X_init 8 = .ok (.dup, 1) := by decide +kernel
theorem d_X_init_9 : decode b_X_init 9 = .ok (.invokespecial 11, 3) := by decide +kernel
theorem d_X_init_12 : decode b_X_init 12 = .ok (.putfield 12, 3) := by decide +kernel
theorem d_X_init_15 : decode b_X_init 15 = .ok (.aload_n 0, 1) := by decide +kernel
theorem d_X_init_16 : decode b_X_init 16 = .ok (.new 16, 3) := by decide +kernel
theorem d_X_init_19 : decode b_X_init 19 = .ok (.dup, 1) := by decide +kernel
theorem d_X_init_20 : decode b_X_init 20 = .ok (.aload_n 0, 1) := by decide +kernel
theorem d_X_init_21 : decode b_X_init 21 = .ok (.getfield 12, 3) := by decide +kernel
theorem d_X_init_24 : decode b_X_init 24 = .ok (.invokespecial 18, 3) := by decide +kernel
theorem d_X_init_27 : decode b_X_init 27 = .ok (.putfield 21, 3) := by decide +kernel
theorem d_X_init_30 : decode b_X_init 30 = .ok (.aload_n 0, 1) := by decide +kernel
theorem d_X_init_31 : decode b_X_init 31 = .ok (.new 25, 3) := by decide +kernel
theorem d_X_init_34 : decode b_X_init 34 = .ok (.dup, 1) := by decide +kernel
theorem d_X_init_35 : decode b_X_init 35 = .ok (.invokespecial 27, 3) := by decide +kernel
theorem d_X_init_38 : decode b_X_init 38 = .ok (.putfield 28, 3) := by decide +kernel
theorem d_X_init_41 : decode b_X_init 41 = .ok (.aload_n 0, 1) := by decide +kernel
theorem d_X_init_42 : decode b_X_init 42 = .ok (.new 32, 3) := by decide +kernel
theorem d_X_init_45 : decode b_X_init 45 = .ok (.dup, 1) := by decide +kernel
theorem d_X_init_46 : decode b_X_init 46 = .ok (.aload_n 0, 1) := by decide +kernel
theorem d_X_init_47 : decode b_X_init 47 = .ok (.getfield 12, 3) := by decide +kernel
theorem d_X_init_50 : decode b_X_init 50 = .ok (.aload_n 0, 1) := by decide +kernel
theorem d_X_init_51 : decode b_X_init 51 = .ok (.getfield 21, 3) := by decide +kernel
theorem d_X_init_54 : decode b_X_init 54 = .ok (.invokespecial 34, 3) := by decide +kernel
theorem d_X_init_57 : decode b_X_init 57 = .ok (.putfield 37, 3) := by decide +kernel
theorem d_X_init_60 : decode b_X_init 60 = .ok (.aload_n 0, 1) := by decide +kernel
theorem d_X_init_61 : decode b_X_init 61 = .ok (.bipush 61, 2) := by decide +kernel
theorem d_X_init_63 : decode b_X_init 63 = .ok (.anewarray 41, 3) := by decide +kernel
theorem d_X_init_66 : decode b_X_init 66 = .ok (.putfield 43, 3) := by decide +kernel
theorem d_X_init_69 : decode b_X_init 69 = .ok (.aload_n 0, 1) := by decide +kernel
theorem d_X_init_70 : decode b_X_init 70 = .ok (.iconst 1, 1) := by decide +kernel
theorem d_X_init_71 : decode b_X_init 71 = .ok (.putfield 47, 3) := by decide +kernel
theorem d_X_init_74 : decode b_X_init 74 = .ok (.return_, 1) := by decide +kernel
theorem d_X_begin_0 : decode b_X_begin 0 = .ok (.aload_n 0, 1) := by decide +kernel
theorem d_X_begin_1 : decode b_X_begin 1 = .ok (.getfield 28, 3) := by decide +kernel
theorem d_X_begin_4 : decode b_X_begin 4 = .ok (.invokevirtual 51, 3) := by decide +kernel
theorem d_X_begin_7 : decode b_X_begin 7 = .ok (.istore_n 1, 1) := by decide +kernel
theorem d_X_begin_8 : decode b_X_begin 8 = .ok (.aload_n 0, 1) := by decide +kernel
theorem d_X_begin_9 : decode b_X_begin 9 = .ok (.getfield 47, 3) := by decide +kernel
theorem d_X_begin_12 : decode b_X_begin 12 = .ok (.ifCond .eq 17, 3) := by decide +kernel
theorem d_X_begin_15 : decode b_X_begin 15 = .ok (.iload_n 1, 1) := by decide +kernel
theorem d_X_begin_16 : decode b_X_begin 16 = .ok (.iconst (-1), 1) := by decide +kernel
theorem d_X_begin_17 : decode b_X_begin 17 = .ok (.if_icmp .eq 12, 3) := by decide +kernel
theorem d_X_begin_20 : decode b_X_begin 20 = .ok (.aload_n 0, 1) := by decide +kernel
theorem d_X_begin_21 : decode b_X_begin 21 = .ok (.getfield 55, 3) := by decide +kernel
theorem d_X_begin_24 : decode b_X_begin 24 = .ok (.bipush 60, 2) := by decide +kernel
theorem d_X_begin_26 : decode b_X_begin 26 = .ok (.if_icmp .lt 5, 3) := by decide +kernel
theorem d_X_begin_29 : decode b_X_begin 29 = .ok (.iconst (-1), 1) := by decide +kernel
theorem d_X_begin_30 : decode b_X_begin 30 = .ok (.ireturn, 1) := by decide +kernel
theorem d_X_begin_31 : decode b_X_begin 31 = .ok (.aload_n 0, 1) := by decide +kernel
theorem d_X_begin_32 : decode b_X_begin 32 = .ok (.dup, 1) := by decide +kernel
theorem d_X_begin_33 : decode b_X_begin 33 = .ok (.getfield 55, 3) := by decide +kernel
theorem d_X_begin_36 : decode b_X_begin 36 = .ok (.iconst 1, 1) := by decide +kernel
theorem d_X_begin_37 : decode b_X_begin 37 = .ok (.iadd, 1) := by decide +kernel
theorem d_X_begin_38 : decode b_X_begin 38 = .ok (.putfield 55, 3) := by decide +kernel
theorem d_X_begin_41 : decode b_X_begin 41 = .ok (.aload_n 0, 1) := by decide +kernel
theorem d_X_begin_42 : decode b_X_begin 42 = .ok (.getfield 43, 3) := by decide +kernel
theorem d_X_begin_45 : decode b_X_begin 45 = .ok (.aload_n 0, 1) := by decide +kernel
theorem d_X_begin_46 : decode b_X_begin 46 = .ok (.getfield 55, 3) := by decide +kernel
theorem d_X_begin_49 : decode b_X_begin 49 = .ok (.new 41, 3) := by decide +kernel
theorem d_X_begin_52 : decode b_X_begin 52 = .ok (.dup, 1) := by decide +kernel
theorem d_X_begin_53 : decode b_X_begin 53 = .ok (.aload_n 0, 1) := by decide +kernel
theorem d_X_begin_54 : decode b_X_begin 54 = .ok (.getfield 55, 3) := by decide +kernel
theorem d_X_begin_57 : decode b_X_begin 57 = .ok (.iload_n 1, 1) := by decide +kernel
theorem d_X_begin_58 : decode b_X_begin 58 = .ok (.invokespecial 59, 3) := by decide +kernel
theorem d_X_begin_61 : decode b_X_begin 61 = .ok (.aastore, 1) := by decide +kernel
theorem d_X_begin_62 : decode b_X_begin 62 = .ok (.aload_n 0, 1) := by decide +kernel
theorem d_X_begin_63 : decode b_X_begin 63 = .ok (.getfield 28, 3) := by decide +kernel
theorem d_X_begin_66 : decode b_X_begin 66 = .ok (.aload_n 0, 1) := by decide +kernel
theorem d_X_begin_67 : decode b_X_begin 67 = .ok (.getfield 43, 3) := by decide +kernel
theorem d_X_begin_70 : decode b_X_begin 70 = .ok (.aload_n 0, 1) := by decide +kernel
theorem d_X_begin_71 : decode b_X_begin 71 = .ok (.getfield 55, 3) := by decide +kernel
theorem d_X_begin_74 : decode b_X_begin 74 = .ok (.aaload, 1) := by decide +kernel
theorem d_X_begin_75 : decode b_X_begin 75 = .ok (.invokevirtual 62, 3) := by decide +kernel
theorem d_X_begin_78 : decode b_X_begin 78 = .ok (.aload_n 0, 1) := by decide +kernel
theorem d_X_begin_79 : decode b_X_begin 79 = .ok (.invokevirtual 66, 3) := by decide +kernel
theorem d_X_begin_82 : decode b_X_begin 82 = .ok (.aload_n 0, 1) := by decide +kernel
theorem d_X_begin_83 : decode b_X_begin 83 = .ok (.getfield 55, 3) := by decide +kernel
theorem d_X_begin_86 : decode b_X_begin 86 = .ok (.ireturn, 1) := by decide +kernel
theorem d_X_read_0 : decode b_X_read 0 = .ok (.aload_n 0, 1) := by decide +kernel
theorem d_X_read_1 : decode b_X_read 1 = .ok (.iload_n 1, 1) := by decide +kernel
theorem d_X_read_2 : decode b_X_read 2 = .ok (.iload_n 2, 1) := by decide +kernel
theorem d_X_read_3 : decode b_X_read 3 = .ok (.iconst 1, 1) := by decide +kernel
theorem d_X_read_4 : decode b_X_read 4 = .ok (.iconst 0, 1) := by decide +kernel
theorem d_X_read_5 : decode b_X_read 5 = .ok (.invokevirtual 69, 3) := by decide +kernel
theorem d_X_read_8 : decode b_X_read 8 = .ok (.istore_n 3, 1) := by decide +kernel
theorem d_X_read_9 : decode b_X_read 9 = .ok (.aload_n 0, 1) := by decide +kernel
theorem d_X_read_10 : decode b_X_read 10 = .ok (.invokevirtual 66, 3) := by decide +kernel
theorem d_X_read_13 : decode b_X_read 13 = .ok (.iload_n 3, 1) := by decide +kernel
theorem d_X_read_14 : decode b_X_read 14 = .ok (.ireturn, 1) := by decide +kernel
theorem d_X_write_0 : decode b_X_write 0 = .ok (.aload_n 0, 1) := by decide +kernel
theorem d_X_write_1 : decode b_X_write 1 = .ok (.iload_n 1, 1) := by decide +kernel
theorem d_X_write_2 : decode b_X_write 2 = .ok (.iload_n 2, 1) := by decide +kernel
theorem d_X_write_3 : decode b_X_write 3 = .ok (.iconst 2, 1) := by decide +kernel
theorem d_X_write_4 : decode b_X_write 4 = .ok (.iload_n 3, 1) := by decide +kernel
theorem d_X_write_5 : decode b_X_write 5 = .ok (.invokevirtual 69, 3) := by decide +kernel
theorem d_X_write_8 : decode b_X_write 8 = .ok (.istore 4, 2) := by decide +kernel
theorem d_X_write_10 : decode b_X_write 10 = .ok (.aload_n 0, 1) := by decide +kernel
theorem d_X_write_11 : decode b_X_write 11 = .ok (.invokevirtual 66, 3) := by decide +kernel
theorem d_X_write_14 : decode b_X_write 14 = .ok (.iload 4, 2) := by decide +kernel
theorem d_X_write_16 : decode b_X_write 16 = .ok (.ireturn, 1) := by decide +kernel
theorem d_X_commit_0 : decode b_X_commit 0 = .ok (.aload_n 0, 1) := by decide +kernel
theorem d_X_commit_1 : decode b_X_commit 1 = .ok (.iload_n 1, 1) := by decide +kernel
theorem d_X_commit_2 : decode b_X_commit 2 = .ok (.invokevirtual 73, 3) := by decide +kernel
theorem d_X_commit_5 : decode b_X_commit 5 = .ok (.astore_n 2, 1) := by decide +kernel
theorem d_X_commit_6 : decode b_X_commit 6 = .ok (.aload_n 2, 1) := by decide +kernel
theorem d_X_commit_7 : decode b_X_commit 7 = .ok (.ifnull 11, 3) := by decide +kernel
theorem d_X_commit_10 : decode b_X_commit 10 = .ok (.aload_n 2, 1) := by decide +kernel
theorem d_X_commit_11 : decode b_X_commit 11 = .ok (.getfield 77, 3) := by decide +kernel
theorem d_X_commit_14 : decode b_X_commit 14 = .ok (.iconst 1, 1) := by decide +kernel
theorem d_X_commit_15 : decode b_X_commit 15 = .ok (.if_icmp .eq 5, 3) := by decide +kernel
theorem d_X_commit_18 : decode b_X_commit 18 = .ok (.iconst 0, 1) := by decide +kernel
theorem d_X_commit_19 : decode b_X_commit 19 = .ok (.ireturn, 1) := by decide +kernel
theorem d_X_commit_20 : decode b_X_commit 20 = .ok (.aload_n 0, 1) := by decide +kernel
theorem d_X_commit_21 : decode b_X_commit 21 = .ok (.getfield 12, 3) := by decide +kernel
theorem d_X_commit_24 : decode b_X_commit 24 = .ok (.iload_n 1, 1) := by decide +kernel
theorem d_X_commit_25 : decode b_X_commit 25 = .ok (.invokevirtual 80, 3) := by decide +kernel
theorem d_X_commit_28 : decode b_X_commit 28 = .ok (.aload_n 2, 1) := by decide +kernel
theorem d_X_commit_29 : decode b_X_commit 29 = .ok (.iconst 3, 1) := by decide +kernel
theorem d_X_commit_30 : decode b_X_commit 30 = .ok (.putfield 77, 3) := by decide +kernel
theorem d_X_commit_33 : decode b_X_commit 33 = .ok (.aload_n 0, 1) := by decide +kernel
theorem d_X_commit_34 : decode b_X_commit 34 = .ok (.invokevirtual 66, 3) := by decide +kernel
theorem d_X_commit_37 : decode b_X_commit 37 = .ok (.iconst 1, 1) := by decide +kernel
theorem d_X_commit_38 : decode b_X_commit 38 = .ok (.ireturn, 1) := by decide +kernel
theorem d_X_abort_0 : decode b_X_abort 0 = .ok (.aload_n 0, 1) := by decide +kernel
theorem d_X_abort_1 : decode b_X_abort 1 = .ok (.iload_n 1, 1) := by decide +kernel
theorem d_X_abort_2 : decode b_X_abort 2 = .ok (.invokevirtual 73, 3) := by decide +kernel
theorem d_X_abort_5 : decode b_X_abort 5 = .ok (.astore_n 2, 1) := by decide +kernel
theorem d_X_abort_6 : decode b_X_abort 6 = .ok (.aload_n 2, 1) := by decide +kernel
theorem d_X_abort_7 : decode b_X_abort 7 = .ok (.ifnull 19, 3) := by decide +kernel
theorem d_X_abort_10 : decode b_X_abort 10 = .ok (.aload_n 2, 1) := by decide +kernel
theorem d_X_abort_11 : decode b_X_abort 11 = .ok (.getfield 77, 3) := by decide +kernel
theorem d_X_abort_14 : decode b_X_abort 14 = .ok (.iconst 1, 1) := by decide +kernel
theorem d_X_abort_15 : decode b_X_abort 15 = .ok (.if_icmp .eq 13, 3) := by decide +kernel
theorem d_X_abort_18 : decode b_X_abort 18 = .ok (.aload_n 2, 1) := by decide +kernel
theorem d_X_abort_19 : decode b_X_abort 19 = .ok (.getfield 77, 3) := by decide +kernel
theorem d_X_abort_22 : decode b_X_abort 22 = .ok (.iconst 2, 1) := by decide +kernel
theorem d_X_abort_23 : decode b_X_abort 23 = .ok (.if_icmp .eq 5, 3) := by decide +kernel
theorem d_X_abort_26 : decode b_X_abort 26 = .ok (.iconst 0, 1) := by decide +kernel
theorem d_X_abort_27 : decode b_X_abort 27 = .ok (.ireturn, 1) := by decide +kernel
theorem d_X_abort_28 : decode b_X_abort 28 = .ok (.aload_n 0, 1) := by decide +kernel
theorem d_X_abort_29 : decode b_X_abort 29 = .ok (.aload_n 2, 1) := by decide +kernel
theorem d_X_abort_30 : decode b_X_abort 30 = .ok (.invokevirtual 84, 3) := by decide +kernel
theorem d_X_abort_33 : decode b_X_abort 33 = .ok (.aload_n 0, 1) := by decide +kernel
theorem d_X_abort_34 : decode b_X_abort 34 = .ok (.invokevirtual 66, 3) := by decide +kernel
theorem d_X_abort_37 : decode b_X_abort 37 = .ok (.iconst 1, 1) := by decide +kernel
theorem d_X_abort_38 : decode b_X_abort 38 = .ok (.ireturn, 1) := by decide +kernel
theorem d_X_force_0 : decode b_X_force 0 = .ok (.aload_n 0, 1) := by decide +kernel
theorem d_X_force_1 : decode b_X_force 1 = .ok (.getfield 47, 3) := by decide +kernel
theorem d_X_force_4 : decode b_X_force 4 = .ok (.ifCond .ne 5, 3) := by decide +kernel
theorem d_X_force_7 : decode b_X_force 7 = .ok (.iconst 0, 1) := by decide +kernel
theorem d_X_force_8 : decode b_X_force 8 = .ok (.ireturn, 1) := by decide +kernel
theorem d_X_force_9 : decode b_X_force 9 = .ok (.aload_n 0, 1) := by decide +kernel
theorem d_X_force_10 : decode b_X_force 10 = .ok (.getfield 12, 3) := by decide +kernel
theorem d_X_force_13 : decode b_X_force 13 = .ok (.aload_n 0, 1) := by decide +kernel
theorem d_X_force_14 : decode b_X_force 14 = .ok (.getfield 12, 3) := by decide +kernel
theorem d_X_force_17 : decode b_X_force 17 = .ok (.getfield 87, 3) := by decide +kernel
theorem d_X_force_20 : decode b_X_force 20 = .ok (.invokevirtual 90, 3) := by decide +kernel
theorem d_X_force_23 : decode b_X_force 23 = .ok (.aload_n 0, 1) := by decide +kernel
theorem d_X_force_24 : decode b_X_force 24 = .ok (.invokevirtual 66, 3) := by decide +kernel
theorem d_X_force_27 : decode b_X_force 27 = .ok (.iconst 1, 1) := by decide +kernel
theorem d_X_force_28 : decode b_X_force 28 = .ok (.ireturn, 1) := by decide +kernel
theorem d_X_checkpoint_0 : decode b_X_checkpoint 0 = .ok (.aload_n 0, 1) := by decide +kernel
theorem d_X_checkpoint_1 : decode b_X_checkpoint 1 = .ok (.getfield 47, 3) := by decide +kernel
theorem d_X_checkpoint_4 : decode b_X_checkpoint 4 = .ok (.ifCond .eq 15, 3) := by decide +kernel
theorem d_X_checkpoint_7 : decode b_X_checkpoint 7 = .ok (.aload_n 0, 1) := by decide +kernel
theorem d_X_checkpoint_8 : decode b_X_checkpoint 8 = .ok (.getfield 12, 3) := by decide +kernel
theorem d_X_checkpoint_11 : decode b_X_checkpoint 11 = .ok (.getfield 93, 3) := by decide +kernel
theorem d_X_checkpoint_14 : decode b_X_checkpoint 14 = .ok (.bipush 20, 2) := by decide +kernel
theorem d_X_checkpoint_16 : decode b_X_checkpoint 16 = .ok (.if_icmp .lt 5, 3) := by decide +kernel
theorem d_X_checkpoint_19 : decode b_X_checkpoint 19 = .ok (.iconst (-1), 1) := by decide +kernel
theorem d_X_checkpoint_20 : decode b_X_checkpoint 20 = .ok (.ireturn, 1) := by decide +kernel
theorem d_X_checkpoint_21 : decode b_X_checkpoint 21 = .ok (.aload_n 0, 1) := by decide +kernel
theorem d_X_checkpoint_22 : decode b_X_checkpoint 22 = .ok (.getfield 12, 3) := by decide +kernel
theorem d_X_checkpoint_25 : decode b_X_checkpoint 25 = .ok (.aload_n 0, 1) := by decide +kernel
theorem d_X_checkpoint_26 : decode b_X_checkpoint 26 = .ok (.getfield 21, 3) := by decide +kernel
theorem d_X_checkpoint_29 : decode b_X_checkpoint 29 = .ok (.getfield 96, 3) := by decide +kernel
theorem d_X_checkpoint_32 : decode b_X_checkpoint 32 = .ok (.invokevirtual 100, 3) := by decide +kernel
theorem d_X_checkpoint_35 : decode b_X_checkpoint 35 = .ok (.istore_n 1, 1) := by decide +kernel
theorem d_X_checkpoint_36 : decode b_X_checkpoint 36 = .ok (.aload_n 0, 1) := by decide +kernel
theorem d_X_checkpoint_37 : decode b_X_checkpoint 37 = .ok (.invokevirtual 66, 3) := by decide +kernel
theorem d_X_checkpoint_40 : decode b_X_checkpoint 40 = .ok (.iload_n 1, 1) := by decide +kernel
theorem d_X_checkpoint_41 : decode b_X_checkpoint 41 = .ok (.ireturn, 1) := by decide +kernel
theorem d_X_flush_0 : decode b_X_flush 0 = .ok (.aload_n 0, 1) := by decide +kernel
theorem d_X_flush_1 : decode b_X_flush 1 = .ok (.getfield 47, 3) := by decide +kernel
theorem d_X_flush_4 : decode b_X_flush 4 = .ok (.ifCond .eq 21, 3) := by decide +kernel
theorem d_X_flush_7 : decode b_X_flush 7 = .ok (.iload_n 1, 1) := by decide +kernel
theorem d_X_flush_8 : decode b_X_flush 8 = .ok (.invokestatic 104, 3) := by decide +kernel
theorem d_X_flush_11 : decode b_X_flush 11 = .ok (.ifCond .eq 14, 3) := by decide +kernel
theorem d_X_flush_14 : decode b_X_flush 14 = .ok (.aload_n 0, 1) := by decide +kernel
theorem d_X_flush_15 : decode b_X_flush 15 = .ok (.getfield 21, 3) := by decide +kernel
theorem d_X_flush_18 : decode b_X_flush 18 = .ok (.iload_n 1, 1) := by decide +kernel
theorem d_X_flush_19 : decode b_X_flush 19 = .ok (.invokevirtual 108, 3) := by decide +kernel
theorem d_X_flush_22 : decode b_X_flush 22 = .ok (.ifCond .ne 5, 3) := by decide +kernel
theorem d_X_flush_25 : decode b_X_flush 25 = .ok (.iconst 0, 1) := by decide +kernel
theorem d_X_flush_26 : decode b_X_flush 26 = .ok (.ireturn, 1) := by decide +kernel
theorem d_X_flush_27 : decode b_X_flush 27 = .ok (.aload_n 0, 1) := by decide +kernel
theorem d_X_flush_28 : decode b_X_flush 28 = .ok (.getfield 21, 3) := by decide +kernel
theorem d_X_flush_31 : decode b_X_flush 31 = .ok (.iload_n 1, 1) := by decide +kernel
theorem d_X_flush_32 : decode b_X_flush 32 = .ok (.invokevirtual 111, 3) := by decide +kernel
theorem d_X_flush_35 : decode b_X_flush 35 = .ok (.aload_n 0, 1) := by decide +kernel
theorem d_X_flush_36 : decode b_X_flush 36 = .ok (.invokevirtual 66, 3) := by decide +kernel
theorem d_X_flush_39 : decode b_X_flush 39 = .ok (.iconst 1, 1) := by decide +kernel
theorem d_X_flush_40 : decode b_X_flush 40 = .ok (.ireturn, 1) := by decide +kernel
theorem d_X_crash_0 : decode b_X_crash 0 = .ok (.iload_n 1, 1) := by decide +kernel
theorem d_X_crash_1 : decode b_X_crash 1 = .ok (.ifCond .lt 12, 3) := by decide +kernel
theorem d_X_crash_4 : decode b_X_crash 4 = .ok (.aload_n 0, 1) := by decide +kernel
theorem d_X_crash_5 : decode b_X_crash 5 = .ok (.getfield 114, 3) := by decide +kernel
theorem d_X_crash_8 : decode b_X_crash 8 = .ok (.bipush 8, 2) := by decide +kernel
theorem d_X_crash_10 : decode b_X_crash 10 = .ok (.if_icmp .lt 5, 3) := by decide +kernel
theorem d_X_crash_13 : decode b_X_crash 13 = .ok (.iconst (-1), 1) := by decide +kernel
theorem d_X_crash_14 : decode b_X_crash 14 = .ok (.ireturn, 1) := by decide +kernel
theorem d_X_crash_15 : decode b_X_crash 15 = .ok (.aload_n 0, 1) := by decide +kernel
theorem d_X_crash_16 : decode b_X_crash 16 = .ok (.dup, 1) := by decide +kernel
theorem d_X_crash_17 : decode b_X_crash 17 = .ok (.getfield 114, 3) := by decide +kernel
theorem d_X_crash_20 : decode b_X_crash 20 = .ok (.iconst 1, 1) := by decide +kernel
theorem d_X_crash_21 : decode b_X_crash 21 = .ok (.iadd, 1) := by decide +kernel
theorem d_X_crash_22 : decode b_X_crash 22 = .ok (.putfield 114, 3) := by decide +kernel
theorem d_X_crash_25 : decode b_X_crash 25 = .ok (.aload_n 0, 1) := by decide +kernel
theorem d_X_crash_26 : decode b_X_crash 26 = .ok (.iconst 0, 1) := by decide +kernel
theorem d_X_crash_27 : decode b_X_crash 27 = .ok (.putfield 47, 3) := by decide +kernel
theorem d_X_crash_30 : decode b_X_crash 30 = .ok (.aload_n 0, 1) := by decide +kernel
theorem d_X_crash_31 : decode b_X_crash 31 = .ok (.getfield 12, 3) := by decide +kernel
theorem d_X_crash_34 : decode b_X_crash 34 = .ok (.aload_n 0, 1) := by decide +kernel
theorem d_X_crash_35 : decode b_X_crash 35 = .ok (.getfield 12, 3) := by decide +kernel
theorem d_X_crash_38 : decode b_X_crash 38 = .ok (.getfield 117, 3) := by decide +kernel
theorem d_X_crash_41 : decode b_X_crash 41 = .ok (.iload_n 1, 1) := by decide +kernel
theorem d_X_crash_42 : decode b_X_crash 42 = .ok (.aload_n 0, 1) := by decide +kernel
theorem d_X_crash_43 : decode b_X_crash 43 = .ok (.getfield 12, 3) := by decide +kernel
theorem d_X_crash_46 : decode b_X_crash 46 = .ok (.getfield 87, 3) := by decide +kernel
theorem d_X_crash_49 : decode b_X_crash 49 = .ok (.aload_n 0, 1) := by decide +kernel
theorem d_X_crash_50 : decode b_X_crash 50 = .ok (.getfield 12, 3) := by decide +kernel
theorem d_X_crash_53 : decode b_X_crash 53 = .ok (.getfield 117, 3) := by decide +kernel
theorem d_X_crash_56 : decode b_X_crash 56 = .ok (.isub, 1) := by decide +kernel
theorem d_X_crash_57 : decode b_X_crash 57 = .ok (.invokestatic 120, 3) := by decide +kernel
theorem d_X_crash_60 : decode b_X_crash 60 = .ok (.iadd, 1) := by decide +kernel
theorem d_X_crash_61 : decode b_X_crash 61 = .ok (.invokevirtual 90, 3) := by decide +kernel
theorem d_X_crash_64 : decode b_X_crash 64 = .ok (.aload_n 0, 1) := by decide +kernel
theorem d_X_crash_65 : decode b_X_crash 65 = .ok (.getfield 12, 3) := by decide +kernel
theorem d_X_crash_68 : decode b_X_crash 68 = .ok (.invokevirtual 126, 3) := by decide +kernel
theorem d_X_crash_71 : decode b_X_crash 71 = .ok (.aload_n 0, 1) := by decide +kernel
theorem d_X_crash_72 : decode b_X_crash 72 = .ok (.getfield 21, 3) := by decide +kernel
theorem d_X_crash_75 : decode b_X_crash 75 = .ok (.invokevirtual 129, 3) := by decide +kernel
theorem d_X_crash_78 : decode b_X_crash 78 = .ok (.aload_n 0, 1) := by decide +kernel
theorem d_X_crash_79 : decode b_X_crash 79 = .ok (.getfield 28, 3) := by decide +kernel
theorem d_X_crash_82 : decode b_X_crash 82 = .ok (.invokevirtual 132, 3) := by decide +kernel
theorem d_X_crash_85 : decode b_X_crash 85 = .ok (.aload_n 0, 1) := by decide +kernel
theorem d_X_crash_86 : decode b_X_crash 86 = .ok (.getfield 37, 3) := by decide +kernel
theorem d_X_crash_89 : decode b_X_crash 89 = .ok (.invokevirtual 135, 3) := by decide +kernel
theorem d_X_crash_92 : decode b_X_crash 92 = .ok (.aload_n 0, 1) := by decide +kernel
theorem d_X_crash_93 : decode b_X_crash 93 = .ok (.getfield 12, 3) := by decide +kernel
theorem d_X_crash_96 : decode b_X_crash 96 = .ok (.getfield 87, 3) := by decide +kernel
theorem d_X_crash_99 : decode b_X_crash 99 = .ok (.ireturn, 1) := by decide +kernel
theorem d_X_restart_0 : decode b_X_restart 0 = .ok (.aload_n 0, 1) := by decide +kernel
theorem d_X_restart_1 : decode b_X_restart 1 = .ok (.getfield 47, 3) := by decide +kernel
theorem d_X_restart_4 : decode b_X_restart 4 = .ok (.ifCond .ne 14, 3) := by decide +kernel
theorem d_X_restart_7 : decode b_X_restart 7 = .ok (.iload_n 1, 1) := by decide +kernel
theorem d_X_restart_8 : decode b_X_restart 8 = .ok (.iconst 1, 1) := by decide +kernel
theorem d_X_restart_9 : decode b_X_restart 9 = .ok (.if_icmp .lt 9, 3) := by decide +kernel
theorem d_X_restart_12 : decode b_X_restart 12 = .ok (.iload_n 1, 1) := by decide +kernel
theorem d_X_restart_13 : decode b_X_restart 13 = .ok (.bipush 100, 2) := by decide +kernel
theorem d_X_restart_15 : decode b_X_restart 15 = .ok (.if_icmp .le 5, 3) := by decide +kernel
theorem d_X_restart_18 : decode b_X_restart 18 = .ok (.iconst (-1), 1) := by decide +kernel
theorem d_X_restart_19 : decode b_X_restart 19 = .ok (.ireturn, 1) := by decide +kernel
theorem d_X_restart_20 : decode b_X_restart 20 = .ok (.iconst 0, 1) := by decide +kernel
theorem d_X_restart_21 : decode b_X_restart 21 = .ok (.istore_n 2, 1) := by decide +kernel
theorem d_X_restart_22 : decode b_X_restart 22 = .ok (.iload_n 2, 1) := by decide +kernel
theorem d_X_restart_23 : decode b_X_restart 23 = .ok (.iload_n 1, 1) := by decide +kernel
theorem d_X_restart_24 : decode b_X_restart 24 = .ok (.if_icmp .ge 37, 3) := by decide +kernel
theorem d_X_restart_27 : decode b_X_restart 27 = .ok (.aload_n 0, 1) := by decide +kernel
theorem d_X_restart_28 : decode b_X_restart 28 = .ok (.getfield 47, 3) := by decide +kernel
theorem d_X_restart_31 : decode b_X_restart 31 = .ok (.ifCond .ne 30, 3) := by decide +kernel
theorem d_X_restart_34 : decode b_X_restart 34 = .ok (.aload_n 0, 1) := by decide +kernel
theorem d_X_restart_35 : decode b_X_restart 35 = .ok (.getfield 37, 3) := by decide +kernel
theorem d_X_restart_38 : decode b_X_restart 38 = .ok (.invokevirtual 138, 3) := by decide +kernel
theorem d_X_restart_41 : decode b_X_restart 41 = .ok (.iinc 2 1, 3) := by decide +kernel
theorem d_X_restart_44 : decode b_X_restart 44 = .ok (.aload_n 0, 1) := by decide +kernel
theorem d_X_restart_45 : decode b_X_restart 45 = .ok (.getfield 37, 3) := by decide +kernel
theorem d_X_restart_48 : decode b_X_restart 48 = .ok (.invokevirtual 141, 3) := by decide +kernel
theorem d_X_restart_51 : decode b_X_restart 51 = .ok (.ifCond .eq (-29), 3) := by decide +kernel
theorem d_X_restart_54 : decode b_X_restart 54 = .ok (.aload_n 0, 1) := by decide +kernel
theorem d_X_restart_55 : decode b_X_restart 55 = .ok (.invokevirtual 145, 3) := by decide +kernel
theorem d_X_restart_58 : decode b_X_restart 58 = .ok (.goto (-36), 3) := by decide +kernel
theorem d_X_restart_61 : decode b_X_restart 61 = .ok (.iload_n 2, 1) := by decide +kernel
theorem d_X_restart_62 : decode b_X_restart 62 = .ok (.ireturn, 1) := by decide +kernel
theorem d_X_up_0 : decode b_X_up 0 = .ok (.aload_n 0, 1) := by decide +kernel
theorem d_X_up_1 : decode b_X_up 1 = .ok (.getfield 47, 3) := by decide +kernel
theorem d_X_up_4 : decode b_X_up 4 = .ok (.ireturn, 1) := by decide +kernel
theorem d_X_state_0 : decode b_X_state 0 = .ok (.aload_n 0, 1) := by decide +kernel
theorem d_X_state_1 : decode b_X_state 1 = .ok (.iload_n 1, 1) := by decide +kernel
theorem d_X_state_2 : decode b_X_state 2 = .ok (.invokevirtual 73, 3) := by decide +kernel
theorem d_X_state_5 : decode b_X_state 5 = .ok (.astore_n 2, 1) := by decide +kernel
theorem d_X_state_6 : decode b_X_state 6 = .ok (.aload_n 2, 1) := by decide +kernel
theorem d_X_state_7 : decode b_X_state 7 = .ok (.ifnonnull 7, 3) := by decide +kernel
theorem d_X_state_10 : decode b_X_state 10 = .ok (.iconst 0, 1) := by decide +kernel
theorem d_X_state_11 : decode b_X_state 11 = .ok (.goto 7, 3) := by decide +kernel
theorem d_X_state_14 : decode b_X_state 14 = .ok (.aload_n 2, 1) := by decide +kernel
theorem d_X_state_15 : decode b_X_state 15 = .ok (.getfield 77, 3) := by decide +kernel
theorem d_X_state_18 : decode b_X_state 18 = .ok (.ireturn, 1) := by decide +kernel
theorem d_X_outcome_0 : decode b_X_outcome 0 = .ok (.aload_n 0, 1) := by decide +kernel
theorem d_X_outcome_1 : decode b_X_outcome 1 = .ok (.iload_n 1, 1) := by decide +kernel
theorem d_X_outcome_2 : decode b_X_outcome 2 = .ok (.invokevirtual 73, 3) := by decide +kernel
theorem d_X_outcome_5 : decode b_X_outcome 5 = .ok (.astore_n 2, 1) := by decide +kernel
theorem d_X_outcome_6 : decode b_X_outcome 6 = .ok (.aload_n 2, 1) := by decide +kernel
theorem d_X_outcome_7 : decode b_X_outcome 7 = .ok (.ifnonnull 7, 3) := by decide +kernel
theorem d_X_outcome_10 : decode b_X_outcome 10 = .ok (.iconst (-1), 1) := by decide +kernel
theorem d_X_outcome_11 : decode b_X_outcome 11 = .ok (.goto 7, 3) := by decide +kernel
theorem d_X_outcome_14 : decode b_X_outcome 14 = .ok (.aload_n 2, 1) := by decide +kernel
theorem d_X_outcome_15 : decode b_X_outcome 15 = .ok (.getfield 148, 3) := by decide +kernel
theorem d_X_outcome_18 : decode b_X_outcome 18 = .ok (.ireturn, 1) := by decide +kernel
theorem d_X_value_0 : decode b_X_value 0 = .ok (.aload_n 0, 1) := by decide +kernel
theorem d_X_value_1 : decode b_X_value 1 = .ok (.iload_n 1, 1) := by decide +kernel
theorem d_X_value_2 : decode b_X_value 2 = .ok (.invokevirtual 73, 3) := by decide +kernel
theorem d_X_value_5 : decode b_X_value 5 = .ok (.astore_n 2, 1) := by decide +kernel
theorem d_X_value_6 : decode b_X_value 6 = .ok (.aload_n 2, 1) := by decide +kernel
theorem d_X_value_7 : decode b_X_value 7 = .ok (.ifnonnull 7, 3) := by decide +kernel
theorem d_X_value_10 : decode b_X_value 10 = .ok (.iconst 0, 1) := by decide +kernel
theorem d_X_value_11 : decode b_X_value 11 = .ok (.goto 7, 3) := by decide +kernel
theorem d_X_value_14 : decode b_X_value 14 = .ok (.aload_n 2, 1) := by decide +kernel
theorem d_X_value_15 : decode b_X_value 15 = .ok (.getfield 151, 3) := by decide +kernel
theorem d_X_value_18 : decode b_X_value 18 = .ok (.ireturn, 1) := by decide +kernel
theorem d_X_stored_0 : decode b_X_stored 0 = .ok (.aload_n 0, 1) := by decide +kernel
theorem d_X_stored_1 : decode b_X_stored 1 = .ok (.iload_n 1, 1) := by decide +kernel
theorem d_X_stored_2 : decode b_X_stored 2 = .ok (.invokevirtual 154, 3) := by decide +kernel
theorem d_X_stored_5 : decode b_X_stored 5 = .ok (.istore_n 2, 1) := by decide +kernel
theorem d_X_stored_6 : decode b_X_stored 6 = .ok (.iload_n 2, 1) := by decide +kernel
theorem d_X_stored_7 : decode b_X_stored 7 = .ok (.iconst (-1), 1) := by decide +kernel
theorem d_X_stored_8 : decode b_X_stored 8 = .ok (.if_icmp .ne 7, 3) := by decide +kernel
theorem d_X_stored_11 : decode b_X_stored 11 = .ok (.iconst 0, 1) := by decide +kernel
theorem d_X_stored_12 : decode b_X_stored 12 = .ok (.goto 11, 3) := by decide +kernel
theorem d_X_stored_15 : decode b_X_stored 15 = .ok (.aload_n 0, 1) := by decide +kernel
theorem d_X_stored_16 : decode b_X_stored 16 = .ok (.getfield 21, 3) := by decide +kernel
theorem d_X_stored_19 : decode b_X_stored 19 = .ok (.iload_n 2, 1) := by decide +kernel
theorem d_X_stored_20 : decode b_X_stored 20 = .ok (.invokevirtual 158, 3) := by decide +kernel
theorem d_X_stored_23 : decode b_X_stored 23 = .ok (.ireturn, 1) := by decide +kernel
theorem d_X_place_0 : decode b_X_place 0 = .ok (.iload_n 1, 1) := by decide +kernel
theorem d_X_place_1 : decode b_X_place 1 = .ok (.invokestatic 161, 3) := by decide +kernel
theorem d_X_place_4 : decode b_X_place 4 = .ok (.ifCond .eq 14, 3) := by decide +kernel
theorem d_X_place_7 : decode b_X_place 7 = .ok (.aload_n 0, 1) := by decide +kernel
theorem d_X_place_8 : decode b_X_place 8 = .ok (.getfield 21, 3) := by decide +kernel
theorem d_X_place_11 : decode b_X_place 11 = .ok (.iload_n 1, 1) := by decide +kernel
theorem d_X_place_12 : decode b_X_place 12 = .ok (.invokevirtual 164, 3) := by decide +kernel
theorem d_X_place_15 : decode b_X_place 15 = .ok (.goto 4, 3) := by decide +kernel
theorem d_X_place_18 : decode b_X_place 18 = .ok (.iconst (-1), 1) := by decide +kernel
theorem d_X_place_19 : decode b_X_place 19 = .ok (.ireturn, 1) := by decide +kernel
theorem d_X_after_0 : decode b_X_after 0 = .ok (.aload_n 0, 1) := by decide +kernel
theorem d_X_after_1 : decode b_X_after 1 = .ok (.getfield 47, 3) := by decide +kernel
theorem d_X_after_4 : decode b_X_after 4 = .ok (.ifCond .eq 14, 3) := by decide +kernel
theorem d_X_after_7 : decode b_X_after 7 = .ok (.aload_n 0, 1) := by decide +kernel
theorem d_X_after_8 : decode b_X_after 8 = .ok (.getfield 21, 3) := by decide +kernel
theorem d_X_after_11 : decode b_X_after 11 = .ok (.iload_n 1, 1) := by decide +kernel
theorem d_X_after_12 : decode b_X_after 12 = .ok (.invokevirtual 167, 3) := by decide +kernel
theorem d_X_after_15 : decode b_X_after 15 = .ok (.goto 4, 3) := by decide +kernel
theorem d_X_after_18 : decode b_X_after 18 = .ok (.iconst (-1), 1) := by decide +kernel
theorem d_X_after_19 : decode b_X_after 19 = .ok (.ireturn, 1) := by decide +kernel
theorem d_X_count_0 : decode b_X_count 0 = .ok (.iload_n 1, 1) := by decide +kernel
theorem d_X_count_1 : decode b_X_count 1 = .ok (.tableswitch 63 0 3 #[31, 39, 47, 55], 31) := by decide +kernel
theorem d_X_count_32 : decode b_X_count 32 = .ok (.aload_n 0, 1) := by decide +kernel
theorem d_X_count_33 : decode b_X_count 33 = .ok (.getfield 12, 3) := by decide +kernel
theorem d_X_count_36 : decode b_X_count 36 = .ok (.getfield 87, 3) := by decide +kernel
theorem d_X_count_39 : decode b_X_count 39 = .ok (.ireturn, 1) := by decide +kernel
theorem d_X_count_40 : decode b_X_count 40 = .ok (.aload_n 0, 1) := by decide +kernel
theorem d_X_count_41 : decode b_X_count 41 = .ok (.getfield 12, 3) := by decide +kernel
theorem d_X_count_44 : decode b_X_count 44 = .ok (.getfield 117, 3) := by decide +kernel
theorem d_X_count_47 : decode b_X_count 47 = .ok (.ireturn, 1) := by decide +kernel
theorem d_X_count_48 : decode b_X_count 48 = .ok (.aload_n 0, 1) := by decide +kernel
theorem d_X_count_49 : decode b_X_count 49 = .ok (.getfield 21, 3) := by decide +kernel
theorem d_X_count_52 : decode b_X_count 52 = .ok (.getfield 170, 3) := by decide +kernel
theorem d_X_count_55 : decode b_X_count 55 = .ok (.ireturn, 1) := by decide +kernel
theorem d_X_count_56 : decode b_X_count 56 = .ok (.aload_n 0, 1) := by decide +kernel
theorem d_X_count_57 : decode b_X_count 57 = .ok (.getfield 21, 3) := by decide +kernel
theorem d_X_count_60 : decode b_X_count 60 = .ok (.getfield 173, 3) := by decide +kernel
theorem d_X_count_63 : decode b_X_count 63 = .ok (.ireturn, 1) := by decide +kernel
theorem d_X_count_64 : decode b_X_count 64 = .ok (.iconst (-1), 1) := by decide +kernel
theorem d_X_count_65 : decode b_X_count 65 = .ok (.ireturn, 1) := by decide +kernel
theorem d_X_page_0 : decode b_X_page 0 = .ok (.iload_n 1, 1) := by decide +kernel
theorem d_X_page_1 : decode b_X_page 1 = .ok (.invokestatic 104, 3) := by decide +kernel
theorem d_X_page_4 : decode b_X_page 4 = .ok (.ifCond .ne 5, 3) := by decide +kernel
theorem d_X_page_7 : decode b_X_page 7 = .ok (.iconst (-1), 1) := by decide +kernel
theorem d_X_page_8 : decode b_X_page 8 = .ok (.ireturn, 1) := by decide +kernel
theorem d_X_page_9 : decode b_X_page 9 = .ok (.iload_n 2, 1) := by decide +kernel
theorem d_X_page_10 : decode b_X_page 10 = .ok (.tableswitch 94 0 2 #[26, 52, 81], 26) := by decide +kernel
theorem d_X_page_36 : decode b_X_page 36 = .ok (.aload_n 0, 1) := by decide +kernel
theorem d_X_page_37 : decode b_X_page 37 = .ok (.getfield 21, 3) := by decide +kernel
theorem d_X_page_40 : decode b_X_page 40 = .ok (.getfield 176, 3) := by decide +kernel
theorem d_X_page_43 : decode b_X_page 43 = .ok (.iload_n 1, 1) := by decide +kernel
theorem d_X_page_44 : decode b_X_page 44 = .ok (.baload, 1) := by decide +kernel
theorem d_X_page_45 : decode b_X_page 45 = .ok (.ifCond .eq 15, 3) := by decide +kernel
theorem d_X_page_48 : decode b_X_page 48 = .ok (.aload_n 0, 1) := by decide +kernel
theorem d_X_page_49 : decode b_X_page 49 = .ok (.getfield 21, 3) := by decide +kernel
theorem d_X_page_52 : decode b_X_page 52 = .ok (.getfield 96, 3) := by decide +kernel
theorem d_X_page_55 : decode b_X_page 55 = .ok (.iload_n 1, 1) := by decide +kernel
theorem d_X_page_56 : decode b_X_page 56 = .ok (.iaload, 1) := by decide +kernel
theorem d_X_page_57 : decode b_X_page 57 = .ok (.goto 4, 3) := by decide +kernel
theorem d_X_page_60 : decode b_X_page 60 = .ok (.iconst (-1), 1) := by decide +kernel
theorem d_X_page_61 : decode b_X_page 61 = .ok (.ireturn, 1) := by decide +kernel
theorem d_X_page_62 : decode b_X_page 62 = .ok (.aload_n 0, 1) := by decide +kernel
theorem d_X_page_63 : decode b_X_page 63 = .ok (.getfield 21, 3) := by decide +kernel
theorem d_X_page_66 : decode b_X_page 66 = .ok (.getfield 176, 3) := by decide +kernel
theorem d_X_page_69 : decode b_X_page 69 = .ok (.iload_n 1, 1) := by decide +kernel
theorem d_X_page_70 : decode b_X_page 70 = .ok (.baload, 1) := by decide +kernel
theorem d_X_page_71 : decode b_X_page 71 = .ok (.ifCond .eq 18, 3) := by decide +kernel
theorem d_X_page_74 : decode b_X_page 74 = .ok (.aload_n 0, 1) := by decide +kernel
theorem d_X_page_75 : decode b_X_page 75 = .ok (.getfield 21, 3) := by decide +kernel
theorem d_X_page_78 : decode b_X_page 78 = .ok (.getfield 180, 3) := by decide +kernel
theorem d_X_page_81 : decode b_X_page 81 = .ok (.iload_n 1, 1) := by decide +kernel
theorem d_X_page_82 : decode b_X_page 82 = .ok (.aaload, 1) := by decide +kernel
theorem d_X_page_83 : decode b_X_page 83 = .ok (.getfield 184, 3) := by decide +kernel
theorem d_X_page_86 : decode b_X_page 86 = .ok (.goto 4, 3) := by decide +kernel
theorem d_X_page_89 : decode b_X_page 89 = .ok (.iconst (-1), 1) := by decide +kernel
theorem d_X_page_90 : decode b_X_page 90 = .ok (.ireturn, 1) := by decide +kernel
theorem d_X_page_91 : decode b_X_page 91 = .ok (.aload_n 0, 1) := by decide +kernel
theorem d_X_page_92 : decode b_X_page 92 = .ok (.getfield 21, 3) := by decide +kernel
theorem d_X_page_95 : decode b_X_page 95 = .ok (.getfield 189, 3) := by decide +kernel
theorem d_X_page_98 : decode b_X_page 98 = .ok (.iload_n 1, 1) := by decide +kernel
theorem d_X_page_99 : decode b_X_page 99 = .ok (.aaload, 1) := by decide +kernel
theorem d_X_page_100 : decode b_X_page 100 = .ok (.getfield 184, 3) := by decide +kernel
theorem d_X_page_103 : decode b_X_page 103 = .ok (.ireturn, 1) := by decide +kernel
theorem d_X_page_104 : decode b_X_page 104 = .ok (.iconst (-1), 1) := by decide +kernel
theorem d_X_page_105 : decode b_X_page 105 = .ok (.ireturn, 1) := by decide +kernel
theorem d_X_isKey_0 : decode b_X_isKey 0 = .ok (.iload_n 0, 1) := by decide +kernel
theorem d_X_isKey_1 : decode b_X_isKey 1 = .ok (.ifCond .lt 13, 3) := by decide +kernel
theorem d_X_isKey_4 : decode b_X_isKey 4 = .ok (.iload_n 0, 1) := by decide +kernel
theorem d_X_isKey_5 : decode b_X_isKey 5 = .ok (.bipush 100, 2) := by decide +kernel
theorem d_X_isKey_7 : decode b_X_isKey 7 = .ok (.if_icmp .ge 7, 3) := by decide +kernel
theorem d_X_isKey_10 : decode b_X_isKey 10 = .ok (.iconst 1, 1) := by decide +kernel
theorem d_X_isKey_11 : decode b_X_isKey 11 = .ok (.goto 4, 3) := by decide +kernel
theorem d_X_isKey_14 : decode b_X_isKey 14 = .ok (.iconst 0, 1) := by decide +kernel
theorem d_X_isKey_15 : decode b_X_isKey 15 = .ok (.ireturn, 1) := by decide +kernel
theorem d_X_isPage_0 : decode b_X_isPage 0 = .ok (.iload_n 0, 1) := by decide +kernel
theorem d_X_isPage_1 : decode b_X_isPage 1 = .ok (.ifCond .lt 13, 3) := by decide +kernel
theorem d_X_isPage_4 : decode b_X_isPage 4 = .ok (.iload_n 0, 1) := by decide +kernel
theorem d_X_isPage_5 : decode b_X_isPage 5 = .ok (.bipush 6, 2) := by decide +kernel
theorem d_X_isPage_7 : decode b_X_isPage 7 = .ok (.if_icmp .ge 7, 3) := by decide +kernel
theorem d_X_isPage_10 : decode b_X_isPage 10 = .ok (.iconst 1, 1) := by decide +kernel
theorem d_X_isPage_11 : decode b_X_isPage 11 = .ok (.goto 4, 3) := by decide +kernel
theorem d_X_isPage_14 : decode b_X_isPage 14 = .ok (.iconst 0, 1) := by decide +kernel
theorem d_X_isPage_15 : decode b_X_isPage 15 = .ok (.ireturn, 1) := by decide +kernel
theorem d_X_find_0 : decode b_X_find 0 = .ok (.iload_n 1, 1) := by decide +kernel
theorem d_X_find_1 : decode b_X_find 1 = .ok (.iconst 1, 1) := by decide +kernel
theorem d_X_find_2 : decode b_X_find 2 = .ok (.if_icmp .lt 20, 3) := by decide +kernel
theorem d_X_find_5 : decode b_X_find 5 = .ok (.iload_n 1, 1) := by decide +kernel
theorem d_X_find_6 : decode b_X_find 6 = .ok (.aload_n 0, 1) := by decide +kernel
theorem d_X_find_7 : decode b_X_find 7 = .ok (.getfield 55, 3) := by decide +kernel
theorem d_X_find_10 : decode b_X_find 10 = .ok (.if_icmp .gt 12, 3) := by decide +kernel
theorem d_X_find_13 : decode b_X_find 13 = .ok (.aload_n 0, 1) := by decide +kernel
theorem d_X_find_14 : decode b_X_find 14 = .ok (.getfield 43, 3) := by decide +kernel
theorem d_X_find_17 : decode b_X_find 17 = .ok (.iload_n 1, 1) := by decide +kernel
theorem d_X_find_18 : decode b_X_find 18 = .ok (.aaload, 1) := by decide +kernel
theorem d_X_find_19 : decode b_X_find 19 = .ok (.goto 4, 3) := by decide +kernel
theorem d_X_find_22 : decode b_X_find 22 = .ok (.aconst_null, 1) := by decide +kernel
theorem d_X_find_23 : decode b_X_find 23 = .ok (.areturn, 1) := by decide +kernel
theorem d_X_request_0 : decode b_X_request 0 = .ok (.aload_n 0, 1) := by decide +kernel
theorem d_X_request_1 : decode b_X_request 1 = .ok (.iload_n 1, 1) := by decide +kernel
theorem d_X_request_2 : decode b_X_request 2 = .ok (.invokevirtual 73, 3) := by decide +kernel
theorem d_X_request_5 : decode b_X_request 5 = .ok (.astore 5, 2) := by decide +kernel
theorem d_X_request_7 : decode b_X_request 7 = .ok (.aload 5, 2) := by decide +kernel
theorem d_X_request_9 : decode b_X_request 9 = .ok (.ifnull 19, 3) := by decide +kernel
theorem d_X_request_12 : decode b_X_request 12 = .ok (.aload 5, 2) := by decide +kernel
theorem d_X_request_14 : decode b_X_request 14 = .ok (.getfield 77, 3) := by decide +kernel
theorem d_X_request_17 : decode b_X_request 17 = .ok (.iconst 1, 1) := by decide +kernel
theorem d_X_request_18 : decode b_X_request 18 = .ok (.if_icmp .ne 10, 3) := by decide +kernel
theorem d_X_request_21 : decode b_X_request 21 = .ok (.iload_n 2, 1) := by decide +kernel
theorem d_X_request_22 : decode b_X_request 22 = .ok (.invokestatic 161, 3) := by decide +kernel
theorem d_X_request_25 : decode b_X_request 25 = .ok (.ifCond .ne 5, 3) := by decide +kernel
theorem d_X_request_28 : decode b_X_request 28 = .ok (.iconst (-1), 1) := by decide +kernel
theorem d_X_request_29 : decode b_X_request 29 = .ok (.ireturn, 1) := by decide +kernel
theorem d_X_request_30 : decode b_X_request 30 = .ok (.aload_n 0, 1) := by decide +kernel
theorem d_X_request_31 : decode b_X_request 31 = .ok (.dup, 1) := by decide +kernel
theorem d_X_request_32 : decode b_X_request 32 = .ok (.getfield 192, 3) := by decide +kernel
theorem d_X_request_35 : decode b_X_request 35 = .ok (.iconst 1, 1) := by decide +kernel
theorem d_X_request_36 : decode b_X_request 36 = .ok (.iadd, 1) := by decide +kernel
theorem d_X_request_37 : decode b_X_request 37 = .ok (.putfield 192, 3) := by decide +kernel
theorem d_X_request_40 : decode b_X_request 40 = .ok (.aload 5, 2) := by decide +kernel
theorem d_X_request_42 : decode b_X_request 42 = .ok (.aload_n 0, 1) := by decide +kernel
theorem d_X_request_43 : decode b_X_request 43 = .ok (.getfield 192, 3) := by decide +kernel
theorem d_X_request_46 : decode b_X_request 46 = .ok (.iload_n 2, 1) := by decide +kernel
theorem d_X_request_47 : decode b_X_request 47 = .ok (.iload_n 3, 1) := by decide +kernel
theorem d_X_request_48 : decode b_X_request 48 = .ok (.iload 4, 2) := by decide +kernel
theorem d_X_request_50 : decode b_X_request 50 = .ok (.invokevirtual 195, 3) := by decide +kernel
theorem d_X_request_53 : decode b_X_request 53 = .ok (.aload_n 0, 1) := by decide +kernel
theorem d_X_request_54 : decode b_X_request 54 = .ok (.getfield 28, 3) := by decide +kernel
theorem d_X_request_57 : decode b_X_request 57 = .ok (.aload 5, 2) := by decide +kernel
theorem d_X_request_59 : decode b_X_request 59 = .ok (.invokevirtual 199, 3) := by decide +kernel
theorem d_X_request_62 : decode b_X_request 62 = .ok (.ifCond .eq 15, 3) := by decide +kernel
theorem d_X_request_65 : decode b_X_request 65 = .ok (.aload_n 0, 1) := by decide +kernel
theorem d_X_request_66 : decode b_X_request 66 = .ok (.aload 5, 2) := by decide +kernel
theorem d_X_request_68 : decode b_X_request 68 = .ok (.invokevirtual 203, 3) := by decide +kernel
theorem d_X_request_71 : decode b_X_request 71 = .ok (.aload 5, 2) := by decide +kernel
theorem d_X_request_73 : decode b_X_request 73 = .ok (.getfield 148, 3) := by decide +kernel
theorem d_X_request_76 : decode b_X_request 76 = .ok (.ireturn, 1) := by decide +kernel
theorem d_X_request_77 : decode b_X_request 77 = .ok (.aload 5, 2) := by decide +kernel
theorem d_X_request_79 : decode b_X_request 79 = .ok (.iconst 2, 1) := by decide +kernel
theorem d_X_request_80 : decode b_X_request 80 = .ok (.putfield 77, 3) := by decide +kernel
theorem d_X_request_83 : decode b_X_request 83 = .ok (.aload 5, 2) := by decide +kernel
theorem d_X_request_85 : decode b_X_request 85 = .ok (.iconst 1, 1) := by decide +kernel
theorem d_X_request_86 : decode b_X_request 86 = .ok (.putfield 148, 3) := by decide +kernel
theorem d_X_request_89 : decode b_X_request 89 = .ok (.aload_n 0, 1) := by decide +kernel
theorem d_X_request_90 : decode b_X_request 90 = .ok (.getfield 28, 3) := by decide +kernel
theorem d_X_request_93 : decode b_X_request 93 = .ok (.aload 5, 2) := by decide +kernel
theorem d_X_request_95 : decode b_X_request 95 = .ok (.invokevirtual 206, 3) := by decide +kernel
theorem d_X_request_98 : decode b_X_request 98 = .ok (.ifCond .eq 15, 3) := by decide +kernel
theorem d_X_request_101 : decode b_X_request 101 = .ok (.aload 5, 2) := by decide +kernel
theorem d_X_request_103 : decode b_X_request 103 = .ok (.iconst 2, 1) := by decide +kernel
theorem d_X_request_104 : decode b_X_request 104 = .ok (.putfield 148, 3) := by decide +kernel
theorem d_X_request_107 : decode b_X_request 107 = .ok (.aload_n 0, 1) := by decide +kernel
theorem d_X_request_108 : decode b_X_request 108 = .ok (.aload 5, 2) := by decide +kernel
theorem d_X_request_110 : decode b_X_request 110 = .ok (.invokevirtual 84, 3) := by decide +kernel
theorem d_X_request_113 : decode b_X_request 113 = .ok (.aload 5, 2) := by decide +kernel
theorem d_X_request_115 : decode b_X_request 115 = .ok (.getfield 148, 3) := by decide +kernel
theorem d_X_request_118 : decode b_X_request 118 = .ok (.ireturn, 1) := by decide +kernel
theorem d_X_grant_0 : decode b_X_grant 0 = .ok (.aload_n 0, 1) := by decide +kernel
theorem d_X_grant_1 : decode b_X_grant 1 = .ok (.getfield 28, 3) := by decide +kernel
theorem d_X_grant_4 : decode b_X_grant 4 = .ok (.aload_n 1, 1) := by decide +kernel
theorem d_X_grant_5 : decode b_X_grant 5 = .ok (.invokevirtual 209, 3) := by decide +kernel
theorem d_X_grant_8 : decode b_X_grant 8 = .ok (.aload_n 1, 1) := by decide +kernel
theorem d_X_grant_9 : decode b_X_grant 9 = .ok (.iconst 1, 1) := by decide +kernel
theorem d_X_grant_10 : decode b_X_grant 10 = .ok (.putfield 77, 3) := by decide +kernel
theorem d_X_grant_13 : decode b_X_grant 13 = .ok (.aload_n 1, 1) := by decide +kernel
theorem d_X_grant_14 : decode b_X_grant 14 = .ok (.getfield 212, 3) := by decide +kernel
theorem d_X_grant_17 : decode b_X_grant 17 = .ok (.iconst 1, 1) := by decide +kernel
theorem d_X_grant_18 : decode b_X_grant 18 = .ok (.if_icmp .ne 11, 3) := by decide +kernel
theorem d_X_grant_21 : decode b_X_grant 21 = .ok (.aload_n 0, 1) := by decide +kernel
theorem d_X_grant_22 : decode b_X_grant 22 = .ok (.aload_n 1, 1) := by decide +kernel
theorem d_X_grant_23 : decode b_X_grant 23 = .ok (.invokevirtual 215, 3) := by decide +kernel
theorem d_X_grant_26 : decode b_X_grant 26 = .ok (.goto 8, 3) := by decide +kernel
theorem d_X_grant_29 : decode b_X_grant 29 = .ok (.aload_n 0, 1) := by decide +kernel
theorem d_X_grant_30 : decode b_X_grant 30 = .ok (.aload_n 1, 1) := by decide +kernel
theorem d_X_grant_31 : decode b_X_grant 31 = .ok (.invokevirtual 218, 3) := by decide +kernel
theorem d_X_grant_34 : decode b_X_grant 34 = .ok (.return_, 1) := by decide +kernel
theorem d_X_readFor_0 : decode b_X_readFor 0 = .ok (.aload_n 0, 1) := by decide +kernel
theorem d_X_readFor_1 : decode b_X_readFor 1 = .ok (.getfield 21, 3) := by decide +kernel
theorem d_X_readFor_4 : decode b_X_readFor 4 = .ok (.aload_n 1, 1) := by decide +kernel
theorem d_X_readFor_5 : decode b_X_readFor 5 = .ok (.getfield 221, 3) := by decide +kernel
theorem d_X_readFor_8 : decode b_X_readFor 8 = .ok (.invokevirtual 164, 3) := by decide +kernel
theorem d_X_readFor_11 : decode b_X_readFor 11 = .ok (.istore_n 2, 1) := by decide +kernel
theorem d_X_readFor_12 : decode b_X_readFor 12 = .ok (.iload_n 2, 1) := by decide +kernel
theorem d_X_readFor_13 : decode b_X_readFor 13 = .ok (.iconst (-1), 1) := by decide +kernel
theorem d_X_readFor_14 : decode b_X_readFor 14 = .ok (.if_icmp .ne 11, 3) := by decide +kernel
theorem d_X_readFor_17 : decode b_X_readFor 17 = .ok (.aload_n 1, 1) := by decide +kernel
theorem d_X_readFor_18 : decode b_X_readFor 18 = .ok (.iconst 0, 1) := by decide +kernel
theorem d_X_readFor_19 : decode b_X_readFor 19 = .ok (.putfield 151, 3) := by decide +kernel
theorem d_X_readFor_22 : decode b_X_readFor 22 = .ok (.goto 25, 3) := by decide +kernel
theorem d_X_readFor_25 : decode b_X_readFor 25 = .ok (.aload_n 0, 1) := by decide +kernel
theorem d_X_readFor_26 : decode b_X_readFor 26 = .ok (.getfield 21, 3) := by decide +kernel
theorem d_X_readFor_29 : decode b_X_readFor 29 = .ok (.iload_n 2, 1) := by decide +kernel
theorem d_X_readFor_30 : decode b_X_readFor 30 = .ok (.iconst 4, 1) := by decide +kernel
theorem d_X_readFor_31 : decode b_X_readFor 31 = .ok (.idiv, 1) := by decide +kernel
theorem d_X_readFor_32 : decode b_X_readFor 32 = .ok (.invokevirtual 224, 3) := by decide +kernel
theorem d_X_readFor_35 : decode b_X_readFor 35 = .ok (.aload_n 1, 1) := by decide +kernel
theorem d_X_readFor_36 : decode b_X_readFor 36 = .ok (.aload_n 0, 1) := by decide +kernel
theorem d_X_readFor_37 : decode b_X_readFor 37 = .ok (.getfield 21, 3) := by decide +kernel
theorem d_X_readFor_40 : decode b_X_readFor 40 = .ok (.iload_n 2, 1) := by decide +kernel
theorem d_X_readFor_41 : decode b_X_readFor 41 = .ok (.invokevirtual 158, 3) := by decide +kernel
theorem d_X_readFor_44 : decode b_X_readFor 44 = .ok (.putfield 151, 3) := by decide +kernel
theorem d_X_readFor_47 : decode b_X_readFor 47 = .ok (.aload_n 1, 1) := by decide +kernel
theorem d_X_readFor_48 : decode b_X_readFor 48 = .ok (.iconst 0, 1) := by decide +kernel
theorem d_X_readFor_49 : decode b_X_readFor 49 = .ok (.putfield 148, 3) := by decide +kernel
theorem d_X_readFor_52 : decode b_X_readFor 52 = .ok (.return_, 1) := by decide +kernel
theorem d_X_writeFor_0 : decode b_X_writeFor 0 = .ok (.aload_n 0, 1) := by decide +kernel
theorem d_X_writeFor_1 : decode b_X_writeFor 1 = .ok (.getfield 21, 3) := by decide +kernel
theorem d_X_writeFor_4 : decode b_X_writeFor 4 = .ok (.aload_n 1, 1) := by decide +kernel
theorem d_X_writeFor_5 : decode b_X_writeFor 5 = .ok (.getfield 221, 3) := by decide +kernel
theorem d_X_writeFor_8 : decode b_X_writeFor 8 = .ok (.invokevirtual 164, 3) := by decide +kernel
theorem d_X_writeFor_11 : decode b_X_writeFor 11 = .ok (.istore_n 2, 1) := by decide +kernel
theorem d_X_writeFor_12 : decode b_X_writeFor 12 = .ok (.iload_n 2, 1) := by decide +kernel
theorem d_X_writeFor_13 : decode b_X_writeFor 13 = .ok (.iconst (-1), 1) := by decide +kernel
theorem d_X_writeFor_14 : decode b_X_writeFor 14 = .ok (.if_icmp .ne 12, 3) := by decide +kernel
theorem d_X_writeFor_17 : decode b_X_writeFor 17 = .ok (.aload_n 0, 1) := by decide +kernel
theorem d_X_writeFor_18 : decode b_X_writeFor 18 = .ok (.getfield 21, 3) := by decide +kernel
theorem d_X_writeFor_21 : decode b_X_writeFor 21 = .ok (.iconst (-1), 1) := by decide +kernel
theorem d_X_writeFor_22 : decode b_X_writeFor 22 = .ok (.invokevirtual 164, 3) := by decide +kernel
theorem d_X_writeFor_25 : decode b_X_writeFor 25 = .ok (.istore_n 2, 1) := by decide +kernel
theorem d_X_writeFor_26 : decode b_X_writeFor 26 = .ok (.aload_n 0, 1) := by decide +kernel
theorem d_X_writeFor_27 : decode b_X_writeFor 27 = .ok (.getfield 12, 3) := by decide +kernel
theorem d_X_writeFor_30 : decode b_X_writeFor 30 = .ok (.getfield 227, 3) := by decide +kernel
theorem d_X_writeFor_33 : decode b_X_writeFor 33 = .ok (.bipush 60, 2) := by decide +kernel
theorem d_X_writeFor_35 : decode b_X_writeFor 35 = .ok (.if_icmp .ge 8, 3) := by decide +kernel
theorem d_X_writeFor_38 : decode b_X_writeFor 38 = .ok (.iload_n 2, 1) := by decide +kernel
theorem d_X_writeFor_39 : decode b_X_writeFor 39 = .ok (.iconst (-1), 1) := by decide +kernel
theorem d_X_writeFor_40 : decode b_X_writeFor 40 = .ok (.if_icmp .ne 9, 3) := by decide +kernel
theorem d_X_writeFor_43 : decode b_X_writeFor 43 = .ok (.aload_n 1, 1) := by decide +kernel
theorem d_X_writeFor_44 : decode b_X_writeFor 44 = .ok (.iconst 3, 1) := by decide +kernel
theorem d_X_writeFor_45 : decode b_X_writeFor 45 = .ok (.putfield 148, 3) := by decide +kernel
theorem d_X_writeFor_48 : decode b_X_writeFor 48 = .ok (.return_, 1) := by decide +kernel
theorem d_X_writeFor_49 : decode b_X_writeFor 49 = .ok (.aload_n 0, 1) := by decide +kernel
theorem d_X_writeFor_50 : decode b_X_writeFor 50 = .ok (.getfield 21, 3) := by decide +kernel
theorem d_X_writeFor_53 : decode b_X_writeFor 53 = .ok (.iload_n 2, 1) := by decide +kernel
theorem d_X_writeFor_54 : decode b_X_writeFor 54 = .ok (.iconst 4, 1) := by decide +kernel
theorem d_X_writeFor_55 : decode b_X_writeFor 55 = .ok (.idiv, 1) := by decide +kernel
theorem d_X_writeFor_56 : decode b_X_writeFor 56 = .ok (.invokevirtual 224, 3) := by decide +kernel
theorem d_X_writeFor_59 : decode b_X_writeFor 59 = .ok (.aload_n 0, 1) := by decide +kernel
theorem d_X_writeFor_60 : decode b_X_writeFor 60 = .ok (.getfield 21, 3) := by decide +kernel
theorem d_X_writeFor_63 : decode b_X_writeFor 63 = .ok (.aload_n 0, 1) := by decide +kernel
theorem d_X_writeFor_64 : decode b_X_writeFor 64 = .ok (.getfield 12, 3) := by decide +kernel
theorem d_X_writeFor_67 : decode b_X_writeFor 67 = .ok (.aload_n 1, 1) := by decide +kernel
theorem d_X_writeFor_68 : decode b_X_writeFor 68 = .ok (.getfield 230, 3) := by decide +kernel
theorem d_X_writeFor_71 : decode b_X_writeFor 71 = .ok (.iload_n 2, 1) := by decide +kernel
theorem d_X_writeFor_72 : decode b_X_writeFor 72 = .ok (.aload_n 0, 1) := by decide +kernel
theorem d_X_writeFor_73 : decode b_X_writeFor 73 = .ok (.getfield 21, 3) := by decide +kernel
theorem d_X_writeFor_76 : decode b_X_writeFor 76 = .ok (.iload_n 2, 1) := by decide +kernel
theorem d_X_writeFor_77 : decode b_X_writeFor 77 = .ok (.invokevirtual 233, 3) := by decide +kernel
theorem d_X_writeFor_80 : decode b_X_writeFor 80 = .ok (.aload_n 0, 1) := by decide +kernel
theorem d_X_writeFor_81 : decode b_X_writeFor 81 = .ok (.getfield 21, 3) := by decide +kernel
theorem d_X_writeFor_84 : decode b_X_writeFor 84 = .ok (.iload_n 2, 1) := by decide +kernel
theorem d_X_writeFor_85 : decode b_X_writeFor 85 = .ok (.invokevirtual 158, 3) := by decide +kernel
theorem d_X_writeFor_88 : decode b_X_writeFor 88 = .ok (.aload_n 1, 1) := by decide +kernel
theorem d_X_writeFor_89 : decode b_X_writeFor 89 = .ok (.getfield 221, 3) := by decide +kernel
theorem d_X_writeFor_92 : decode b_X_writeFor 92 = .ok (.aload_n 1, 1) := by decide +kernel
theorem d_X_writeFor_93 : decode b_X_writeFor 93 = .ok (.getfield 236, 3) := by decide +kernel
theorem d_X_writeFor_96 : decode b_X_writeFor 96 = .ok (.invokevirtual 239, 3) := by decide +kernel
theorem d_X_writeFor_99 : decode b_X_writeFor 99 = .ok (.invokevirtual 243, 3) := by decide +kernel
theorem d_X_writeFor_102 : decode b_X_writeFor 102 = .ok (.aload_n 1, 1) := by decide +kernel
theorem d_X_writeFor_103 : decode b_X_writeFor 103 = .ok (.iconst 0, 1) := by decide +kernel
theorem d_X_writeFor_104 : decode b_X_writeFor 104 = .ok (.putfield 148, 3) := by decide +kernel
theorem d_X_writeFor_107 : decode b_X_writeFor 107 = .ok (.return_, 1) := by decide +kernel
theorem d_X_rollBack_0 : decode b_X_rollBack 0 = .ok (.aload_n 0, 1) := by decide +kernel
theorem d_X_rollBack_1 : decode b_X_rollBack 1 = .ok (.getfield 12, 3) := by decide +kernel
theorem d_X_rollBack_4 : decode b_X_rollBack 4 = .ok (.getfield 87, 3) := by decide +kernel
theorem d_X_rollBack_7 : decode b_X_rollBack 7 = .ok (.istore_n 2, 1) := by decide +kernel
theorem d_X_rollBack_8 : decode b_X_rollBack 8 = .ok (.iload_n 2, 1) := by decide +kernel
theorem d_X_rollBack_9 : decode b_X_rollBack 9 = .ok (.iconst 1, 1) := by decide +kernel
theorem d_X_rollBack_10 : decode b_X_rollBack 10 = .ok (.if_icmp .lt 44, 3) := by decide +kernel
theorem d_X_rollBack_13 : decode b_X_rollBack 13 = .ok (.aload_n 0, 1) := by decide +kernel
theorem d_X_rollBack_14 : decode b_X_rollBack 14 = .ok (.getfield 12, 3) := by decide +kernel
theorem d_X_rollBack_17 : decode b_X_rollBack 17 = .ok (.getfield 246, 3) := by decide +kernel
theorem d_X_rollBack_20 : decode b_X_rollBack 20 = .ok (.iload_n 2, 1) := by decide +kernel
theorem d_X_rollBack_21 : decode b_X_rollBack 21 = .ok (.iaload, 1) := by decide +kernel
theorem d_X_rollBack_22 : decode b_X_rollBack 22 = .ok (.aload_n 1, 1) := by decide +kernel
theorem d_X_rollBack_23 : decode b_X_rollBack 23 = .ok (.getfield 230, 3) := by decide +kernel
theorem d_X_rollBack_26 : decode b_X_rollBack 26 = .ok (.if_icmp .ne 22, 3) := by decide +kernel
theorem d_X_rollBack_29 : decode b_X_rollBack 29 = .ok (.aload_n 0, 1) := by decide +kernel
theorem d_X_rollBack_30 : decode b_X_rollBack 30 = .ok (.getfield 12, 3) := by decide +kernel
theorem d_X_rollBack_33 : decode b_X_rollBack 33 = .ok (.iload_n 2, 1) := by decide +kernel
theorem d_X_rollBack_34 : decode b_X_rollBack 34 = .ok (.invokevirtual 249, 3) := by decide +kernel
theorem d_X_rollBack_37 : decode b_X_rollBack 37 = .ok (.ifCond .eq 11, 3) := by decide +kernel
theorem d_X_rollBack_40 : decode b_X_rollBack 40 = .ok (.aload_n 0, 1) := by decide +kernel
theorem d_X_rollBack_41 : decode b_X_rollBack 41 = .ok (.getfield 21, 3) := by decide +kernel
theorem d_X_rollBack_44 : decode b_X_rollBack 44 = .ok (.iload_n 2, 1) := by decide +kernel
theorem d_X_rollBack_45 : decode b_X_rollBack 45 = .ok (.invokevirtual 252, 3) := by decide +kernel
theorem d_X_rollBack_48 : decode b_X_rollBack 48 = .ok (.iinc 2 (-1), 3) := by decide +kernel
theorem d_X_rollBack_51 : decode b_X_rollBack 51 = .ok (.goto (-43), 3) := by decide +kernel
theorem d_X_rollBack_54 : decode b_X_rollBack 54 = .ok (.aload_n 0, 1) := by decide +kernel
theorem d_X_rollBack_55 : decode b_X_rollBack 55 = .ok (.getfield 28, 3) := by decide +kernel
theorem d_X_rollBack_58 : decode b_X_rollBack 58 = .ok (.aload_n 1, 1) := by decide +kernel
theorem d_X_rollBack_59 : decode b_X_rollBack 59 = .ok (.iconst 5, 1) := by decide +kernel
theorem d_X_rollBack_60 : decode b_X_rollBack 60 = .ok (.invokevirtual 255, 3) := by decide +kernel
theorem d_X_rollBack_63 : decode b_X_rollBack 63 = .ok (.return_, 1) := by decide +kernel
theorem d_X_settle_0 : decode b_X_settle 0 = .ok (.iconst 0, 1) := by decide +kernel
theorem d_X_settle_1 : decode b_X_settle 1 = .ok (.istore_n 1, 1) := by decide +kernel
theorem d_X_settle_2 : decode b_X_settle 2 = .ok (.iload_n 1, 1) := by decide +kernel
theorem d_X_settle_3 : decode b_X_settle 3 = .ok (.iconst 4, 1) := by decide +kernel
theorem d_X_settle_4 : decode b_X_settle 4 = .ok (.if_icmp .ge 57, 3) := by decide +kernel
theorem d_X_settle_7 : decode b_X_settle 7 = .ok (.aload_n 0, 1) := by decide +kernel
theorem d_X_settle_8 : decode b_X_settle 8 = .ok (.getfield 28, 3) := by decide +kernel
theorem d_X_settle_11 : decode b_X_settle 11 = .ok (.aload_n 0, 1) := by decide +kernel
theorem d_X_settle_12 : decode b_X_settle 12 = .ok (.getfield 12, 3) := by decide +kernel
theorem d_X_settle_15 : decode b_X_settle 15 = .ok (.invokevirtual 259, 3) := by decide +kernel
theorem d_X_settle_18 : decode b_X_settle 18 = .ok (.astore_n 2, 1) := by decide +kernel
theorem d_X_settle_19 : decode b_X_settle 19 = .ok (.aload_n 2, 1) := by decide +kernel
theorem d_X_settle_20 : decode b_X_settle 20 = .ok (.ifnull 15, 3) := by decide +kernel
theorem d_X_settle_23 : decode b_X_settle 23 = .ok (.aload_n 0, 1) := by decide +kernel
theorem d_X_settle_24 : decode b_X_settle 24 = .ok (.getfield 28, 3) := by decide +kernel
theorem d_X_settle_27 : decode b_X_settle 27 = .ok (.aload_n 2, 1) := by decide +kernel
theorem d_X_settle_28 : decode b_X_settle 28 = .ok (.iconst 4, 1) := by decide +kernel
theorem d_X_settle_29 : decode b_X_settle 29 = .ok (.invokevirtual 255, 3) := by decide +kernel
theorem d_X_settle_32 : decode b_X_settle 32 = .ok (.goto 23, 3) := by decide +kernel
theorem d_X_settle_35 : decode b_X_settle 35 = .ok (.aload_n 0, 1) := by decide +kernel
theorem d_X_settle_36 : decode b_X_settle 36 = .ok (.getfield 28, 3) := by decide +kernel
theorem d_X_settle_39 : decode b_X_settle 39 = .ok (.invokevirtual 263, 3) := by decide +kernel
theorem d_X_settle_42 : decode b_X_settle 42 = .ok (.astore_n 3, 1) := by decide +kernel
theorem d_X_settle_43 : decode b_X_settle 43 = .ok (.aload_n 3, 1) := by decide +kernel
theorem d_X_settle_44 : decode b_X_settle 44 = .ok (.ifnonnull 6, 3) := by decide +kernel
theorem d_X_settle_47 : decode b_X_settle 47 = .ok (.goto 14, 3) := by decide +kernel
theorem d_X_settle_50 : decode b_X_settle 50 = .ok (.aload_n 0, 1) := by decide +kernel
theorem d_X_settle_51 : decode b_X_settle 51 = .ok (.aload_n 3, 1) := by decide +kernel
theorem d_X_settle_52 : decode b_X_settle 52 = .ok (.invokevirtual 203, 3) := by decide +kernel
theorem d_X_settle_55 : decode b_X_settle 55 = .ok (.iinc 1 1, 3) := by decide +kernel
theorem d_X_settle_58 : decode b_X_settle 58 = .ok (.goto (-56), 3) := by decide +kernel
theorem d_X_settle_61 : decode b_X_settle 61 = .ok (.return_, 1) := by decide +kernel
theorem d_X_comeUp_0 : decode b_X_comeUp 0 = .ok (.aload_n 0, 1) := by decide +kernel
theorem d_X_comeUp_1 : decode b_X_comeUp 1 = .ok (.iconst 1, 1) := by decide +kernel
theorem d_X_comeUp_2 : decode b_X_comeUp 2 = .ok (.putfield 47, 3) := by decide +kernel
theorem d_X_comeUp_5 : decode b_X_comeUp 5 = .ok (.iconst 1, 1) := by decide +kernel
theorem d_X_comeUp_6 : decode b_X_comeUp 6 = .ok (.istore_n 1, 1) := by decide +kernel
theorem d_X_comeUp_7 : decode b_X_comeUp 7 = .ok (.iload_n 1, 1) := by decide +kernel
theorem d_X_comeUp_8 : decode b_X_comeUp 8 = .ok (.aload_n 0, 1) := by decide +kernel
theorem d_X_comeUp_9 : decode b_X_comeUp 9 = .ok (.getfield 55, 3) := by decide +kernel
theorem d_X_comeUp_12 : decode b_X_comeUp 12 = .ok (.if_icmp .gt 49, 3) := by decide +kernel
theorem d_X_comeUp_15 : decode b_X_comeUp 15 = .ok (.aload_n 0, 1) := by decide +kernel
theorem d_X_comeUp_16 : decode b_X_comeUp 16 = .ok (.getfield 43, 3) := by decide +kernel
theorem d_X_comeUp_19 : decode b_X_comeUp 19 = .ok (.iload_n 1, 1) := by decide +kernel
theorem d_X_comeUp_20 : decode b_X_comeUp 20 = .ok (.aaload, 1) := by decide +kernel
theorem d_X_comeUp_21 : decode b_X_comeUp 21 = .ok (.getfield 77, 3) := by decide +kernel
theorem d_X_comeUp_24 : decode b_X_comeUp 24 = .ok (.bipush 6, 2) := by decide +kernel
theorem d_X_comeUp_26 : decode b_X_comeUp 26 = .ok (.if_icmp .ne 29, 3) := by decide +kernel
theorem d_X_comeUp_29 : decode b_X_comeUp 29 = .ok (.aload_n 0, 1) := by decide +kernel
theorem d_X_comeUp_30 : decode b_X_comeUp 30 = .ok (.getfield 43, 3) := by decide +kernel
theorem d_X_comeUp_33 : decode b_X_comeUp 33 = .ok (.iload_n 1, 1) := by decide +kernel
theorem d_X_comeUp_34 : decode b_X_comeUp 34 = .ok (.aaload, 1) := by decide +kernel
theorem d_X_comeUp_35 : decode b_X_comeUp 35 = .ok (.aload_n 0, 1) := by decide +kernel
theorem d_X_comeUp_36 : decode b_X_comeUp 36 = .ok (.getfield 12, 3) := by decide +kernel
theorem d_X_comeUp_39 : decode b_X_comeUp 39 = .ok (.getfield 267, 3) := by decide +kernel
theorem d_X_comeUp_42 : decode b_X_comeUp 42 = .ok (.iload_n 1, 1) := by decide +kernel
theorem d_X_comeUp_43 : decode b_X_comeUp 43 = .ok (.iaload, 1) := by decide +kernel
theorem d_X_comeUp_44 : decode b_X_comeUp 44 = .ok (.ifCond .ne 7, 3) := by decide +kernel
theorem d_X_comeUp_47 : decode b_X_comeUp 47 = .ok (.iconst 5, 1) := by decide +kernel
theorem d_X_comeUp_48 : decode b_X_comeUp 48 = .ok (.goto 4, 3) := by decide +kernel
theorem d_X_comeUp_51 : decode b_X_comeUp 51 = .ok (.iconst 4, 1) := by decide +kernel
theorem d_X_comeUp_52 : decode b_X_comeUp 52 = .ok (.putfield 77, 3) := by decide +kernel
theorem d_X_comeUp_55 : decode b_X_comeUp 55 = .ok (.iinc 1 1, 3) := by decide +kernel
theorem d_X_comeUp_58 : decode b_X_comeUp 58 = .ok (.goto (-51), 3) := by decide +kernel
theorem d_X_comeUp_61 : decode b_X_comeUp 61 = .ok (.return_, 1) := by decide +kernel
end
section
-- ===== the class's methods as functions of its heap =====
-- cells: 1 LogStore (5 begun, 6 requests, 7 crashes, 8 isUp), 2 Log (11 size, 12 stable, 13 updates, 14 checkpoints), 3 kinds, 4 owners, 5 places, 6 keysBefore, 7 valuesBefore, 8 keysThen, 9 valuesThen, 10 partners, 11 commits, 12 checkpointLsns, 14 + c its recs,
-- 34 Pool (6 fetches, 7 cameIn, 8 written), 37 isIn, 38 recs, 39 fetchedAt, 40 + 6 p disk page p (keys + 1, values + 2, its slot 2 the lsn), 43 + 6 p its frame, 77 seats, 79 + s the locks of seat s, 83 Recovery (3 isAnalysed, 4 nextRedo, 5 lastRedo), 84 table,
-- 85 transactions, 85 + t transaction t (0 number, 1 seat, 2 state, 3 outcome, 4 valueRead, 5 requestNumber, 6 key, 7 lock, 8 newValue)
def f_append (σ : Hp) (k o : Int) : Hp :=
  let τ1 := st2 σ 2 11 (σ 2 11 + 1)
  let τ2 := st2 τ1 3 (τ1 2 11) k
  let τ3 := st2 τ2 4 (τ2 2 11) o
  st2 τ3 10 (τ3 2 11) 0
def f_addUpdate (σ : Hp) (o pl kb vb k v : Int) : Hp :=
  let r := σ 2 11 + 1
  let τ1 := st2 (f_append σ 1 o) 5 r pl
  let τ2 := st2 (st2 τ1 6 r kb) 7 r vb
  let τ3 := st2 (st2 τ2 8 r k) 9 r v
  st2 τ3 2 13 (τ3 2 13 + 1)
def f_addClr (σ : Hp) (u : Int) : Hp :=
  let r := σ 2 11 + 1
  let τ := f_append σ 2 (σ 4 u)
  let τ1 := st2 τ 5 r (τ 5 u)
  let τ2 := st2 τ1 8 r (τ1 6 u)
  let τ3 := st2 τ2 9 r (τ2 7 u)
  st2 (st2 τ3 10 r u) 10 u r
def f_addCommit (σ : Hp) (o : Int) : Hp := st2 (f_append σ 3 o) 11 o (σ 2 11 + 1)
def f_addCk (σ : Hp) : Hp :=
  let τ := f_append σ 4 0
  let τ1 := cp6 τ 38 (14 + τ 2 14)
  let τ2 := st2 τ1 12 (τ1 2 14) (σ 2 11 + 1)
  st2 τ2 2 14 (τ2 2 14 + 1)
def f_isChange (σ : Hp) (i : Int) : Bool := decide (σ 3 i = 1) || decide (σ 3 i = 2)
def f_isOpen (σ : Hp) (i : Int) : Bool := decide (σ 3 i = 1) && decide (σ 10 i = 0) && decide (σ 11 (σ 4 i) = 0)
def f_gOpen (σ : Hp) : Int := srchD (f_isOpen σ) (σ 2 11).toNat
def f_ms (σ : Hp) (u : Int) : Hp := if σ 2 12 < u then st2 σ 2 12 u else σ
def f_forget (σ : Hp) (i : Int) : Hp := if σ 3 i = 1 then st2 σ 2 13 (σ 2 13 - 1) else if σ 3 i = 2 then st2 σ 10 (σ 10 i) 0 else if σ 3 i = 3 then st2 σ 11 (σ 4 i) 0 else st2 σ 2 14 (σ 2 14 - 1)
def f_loseL : Nat → Int → Hp → Hp
  | 0, _, σ => σ
  | k + 1, i, σ => f_loseL k (i + -1) (f_forget σ i)
def f_lose (σ : Hp) : Hp := st2 (f_loseL (σ 2 11 - σ 2 12).toNat (σ 2 11) σ) 2 11 (f_loseL (σ 2 11 - σ 2 12).toNat (σ 2 11) σ 2 12)
def f_cp (σ : Hp) (a b x : Int) : Hp := fun v i => if 0 ≤ i ∧ i < x then (if v = a + 1 then σ (b + 1) i else if v = a + 2 then σ (b + 2) i else σ v i) else σ v i
def f_copy (σ : Hp) (a b : Int) : Hp := st2 (f_cp σ a b 4) a 2 (f_cp σ a b 4 b 2)
def f_ask (σ : Hp) (one r k w v : Int) : Hp := st2 (st2 (st2 (st2 σ one 5 r) one 6 k) one 7 w) one 8 v
theorem f_append_eq (σ : Hp) (k o : Int) : f_append σ k o = fun a b => if a = 2 ∧ b = 11 then σ 2 11 + 1 else if b = σ 2 11 + 1 then (if a = 3 then k else if a = 4 then o else if a = 10 then 0 else σ a b) else σ a b := by
  funext a b
  simp only [f_append, st2]
  grind
theorem f_cp_0 (σ : Hp) (a b : Int) : f_cp σ a b 0 = σ := by
  funext v i
  simp only [f_cp]
  rw [if_neg (by omega)]
theorem f_cp_step {σ : Hp} {a b x : Int} (h0 : 0 ≤ x) (h1 : b + 1 ≠ a + 1) (h2 : b + 1 ≠ a + 2) (h3 : b + 2 ≠ a + 1) (h4 : b + 2 ≠ a + 2) : st2 (st2 (f_cp σ a b x) (a + 1) x (f_cp σ a b x (b + 1) x)) (a + 2) x (st2 (f_cp σ a b x) (a + 1) x (f_cp σ a b x (b + 1) x) (b + 2) x) = f_cp σ a b (x + 1) := by
  funext v i
  simp only [st2, f_cp]
  grind
theorem f_forget_fr (σ : Hp) (i : Int) {a : Int} (h1 : a ≠ 2) (h2 : a ≠ 10) (h3 : a ≠ 11) : f_forget σ i a = σ a := by
  simp only [f_forget]
  split
  · rw [st2_ne h1]
  · split
    · rw [st2_ne h2]
    · split
      · rw [st2_ne h3]
      · rw [st2_ne h1]
theorem f_forget_2 (σ : Hp) (i : Int) {b : Int} (h1 : b ≠ 13) (h2 : b ≠ 14) : f_forget σ i 2 b = σ 2 b := by
  simp only [f_forget]
  split
  · rw [st2_ii h1]
  · split
    · rw [st2_ne (by decide)]
    · split
      · rw [st2_ne (by decide)]
      · rw [st2_ii h2]
theorem f_forget_n (σ : Hp) (i : Int) : (f_forget σ i 2 13 = σ 2 13 ∨ f_forget σ i 2 13 = σ 2 13 - 1) ∧ (f_forget σ i 2 14 = σ 2 14 ∨ f_forget σ i 2 14 = σ 2 14 - 1) := by
  simp only [f_forget]
  split
  · exact ⟨Or.inr st2_eq, Or.inl (st2_ii (by decide))⟩
  · split
    · exact ⟨Or.inl (by rw [st2_ne (by decide)]), Or.inl (by rw [st2_ne (by decide)])⟩
    · split
      · exact ⟨Or.inl (by rw [st2_ne (by decide)]), Or.inl (by rw [st2_ne (by decide)])⟩
      · exact ⟨Or.inl (st2_ii (by decide)), Or.inr st2_eq⟩
theorem f_forget_10 (σ : Hp) (i j : Int) : f_forget σ i 10 j = σ 10 j ∨ f_forget σ i 10 j = 0 := by
  simp only [f_forget]
  split
  · left; rw [st2_ne (by decide)]
  · split
    · rw [st2_at]; split
      · right; rfl
      · left; rfl
    · left; split <;> rw [st2_ne (by decide)]
end
section
-- ===== the class: its log, contents, a transaction's request =====
theorem c_XL_append {n : Nat} {σ : Hp} {k o : Int} (hn : 85 ≤ n) (h0 : 0 ≤ σ 2 11) (h1 : σ 2 11 < 200) : Ok LyX TX y_XL_append b_XL_append 3 (some .int) 1 0 0 [.inr 2, .inl k, .inl o] n σ (pI n (f_append σ k o) (σ 2 11 + 1)) := by
  refine ok_mk (by decide) (Nat.le_of_ble_eq_true rfl) (fun K C rt ha hok hfx => ?_)
  show XW LyX TX K n σ 0 0 0 [some (.inr 2), some (.inl k), some (.inl o)] []
  refine x_aload_n C d_XL_append_0 rfl rfl ?_
  refine x_getI C 11 cf_XL fl_XL_47 d_XL_append_1 rfl (by decide) rfl rfl (by omega) (by omega) (fun r1 => ?_)
  refine x_sipush C d_XL_append_4 (by decide) (by decide) ?_
  refine x_icmp_lt (tgt := 12) C d_XL_append_7 rfl (fun h7 => ?_) (fun h7 => ?_)
  · refine x_aload_n C d_XL_append_12 rfl rfl ?_
    refine x_dup C d_XL_append_13 ?_
    refine x_getI C 11 cf_XL fl_XL_47 d_XL_append_14 rfl (by decide) rfl rfl (by omega) (by omega) (fun r14 => ?_)
    refine x_iconst C d_XL_append_17 (by decide) ?_
    refine x_iadd C d_XL_append_18 ⟨by omega, by omega⟩ ?_
    refine x_putI C 11 rfl cf_XL fl_XL_47 d_XL_append_19 rfl (Or.inl ⟨rfl, rfl⟩) rfl rfl rfl (by omega) (by omega) ?_
    refine x_aload_n C d_XL_append_22 rfl rfl ?_
    refine x_getC C 0 3 cf_XL fl_XL_9 d_XL_append_23 rfl rfl rfl (by omega) (by omega) rfl ?_
    refine x_aload_n C d_XL_append_26 rfl rfl ?_
    refine x_getI C 11 cf_XL fl_XL_47 d_XL_append_27 rfl (by decide) rfl rfl (by omega) (by omega) (fun r27 => ?_)
    refine x_iload_n C d_XL_append_30 rfl rfl ?_
    refine x_iast C d_XL_append_31 (by first | rfl | exact lx_A (by omega) (by omega) (by omega) | exact lx_H (by omega) (by omega) | exact lx_K (by omega) (by omega)) (by first | rfl | exact tx_T (by omega) | exact tx_A (by omega) (by omega) (by omega) | exact tx_HR (by omega) (by omega) | exact tx_KR (by omega) (by omega) | exact tx_L (by omega) (by omega)) (by omega) (by omega) (by simp [st2]; omega) (by simp [st2]; omega) ?_
    refine x_aload_n C d_XL_append_32 rfl rfl ?_
    refine x_getC C 1 4 cf_XL fl_XL_15 d_XL_append_33 rfl rfl rfl (by omega) (by omega) rfl ?_
    refine x_aload_n C d_XL_append_36 rfl rfl ?_
    refine x_getI C 11 cf_XL fl_XL_47 d_XL_append_37 rfl (by decide) rfl rfl (by omega) (by omega) (fun r37 => ?_)
    refine x_iload_n C d_XL_append_40 rfl rfl ?_
    refine x_iast C d_XL_append_41 (by first | rfl | exact lx_A (by omega) (by omega) (by omega) | exact lx_H (by omega) (by omega) | exact lx_K (by omega) (by omega)) (by first | rfl | exact tx_T (by omega) | exact tx_A (by omega) (by omega) (by omega) | exact tx_HR (by omega) (by omega) | exact tx_KR (by omega) (by omega) | exact tx_L (by omega) (by omega)) (by omega) (by omega) (by simp [st2]; omega) (by simp [st2]; omega) ?_
    refine x_aload_n C d_XL_append_42 rfl rfl ?_
    refine x_getC C 7 10 cf_XL fl_XL_33 d_XL_append_43 rfl rfl rfl (by omega) (by omega) rfl ?_
    refine x_aload_n C d_XL_append_46 rfl rfl ?_
    refine x_getI C 11 cf_XL fl_XL_47 d_XL_append_47 rfl (by decide) rfl rfl (by omega) (by omega) (fun r47 => ?_)
    refine x_iconst C d_XL_append_50 (by decide) ?_
    refine x_iast C d_XL_append_51 (by first | rfl | exact lx_A (by omega) (by omega) (by omega) | exact lx_H (by omega) (by omega) | exact lx_K (by omega) (by omega)) (by first | rfl | exact tx_T (by omega) | exact tx_A (by omega) (by omega) (by omega) | exact tx_HR (by omega) (by omega) | exact tx_KR (by omega) (by omega) | exact tx_L (by omega) (by omega)) (by omega) (by omega) (by simp [st2]; omega) (by simp [st2]; omega) ?_
    refine x_aload_n C d_XL_append_52 rfl rfl ?_
    refine x_getI C 11 cf_XL fl_XL_47 d_XL_append_53 rfl (by decide) rfl rfl (by omega) (by omega) (fun r53 => ?_)
    exact x_iret rt d_XL_append_56 (by omega) (by omega) ⟨by simp [st2], rfl, rfl⟩
  · exact absurd h7 (by omega)
theorem c_XL_addUpdate {n : Nat} {σ : Hp} {o pl kb vb k v : Int} (hn : 85 ≤ n) (h0 : 0 ≤ σ 2 11) (h1 : σ 2 11 < 200) (h2 : 0 ≤ σ 2 13) (h3 : σ 2 13 < 1000) : Ok LyX TX y_XL_addUpdate b_XL_addUpdate 8 (some .int) 2 0 0 [.inr 2, .inl o, .inl pl, .inl kb, .inl vb, .inl k, .inl v] n σ (pI n (f_addUpdate σ o pl kb vb k v) (σ 2 11 + 1)) := by
  refine ok_mk (by decide) (Nat.le_of_ble_eq_true rfl) (fun K C rt ha hok hfx => ?_)
  show XW LyX TX K n σ 0 0 0 [some (.inr 2), some (.inl o), some (.inl pl), some (.inl kb), some (.inl vb), some (.inl k), some (.inl v), none] []
  have e : f_append σ 1 o 2 13 = σ 2 13 := by simp [f_append_eq]
  refine x_aload_n C d_XL_addUpdate_0 rfl rfl ?_
  refine x_iconst C d_XL_addUpdate_1 (by decide) ?_
  refine x_iload_n C d_XL_addUpdate_2 rfl rfl ?_
  refine x_callV C cl_XL_51 cb_XL_append cs_XL_append d_XL_addUpdate_3 (c_XL_append hn h0 h1) rfl rfl rfl rfl (by first | rfl | exact lx_T (by omega) | exact lx_C (by omega) (by omega) (by omega)) (by omega) (by omega) (by decide) (by decide) (Nat.le_of_ble_eq_true rfl) (by omega) (by omega) ?_
  rintro _ _ _ ⟨rfl, rfl, rfl⟩ -
  skip
  refine x_istore C d_XL_addUpdate_6 (by decide) ?_
  refine x_aload_n C d_XL_addUpdate_8 rfl rfl ?_
  refine x_getC C 2 5 cf_XL fl_XL_18 d_XL_addUpdate_9 rfl rfl rfl (by omega) (by omega) rfl ?_
  refine x_iload C d_XL_addUpdate_12 rfl ?_
  refine x_iload_n C d_XL_addUpdate_14 rfl rfl ?_
  refine x_iast C d_XL_addUpdate_15 (by first | rfl | exact lx_A (by omega) (by omega) (by omega) | exact lx_H (by omega) (by omega) | exact lx_K (by omega) (by omega)) (by first | rfl | exact tx_T (by omega) | exact tx_A (by omega) (by omega) (by omega) | exact tx_HR (by omega) (by omega) | exact tx_KR (by omega) (by omega) | exact tx_L (by omega) (by omega)) (by omega) (by omega) (by omega) (by omega) ?_
  refine x_aload_n C d_XL_addUpdate_16 rfl rfl ?_
  refine x_getC C 3 6 cf_XL fl_XL_21 d_XL_addUpdate_17 rfl rfl rfl (by omega) (by omega) rfl ?_
  refine x_iload C d_XL_addUpdate_20 rfl ?_
  refine x_iload_n C d_XL_addUpdate_22 rfl rfl ?_
  refine x_iast C d_XL_addUpdate_23 (by first | rfl | exact lx_A (by omega) (by omega) (by omega) | exact lx_H (by omega) (by omega) | exact lx_K (by omega) (by omega)) (by first | rfl | exact tx_T (by omega) | exact tx_A (by omega) (by omega) (by omega) | exact tx_HR (by omega) (by omega) | exact tx_KR (by omega) (by omega) | exact tx_L (by omega) (by omega)) (by omega) (by omega) (by omega) (by omega) ?_
  refine x_aload_n C d_XL_addUpdate_24 rfl rfl ?_
  refine x_getC C 4 7 cf_XL fl_XL_24 d_XL_addUpdate_25 rfl rfl rfl (by omega) (by omega) rfl ?_
  refine x_iload C d_XL_addUpdate_28 rfl ?_
  refine x_iload C d_XL_addUpdate_30 rfl ?_
  refine x_iast C d_XL_addUpdate_32 (by first | rfl | exact lx_A (by omega) (by omega) (by omega) | exact lx_H (by omega) (by omega) | exact lx_K (by omega) (by omega)) (by first | rfl | exact tx_T (by omega) | exact tx_A (by omega) (by omega) (by omega) | exact tx_HR (by omega) (by omega) | exact tx_KR (by omega) (by omega) | exact tx_L (by omega) (by omega)) (by omega) (by omega) (by omega) (by omega) ?_
  refine x_aload_n C d_XL_addUpdate_33 rfl rfl ?_
  refine x_getC C 5 8 cf_XL fl_XL_27 d_XL_addUpdate_34 rfl rfl rfl (by omega) (by omega) rfl ?_
  refine x_iload C d_XL_addUpdate_37 rfl ?_
  refine x_iload C d_XL_addUpdate_39 rfl ?_
  refine x_iast C d_XL_addUpdate_41 (by first | rfl | exact lx_A (by omega) (by omega) (by omega) | exact lx_H (by omega) (by omega) | exact lx_K (by omega) (by omega)) (by first | rfl | exact tx_T (by omega) | exact tx_A (by omega) (by omega) (by omega) | exact tx_HR (by omega) (by omega) | exact tx_KR (by omega) (by omega) | exact tx_L (by omega) (by omega)) (by omega) (by omega) (by omega) (by omega) ?_
  refine x_aload_n C d_XL_addUpdate_42 rfl rfl ?_
  refine x_getC C 6 9 cf_XL fl_XL_30 d_XL_addUpdate_43 rfl rfl rfl (by omega) (by omega) rfl ?_
  refine x_iload C d_XL_addUpdate_46 rfl ?_
  refine x_iload C d_XL_addUpdate_48 rfl ?_
  refine x_iast C d_XL_addUpdate_50 (by first | rfl | exact lx_A (by omega) (by omega) (by omega) | exact lx_H (by omega) (by omega) | exact lx_K (by omega) (by omega)) (by first | rfl | exact tx_T (by omega) | exact tx_A (by omega) (by omega) (by omega) | exact tx_HR (by omega) (by omega) | exact tx_KR (by omega) (by omega) | exact tx_L (by omega) (by omega)) (by omega) (by omega) (by omega) (by omega) ?_
  refine x_aload_n C d_XL_addUpdate_51 rfl rfl ?_
  refine x_dup C d_XL_addUpdate_52 ?_
  refine x_getI C 13 cf_XL fl_XL_55 d_XL_addUpdate_53 rfl (by decide) rfl rfl (by omega) (by omega) (fun r53 => ?_)
  refine x_iconst C d_XL_addUpdate_56 (by decide) ?_
  refine x_iadd C d_XL_addUpdate_57 ⟨by simp [st2, e]; omega, by simp [st2, e]; omega⟩ ?_
  refine x_putI C 13 rfl cf_XL fl_XL_55 d_XL_addUpdate_58 rfl (Or.inl ⟨rfl, rfl⟩) rfl rfl rfl (by omega) (by omega) ?_
  refine x_iload C d_XL_addUpdate_61 rfl ?_
  exact x_iret rt d_XL_addUpdate_63 (by omega) (by omega) ⟨rfl, rfl, rfl⟩
theorem c_XL_addClr {n : Nat} {σ : Hp} {u : Int} (hn : 85 ≤ n) (h0 : 0 ≤ σ 2 11) (h1 : σ 2 11 < 200) (u0 : 0 ≤ u) (u1 : u ≤ 200) : Ok LyX TX y_XL_addClr b_XL_addClr 3 (some .int) 2 0 0 [.inr 2, .inl u] n σ (pI n (f_addClr σ u) (σ 2 11 + 1)) := by
  refine ok_mk (by decide) (Nat.le_of_ble_eq_true rfl) (fun K C rt ha hok hfx => ?_)
  show XW LyX TX K n σ 0 0 0 [some (.inr 2), some (.inl u), none] []
  refine x_aload_n C d_XL_addClr_0 rfl rfl ?_
  refine x_iconst C d_XL_addClr_1 (by decide) ?_
  refine x_aload_n C d_XL_addClr_2 rfl rfl ?_
  refine x_getC C 1 4 cf_XL fl_XL_15 d_XL_addClr_3 rfl rfl rfl (by omega) (by omega) rfl ?_
  refine x_iload_n C d_XL_addClr_6 rfl rfl ?_
  refine x_iald C d_XL_addClr_7 (by first | rfl | exact lx_A (by omega) (by omega) (by omega) | exact lx_H (by omega) (by omega) | exact lx_K (by omega) (by omega)) (by omega) (by omega) (by omega) (by omega) (fun r7 => ?_)
  refine x_callV C cl_XL_51 cb_XL_append cs_XL_append d_XL_addClr_8 (c_XL_append hn h0 h1) rfl rfl rfl rfl (by first | rfl | exact lx_T (by omega) | exact lx_C (by omega) (by omega) (by omega)) (by omega) (by omega) (by decide) (by decide) (Nat.le_of_ble_eq_true rfl) (by omega) (by omega) ?_
  rintro _ _ _ ⟨rfl, rfl, rfl⟩ -
  skip
  refine x_istore_n C d_XL_addClr_11 rfl (by decide) ?_
  refine x_aload_n C d_XL_addClr_12 rfl rfl ?_
  refine x_getC C 2 5 cf_XL fl_XL_18 d_XL_addClr_13 rfl rfl rfl (by omega) (by omega) rfl ?_
  refine x_iload_n C d_XL_addClr_16 rfl rfl ?_
  refine x_aload_n C d_XL_addClr_17 rfl rfl ?_
  refine x_getC C 2 5 cf_XL fl_XL_18 d_XL_addClr_18 rfl rfl rfl (by omega) (by omega) rfl ?_
  refine x_iload_n C d_XL_addClr_21 rfl rfl ?_
  refine x_iald C d_XL_addClr_22 (by first | rfl | exact lx_A (by omega) (by omega) (by omega) | exact lx_H (by omega) (by omega) | exact lx_K (by omega) (by omega)) (by omega) (by omega) (by omega) (by omega) (fun r22 => ?_)
  refine x_iast C d_XL_addClr_23 (by first | rfl | exact lx_A (by omega) (by omega) (by omega) | exact lx_H (by omega) (by omega) | exact lx_K (by omega) (by omega)) (by first | rfl | exact tx_T (by omega) | exact tx_A (by omega) (by omega) (by omega) | exact tx_HR (by omega) (by omega) | exact tx_KR (by omega) (by omega) | exact tx_L (by omega) (by omega)) (by omega) (by omega) (by omega) (by omega) ?_
  refine x_aload_n C d_XL_addClr_24 rfl rfl ?_
  refine x_getC C 5 8 cf_XL fl_XL_27 d_XL_addClr_25 rfl rfl rfl (by omega) (by omega) rfl ?_
  refine x_iload_n C d_XL_addClr_28 rfl rfl ?_
  refine x_aload_n C d_XL_addClr_29 rfl rfl ?_
  refine x_getC C 3 6 cf_XL fl_XL_21 d_XL_addClr_30 rfl rfl rfl (by omega) (by omega) rfl ?_
  refine x_iload_n C d_XL_addClr_33 rfl rfl ?_
  refine x_iald C d_XL_addClr_34 (by first | rfl | exact lx_A (by omega) (by omega) (by omega) | exact lx_H (by omega) (by omega) | exact lx_K (by omega) (by omega)) (by omega) (by omega) (by omega) (by omega) (fun r34 => ?_)
  refine x_iast C d_XL_addClr_35 (by first | rfl | exact lx_A (by omega) (by omega) (by omega) | exact lx_H (by omega) (by omega) | exact lx_K (by omega) (by omega)) (by first | rfl | exact tx_T (by omega) | exact tx_A (by omega) (by omega) (by omega) | exact tx_HR (by omega) (by omega) | exact tx_KR (by omega) (by omega) | exact tx_L (by omega) (by omega)) (by omega) (by omega) (by omega) (by omega) ?_
  refine x_aload_n C d_XL_addClr_36 rfl rfl ?_
  refine x_getC C 6 9 cf_XL fl_XL_30 d_XL_addClr_37 rfl rfl rfl (by omega) (by omega) rfl ?_
  refine x_iload_n C d_XL_addClr_40 rfl rfl ?_
  refine x_aload_n C d_XL_addClr_41 rfl rfl ?_
  refine x_getC C 4 7 cf_XL fl_XL_24 d_XL_addClr_42 rfl rfl rfl (by omega) (by omega) rfl ?_
  refine x_iload_n C d_XL_addClr_45 rfl rfl ?_
  refine x_iald C d_XL_addClr_46 (by first | rfl | exact lx_A (by omega) (by omega) (by omega) | exact lx_H (by omega) (by omega) | exact lx_K (by omega) (by omega)) (by omega) (by omega) (by omega) (by omega) (fun r46 => ?_)
  refine x_iast C d_XL_addClr_47 (by first | rfl | exact lx_A (by omega) (by omega) (by omega) | exact lx_H (by omega) (by omega) | exact lx_K (by omega) (by omega)) (by first | rfl | exact tx_T (by omega) | exact tx_A (by omega) (by omega) (by omega) | exact tx_HR (by omega) (by omega) | exact tx_KR (by omega) (by omega) | exact tx_L (by omega) (by omega)) (by omega) (by omega) (by omega) (by omega) ?_
  refine x_aload_n C d_XL_addClr_48 rfl rfl ?_
  refine x_getC C 7 10 cf_XL fl_XL_33 d_XL_addClr_49 rfl rfl rfl (by omega) (by omega) rfl ?_
  refine x_iload_n C d_XL_addClr_52 rfl rfl ?_
  refine x_iload_n C d_XL_addClr_53 rfl rfl ?_
  refine x_iast C d_XL_addClr_54 (by first | rfl | exact lx_A (by omega) (by omega) (by omega) | exact lx_H (by omega) (by omega) | exact lx_K (by omega) (by omega)) (by first | rfl | exact tx_T (by omega) | exact tx_A (by omega) (by omega) (by omega) | exact tx_HR (by omega) (by omega) | exact tx_KR (by omega) (by omega) | exact tx_L (by omega) (by omega)) (by omega) (by omega) (by omega) (by omega) ?_
  refine x_aload_n C d_XL_addClr_55 rfl rfl ?_
  refine x_getC C 7 10 cf_XL fl_XL_33 d_XL_addClr_56 rfl rfl rfl (by omega) (by omega) rfl ?_
  refine x_iload_n C d_XL_addClr_59 rfl rfl ?_
  refine x_iload_n C d_XL_addClr_60 rfl rfl ?_
  refine x_iast C d_XL_addClr_61 (by first | rfl | exact lx_A (by omega) (by omega) (by omega) | exact lx_H (by omega) (by omega) | exact lx_K (by omega) (by omega)) (by first | rfl | exact tx_T (by omega) | exact tx_A (by omega) (by omega) (by omega) | exact tx_HR (by omega) (by omega) | exact tx_KR (by omega) (by omega) | exact tx_L (by omega) (by omega)) (by omega) (by omega) (by omega) (by omega) ?_
  refine x_iload_n C d_XL_addClr_62 rfl rfl ?_
  exact x_iret rt d_XL_addClr_63 (by omega) (by omega) ⟨rfl, rfl, rfl⟩
theorem c_XL_addCommit {n : Nat} {σ : Hp} {o : Int} (hn : 85 ≤ n) (h0 : 0 ≤ σ 2 11) (h1 : σ 2 11 < 200) (u0 : 0 ≤ o) (u1 : o ≤ 60) : Ok LyX TX y_XL_addCommit b_XL_addCommit 2 none 2 0 0 [.inr 2, .inl o] n σ (pV n (f_addCommit σ o)) := by
  refine ok_mk (by decide) (Nat.le_of_ble_eq_true rfl) (fun K C rt ha hok hfx => ?_)
  show XW LyX TX K n σ 0 0 0 [some (.inr 2), some (.inl o)] []
  refine x_aload_n C d_XL_addCommit_0 rfl rfl ?_
  refine x_getC C 8 11 cf_XL fl_XL_36 d_XL_addCommit_1 rfl rfl rfl (by omega) (by omega) rfl ?_
  refine x_iload_n C d_XL_addCommit_4 rfl rfl ?_
  refine x_aload_n C d_XL_addCommit_5 rfl rfl ?_
  refine x_iconst C d_XL_addCommit_6 (by decide) ?_
  refine x_iload_n C d_XL_addCommit_7 rfl rfl ?_
  refine x_callV C cl_XL_51 cb_XL_append cs_XL_append d_XL_addCommit_8 (c_XL_append hn h0 h1) rfl rfl rfl rfl (by first | rfl | exact lx_T (by omega) | exact lx_C (by omega) (by omega) (by omega)) (by omega) (by omega) (by decide) (by decide) (Nat.le_of_ble_eq_true rfl) (by omega) (by omega) ?_
  rintro _ _ _ ⟨rfl, rfl, rfl⟩ -
  skip
  refine x_iast C d_XL_addCommit_11 (by first | rfl | exact lx_A (by omega) (by omega) (by omega) | exact lx_H (by omega) (by omega) | exact lx_K (by omega) (by omega)) (by first | rfl | exact tx_T (by omega) | exact tx_A (by omega) (by omega) (by omega) | exact tx_HR (by omega) (by omega) | exact tx_KR (by omega) (by omega) | exact tx_L (by omega) (by omega)) (by omega) (by omega) (by omega) (by omega) ?_
  exact x_vret rt d_XL_addCommit_12 (by omega) (by omega) ⟨rfl, rfl, rfl⟩
theorem c_XL_addCheckpoint {n : Nat} {σ : Hp} (hn : 85 ≤ n) (h0 : 0 ≤ σ 2 11) (h1 : σ 2 11 < 200) (u0 : 0 ≤ σ 2 14) (u1 : σ 2 14 < 20) : Ok LyX TX y_XL_addCheckpoint b_XL_addCheckpoint 3 (some .int) 2 0 0 [.inr 2, .inr 38] n σ (pI n (f_addCk σ) (σ 2 11 + 1)) := by
  refine ok_mk (by decide) (Nat.le_of_ble_eq_true rfl) (fun K C rt ha hok hfx => ?_)
  show XW LyX TX K n σ 0 0 0 [some (.inr 2), some (.inr 38), none] []
  have e : f_append σ 4 0 2 14 = σ 2 14 := by simp [f_append_eq]
  have e2 : cp6 (f_append σ 4 0) 38 (14 + f_append σ 4 0 2 14) 2 14 = σ 2 14 := by rw [e]; simp only [cp6]; rw [if_neg (by omega)]; exact e
  refine x_aload_n C d_XL_addCheckpoint_0 rfl rfl ?_
  refine x_iconst C d_XL_addCheckpoint_1 (by decide) ?_
  refine x_iconst C d_XL_addCheckpoint_2 (by decide) ?_
  refine x_callV C cl_XL_51 cb_XL_append cs_XL_append d_XL_addCheckpoint_3 (c_XL_append hn h0 h1) rfl rfl rfl rfl (by first | rfl | exact lx_T (by omega) | exact lx_C (by omega) (by omega) (by omega)) (by omega) (by omega) (by decide) (by decide) (Nat.le_of_ble_eq_true rfl) (by omega) (by omega) ?_
  rintro _ _ _ ⟨rfl, rfl, rfl⟩ -
  skip
  refine x_istore_n C d_XL_addCheckpoint_6 rfl (by decide) ?_
  refine x_aload_n C d_XL_addCheckpoint_7 rfl rfl ?_
  refine x_iconst C d_XL_addCheckpoint_8 (by decide) ?_
  refine x_aload_n C d_XL_addCheckpoint_9 rfl rfl ?_
  refine x_getC C 10 13 cf_XL fl_XL_44 d_XL_addCheckpoint_10 rfl rfl rfl (by omega) (by omega) rfl ?_
  refine x_aload_n C d_XL_addCheckpoint_13 rfl rfl ?_
  refine x_getI C 14 cf_XL fl_XL_58 d_XL_addCheckpoint_14 rfl (by decide) rfl rfl (by omega) (by omega) (fun r14 => ?_)
  refine x_aaldC C _ d_XL_addCheckpoint_17 rfl (by decide) (by omega) (by omega) (by omega) (by omega) (tx_K (by omega) (by omega)) ?_
  refine x_iconst C d_XL_addCheckpoint_18 (by decide) ?_
  refine x_bipush C d_XL_addCheckpoint_19 (by decide) (by decide) ?_
  refine x_copy6 C w_acL w_acN w_acS w_si d_XL_addCheckpoint_21 rfl (lx_K (by omega) (by omega)) (fun _ => tx_KR (by omega) (by omega)) (by omega) (by omega) (by omega) (by omega) (by decide) (Nat.le_of_ble_eq_true rfl) ?_
  refine x_aload_n C d_XL_addCheckpoint_24 rfl rfl ?_
  refine x_getC C 9 12 cf_XL fl_XL_39 d_XL_addCheckpoint_25 rfl rfl rfl (by omega) (by omega) rfl ?_
  refine x_aload_n C d_XL_addCheckpoint_28 rfl rfl ?_
  refine x_getI C 14 cf_XL fl_XL_58 d_XL_addCheckpoint_29 rfl (by decide) rfl rfl (by omega) (by omega) (fun r29 => ?_)
  refine x_iload_n C d_XL_addCheckpoint_32 rfl rfl ?_
  refine x_iast C d_XL_addCheckpoint_33 (by first | rfl | exact lx_A (by omega) (by omega) (by omega) | exact lx_H (by omega) (by omega) | exact lx_K (by omega) (by omega)) (by first | rfl | exact tx_T (by omega) | exact tx_A (by omega) (by omega) (by omega) | exact tx_HR (by omega) (by omega) | exact tx_KR (by omega) (by omega) | exact tx_L (by omega) (by omega)) (by omega) (by omega) (by omega) (by omega) ?_
  refine x_aload_n C d_XL_addCheckpoint_34 rfl rfl ?_
  refine x_dup C d_XL_addCheckpoint_35 ?_
  refine x_getI C 14 cf_XL fl_XL_58 d_XL_addCheckpoint_36 rfl (by decide) rfl rfl (by omega) (by omega) (fun r36 => ?_)
  refine x_iconst C d_XL_addCheckpoint_39 (by decide) ?_
  refine x_iadd C d_XL_addCheckpoint_40 ⟨by simp [st2, e2]; omega, by simp [st2, e2]; omega⟩ ?_
  refine x_putI C 14 rfl cf_XL fl_XL_58 d_XL_addCheckpoint_41 rfl (Or.inl ⟨rfl, rfl⟩) rfl rfl rfl (by omega) (by omega) ?_
  refine x_iload_n C d_XL_addCheckpoint_44 rfl rfl ?_
  exact x_iret rt d_XL_addCheckpoint_45 (by omega) (by omega) ⟨rfl, rfl, rfl⟩
theorem c_XL_isChange {n : Nat} {σ : Hp} {i : Int} (hn : 85 ≤ n) (u0 : 0 ≤ i) (u1 : i ≤ 200) : Ok LyX TX y_XL_isChange b_XL_isChange 2 (some .boolean) 1 0 0 [.inr 2, .inl i] n σ (pI n σ (b2i (f_isChange σ i))) := by
  refine ok_mk (by decide) (Nat.le_of_ble_eq_true rfl) (fun K C rt ha hok hfx => ?_)
  show XW LyX TX K n σ 0 0 0 [some (.inr 2), some (.inl i)] []
  refine x_aload_n C d_XL_isChange_0 rfl rfl ?_
  refine x_getC C 0 3 cf_XL fl_XL_9 d_XL_isChange_1 rfl rfl rfl (by omega) (by omega) rfl ?_
  refine x_iload_n C d_XL_isChange_4 rfl rfl ?_
  refine x_iald C d_XL_isChange_5 (by first | rfl | exact lx_A (by omega) (by omega) (by omega) | exact lx_H (by omega) (by omega) | exact lx_K (by omega) (by omega)) (by omega) (by omega) (by omega) (by omega) (fun r5 => ?_)
  refine x_iconst C d_XL_isChange_6 (by decide) ?_
  refine x_icmp_eq (tgt := 20) C d_XL_isChange_7 rfl (fun h7 => ?_) (fun h7 => ?_)
  · refine x_iconst C d_XL_isChange_20 (by decide) ?_
    refine x_goto (tgt := 25) C d_XL_isChange_21 rfl ?_
    exact x_zret rt d_XL_isChange_25 (by omega) (by omega) ⟨by decide, by decide⟩ ⟨by simp [f_isChange, b2i, *], rfl, rfl⟩
  · refine x_aload_n C d_XL_isChange_10 rfl rfl ?_
    refine x_getC C 0 3 cf_XL fl_XL_9 d_XL_isChange_11 rfl rfl rfl (by omega) (by omega) rfl ?_
    refine x_iload_n C d_XL_isChange_14 rfl rfl ?_
    refine x_iald C d_XL_isChange_15 (by first | rfl | exact lx_A (by omega) (by omega) (by omega) | exact lx_H (by omega) (by omega) | exact lx_K (by omega) (by omega)) (by omega) (by omega) (by omega) (by omega) (fun r15 => ?_)
    refine x_iconst C d_XL_isChange_16 (by decide) ?_
    refine x_icmp_ne (tgt := 24) C d_XL_isChange_17 rfl (fun h17 => ?_) (fun h17 => ?_)
    · refine x_iconst C d_XL_isChange_24 (by decide) ?_
      exact x_zret rt d_XL_isChange_25 (by omega) (by omega) ⟨by decide, by decide⟩ ⟨by simp [f_isChange, b2i, *], rfl, rfl⟩
    · refine x_iconst C d_XL_isChange_20 (by decide) ?_
      refine x_goto (tgt := 25) C d_XL_isChange_21 rfl ?_
      exact x_zret rt d_XL_isChange_25 (by omega) (by omega) ⟨by decide, by decide⟩ ⟨by simp [f_isChange, b2i, *], rfl, rfl⟩
theorem c_XL_isOpen {n : Nat} {σ : Hp} {i : Int} (hn : 85 ≤ n) (u0 : 0 ≤ i) (u1 : i ≤ 200) (o0 : 0 ≤ σ 4 i) (o1 : σ 4 i ≤ 60) : Ok LyX TX y_XL_isOpen b_XL_isOpen 2 (some .boolean) 1 0 0 [.inr 2, .inl i] n σ (pI n σ (b2i (f_isOpen σ i))) := by
  refine ok_mk (by decide) (Nat.le_of_ble_eq_true rfl) (fun K C rt ha hok hfx => ?_)
  show XW LyX TX K n σ 0 0 0 [some (.inr 2), some (.inl i)] []
  refine x_aload_n C d_XL_isOpen_0 rfl rfl ?_
  refine x_getC C 0 3 cf_XL fl_XL_9 d_XL_isOpen_1 rfl rfl rfl (by omega) (by omega) rfl ?_
  refine x_iload_n C d_XL_isOpen_4 rfl rfl ?_
  refine x_iald C d_XL_isOpen_5 (by first | rfl | exact lx_A (by omega) (by omega) (by omega) | exact lx_H (by omega) (by omega) | exact lx_K (by omega) (by omega)) (by omega) (by omega) (by omega) (by omega) (fun r5 => ?_)
  refine x_iconst C d_XL_isOpen_6 (by decide) ?_
  refine x_icmp_ne (tgt := 37) C d_XL_isOpen_7 rfl (fun h7 => ?_) (fun h7 => ?_)
  · refine x_iconst C d_XL_isOpen_37 (by decide) ?_
    exact x_zret rt d_XL_isOpen_38 (by omega) (by omega) ⟨by decide, by decide⟩ ⟨by simp [f_isOpen, b2i, *], rfl, rfl⟩
  · refine x_aload_n C d_XL_isOpen_10 rfl rfl ?_
    refine x_getC C 7 10 cf_XL fl_XL_33 d_XL_isOpen_11 rfl rfl rfl (by omega) (by omega) rfl ?_
    refine x_iload_n C d_XL_isOpen_14 rfl rfl ?_
    refine x_iald C d_XL_isOpen_15 (by first | rfl | exact lx_A (by omega) (by omega) (by omega) | exact lx_H (by omega) (by omega) | exact lx_K (by omega) (by omega)) (by omega) (by omega) (by omega) (by omega) (fun r15 => ?_)
    refine x_if_ne (tgt := 37) C d_XL_isOpen_16 rfl (fun h16 => ?_) (fun h16 => ?_)
    · refine x_iconst C d_XL_isOpen_37 (by decide) ?_
      exact x_zret rt d_XL_isOpen_38 (by omega) (by omega) ⟨by decide, by decide⟩ ⟨by simp [f_isOpen, b2i, *], rfl, rfl⟩
    · refine x_aload_n C d_XL_isOpen_19 rfl rfl ?_
      refine x_getC C 8 11 cf_XL fl_XL_36 d_XL_isOpen_20 rfl rfl rfl (by omega) (by omega) rfl ?_
      refine x_aload_n C d_XL_isOpen_23 rfl rfl ?_
      refine x_getC C 1 4 cf_XL fl_XL_15 d_XL_isOpen_24 rfl rfl rfl (by omega) (by omega) rfl ?_
      refine x_iload_n C d_XL_isOpen_27 rfl rfl ?_
      refine x_iald C d_XL_isOpen_28 (by first | rfl | exact lx_A (by omega) (by omega) (by omega) | exact lx_H (by omega) (by omega) | exact lx_K (by omega) (by omega)) (by omega) (by omega) (by omega) (by omega) (fun r28 => ?_)
      refine x_iald C d_XL_isOpen_29 (by first | rfl | exact lx_A (by omega) (by omega) (by omega) | exact lx_H (by omega) (by omega) | exact lx_K (by omega) (by omega)) (by omega) (by omega) (by omega) (by omega) (fun r29 => ?_)
      refine x_if_ne (tgt := 37) C d_XL_isOpen_30 rfl (fun h30 => ?_) (fun h30 => ?_)
      · refine x_iconst C d_XL_isOpen_37 (by decide) ?_
        exact x_zret rt d_XL_isOpen_38 (by omega) (by omega) ⟨by decide, by decide⟩ ⟨by simp [f_isOpen, b2i, *], rfl, rfl⟩
      · refine x_iconst C d_XL_isOpen_33 (by decide) ?_
        refine x_goto (tgt := 38) C d_XL_isOpen_34 rfl ?_
        exact x_zret rt d_XL_isOpen_38 (by omega) (by omega) ⟨by decide, by decide⟩ ⟨by simp [f_isOpen, b2i, *], rfl, rfl⟩
theorem c_XL_greatestOpen {n : Nat} {σ : Hp} (hn : 85 ≤ n) (h0 : 0 ≤ σ 2 11) (h1 : σ 2 11 ≤ 200) (ho : ∀ i : Int, 1 ≤ i → i ≤ σ 2 11 → 0 ≤ σ 4 i ∧ σ 4 i ≤ 60) : Ok LyX TX y_XL_greatestOpen b_XL_greatestOpen 2 (some .int) 2 0 0 [.inr 2] n σ (pI n σ (f_gOpen σ)) := by
  refine ok_mk (by decide) (Nat.le_of_ble_eq_true rfl) (fun K C rt ha hok hfx => ?_)
  show XW LyX TX K n σ 0 0 0 [some (.inr 2), none] []
  have loop : ∀ (i : Nat), (i : Int) ≤ σ 2 11 → srchD (f_isOpen σ) i = f_gOpen σ → XW LyX TX K n σ 0 0 5 [some (.inr 2), some (.inl (i : Int))] [] := by
    intro i
    induction i with
    | zero =>
      intro hi hm
      refine x_iload_n C d_XL_greatestOpen_5 rfl rfl ?_
      refine x_iconst C d_XL_greatestOpen_6 (by decide) ?_
      refine x_icmp_lt (tgt := 26) C d_XL_greatestOpen_7 rfl (fun h7 => ?_) (fun h7 => ?_)
      · refine x_iconst C d_XL_greatestOpen_26 (by decide) ?_
        exact x_iret rt d_XL_greatestOpen_27 (by omega) (by omega) ⟨by rw [← hm]; rfl, rfl, rfl⟩
      · exact absurd h7 (by omega)
    | succ i ih =>
      intro hi hm
      rw [show srchD (f_isOpen σ) (i + 1) = if f_isOpen σ ((i : Int) + 1) = true then (i : Int) + 1 else srchD (f_isOpen σ) i from rfl] at hm
      rw [show ((i + 1 : Nat) : Int) = (i : Int) + 1 from rfl]
      have hoi := ho ((i : Int) + 1) (by omega) (by omega)
      have ih2 := fun h => ih (by omega) h
      rw [show (i : Int) = (i : Int) + 1 + (-1) by omega] at ih2
      refine x_iload_n C d_XL_greatestOpen_5 rfl rfl ?_
      refine x_iconst C d_XL_greatestOpen_6 (by decide) ?_
      refine x_icmp_lt (tgt := 26) C d_XL_greatestOpen_7 rfl (fun h7 => ?_) (fun h7 => ?_)
      · exact absurd h7 (by omega)
      · refine x_aload_n C d_XL_greatestOpen_10 rfl rfl ?_
        refine x_iload_n C d_XL_greatestOpen_11 rfl rfl ?_
        refine x_callV C cl_XL_67 cb_XL_isOpen cs_XL_isOpen d_XL_greatestOpen_12 (c_XL_isOpen hn (by omega) (by omega) hoi.1 hoi.2) rfl rfl rfl rfl (by first | rfl | exact lx_T (by omega) | exact lx_C (by omega) (by omega) (by omega)) (by omega) (by omega) (by decide) (by decide) (Nat.le_of_ble_eq_true rfl) (by omega) (by omega) ?_
        rintro _ _ _ ⟨rfl, rfl, rfl⟩ -
        skip
        refine x_if_eq (tgt := 20) C d_XL_greatestOpen_15 rfl (fun h15 => ?_) (fun h15 => ?_)
        · refine x_iinc C d_XL_greatestOpen_20 (by decide) rfl ⟨by omega, by omega⟩ ?_
          refine x_goto (tgt := 5) C d_XL_greatestOpen_23 rfl ?_
          exact ih2 (by rw [← hm, if_neg (by intro hb; rw [hb] at h15; exact absurd h15 (by decide))])
        · refine x_iload_n C d_XL_greatestOpen_18 rfl rfl ?_
          exact x_iret rt d_XL_greatestOpen_19 (by omega) (by omega) ⟨by rw [← hm, if_pos (by cases hb : f_isOpen σ ((i : Int) + 1) <;> simp_all [b2i])], rfl, rfl⟩
  have hl := loop (σ 2 11).toNat (by omega) rfl
  rw [show (((σ 2 11).toNat : Nat) : Int) = σ 2 11 by omega] at hl
  refine x_aload_n C d_XL_greatestOpen_0 rfl rfl ?_
  refine x_getI C 11 cf_XL fl_XL_47 d_XL_greatestOpen_1 rfl (by decide) rfl rfl (by omega) (by omega) (fun r1 => ?_)
  refine x_istore_n C d_XL_greatestOpen_4 rfl (by decide) ?_
  exact hl
theorem c_XL_makeStable {n : Nat} {σ : Hp} {u : Int} (hn : 85 ≤ n) : Ok LyX TX y_XL_makeStable b_XL_makeStable 2 none 1 0 0 [.inr 2, .inl u] n σ (pV n (f_ms σ u)) := by
  refine ok_mk (by decide) (Nat.le_of_ble_eq_true rfl) (fun K C rt ha hok hfx => ?_)
  show XW LyX TX K n σ 0 0 0 [some (.inr 2), some (.inl u)] []
  refine x_aload_n C d_XL_makeStable_0 rfl rfl ?_
  refine x_getI C 12 cf_XL fl_XL_71 d_XL_makeStable_1 rfl (by decide) rfl rfl (by omega) (by omega) (fun r1 => ?_)
  refine x_iload_n C d_XL_makeStable_4 rfl rfl ?_
  refine x_icmp_ge (tgt := 13) C d_XL_makeStable_5 rfl (fun h5 => ?_) (fun h5 => ?_)
  · exact x_vret rt d_XL_makeStable_13 (by omega) (by omega) ⟨rfl, rfl, by simp only [f_ms]; first | rw [if_pos (by omega)] | rw [if_neg (by omega)]⟩
  · refine x_aload_n C d_XL_makeStable_8 rfl rfl ?_
    refine x_iload_n C d_XL_makeStable_9 rfl rfl ?_
    refine x_putI C 12 rfl cf_XL fl_XL_71 d_XL_makeStable_10 rfl (Or.inl ⟨rfl, rfl⟩) rfl rfl rfl (by omega) (by omega) ?_
    exact x_vret rt d_XL_makeStable_13 (by omega) (by omega) ⟨rfl, rfl, by simp only [f_ms]; first | rw [if_pos (by omega)] | rw [if_neg (by omega)]⟩
theorem c_XL_forget {n : Nat} {σ : Hp} {i : Int} (hn : 85 ≤ n) (u0 : 0 ≤ i) (u1 : i ≤ 200) (o0 : 0 ≤ σ 4 i) (o1 : σ 4 i ≤ 60) (p0 : 0 ≤ σ 10 i) (p1 : σ 10 i ≤ 200) (c0 : -1000 ≤ σ 2 13) (c1 : σ 2 13 ≤ 1000) (c2 : -1000 ≤ σ 2 14) (c3 : σ 2 14 ≤ 1000) : Ok LyX TX y_XL_forget b_XL_forget 2 none 1 0 0 [.inr 2, .inl i] n σ (pV n (f_forget σ i)) := by
  refine ok_mk (by decide) (Nat.le_of_ble_eq_true rfl) (fun K C rt ha hok hfx => ?_)
  show XW LyX TX K n σ 0 0 0 [some (.inr 2), some (.inl i)] []
  refine x_aload_n C d_XL_forget_0 rfl rfl ?_
  refine x_getC C 0 3 cf_XL fl_XL_9 d_XL_forget_1 rfl rfl rfl (by omega) (by omega) rfl ?_
  refine x_iload_n C d_XL_forget_4 rfl rfl ?_
  refine x_iald C d_XL_forget_5 (by first | rfl | exact lx_A (by omega) (by omega) (by omega) | exact lx_H (by omega) (by omega) | exact lx_K (by omega) (by omega)) (by omega) (by omega) (by omega) (by omega) (fun r5 => ?_)
  by_cases h6 : 1 ≤ σ 3 i ∧ σ 3 i ≤ 3
  · rcases (show σ 3 i = 1 ∨ σ 3 i = 2 ∨ σ 3 i = 3 by omega) with h6x | h6x | h6x
    · refine x_table (off := 26) (tgt := 32) C d_XL_forget_6 (Or.inl ⟨by omega, by omega, by rw [h6x]; rfl⟩) rfl ?_
      refine x_aload_n C d_XL_forget_32 rfl rfl ?_
      refine x_dup C d_XL_forget_33 ?_
      refine x_getI C 13 cf_XL fl_XL_55 d_XL_forget_34 rfl (by decide) rfl rfl (by omega) (by omega) (fun r34 => ?_)
      refine x_iconst C d_XL_forget_37 (by decide) ?_
      refine x_isub C d_XL_forget_38 ⟨by omega, by omega⟩ ?_
      refine x_putI C 13 rfl cf_XL fl_XL_55 d_XL_forget_39 rfl (Or.inl ⟨rfl, rfl⟩) rfl rfl rfl (by omega) (by omega) ?_
      refine x_goto (tgt := 85) C d_XL_forget_42 rfl ?_
      exact x_vret rt d_XL_forget_85 (by omega) (by omega) ⟨rfl, rfl, by simp only [f_forget]; first | (rw [if_pos h6x]; done) | (rw [if_neg (by omega), if_pos h6x]; done) | (rw [if_neg (by omega), if_neg (by omega), if_pos h6x]; done) | (rw [if_neg (by omega), if_neg (by omega), if_neg (by omega)]; done)⟩
    · refine x_table (off := 39) (tgt := 45) C d_XL_forget_6 (Or.inl ⟨by omega, by omega, by rw [h6x]; rfl⟩) rfl ?_
      refine x_aload_n C d_XL_forget_45 rfl rfl ?_
      refine x_getC C 7 10 cf_XL fl_XL_33 d_XL_forget_46 rfl rfl rfl (by omega) (by omega) rfl ?_
      refine x_aload_n C d_XL_forget_49 rfl rfl ?_
      refine x_getC C 7 10 cf_XL fl_XL_33 d_XL_forget_50 rfl rfl rfl (by omega) (by omega) rfl ?_
      refine x_iload_n C d_XL_forget_53 rfl rfl ?_
      refine x_iald C d_XL_forget_54 (by first | rfl | exact lx_A (by omega) (by omega) (by omega) | exact lx_H (by omega) (by omega) | exact lx_K (by omega) (by omega)) (by omega) (by omega) (by omega) (by omega) (fun r54 => ?_)
      refine x_iconst C d_XL_forget_55 (by decide) ?_
      refine x_iast C d_XL_forget_56 (by first | rfl | exact lx_A (by omega) (by omega) (by omega) | exact lx_H (by omega) (by omega) | exact lx_K (by omega) (by omega)) (by first | rfl | exact tx_T (by omega) | exact tx_A (by omega) (by omega) (by omega) | exact tx_HR (by omega) (by omega) | exact tx_KR (by omega) (by omega) | exact tx_L (by omega) (by omega)) (by omega) (by omega) (by omega) (by omega) ?_
      refine x_goto (tgt := 85) C d_XL_forget_57 rfl ?_
      exact x_vret rt d_XL_forget_85 (by omega) (by omega) ⟨rfl, rfl, by simp only [f_forget]; first | (rw [if_pos h6x]; done) | (rw [if_neg (by omega), if_pos h6x]; done) | (rw [if_neg (by omega), if_neg (by omega), if_pos h6x]; done) | (rw [if_neg (by omega), if_neg (by omega), if_neg (by omega)]; done)⟩
    · refine x_table (off := 54) (tgt := 60) C d_XL_forget_6 (Or.inl ⟨by omega, by omega, by rw [h6x]; rfl⟩) rfl ?_
      refine x_aload_n C d_XL_forget_60 rfl rfl ?_
      refine x_getC C 8 11 cf_XL fl_XL_36 d_XL_forget_61 rfl rfl rfl (by omega) (by omega) rfl ?_
      refine x_aload_n C d_XL_forget_64 rfl rfl ?_
      refine x_getC C 1 4 cf_XL fl_XL_15 d_XL_forget_65 rfl rfl rfl (by omega) (by omega) rfl ?_
      refine x_iload_n C d_XL_forget_68 rfl rfl ?_
      refine x_iald C d_XL_forget_69 (by first | rfl | exact lx_A (by omega) (by omega) (by omega) | exact lx_H (by omega) (by omega) | exact lx_K (by omega) (by omega)) (by omega) (by omega) (by omega) (by omega) (fun r69 => ?_)
      refine x_iconst C d_XL_forget_70 (by decide) ?_
      refine x_iast C d_XL_forget_71 (by first | rfl | exact lx_A (by omega) (by omega) (by omega) | exact lx_H (by omega) (by omega) | exact lx_K (by omega) (by omega)) (by first | rfl | exact tx_T (by omega) | exact tx_A (by omega) (by omega) (by omega) | exact tx_HR (by omega) (by omega) | exact tx_KR (by omega) (by omega) | exact tx_L (by omega) (by omega)) (by omega) (by omega) (by omega) (by omega) ?_
      refine x_goto (tgt := 85) C d_XL_forget_72 rfl ?_
      exact x_vret rt d_XL_forget_85 (by omega) (by omega) ⟨rfl, rfl, by simp only [f_forget]; first | (rw [if_pos h6x]; done) | (rw [if_neg (by omega), if_pos h6x]; done) | (rw [if_neg (by omega), if_neg (by omega), if_pos h6x]; done) | (rw [if_neg (by omega), if_neg (by omega), if_neg (by omega)]; done)⟩
  · refine x_table (off := 69) (tgt := 75) C d_XL_forget_6 (Or.inr ⟨by omega, rfl⟩) rfl ?_
    refine x_aload_n C d_XL_forget_75 rfl rfl ?_
    refine x_dup C d_XL_forget_76 ?_
    refine x_getI C 14 cf_XL fl_XL_58 d_XL_forget_77 rfl (by decide) rfl rfl (by omega) (by omega) (fun r77 => ?_)
    refine x_iconst C d_XL_forget_80 (by decide) ?_
    refine x_isub C d_XL_forget_81 ⟨by omega, by omega⟩ ?_
    refine x_putI C 14 rfl cf_XL fl_XL_58 d_XL_forget_82 rfl (Or.inl ⟨rfl, rfl⟩) rfl rfl rfl (by omega) (by omega) ?_
    exact x_vret rt d_XL_forget_85 (by omega) (by omega) ⟨rfl, rfl, by simp only [f_forget]; first | (rw [if_pos h6x]; done) | (rw [if_neg (by omega), if_pos h6x]; done) | (rw [if_neg (by omega), if_neg (by omega), if_pos h6x]; done) | (rw [if_neg (by omega), if_neg (by omega), if_neg (by omega)]; done)⟩
theorem c_XL_loseUnstable {n : Nat} {σ : Hp} (hn : 85 ≤ n) (h0 : 0 ≤ σ 2 12) (h1 : σ 2 12 ≤ σ 2 11) (h2 : σ 2 11 ≤ 200) (ho : ∀ i : Int, 1 ≤ i → i ≤ σ 2 11 → 0 ≤ σ 4 i ∧ σ 4 i ≤ 60 ∧ 0 ≤ σ 10 i ∧ σ 10 i ≤ 200) (c0 : 0 ≤ σ 2 13) (c1 : σ 2 13 ≤ 300) (c2 : 0 ≤ σ 2 14) (c3 : σ 2 14 ≤ 300) : Ok LyX TX y_XL_loseUnstable b_XL_loseUnstable 2 none 2 0 0 [.inr 2] n σ (pV n (f_lose σ)) := by
  refine ok_mk (by decide) (Nat.le_of_ble_eq_true rfl) (fun K C rt ha hok hfx => ?_)
  show XW LyX TX K n σ 0 0 0 [some (.inr 2), none] []
  have loop : ∀ (k : Nat) (i : Int) (τ : Hp), i = σ 2 12 + k → i ≤ σ 2 11 → τ 2 12 = σ 2 12 → τ 4 = σ 4 → (∀ j : Int, 1 ≤ j → j ≤ σ 2 11 → 0 ≤ τ 10 j ∧ τ 10 j ≤ 200) → (σ 2 13 - (σ 2 11 - i) ≤ τ 2 13 ∧ τ 2 13 ≤ σ 2 13) → (σ 2 14 - (σ 2 11 - i) ≤ τ 2 14 ∧ τ 2 14 ≤ σ 2 14) → f_loseL k i τ = f_loseL (σ 2 11 - σ 2 12).toNat (σ 2 11) σ → XW LyX TX K n τ 0 0 5 [some (.inr 2), some (.inl i)] [] := by
    intro k
    induction k with
    | zero =>
      intro i τ hi hi2 e12 e4 e10 e13 e14 hm
      have hm : τ = f_loseL (σ 2 11 - σ 2 12).toNat (σ 2 11) σ := hm
      refine x_iload_n C d_XL_loseUnstable_5 rfl rfl ?_
      refine x_aload_n C d_XL_loseUnstable_6 rfl rfl ?_
      refine x_getI C 12 cf_XL fl_XL_71 d_XL_loseUnstable_7 rfl (by decide) rfl rfl (by omega) (by omega) (fun r7 => ?_)
      refine x_icmp_le (tgt := 24) C d_XL_loseUnstable_10 rfl (fun h10 => ?_) (fun h10 => ?_)
      · refine x_aload_n C d_XL_loseUnstable_24 rfl rfl ?_
        refine x_aload_n C d_XL_loseUnstable_25 rfl rfl ?_
        refine x_getI C 12 cf_XL fl_XL_71 d_XL_loseUnstable_26 rfl (by decide) rfl rfl (by omega) (by omega) (fun r26 => ?_)
        refine x_putI C 11 rfl cf_XL fl_XL_47 d_XL_loseUnstable_29 rfl (Or.inl ⟨rfl, rfl⟩) rfl rfl rfl (by omega) (by omega) ?_
        exact x_vret rt d_XL_loseUnstable_32 (by omega) (by omega) ⟨rfl, rfl, by rw [f_lose, ← hm]⟩
      · exact absurd h10 (by omega)
    | succ k ih =>
      intro i τ hi hi2 e12 e4 e10 e13 e14 hm
      have hoi := ho i (by omega) hi2
      have h10i := e10 i (by omega) hi2
      have e4i : τ 4 i = σ 4 i := by rw [e4]
      have ih2 := ih (i + -1) (f_forget τ i) (by omega) (by omega) (by rw [f_forget_2 _ _ (by decide) (by decide)]; exact e12) (by rw [f_forget_fr _ _ (by decide) (by decide) (by decide)]; exact e4)
        (fun j a b => by
          have := e10 j a b
          rcases f_forget_10 τ i j with h | h <;> omega) (by
          have h := (f_forget_n τ i).1
          omega) (by
          have h := (f_forget_n τ i).2
          omega) hm
      refine x_iload_n C d_XL_loseUnstable_5 rfl rfl ?_
      refine x_aload_n C d_XL_loseUnstable_6 rfl rfl ?_
      refine x_getI C 12 cf_XL fl_XL_71 d_XL_loseUnstable_7 rfl (by decide) rfl rfl (by omega) (by omega) (fun r7 => ?_)
      refine x_icmp_le (tgt := 24) C d_XL_loseUnstable_10 rfl (fun h10 => ?_) (fun h10 => ?_)
      · exact absurd h10 (by omega)
      · refine x_aload_n C d_XL_loseUnstable_13 rfl rfl ?_
        refine x_iload_n C d_XL_loseUnstable_14 rfl rfl ?_
        refine x_callV C cl_XL_74 cb_XL_forget cs_XL_forget d_XL_loseUnstable_15 (c_XL_forget hn (by omega) (by omega) (by omega) (by omega) h10i.1 h10i.2 (by omega) (by omega) (by omega) (by omega)) rfl rfl rfl rfl (by first | rfl | exact lx_T (by omega) | exact lx_C (by omega) (by omega) (by omega)) (by omega) (by omega) (by decide) (by decide) (Nat.le_of_ble_eq_true rfl) (by omega) (by omega) ?_
        rintro _ _ _ ⟨rfl, rfl, rfl⟩ -
        skip
        refine x_iinc C d_XL_loseUnstable_18 (by decide) rfl ⟨by omega, by omega⟩ ?_
        refine x_goto (tgt := 5) C d_XL_loseUnstable_21 rfl ?_
        exact ih2
  refine x_aload_n C d_XL_loseUnstable_0 rfl rfl ?_
  refine x_getI C 11 cf_XL fl_XL_47 d_XL_loseUnstable_1 rfl (by decide) rfl rfl (by omega) (by omega) (fun r1 => ?_)
  refine x_istore_n C d_XL_loseUnstable_4 rfl (by decide) ?_
  exact loop (σ 2 11 - σ 2 12).toNat (σ 2 11) σ (by omega) (Int.le_refl _) rfl rfl (fun j a b => (ho j a b).2.2) (by omega) (by omega) rfl
theorem c_XC_copy {n : Nat} {σ : Hp} {a b : Int} (hn : 85 ≤ n) (a0 : 40 ≤ a) (a1 : a < 76) (a2 : (a - 40) % 3 = 0) (b0 : 40 ≤ b) (b1 : b < 76) (b2 : (b - 40) % 3 = 0) (hab : a ≠ b) : Ok LyX TX y_XC_copy b_XC_copy 3 none 1 0 0 [.inr a, .inr b] n σ (pV n (f_copy σ a b)) := by
  refine ok_mk (by decide) (Nat.le_of_ble_eq_true rfl) (fun K C rt ha hok hfx => ?_)
  show XW LyX TX K n σ 0 0 0 [some (.inr a), some (.inr b), none] []
  have loop : ∀ (k : Nat) (x : Int), 0 ≤ x → x + k = 4 → XW LyX TX K n (f_cp σ a b x) 0 0 2 [some (.inr a), some (.inr b), some (.inl x)] [] := by
    intro k
    induction k with
    | zero =>
      intro x hx hk
      obtain rfl : x = 4 := by omega
      refine x_iload_n C d_XC_copy_2 rfl rfl ?_
      refine x_iconst C d_XC_copy_3 (by decide) ?_
      refine x_icmp_ge (tgt := 37) C d_XC_copy_4 rfl (fun h4 => ?_) (fun h4 => ?_)
      · refine x_aload_n C d_XC_copy_37 rfl rfl ?_
        refine x_aload_n C d_XC_copy_38 rfl rfl ?_
        refine x_getI C 2 cf_XC fl_XC_18 d_XC_copy_39 rfl (by decide) rfl (by first | rfl | exact lx_T (by omega) | exact lx_C (by omega) (by omega) (by omega)) (by omega) (by omega) (fun r39 => ?_)
        refine x_putI C 2 rfl cf_XC fl_XC_18 d_XC_copy_42 rfl (Or.inl ⟨rfl, rfl⟩) rfl (by first | rfl | exact tx_T (by omega) | exact tx_A (by omega) (by omega) (by omega) | exact tx_HR (by omega) (by omega) | exact tx_KR (by omega) (by omega) | exact tx_L (by omega) (by omega)) (by first | rfl | exact lx_T (by omega) | exact lx_C (by omega) (by omega) (by omega)) (by omega) (by omega) ?_
        exact x_vret rt d_XC_copy_45 (by omega) (by omega) ⟨rfl, rfl, rfl⟩
      · exact absurd h4 (by omega)
    | succ k ih =>
      intro x hx hk
      refine x_iload_n C d_XC_copy_2 rfl rfl ?_
      refine x_iconst C d_XC_copy_3 (by decide) ?_
      refine x_icmp_ge (tgt := 37) C d_XC_copy_4 rfl (fun h4 => ?_) (fun h4 => ?_)
      · exact absurd h4 (by omega)
      · refine x_aload_n C d_XC_copy_7 rfl rfl ?_
        refine x_getC C 0 _ cf_XC fl_XC_9 d_XC_copy_8 rfl rfl (by first | rfl | exact lx_T (by omega) | exact lx_C (by omega) (by omega) (by omega)) (by omega) (by omega) (tx_C0 (by omega) (by omega) (by omega)) ?_
        refine x_iload_n C d_XC_copy_11 rfl rfl ?_
        refine x_aload_n C d_XC_copy_12 rfl rfl ?_
        refine x_getC C 0 _ cf_XC fl_XC_9 d_XC_copy_13 rfl rfl (by first | rfl | exact lx_T (by omega) | exact lx_C (by omega) (by omega) (by omega)) (by omega) (by omega) (tx_C0 (by omega) (by omega) (by omega)) ?_
        refine x_iload_n C d_XC_copy_16 rfl rfl ?_
        refine x_iald C d_XC_copy_17 (by first | rfl | exact lx_A (by omega) (by omega) (by omega) | exact lx_H (by omega) (by omega) | exact lx_K (by omega) (by omega)) (by omega) (by omega) (by omega) (by omega) (fun r17 => ?_)
        refine x_iast C d_XC_copy_18 (by first | rfl | exact lx_A (by omega) (by omega) (by omega) | exact lx_H (by omega) (by omega) | exact lx_K (by omega) (by omega)) (by first | rfl | exact tx_T (by omega) | exact tx_A (by omega) (by omega) (by omega) | exact tx_HR (by omega) (by omega) | exact tx_KR (by omega) (by omega) | exact tx_L (by omega) (by omega)) (by omega) (by omega) (by omega) (by omega) ?_
        refine x_aload_n C d_XC_copy_19 rfl rfl ?_
        refine x_getC C 1 _ cf_XC fl_XC_15 d_XC_copy_20 rfl rfl (by first | rfl | exact lx_T (by omega) | exact lx_C (by omega) (by omega) (by omega)) (by omega) (by omega) (tx_C1 (by omega) (by omega) (by omega)) ?_
        refine x_iload_n C d_XC_copy_23 rfl rfl ?_
        refine x_aload_n C d_XC_copy_24 rfl rfl ?_
        refine x_getC C 1 _ cf_XC fl_XC_15 d_XC_copy_25 rfl rfl (by first | rfl | exact lx_T (by omega) | exact lx_C (by omega) (by omega) (by omega)) (by omega) (by omega) (tx_C1 (by omega) (by omega) (by omega)) ?_
        refine x_iload_n C d_XC_copy_28 rfl rfl ?_
        refine x_iald C d_XC_copy_29 (by first | rfl | exact lx_A (by omega) (by omega) (by omega) | exact lx_H (by omega) (by omega) | exact lx_K (by omega) (by omega)) (by omega) (by omega) (by omega) (by omega) (fun r29 => ?_)
        refine x_iast C d_XC_copy_30 (by first | rfl | exact lx_A (by omega) (by omega) (by omega) | exact lx_H (by omega) (by omega) | exact lx_K (by omega) (by omega)) (by first | rfl | exact tx_T (by omega) | exact tx_A (by omega) (by omega) (by omega) | exact tx_HR (by omega) (by omega) | exact tx_KR (by omega) (by omega) | exact tx_L (by omega) (by omega)) (by omega) (by omega) (by omega) (by omega) ?_
        refine x_iinc C d_XC_copy_31 (by decide) rfl ⟨by omega, by omega⟩ ?_
        refine x_goto (tgt := 2) C d_XC_copy_34 rfl ?_
        rw [f_cp_step hx (by omega) (by omega) (by omega) (by omega)]
        exact ih (x + 1) (by omega) (by omega)
  have hl := loop 4 0 (by omega) (by omega)
  rw [f_cp_0] at hl
  refine x_iconst C d_XC_copy_0 (by decide) ?_
  refine x_istore_n C d_XC_copy_1 rfl (by decide) ?_
  exact hl
theorem c_XT_ask {n : Nat} {σ : Hp} {one r k w v : Int} (h0 : 86 ≤ one) (h1 : one ≤ (n : Int)) : Ok LyX TX y_XT_ask b_XT_ask 5 none 1 0 0 [.inr one, .inl r, .inl k, .inl w, .inl v] n σ (pV n (f_ask σ one r k w v)) := by
  refine ok_mk (by decide) (Nat.le_of_ble_eq_true rfl) (fun K C rt ha hok hfx => ?_)
  show XW LyX TX K n σ 0 0 0 [some (.inr one), some (.inl r), some (.inl k), some (.inl w), some (.inl v)] []
  refine x_aload_n C d_XT_ask_0 rfl rfl ?_
  refine x_iload_n C d_XT_ask_1 rfl rfl ?_
  refine x_putI C 5 rfl cf_XT fl_XT_24 d_XT_ask_2 rfl (Or.inl ⟨rfl, rfl⟩) rfl (by first | rfl | exact tx_T (by omega) | exact tx_A (by omega) (by omega) (by omega) | exact tx_HR (by omega) (by omega) | exact tx_KR (by omega) (by omega) | exact tx_L (by omega) (by omega)) (by first | rfl | exact lx_T (by omega) | exact lx_C (by omega) (by omega) (by omega)) (by omega) (by omega) ?_
  refine x_aload_n C d_XT_ask_5 rfl rfl ?_
  refine x_iload_n C d_XT_ask_6 rfl rfl ?_
  refine x_putI C 6 rfl cf_XT fl_XT_27 d_XT_ask_7 rfl (Or.inl ⟨rfl, rfl⟩) rfl (by first | rfl | exact tx_T (by omega) | exact tx_A (by omega) (by omega) (by omega) | exact tx_HR (by omega) (by omega) | exact tx_KR (by omega) (by omega) | exact tx_L (by omega) (by omega)) (by first | rfl | exact lx_T (by omega) | exact lx_C (by omega) (by omega) (by omega)) (by omega) (by omega) ?_
  refine x_aload_n C d_XT_ask_10 rfl rfl ?_
  refine x_iload_n C d_XT_ask_11 rfl rfl ?_
  refine x_putI C 7 rfl cf_XT fl_XT_30 d_XT_ask_12 rfl (Or.inl ⟨rfl, rfl⟩) rfl (by first | rfl | exact tx_T (by omega) | exact tx_A (by omega) (by omega) (by omega) | exact tx_HR (by omega) (by omega) | exact tx_KR (by omega) (by omega) | exact tx_L (by omega) (by omega)) (by first | rfl | exact lx_T (by omega) | exact lx_C (by omega) (by omega) (by omega)) (by omega) (by omega) ?_
  refine x_aload_n C d_XT_ask_15 rfl rfl ?_
  refine x_iload C d_XT_ask_16 rfl ?_
  refine x_putI C 8 rfl cf_XT fl_XT_33 d_XT_ask_18 rfl (Or.inl ⟨rfl, rfl⟩) rfl (by first | rfl | exact tx_T (by omega) | exact tx_A (by omega) (by omega) (by omega) | exact tx_HR (by omega) (by omega) | exact tx_KR (by omega) (by omega) | exact tx_L (by omega) (by omega)) (by first | rfl | exact lx_T (by omega) | exact lx_C (by omega) (by omega) (by omega)) (by omega) (by omega) ?_
  exact x_vret rt d_XT_ask_21 (by omega) (by omega) ⟨rfl, rfl, rfl⟩
end
