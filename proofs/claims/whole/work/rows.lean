section
/-- a private method of a class that the tables say can be made, by its rows of tables_1 -/
def lw_okq (q : MethodName × Nat) : Prop := (q.1.cls ≠ "java/lang/invoke/MethodHandle" ∧ q.1.cls ≠ "java/lang/invoke/VarHandle") ∧ Cond.instantiable q.1.cls q.2 ∈ tables_1 ∧ Cond.privateMethod q.1 ∈ tables_1 ∧ Cond.instanceMethod q.1 ∈ tables_1
theorem lw_p0 : lw_okq (⟨"DayCubes$Reader", "nextToken", "()V"⟩, 6) := ⟨⟨by decide +kernel, by decide +kernel⟩, List.mem_of_getElem? (i := 23) (by decide +kernel), List.mem_of_getElem? (i := 282) (by decide +kernel), List.mem_of_getElem? (i := 283) (by decide +kernel)⟩
theorem lw_p1 : lw_okq (⟨"DayCubes$Reader", "takeLetters", "()V"⟩, 6) := ⟨⟨by decide +kernel, by decide +kernel⟩, List.mem_of_getElem? (i := 23) (by decide +kernel), List.mem_of_getElem? (i := 289) (by decide +kernel), List.mem_of_getElem? (i := 290) (by decide +kernel)⟩
theorem lw_p2 : lw_okq (⟨"DayCubes$Reader", "takeDigits", "()V"⟩, 6) := ⟨⟨by decide +kernel, by decide +kernel⟩, List.mem_of_getElem? (i := 23) (by decide +kernel), List.mem_of_getElem? (i := 296) (by decide +kernel), List.mem_of_getElem? (i := 297) (by decide +kernel)⟩
theorem lw_p3 : lw_okq (⟨"DayCubes$Reader", "readItem", "(LDayCubes$Told;)Z"⟩, 6) := ⟨⟨by decide +kernel, by decide +kernel⟩, List.mem_of_getElem? (i := 23) (by decide +kernel), List.mem_of_getElem? (i := 303) (by decide +kernel), List.mem_of_getElem? (i := 304) (by decide +kernel)⟩
theorem lw_p4 : lw_okq (⟨"DayCubes$Reader", "readBoth", "(LDayCubes$Told;)Z"⟩, 6) := ⟨⟨by decide +kernel, by decide +kernel⟩, List.mem_of_getElem? (i := 23) (by decide +kernel), List.mem_of_getElem? (i := 307) (by decide +kernel), List.mem_of_getElem? (i := 308) (by decide +kernel)⟩
theorem lw_p5 : lw_okq (⟨"DayCubes$Reader", "readCube", "(LDayCubes$Told;)Z"⟩, 6) := ⟨⟨by decide +kernel, by decide +kernel⟩, List.mem_of_getElem? (i := 23) (by decide +kernel), List.mem_of_getElem? (i := 311) (by decide +kernel), List.mem_of_getElem? (i := 312) (by decide +kernel)⟩
theorem lw_p6 : lw_okq (⟨"DayCubes$Reader", "isNumberBelow", "(I)Z"⟩, 6) := ⟨⟨by decide +kernel, by decide +kernel⟩, List.mem_of_getElem? (i := 23) (by decide +kernel), List.mem_of_getElem? (i := 315) (by decide +kernel), List.mem_of_getElem? (i := 316) (by decide +kernel)⟩
theorem lw_p7 : lw_okq (⟨"DayCubes$Reader", "readDay", "(LDayCubes$Told;)Z"⟩, 6) := ⟨⟨by decide +kernel, by decide +kernel⟩, List.mem_of_getElem? (i := 23) (by decide +kernel), List.mem_of_getElem? (i := 319) (by decide +kernel), List.mem_of_getElem? (i := 320) (by decide +kernel)⟩
theorem lw_p8 : lw_okq (⟨"DayCubes", "isCube", "(I)Z"⟩, 11) := ⟨⟨by decide +kernel, by decide +kernel⟩, List.mem_of_getElem? (i := 15) (by decide +kernel), List.mem_of_getElem? (i := 343) (by decide +kernel), List.mem_of_getElem? (i := 344) (by decide +kernel)⟩
theorem lw_p9 : lw_okq (⟨"DayCubes", "sidesNeeded", "(I)I"⟩, 11) := ⟨⟨by decide +kernel, by decide +kernel⟩, List.mem_of_getElem? (i := 15) (by decide +kernel), List.mem_of_getElem? (i := 362) (by decide +kernel), List.mem_of_getElem? (i := 363) (by decide +kernel)⟩
theorem lw_p10 : lw_okq (⟨"DayCubes", "tellersBut", "(I)LDayCubes$Tellers;"⟩, 11) := ⟨⟨by decide +kernel, by decide +kernel⟩, List.mem_of_getElem? (i := 15) (by decide +kernel), List.mem_of_getElem? (i := 366) (by decide +kernel), List.mem_of_getElem? (i := 367) (by decide +kernel)⟩
theorem lw_p11 : lw_okq (⟨"DayCubes$Tellers", "withOneMore", "(II)I"⟩, 2) := ⟨⟨by decide +kernel, by decide +kernel⟩, List.mem_of_getElem? (i := 147) (by decide +kernel), List.mem_of_getElem? (i := 385) (by decide +kernel), List.mem_of_getElem? (i := 386) (by decide +kernel)⟩
theorem lw_p12 : lw_okq (⟨"DayCubes", "isPlace", "(I)Z"⟩, 11) := ⟨⟨by decide +kernel, by decide +kernel⟩, List.mem_of_getElem? (i := 15) (by decide +kernel), List.mem_of_getElem? (i := 395) (by decide +kernel), List.mem_of_getElem? (i := 396) (by decide +kernel)⟩
theorem lw_p13 : lw_okq (⟨"DayCubes$Stand", "remember", "(III)V"⟩, 6) := ⟨⟨by decide +kernel, by decide +kernel⟩, List.mem_of_getElem? (i := 93) (by decide +kernel), List.mem_of_getElem? (i := 411) (by decide +kernel), List.mem_of_getElem? (i := 412) (by decide +kernel)⟩
theorem lw_p14 : lw_okq (⟨"DayCubes$Stand", "addWork", "(I)V"⟩, 6) := ⟨⟨by decide +kernel, by decide +kernel⟩, List.mem_of_getElem? (i := 93) (by decide +kernel), List.mem_of_getElem? (i := 418) (by decide +kernel), List.mem_of_getElem? (i := 419) (by decide +kernel)⟩
theorem lw_p15 : lw_okq (⟨"DayCubes$Stand", "exchange", "(II)V"⟩, 6) := ⟨⟨by decide +kernel, by decide +kernel⟩, List.mem_of_getElem? (i := 93) (by decide +kernel), List.mem_of_getElem? (i := 431) (by decide +kernel), List.mem_of_getElem? (i := 432) (by decide +kernel)⟩
def lw_privs_1 : List (MethodName × Nat) := [(⟨"DayCubes$Reader", "nextToken", "()V"⟩, 6), (⟨"DayCubes$Reader", "takeLetters", "()V"⟩, 6), (⟨"DayCubes$Reader", "takeDigits", "()V"⟩, 6), (⟨"DayCubes$Reader", "readItem", "(LDayCubes$Told;)Z"⟩, 6), (⟨"DayCubes$Reader", "readBoth", "(LDayCubes$Told;)Z"⟩, 6), (⟨"DayCubes$Reader", "readCube", "(LDayCubes$Told;)Z"⟩, 6), (⟨"DayCubes$Reader", "isNumberBelow", "(I)Z"⟩, 6), (⟨"DayCubes$Reader", "readDay", "(LDayCubes$Told;)Z"⟩, 6), (⟨"DayCubes", "isCube", "(I)Z"⟩, 11), (⟨"DayCubes", "sidesNeeded", "(I)I"⟩, 11), (⟨"DayCubes", "tellersBut", "(I)LDayCubes$Tellers;"⟩, 11), (⟨"DayCubes$Tellers", "withOneMore", "(II)I"⟩, 2), (⟨"DayCubes", "isPlace", "(I)Z"⟩, 11), (⟨"DayCubes$Stand", "remember", "(III)V"⟩, 6), (⟨"DayCubes$Stand", "addWork", "(I)V"⟩, 6), (⟨"DayCubes$Stand", "exchange", "(II)V"⟩, 6)]
theorem lw_r1 : ∀ q ∈ lw_privs_1, lw_okq q := List.forall_mem_cons.mpr ⟨lw_p0, List.forall_mem_cons.mpr ⟨lw_p1, List.forall_mem_cons.mpr ⟨lw_p2, List.forall_mem_cons.mpr ⟨lw_p3, List.forall_mem_cons.mpr ⟨lw_p4, List.forall_mem_cons.mpr ⟨lw_p5, List.forall_mem_cons.mpr ⟨lw_p6, List.forall_mem_cons.mpr ⟨lw_p7, List.forall_mem_cons.mpr ⟨lw_p8, List.forall_mem_cons.mpr ⟨lw_p9, List.forall_mem_cons.mpr ⟨lw_p10, List.forall_mem_cons.mpr ⟨lw_p11, List.forall_mem_cons.mpr ⟨lw_p12, List.forall_mem_cons.mpr ⟨lw_p13, List.forall_mem_cons.mpr ⟨lw_p14, List.forall_mem_cons.mpr ⟨lw_p15, fun _ h => absurd h List.not_mem_nil⟩⟩⟩⟩⟩⟩⟩⟩⟩⟩⟩⟩⟩⟩⟩⟩
theorem lw_p16 : lw_okq (⟨"DayCubes", "numberInFront", "()I"⟩, 11) := ⟨⟨by decide +kernel, by decide +kernel⟩, List.mem_of_getElem? (i := 15) (by decide +kernel), List.mem_of_getElem? (i := 458) (by decide +kernel), List.mem_of_getElem? (i := 459) (by decide +kernel)⟩
theorem lw_p17 : lw_okq (⟨"DayCubes$Tellers", "manyFrom", "(IIIII)I"⟩, 2) := ⟨⟨by decide +kernel, by decide +kernel⟩, List.mem_of_getElem? (i := 147) (by decide +kernel), List.mem_of_getElem? (i := 470) (by decide +kernel), List.mem_of_getElem? (i := 471) (by decide +kernel)⟩
theorem lw_p18 : lw_okq (⟨"DayCubes", "isNumber", "(I)Z"⟩, 11) := ⟨⟨by decide +kernel, by decide +kernel⟩, List.mem_of_getElem? (i := 15) (by decide +kernel), List.mem_of_getElem? (i := 483) (by decide +kernel), List.mem_of_getElem? (i := 484) (by decide +kernel)⟩
theorem lw_p19 : lw_okq (⟨"DayCubes", "isTold", "(I)Z"⟩, 11) := ⟨⟨by decide +kernel, by decide +kernel⟩, List.mem_of_getElem? (i := 15) (by decide +kernel), List.mem_of_getElem? (i := 488) (by decide +kernel), List.mem_of_getElem? (i := 489) (by decide +kernel)⟩
theorem lw_p20 : lw_okq (⟨"DayCubes", "leastWork", "(II)I"⟩, 11) := ⟨⟨by decide +kernel, by decide +kernel⟩, List.mem_of_getElem? (i := 15) (by decide +kernel), List.mem_of_getElem? (i := 501) (by decide +kernel), List.mem_of_getElem? (i := 502) (by decide +kernel)⟩
theorem lw_p21 : lw_okq (⟨"DayCubes$Walk", "takeWanted", "(II)V"⟩, 11) := ⟨⟨by decide +kernel, by decide +kernel⟩, List.mem_of_getElem? (i := 160) (by decide +kernel), List.mem_of_getElem? (i := 509) (by decide +kernel), List.mem_of_getElem? (i := 510) (by decide +kernel)⟩
theorem lw_p22 : lw_okq (⟨"DayCubes$Walk", "reckonTurns", "(I)V"⟩, 11) := ⟨⟨by decide +kernel, by decide +kernel⟩, List.mem_of_getElem? (i := 160) (by decide +kernel), List.mem_of_getElem? (i := 513) (by decide +kernel), List.mem_of_getElem? (i := 514) (by decide +kernel)⟩
theorem lw_p23 : lw_okq (⟨"DayCubes$Walk", "reckonPathsFrom", "(III)V"⟩, 11) := ⟨⟨by decide +kernel, by decide +kernel⟩, List.mem_of_getElem? (i := 160) (by decide +kernel), List.mem_of_getElem? (i := 517) (by decide +kernel), List.mem_of_getElem? (i := 518) (by decide +kernel)⟩
theorem lw_p24 : lw_okq (⟨"DayCubes$Walk", "reckonSides", "(III)I"⟩, 11) := ⟨⟨by decide +kernel, by decide +kernel⟩, List.mem_of_getElem? (i := 160) (by decide +kernel), List.mem_of_getElem? (i := 524) (by decide +kernel), List.mem_of_getElem? (i := 525) (by decide +kernel)⟩
theorem lw_p25 : lw_okq (⟨"DayCubes$Walk", "choose", "(IIII)V"⟩, 11) := ⟨⟨by decide +kernel, by decide +kernel⟩, List.mem_of_getElem? (i := 160) (by decide +kernel), List.mem_of_getElem? (i := 531) (by decide +kernel), List.mem_of_getElem? (i := 532) (by decide +kernel)⟩
theorem lw_p26 : lw_okq (⟨"DayCubes$Walk", "changesTo", "(I)I"⟩, 11) := ⟨⟨by decide +kernel, by decide +kernel⟩, List.mem_of_getElem? (i := 160) (by decide +kernel), List.mem_of_getElem? (i := 535) (by decide +kernel), List.mem_of_getElem? (i := 536) (by decide +kernel)⟩
theorem lw_p27 : lw_okq (⟨"DayCubes$Walk", "goOn", "(II)V"⟩, 11) := ⟨⟨by decide +kernel, by decide +kernel⟩, List.mem_of_getElem? (i := 160) (by decide +kernel), List.mem_of_getElem? (i := 539) (by decide +kernel), List.mem_of_getElem? (i := 540) (by decide +kernel)⟩
theorem lw_p28 : lw_okq (⟨"DayCubes$Fall", "fallsFrom", "(I)I"⟩, 5) := ⟨⟨by decide +kernel, by decide +kernel⟩, List.mem_of_getElem? (i := 200) (by decide +kernel), List.mem_of_getElem? (i := 570) (by decide +kernel), List.mem_of_getElem? (i := 571) (by decide +kernel)⟩
theorem lw_p29 : lw_okq (⟨"DayCubes$Fall", "reduce", "()V"⟩, 5) := ⟨⟨by decide +kernel, by decide +kernel⟩, List.mem_of_getElem? (i := 200) (by decide +kernel), List.mem_of_getElem? (i := 576) (by decide +kernel), List.mem_of_getElem? (i := 577) (by decide +kernel)⟩
theorem lw_p30 : lw_okq (⟨"DayCubes$Fall", "reduceBy", "(I)V"⟩, 5) := ⟨⟨by decide +kernel, by decide +kernel⟩, List.mem_of_getElem? (i := 200) (by decide +kernel), List.mem_of_getElem? (i := 580) (by decide +kernel), List.mem_of_getElem? (i := 581) (by decide +kernel)⟩
theorem lw_p31 : lw_okq (⟨"DayCubes$Seen", "mayBe", "(I)Z"⟩, 3) := ⟨⟨by decide +kernel, by decide +kernel⟩, List.mem_of_getElem? (i := 129) (by decide +kernel), List.mem_of_getElem? (i := 605) (by decide +kernel), List.mem_of_getElem? (i := 606) (by decide +kernel)⟩
def lw_privs_2 : List (MethodName × Nat) := [(⟨"DayCubes", "numberInFront", "()I"⟩, 11), (⟨"DayCubes$Tellers", "manyFrom", "(IIIII)I"⟩, 2), (⟨"DayCubes", "isNumber", "(I)Z"⟩, 11), (⟨"DayCubes", "isTold", "(I)Z"⟩, 11), (⟨"DayCubes", "leastWork", "(II)I"⟩, 11), (⟨"DayCubes$Walk", "takeWanted", "(II)V"⟩, 11), (⟨"DayCubes$Walk", "reckonTurns", "(I)V"⟩, 11), (⟨"DayCubes$Walk", "reckonPathsFrom", "(III)V"⟩, 11), (⟨"DayCubes$Walk", "reckonSides", "(III)I"⟩, 11), (⟨"DayCubes$Walk", "choose", "(IIII)V"⟩, 11), (⟨"DayCubes$Walk", "changesTo", "(I)I"⟩, 11), (⟨"DayCubes$Walk", "goOn", "(II)V"⟩, 11), (⟨"DayCubes$Fall", "fallsFrom", "(I)I"⟩, 5), (⟨"DayCubes$Fall", "reduce", "()V"⟩, 5), (⟨"DayCubes$Fall", "reduceBy", "(I)V"⟩, 5), (⟨"DayCubes$Seen", "mayBe", "(I)Z"⟩, 3)]
theorem lw_r2 : ∀ q ∈ lw_privs_2, lw_okq q := List.forall_mem_cons.mpr ⟨lw_p16, List.forall_mem_cons.mpr ⟨lw_p17, List.forall_mem_cons.mpr ⟨lw_p18, List.forall_mem_cons.mpr ⟨lw_p19, List.forall_mem_cons.mpr ⟨lw_p20, List.forall_mem_cons.mpr ⟨lw_p21, List.forall_mem_cons.mpr ⟨lw_p22, List.forall_mem_cons.mpr ⟨lw_p23, List.forall_mem_cons.mpr ⟨lw_p24, List.forall_mem_cons.mpr ⟨lw_p25, List.forall_mem_cons.mpr ⟨lw_p26, List.forall_mem_cons.mpr ⟨lw_p27, List.forall_mem_cons.mpr ⟨lw_p28, List.forall_mem_cons.mpr ⟨lw_p29, List.forall_mem_cons.mpr ⟨lw_p30, List.forall_mem_cons.mpr ⟨lw_p31, fun _ h => absurd h List.not_mem_nil⟩⟩⟩⟩⟩⟩⟩⟩⟩⟩⟩⟩⟩⟩⟩⟩
theorem lw_p32 : lw_okq (⟨"DayCubes", "markAs", "(II)I"⟩, 11) := ⟨⟨by decide +kernel, by decide +kernel⟩, List.mem_of_getElem? (i := 15) (by decide +kernel), List.mem_of_getElem? (i := 628) (by decide +kernel), List.mem_of_getElem? (i := 629) (by decide +kernel)⟩
theorem lw_p33 : lw_okq (⟨"DayCubesModel", "begin", "()V"⟩, 25) := ⟨⟨by decide +kernel, by decide +kernel⟩, List.mem_of_getElem? (i := 660) (by decide +kernel), List.mem_of_getElem? (i := 666) (by decide +kernel), List.mem_of_getElem? (i := 667) (by decide +kernel)⟩
theorem lw_p34 : lw_okq (⟨"DayCubesModel", "tellOrders", "()V"⟩, 25) := ⟨⟨by decide +kernel, by decide +kernel⟩, List.mem_of_getElem? (i := 660) (by decide +kernel), List.mem_of_getElem? (i := 670) (by decide +kernel), List.mem_of_getElem? (i := 671) (by decide +kernel)⟩
theorem lw_p35 : lw_okq (⟨"DayCubesModel", "codes", "()I"⟩, 25) := ⟨⟨by decide +kernel, by decide +kernel⟩, List.mem_of_getElem? (i := 660) (by decide +kernel), List.mem_of_getElem? (i := 674) (by decide +kernel), List.mem_of_getElem? (i := 675) (by decide +kernel)⟩
theorem lw_p36 : lw_okq (⟨"DayCubesModel", "isOrder", "(I)Z"⟩, 25) := ⟨⟨by decide +kernel, by decide +kernel⟩, List.mem_of_getElem? (i := 660) (by decide +kernel), List.mem_of_getElem? (i := 678) (by decide +kernel), List.mem_of_getElem? (i := 679) (by decide +kernel)⟩
theorem lw_p37 : lw_okq (⟨"DayCubesModel", "read", "()V"⟩, 25) := ⟨⟨by decide +kernel, by decide +kernel⟩, List.mem_of_getElem? (i := 660) (by decide +kernel), List.mem_of_getElem? (i := 777) (by decide +kernel), List.mem_of_getElem? (i := 778) (by decide +kernel)⟩
theorem lw_p38 : lw_okq (⟨"DayCubesModel", "step", "()V"⟩, 25) := ⟨⟨by decide +kernel, by decide +kernel⟩, List.mem_of_getElem? (i := 660) (by decide +kernel), List.mem_of_getElem? (i := 781) (by decide +kernel), List.mem_of_getElem? (i := 782) (by decide +kernel)⟩
theorem lw_p39 : lw_okq (⟨"DayCubesModel", "here", "()I"⟩, 25) := ⟨⟨by decide +kernel, by decide +kernel⟩, List.mem_of_getElem? (i := 660) (by decide +kernel), List.mem_of_getElem? (i := 785) (by decide +kernel), List.mem_of_getElem? (i := 786) (by decide +kernel)⟩
theorem lw_p40 : lw_okq (⟨"DayCubesModel", "may", "(I)Z"⟩, 25) := ⟨⟨by decide +kernel, by decide +kernel⟩, List.mem_of_getElem? (i := 660) (by decide +kernel), List.mem_of_getElem? (i := 789) (by decide +kernel), List.mem_of_getElem? (i := 790) (by decide +kernel)⟩
theorem lw_p41 : lw_okq (⟨"DayCubesModel", "due", "(Z)V"⟩, 25) := ⟨⟨by decide +kernel, by decide +kernel⟩, List.mem_of_getElem? (i := 660) (by decide +kernel), List.mem_of_getElem? (i := 793) (by decide +kernel), List.mem_of_getElem? (i := 794) (by decide +kernel)⟩
theorem lw_p42 : lw_okq (⟨"DayCubesModel", "item", "(I)V"⟩, 25) := ⟨⟨by decide +kernel, by decide +kernel⟩, List.mem_of_getElem? (i := 660) (by decide +kernel), List.mem_of_getElem? (i := 797) (by decide +kernel), List.mem_of_getElem? (i := 798) (by decide +kernel)⟩
theorem lw_p43 : lw_okq (⟨"DayCubesModel", "amount", "(II)I"⟩, 25) := ⟨⟨by decide +kernel, by decide +kernel⟩, List.mem_of_getElem? (i := 660) (by decide +kernel), List.mem_of_getElem? (i := 801) (by decide +kernel), List.mem_of_getElem? (i := 802) (by decide +kernel)⟩
theorem lw_p44 : lw_okq (⟨"DayCubesModel", "isCube", "(I)Z"⟩, 25) := ⟨⟨by decide +kernel, by decide +kernel⟩, List.mem_of_getElem? (i := 660) (by decide +kernel), List.mem_of_getElem? (i := 812) (by decide +kernel), List.mem_of_getElem? (i := 813) (by decide +kernel)⟩
theorem lw_p45 : lw_okq (⟨"DayCubesModel", "placeOf", "(I)I"⟩, 25) := ⟨⟨by decide +kernel, by decide +kernel⟩, List.mem_of_getElem? (i := 660) (by decide +kernel), List.mem_of_getElem? (i := 823) (by decide +kernel), List.mem_of_getElem? (i := 824) (by decide +kernel)⟩
theorem lw_p46 : lw_okq (⟨"DayCubesModel", "figuresOf", "(I)I"⟩, 25) := ⟨⟨by decide +kernel, by decide +kernel⟩, List.mem_of_getElem? (i := 660) (by decide +kernel), List.mem_of_getElem? (i := 827) (by decide +kernel), List.mem_of_getElem? (i := 828) (by decide +kernel)⟩
theorem lw_p47 : lw_okq (⟨"DayCubesModel", "neededOf", "(I)I"⟩, 25) := ⟨⟨by decide +kernel, by decide +kernel⟩, List.mem_of_getElem? (i := 660) (by decide +kernel), List.mem_of_getElem? (i := 831) (by decide +kernel), List.mem_of_getElem? (i := 832) (by decide +kernel)⟩
def lw_privs_3 : List (MethodName × Nat) := [(⟨"DayCubes", "markAs", "(II)I"⟩, 11), (⟨"DayCubesModel", "begin", "()V"⟩, 25), (⟨"DayCubesModel", "tellOrders", "()V"⟩, 25), (⟨"DayCubesModel", "codes", "()I"⟩, 25), (⟨"DayCubesModel", "isOrder", "(I)Z"⟩, 25), (⟨"DayCubesModel", "read", "()V"⟩, 25), (⟨"DayCubesModel", "step", "()V"⟩, 25), (⟨"DayCubesModel", "here", "()I"⟩, 25), (⟨"DayCubesModel", "may", "(I)Z"⟩, 25), (⟨"DayCubesModel", "due", "(Z)V"⟩, 25), (⟨"DayCubesModel", "item", "(I)V"⟩, 25), (⟨"DayCubesModel", "amount", "(II)I"⟩, 25), (⟨"DayCubesModel", "isCube", "(I)Z"⟩, 25), (⟨"DayCubesModel", "placeOf", "(I)I"⟩, 25), (⟨"DayCubesModel", "figuresOf", "(I)I"⟩, 25), (⟨"DayCubesModel", "neededOf", "(I)I"⟩, 25)]
theorem lw_r3 : ∀ q ∈ lw_privs_3, lw_okq q := List.forall_mem_cons.mpr ⟨lw_p32, List.forall_mem_cons.mpr ⟨lw_p33, List.forall_mem_cons.mpr ⟨lw_p34, List.forall_mem_cons.mpr ⟨lw_p35, List.forall_mem_cons.mpr ⟨lw_p36, List.forall_mem_cons.mpr ⟨lw_p37, List.forall_mem_cons.mpr ⟨lw_p38, List.forall_mem_cons.mpr ⟨lw_p39, List.forall_mem_cons.mpr ⟨lw_p40, List.forall_mem_cons.mpr ⟨lw_p41, List.forall_mem_cons.mpr ⟨lw_p42, List.forall_mem_cons.mpr ⟨lw_p43, List.forall_mem_cons.mpr ⟨lw_p44, List.forall_mem_cons.mpr ⟨lw_p45, List.forall_mem_cons.mpr ⟨lw_p46, List.forall_mem_cons.mpr ⟨lw_p47, fun _ h => absurd h List.not_mem_nil⟩⟩⟩⟩⟩⟩⟩⟩⟩⟩⟩⟩⟩⟩⟩⟩
theorem lw_p48 : lw_okq (⟨"DayCubesModel", "doneNow", "()I"⟩, 25) := ⟨⟨by decide +kernel, by decide +kernel⟩, List.mem_of_getElem? (i := 660) (by decide +kernel), List.mem_of_getElem? (i := 835) (by decide +kernel), List.mem_of_getElem? (i := 836) (by decide +kernel)⟩
theorem lw_p49 : lw_okq (⟨"DayCubesModel", "can", "(III)Z"⟩, 25) := ⟨⟨by decide +kernel, by decide +kernel⟩, List.mem_of_getElem? (i := 660) (by decide +kernel), List.mem_of_getElem? (i := 839) (by decide +kernel), List.mem_of_getElem? (i := 840) (by decide +kernel)⟩
theorem lw_p50 : lw_okq (⟨"DayCubesModel", "figureOf", "(II)I"⟩, 25) := ⟨⟨by decide +kernel, by decide +kernel⟩, List.mem_of_getElem? (i := 660) (by decide +kernel), List.mem_of_getElem? (i := 843) (by decide +kernel), List.mem_of_getElem? (i := 844) (by decide +kernel)⟩
theorem lw_p51 : lw_okq (⟨"DayCubesModel", "hasFit", "(III)Z"⟩, 25) := ⟨⟨by decide +kernel, by decide +kernel⟩, List.mem_of_getElem? (i := 660) (by decide +kernel), List.mem_of_getElem? (i := 847) (by decide +kernel), List.mem_of_getElem? (i := 848) (by decide +kernel)⟩
theorem lw_p52 : lw_okq (⟨"DayCubesModel", "fits", "(II)Z"⟩, 25) := ⟨⟨by decide +kernel, by decide +kernel⟩, List.mem_of_getElem? (i := 660) (by decide +kernel), List.mem_of_getElem? (i := 851) (by decide +kernel), List.mem_of_getElem? (i := 852) (by decide +kernel)⟩
theorem lw_p53 : lw_okq (⟨"DayCubesModel", "know", "()V"⟩, 25) := ⟨⟨by decide +kernel, by decide +kernel⟩, List.mem_of_getElem? (i := 660) (by decide +kernel), List.mem_of_getElem? (i := 870) (by decide +kernel), List.mem_of_getElem? (i := 871) (by decide +kernel)⟩
theorem lw_p54 : lw_okq (⟨"DayCubesModel", "worked", "(I)I"⟩, 25) := ⟨⟨by decide +kernel, by decide +kernel⟩, List.mem_of_getElem? (i := 660) (by decide +kernel), List.mem_of_getElem? (i := 877) (by decide +kernel), List.mem_of_getElem? (i := 878) (by decide +kernel)⟩
theorem lw_p55 : lw_okq (⟨"DayCubesModel", "inFront", "(I)I"⟩, 25) := ⟨⟨by decide +kernel, by decide +kernel⟩, List.mem_of_getElem? (i := 660) (by decide +kernel), List.mem_of_getElem? (i := 897) (by decide +kernel), List.mem_of_getElem? (i := 898) (by decide +kernel)⟩
theorem lw_p56 : lw_okq (⟨"DayCubesModel", "isNumber", "(I)Z"⟩, 25) := ⟨⟨by decide +kernel, by decide +kernel⟩, List.mem_of_getElem? (i := 660) (by decide +kernel), List.mem_of_getElem? (i := 905) (by decide +kernel), List.mem_of_getElem? (i := 906) (by decide +kernel)⟩
theorem lw_p57 : lw_okq (⟨"DayCubesModel", "isTold", "(I)Z"⟩, 25) := ⟨⟨by decide +kernel, by decide +kernel⟩, List.mem_of_getElem? (i := 660) (by decide +kernel), List.mem_of_getElem? (i := 909) (by decide +kernel), List.mem_of_getElem? (i := 910) (by decide +kernel)⟩
theorem lw_p58 : lw_okq (⟨"DayCubesModel", "workFor", "(II)I"⟩, 25) := ⟨⟨by decide +kernel, by decide +kernel⟩, List.mem_of_getElem? (i := 660) (by decide +kernel), List.mem_of_getElem? (i := 913) (by decide +kernel), List.mem_of_getElem? (i := 914) (by decide +kernel)⟩
theorem lw_p59 : lw_okq (⟨"DayCubesModel", "tellTurns", "(II)V"⟩, 25) := ⟨⟨by decide +kernel, by decide +kernel⟩, List.mem_of_getElem? (i := 660) (by decide +kernel), List.mem_of_getElem? (i := 917) (by decide +kernel), List.mem_of_getElem? (i := 918) (by decide +kernel)⟩
theorem lw_p60 : lw_okq (⟨"DayCubesModel", "turnsFor", "(IIIII)I"⟩, 25) := ⟨⟨by decide +kernel, by decide +kernel⟩, List.mem_of_getElem? (i := 660) (by decide +kernel), List.mem_of_getElem? (i := 921) (by decide +kernel), List.mem_of_getElem? (i := 922) (by decide +kernel)⟩
theorem lw_p61 : lw_okq (⟨"DayCubesModel", "orderNow", "()I"⟩, 25) := ⟨⟨by decide +kernel, by decide +kernel⟩, List.mem_of_getElem? (i := 660) (by decide +kernel), List.mem_of_getElem? (i := 926) (by decide +kernel), List.mem_of_getElem? (i := 927) (by decide +kernel)⟩
theorem lw_p62 : lw_okq (⟨"DayCubesModel", "changesTo", "(II)I"⟩, 25) := ⟨⟨by decide +kernel, by decide +kernel⟩, List.mem_of_getElem? (i := 660) (by decide +kernel), List.mem_of_getElem? (i := 930) (by decide +kernel), List.mem_of_getElem? (i := 931) (by decide +kernel)⟩
theorem lw_p63 : lw_okq (⟨"DayCubesModel", "workBy", "(III)I"⟩, 25) := ⟨⟨by decide +kernel, by decide +kernel⟩, List.mem_of_getElem? (i := 660) (by decide +kernel), List.mem_of_getElem? (i := 934) (by decide +kernel), List.mem_of_getElem? (i := 935) (by decide +kernel)⟩
def lw_privs_4 : List (MethodName × Nat) := [(⟨"DayCubesModel", "doneNow", "()I"⟩, 25), (⟨"DayCubesModel", "can", "(III)Z"⟩, 25), (⟨"DayCubesModel", "figureOf", "(II)I"⟩, 25), (⟨"DayCubesModel", "hasFit", "(III)Z"⟩, 25), (⟨"DayCubesModel", "fits", "(II)Z"⟩, 25), (⟨"DayCubesModel", "know", "()V"⟩, 25), (⟨"DayCubesModel", "worked", "(I)I"⟩, 25), (⟨"DayCubesModel", "inFront", "(I)I"⟩, 25), (⟨"DayCubesModel", "isNumber", "(I)Z"⟩, 25), (⟨"DayCubesModel", "isTold", "(I)Z"⟩, 25), (⟨"DayCubesModel", "workFor", "(II)I"⟩, 25), (⟨"DayCubesModel", "tellTurns", "(II)V"⟩, 25), (⟨"DayCubesModel", "turnsFor", "(IIIII)I"⟩, 25), (⟨"DayCubesModel", "orderNow", "()I"⟩, 25), (⟨"DayCubesModel", "changesTo", "(II)I"⟩, 25), (⟨"DayCubesModel", "workBy", "(III)I"⟩, 25)]
theorem lw_r4 : ∀ q ∈ lw_privs_4, lw_okq q := List.forall_mem_cons.mpr ⟨lw_p48, List.forall_mem_cons.mpr ⟨lw_p49, List.forall_mem_cons.mpr ⟨lw_p50, List.forall_mem_cons.mpr ⟨lw_p51, List.forall_mem_cons.mpr ⟨lw_p52, List.forall_mem_cons.mpr ⟨lw_p53, List.forall_mem_cons.mpr ⟨lw_p54, List.forall_mem_cons.mpr ⟨lw_p55, List.forall_mem_cons.mpr ⟨lw_p56, List.forall_mem_cons.mpr ⟨lw_p57, List.forall_mem_cons.mpr ⟨lw_p58, List.forall_mem_cons.mpr ⟨lw_p59, List.forall_mem_cons.mpr ⟨lw_p60, List.forall_mem_cons.mpr ⟨lw_p61, List.forall_mem_cons.mpr ⟨lw_p62, List.forall_mem_cons.mpr ⟨lw_p63, fun _ h => absurd h List.not_mem_nil⟩⟩⟩⟩⟩⟩⟩⟩⟩⟩⟩⟩⟩⟩⟩⟩
theorem lw_p64 : lw_okq (⟨"DayCubesModel", "placeIn", "(II)I"⟩, 25) := ⟨⟨by decide +kernel, by decide +kernel⟩, List.mem_of_getElem? (i := 660) (by decide +kernel), List.mem_of_getElem? (i := 938) (by decide +kernel), List.mem_of_getElem? (i := 939) (by decide +kernel)⟩
theorem lw_p65 : lw_okq (⟨"DayCubesModel", "pastesFor", "(I)I"⟩, 25) := ⟨⟨by decide +kernel, by decide +kernel⟩, List.mem_of_getElem? (i := 660) (by decide +kernel), List.mem_of_getElem? (i := 942) (by decide +kernel), List.mem_of_getElem? (i := 943) (by decide +kernel)⟩
theorem lw_p66 : lw_okq (⟨"DayCubesModel", "isBy", "(II)Z"⟩, 25) := ⟨⟨by decide +kernel, by decide +kernel⟩, List.mem_of_getElem? (i := 660) (by decide +kernel), List.mem_of_getElem? (i := 954) (by decide +kernel), List.mem_of_getElem? (i := 955) (by decide +kernel)⟩
def lw_privs_5 : List (MethodName × Nat) := [(⟨"DayCubesModel", "placeIn", "(II)I"⟩, 25), (⟨"DayCubesModel", "pastesFor", "(I)I"⟩, 25), (⟨"DayCubesModel", "isBy", "(II)Z"⟩, 25)]
theorem lw_r5 : ∀ q ∈ lw_privs_5, lw_okq q := List.forall_mem_cons.mpr ⟨lw_p64, List.forall_mem_cons.mpr ⟨lw_p65, List.forall_mem_cons.mpr ⟨lw_p66, fun _ h => absurd h List.not_mem_nil⟩⟩⟩
def lw_privs : List (MethodName × Nat) := lw_privs_1 ++ (lw_privs_2 ++ (lw_privs_3 ++ (lw_privs_4 ++ (lw_privs_5))))
def lw_tbl : List Cond := k2_sels lw_privs ++ tables_1
theorem lw_privs_ok : ∀ q ∈ lw_privs, lw_okq q := by
  show ∀ q ∈ lw_privs_1 ++ (lw_privs_2 ++ (lw_privs_3 ++ (lw_privs_4 ++ (lw_privs_5)))), lw_okq q
  exact List.forall_mem_append.mpr ⟨lw_r1, List.forall_mem_append.mpr ⟨lw_r2, List.forall_mem_append.mpr ⟨lw_r3, List.forall_mem_append.mpr ⟨lw_r4, lw_r5⟩⟩⟩⟩
end
section
def RX0 : String := "DayCubes$Fall"
def TX0 : u_T := fun k => match k with
  | 0 => ("DayCubes$Fall", "missing", "[I", true)
  | 1 => ("DayCubes$Fall", "told", "LDayCubes$Told;", false)
  | 2 => ("DayCubes$Fall", "now", "LDayCubes$Stand;", false)
  | 3 => ("DayCubes$Fall", "upper", "I", false)
  | _ => ("DayCubes$Fall", "lower", "I", false)
def tyX0 : Nat → FieldType := fun k => match k with
  | 0 => .array .int
  | 1 => .object "DayCubes$Told"
  | 2 => .object "DayCubes$Stand"
  | 3 => .int
  | _ => .int
abbrev wsX00 : List Cond := u_ws RX0 TX0 5
theorem nmX0 : ∀ a, a < 5 → ∀ b, b < 5 → a ≠ b → (TX0 a).2.1 ≠ (TX0 b).2.1 := by decide +kernel
theorem tyX0_ok : ∀ k, k < 5 → parseFieldDescriptor (TX0 k).2.2.1 = some (tyX0 k) := by decide +kernel
abbrev cX0_init : ByteArray := prog_2_method_1_code
def yX0_init : MethodName := ⟨RX0, "<init>", "()V"⟩
abbrev cX0_reckon : ByteArray := prog_2_method_2_code
def yX0_reckon : MethodName := ⟨RX0, "reckon", "(LDayCubes$Told;LDayCubes$Stand;I)V"⟩
abbrev cX0_fallsFrom : ByteArray := prog_2_method_3_code
def yX0_fallsFrom : MethodName := ⟨RX0, "fallsFrom", "(I)I"⟩
abbrev cX0_reduce : ByteArray := prog_2_method_4_code
def yX0_reduce : MethodName := ⟨RX0, "reduce", "()V"⟩
abbrev cX0_reduceBy : ByteArray := prog_2_method_5_code
def yX0_reduceBy : MethodName := ⟨RX0, "reduceBy", "(I)V"⟩
def RX1 : String := "DayCubes$Reader"
def TX1 : u_T := fun k => match k with
  | 0 => ("DayCubes$Reader", "bytes", "[I", true)
  | 1 => ("DayCubes$Reader", "length", "I", false)
  | 2 => ("DayCubes$Reader", "at", "I", false)
  | 3 => ("DayCubes$Reader", "token", "I", false)
  | 4 => ("DayCubes$Reader", "start", "I", false)
  | _ => ("DayCubes$Reader", "value", "I", false)
def tyX1 : Nat → FieldType := fun k => match k with
  | 0 => .array .int
  | 1 => .int
  | 2 => .int
  | 3 => .int
  | 4 => .int
  | _ => .int
abbrev wsX10 : List Cond := u_ws RX1 TX1 6
theorem nmX1 : ∀ a, a < 6 → ∀ b, b < 6 → a ≠ b → (TX1 a).2.1 ≠ (TX1 b).2.1 := by decide +kernel
theorem tyX1_ok : ∀ k, k < 6 → parseFieldDescriptor (TX1 k).2.2.1 = some (tyX1 k) := by decide +kernel
abbrev cX1_init : ByteArray := prog_3_method_1_code
def yX1_init : MethodName := ⟨RX1, "<init>", "()V"⟩
abbrev cX1_append : ByteArray := prog_3_method_2_code
def yX1_append : MethodName := ⟨RX1, "append", "(I)V"⟩
abbrev cX1_read : ByteArray := prog_3_method_3_code
def yX1_read : MethodName := ⟨RX1, "read", "(LDayCubes$Told;)I"⟩
abbrev cX1_readItem : ByteArray := prog_3_method_4_code
def yX1_readItem : MethodName := ⟨RX1, "readItem", "(LDayCubes$Told;)Z"⟩
abbrev cX1_readBoth : ByteArray := prog_3_method_5_code
def yX1_readBoth : MethodName := ⟨RX1, "readBoth", "(LDayCubes$Told;)Z"⟩
abbrev cX1_readCube : ByteArray := prog_3_method_6_code
def yX1_readCube : MethodName := ⟨RX1, "readCube", "(LDayCubes$Told;)Z"⟩
abbrev cX1_readDay : ByteArray := prog_3_method_7_code
def yX1_readDay : MethodName := ⟨RX1, "readDay", "(LDayCubes$Told;)Z"⟩
abbrev cX1_isNumberBelow : ByteArray := prog_3_method_8_code
def yX1_isNumberBelow : MethodName := ⟨RX1, "isNumberBelow", "(I)Z"⟩
abbrev cX1_nextToken : ByteArray := prog_3_method_9_code
def yX1_nextToken : MethodName := ⟨RX1, "nextToken", "()V"⟩
abbrev cX1_takeLetters : ByteArray := prog_3_method_10_code
def yX1_takeLetters : MethodName := ⟨RX1, "takeLetters", "()V"⟩
abbrev cX1_takeDigits : ByteArray := prog_3_method_11_code
def yX1_takeDigits : MethodName := ⟨RX1, "takeDigits", "()V"⟩
abbrev cX1_isLetter : ByteArray := prog_3_method_12_code
def yX1_isLetter : MethodName := ⟨RX1, "isLetter", "(I)Z"⟩
abbrev cX1_isDigit : ByteArray := prog_3_method_13_code
def yX1_isDigit : MethodName := ⟨RX1, "isDigit", "(I)Z"⟩
def RX2 : String := "DayCubes$Seen"
def TX2 : u_T := fun k => match k with
  | 0 => ("DayCubes$Seen", "figure", "[I", true)
  | 1 => ("DayCubes$Seen", "there", "[I", true)
  | _ => ("DayCubes$Seen", "size", "I", false)
def tyX2 : Nat → FieldType := fun k => match k with
  | 0 => .array .int
  | 1 => .array .int
  | _ => .int
abbrev wsX20 : List Cond := u_ws RX2 TX2 3
theorem nmX2 : ∀ a, a < 3 → ∀ b, b < 3 → a ≠ b → (TX2 a).2.1 ≠ (TX2 b).2.1 := by decide +kernel
theorem tyX2_ok : ∀ k, k < 3 → parseFieldDescriptor (TX2 k).2.2.1 = some (tyX2 k) := by decide +kernel
abbrev cX2_init : ByteArray := prog_4_method_1_code
def yX2_init : MethodName := ⟨RX2, "<init>", "()V"⟩
abbrev cX2_append : ByteArray := prog_4_method_2_code
def yX2_append : MethodName := ⟨RX2, "append", "(II)V"⟩
abbrev cX2_cubesThatMayBe : ByteArray := prog_4_method_3_code
def yX2_cubesThatMayBe : MethodName := ⟨RX2, "cubesThatMayBe", "(ILDayCubes$Stand;)I"⟩
abbrev cX2_mayBe : ByteArray := prog_4_method_4_code
def yX2_mayBe : MethodName := ⟨RX2, "mayBe", "(I)Z"⟩
abbrev cX2_bestToLookFor : ByteArray := prog_4_method_5_code
def yX2_bestToLookFor : MethodName := ⟨RX2, "bestToLookFor", "(ILDayCubes$Stand;)I"⟩
abbrev cX2_howManyHave : ByteArray := prog_4_method_6_code
def yX2_howManyHave : MethodName := ⟨RX2, "howManyHave", "(IIILDayCubes$Stand;)I"⟩
def RX3 : String := "DayCubes$Stand"
def TX3 : u_T := fun k => match k with
  | 0 => ("DayCubes$Stand", "figures", "[I", true)
  | 1 => ("DayCubes$Stand", "cubeAt", "[I", true)
  | 2 => ("DayCubes$Stand", "front", "[I", true)
  | 3 => ("DayCubes$Stand", "deeds", "[I", true)
  | 4 => ("DayCubes$Stand", "deedCount", "I", false)
  | _ => ("DayCubes$Stand", "work", "I", false)
def tyX3 : Nat → FieldType := fun k => match k with
  | 0 => .array .int
  | 1 => .array .int
  | 2 => .array .int
  | 3 => .array .int
  | 4 => .int
  | _ => .int
abbrev wsX30 : List Cond := u_ws RX3 TX3 6
theorem nmX3 : ∀ a, a < 6 → ∀ b, b < 6 → a ≠ b → (TX3 a).2.1 ≠ (TX3 b).2.1 := by decide +kernel
theorem tyX3_ok : ∀ k, k < 6 → parseFieldDescriptor (TX3 k).2.2.1 = some (tyX3 k) := by decide +kernel
abbrev cX3_init : ByteArray := prog_5_method_1_code
def yX3_init : MethodName := ⟨RX3, "<init>", "()V"⟩
abbrev cX3_begin : ByteArray := prog_5_method_2_code
def yX3_begin : MethodName := ⟨RX3, "begin", "(LDayCubes$Told;)V"⟩
abbrev cX3_copy : ByteArray := prog_5_method_3_code
def yX3_copy : MethodName := ⟨RX3, "copy", "(LDayCubes$Stand;)V"⟩
abbrev cX3_placeOf : ByteArray := prog_5_method_4_code
def yX3_placeOf : MethodName := ⟨RX3, "placeOf", "(I)I"⟩
abbrev cX3_figureInFront : ByteArray := prog_5_method_5_code
def yX3_figureInFront : MethodName := ⟨RX3, "figureInFront", "(I)I"⟩
abbrev cX3_figuresOf : ByteArray := prog_5_method_6_code
def yX3_figuresOf : MethodName := ⟨RX3, "figuresOf", "(I)I"⟩
abbrev cX3_turnCube : ByteArray := prog_5_method_7_code
def yX3_turnCube : MethodName := ⟨RX3, "turnCube", "(II)V"⟩
abbrev cX3_changePlaces : ByteArray := prog_5_method_8_code
def yX3_changePlaces : MethodName := ⟨RX3, "changePlaces", "(II)V"⟩
abbrev cX3_pasteFigure : ByteArray := prog_5_method_9_code
def yX3_pasteFigure : MethodName := ⟨RX3, "pasteFigure", "(II)V"⟩
abbrev cX3_takeBack : ByteArray := prog_5_method_10_code
def yX3_takeBack : MethodName := ⟨RX3, "takeBack", "()V"⟩
abbrev cX3_turnWork : ByteArray := prog_5_method_11_code
def yX3_turnWork : MethodName := ⟨RX3, "turnWork", "(II)I"⟩
abbrev cX3_remember : ByteArray := prog_5_method_12_code
def yX3_remember : MethodName := ⟨RX3, "remember", "(III)V"⟩
abbrev cX3_addWork : ByteArray := prog_5_method_13_code
def yX3_addWork : MethodName := ⟨RX3, "addWork", "(I)V"⟩
abbrev cX3_exchange : ByteArray := prog_5_method_14_code
def yX3_exchange : MethodName := ⟨RX3, "exchange", "(II)V"⟩
def RX4 : String := "DayCubes$Tellers"
def TX4 : u_T := fun k => match k with
  | 0 => ("DayCubes$Tellers", "cubesWith", "[I", true)
  | _ => ("DayCubes$Tellers", "cubes", "I", false)
def tyX4 : Nat → FieldType := fun k => match k with
  | 0 => .array .int
  | _ => .int
abbrev wsX40 : List Cond := u_ws RX4 TX4 2
theorem nmX4 : ∀ a, a < 2 → ∀ b, b < 2 → a ≠ b → (TX4 a).2.1 ≠ (TX4 b).2.1 := by decide +kernel
theorem tyX4_ok : ∀ k, k < 2 → parseFieldDescriptor (TX4 k).2.2.1 = some (tyX4 k) := by decide +kernel
abbrev cX4_init : ByteArray := prog_6_method_1_code
def yX4_init : MethodName := ⟨RX4, "<init>", "()V"⟩
abbrev cX4_take : ByteArray := prog_6_method_2_code
def yX4_take : MethodName := ⟨RX4, "take", "(LDayCubes$Told;LDayCubes$Stand;I)V"⟩
abbrev cX4_canTell : ByteArray := prog_6_method_3_code
def yX4_canTell : MethodName := ⟨RX4, "canTell", "(I)Z"⟩
abbrev cX4_daysDone : ByteArray := prog_6_method_4_code
def yX4_daysDone : MethodName := ⟨RX4, "daysDone", "(LDayCubes$Told;)I"⟩
abbrev cX4_leastUntold : ByteArray := prog_6_method_5_code
def yX4_leastUntold : MethodName := ⟨RX4, "leastUntold", "()I"⟩
abbrev cX4_fewestPastes : ByteArray := prog_6_method_6_code
def yX4_fewestPastes : MethodName := ⟨RX4, "fewestPastes", "(I)I"⟩
abbrev cX4_many : ByteArray := prog_6_method_7_code
def yX4_many : MethodName := ⟨RX4, "many", "()I"⟩
abbrev cX4_manyFrom : ByteArray := prog_6_method_8_code
def yX4_manyFrom : MethodName := ⟨RX4, "manyFrom", "(IIIII)I"⟩
abbrev cX4_withOneMore : ByteArray := prog_6_method_9_code
def yX4_withOneMore : MethodName := ⟨RX4, "withOneMore", "(II)I"⟩
def RX5 : String := "DayCubes$Told"
def TX5 : u_T := fun k => match k with
  | 0 => ("DayCubes$Told", "figures", "[I", true)
  | 1 => ("DayCubes$Told", "days", "[I", true)
  | 2 => ("DayCubes$Told", "cubes", "I", false)
  | 3 => ("DayCubes$Told", "dayCount", "I", false)
  | 4 => ("DayCubes$Told", "items", "I", false)
  | _ => ("DayCubes$Told", "both", "Z", false)
def tyX5 : Nat → FieldType := fun k => match k with
  | 0 => .array .int
  | 1 => .array .int
  | 2 => .int
  | 3 => .int
  | 4 => .int
  | _ => .boolean
abbrev wsX50 : List Cond := u_ws RX5 TX5 6
theorem nmX5 : ∀ a, a < 6 → ∀ b, b < 6 → a ≠ b → (TX5 a).2.1 ≠ (TX5 b).2.1 := by decide +kernel
theorem tyX5_ok : ∀ k, k < 6 → parseFieldDescriptor (TX5 k).2.2.1 = some (tyX5 k) := by decide +kernel
abbrev cX5_init : ByteArray := prog_7_method_1_code
def yX5_init : MethodName := ⟨RX5, "<init>", "()V"⟩
abbrev cX5_empty : ByteArray := prog_7_method_2_code
def yX5_empty : MethodName := ⟨RX5, "empty", "()V"⟩
abbrev cX5_howManyNumbers : ByteArray := prog_7_method_3_code
def yX5_howManyNumbers : MethodName := ⟨RX5, "howManyNumbers", "()I"⟩
abbrev cX5_upright : ByteArray := prog_7_method_4_code
def yX5_upright : MethodName := ⟨RX5, "upright", "(I)I"⟩
abbrev cX5_fits : ByteArray := prog_7_method_5_code
def yX5_fits : MethodName := ⟨RX5, "fits", "(II)Z"⟩
def RX6 : String := "DayCubes$Walk"
def TX6 : u_T := fun k => match k with
  | 0 => ("DayCubes$Walk", "wanted", "[I", true)
  | 1 => ("DayCubes$Walk", "cubeAt", "[I", true)
  | 2 => ("DayCubes$Walk", "placeOf", "[I", true)
  | 3 => ("DayCubes$Walk", "path", "[I", true)
  | 4 => ("DayCubes$Walk", "till", "[I", true)
  | 5 => ("DayCubes$Walk", "turnsOf", "[I", true)
  | 6 => ("DayCubes$Walk", "told", "LDayCubes$Told;", false)
  | 7 => ("DayCubes$Walk", "now", "LDayCubes$Stand;", false)
  | 8 => ("DayCubes$Walk", "cubes", "I", false)
  | 9 => ("DayCubes$Walk", "last", "I", false)
  | _ => ("DayCubes$Walk", "best", "I", false)
def tyX6 : Nat → FieldType := fun k => match k with
  | 0 => .array .int
  | 1 => .array .int
  | 2 => .array .int
  | 3 => .array .int
  | 4 => .array .int
  | 5 => .array .int
  | 6 => .object "DayCubes$Told"
  | 7 => .object "DayCubes$Stand"
  | 8 => .int
  | 9 => .int
  | _ => .int
abbrev wsX60 : List Cond := u_ws RX6 TX6 11
theorem nmX6 : ∀ a, a < 11 → ∀ b, b < 11 → a ≠ b → (TX6 a).2.1 ≠ (TX6 b).2.1 := by decide +kernel
theorem tyX6_ok : ∀ k, k < 11 → parseFieldDescriptor (TX6 k).2.2.1 = some (tyX6 k) := by decide +kernel
abbrev cX6_init : ByteArray := prog_8_method_1_code
def yX6_init : MethodName := ⟨RX6, "<init>", "()V"⟩
abbrev cX6_leastThrough : ByteArray := prog_8_method_2_code
def yX6_leastThrough : MethodName := ⟨RX6, "leastThrough", "(LDayCubes$Told;LDayCubes$Stand;II)I"⟩
abbrev cX6_takeWanted : ByteArray := prog_8_method_3_code
def yX6_takeWanted : MethodName := ⟨RX6, "takeWanted", "(II)V"⟩
abbrev cX6_reckonTurns : ByteArray := prog_8_method_4_code
def yX6_reckonTurns : MethodName := ⟨RX6, "reckonTurns", "(I)V"⟩
abbrev cX6_reckonPathsFrom : ByteArray := prog_8_method_5_code
def yX6_reckonPathsFrom : MethodName := ⟨RX6, "reckonPathsFrom", "(III)V"⟩
abbrev cX6_reckonSides : ByteArray := prog_8_method_6_code
def yX6_reckonSides : MethodName := ⟨RX6, "reckonSides", "(III)I"⟩
abbrev cX6_longerPath : ByteArray := prog_8_method_7_code
def yX6_longerPath : MethodName := ⟨RX6, "longerPath", "(II)I"⟩
abbrev cX6_choose : ByteArray := prog_8_method_8_code
def yX6_choose : MethodName := ⟨RX6, "choose", "(IIII)V"⟩
abbrev cX6_goOn : ByteArray := prog_8_method_9_code
def yX6_goOn : MethodName := ⟨RX6, "goOn", "(II)V"⟩
abbrev cX6_changesTo : ByteArray := prog_8_method_10_code
def yX6_changesTo : MethodName := ⟨RX6, "changesTo", "(I)I"⟩
def RX7 : String := "DayCubes"
def TX7 : u_T := fun k => match k with
  | 0 => ("DayCubes", "reader", "LDayCubes$Reader;", true)
  | 1 => ("DayCubes", "told", "LDayCubes$Told;", false)
  | 2 => ("DayCubes", "draft", "LDayCubes$Told;", false)
  | 3 => ("DayCubes", "now", "LDayCubes$Stand;", true)
  | 4 => ("DayCubes", "images", "[LDayCubes$Stand;", true)
  | 5 => ("DayCubes", "kept", "[Z", true)
  | 6 => ("DayCubes", "seen", "LDayCubes$Seen;", true)
  | 7 => ("DayCubes", "tellers", "LDayCubes$Tellers;", true)
  | 8 => ("DayCubes", "walk", "LDayCubes$Walk;", true)
  | 9 => ("DayCubes", "fall", "LDayCubes$Fall;", true)
  | _ => ("DayCubes", "trace", "J", false)
def tyX7 : Nat → FieldType := fun k => match k with
  | 0 => .object "DayCubes$Reader"
  | 1 => .object "DayCubes$Told"
  | 2 => .object "DayCubes$Told"
  | 3 => .object "DayCubes$Stand"
  | 4 => .array (.object "DayCubes$Stand")
  | 5 => .array .boolean
  | 6 => .object "DayCubes$Seen"
  | 7 => .object "DayCubes$Tellers"
  | 8 => .object "DayCubes$Walk"
  | 9 => .object "DayCubes$Fall"
  | _ => .long
abbrev wsX70 : List Cond := u_ws RX7 TX7 11
theorem nmX7 : ∀ a, a < 11 → ∀ b, b < 11 → a ≠ b → (TX7 a).2.1 ≠ (TX7 b).2.1 := by decide +kernel
theorem tyX7_ok : ∀ k, k < 11 → parseFieldDescriptor (TX7 k).2.2.1 = some (tyX7 k) := by decide +kernel
abbrev cX7_init : ByteArray := prog_1_method_1_code
def yX7_init : MethodName := ⟨RX7, "<init>", "()V"⟩
abbrev cX7_type : ByteArray := prog_1_method_2_code
def yX7_type : MethodName := ⟨RX7, "type", "(I)I"⟩
abbrev cX7_clear : ByteArray := prog_1_method_3_code
def yX7_clear : MethodName := ⟨RX7, "clear", "()I"⟩
abbrev cX7_desk : ByteArray := prog_1_method_4_code
def yX7_desk : MethodName := ⟨RX7, "desk", "()I"⟩
abbrev cX7_side : ByteArray := prog_1_method_5_code
def yX7_side : MethodName := ⟨RX7, "side", "(II)I"⟩
abbrev cX7_cube : ByteArray := prog_1_method_6_code
def yX7_cube : MethodName := ⟨RX7, "cube", "(II)I"⟩
abbrev cX7_place : ByteArray := prog_1_method_7_code
def yX7_place : MethodName := ⟨RX7, "place", "(I)I"⟩
abbrev cX7_day : ByteArray := prog_1_method_8_code
def yX7_day : MethodName := ⟨RX7, "day", "(I)I"⟩
abbrev cX7_turn : ByteArray := prog_1_method_9_code
def yX7_turn : MethodName := ⟨RX7, "turn", "(II)I"⟩
abbrev cX7_changes : ByteArray := prog_1_method_10_code
def yX7_changes : MethodName := ⟨RX7, "changes", "(II)I"⟩
abbrev cX7_pastes : ByteArray := prog_1_method_11_code
def yX7_pastes : MethodName := ⟨RX7, "pastes", "(III)I"⟩
abbrev cX7_undo : ByteArray := prog_1_method_12_code
def yX7_undo : MethodName := ⟨RX7, "undo", "()I"⟩
abbrev cX7_now : ByteArray := prog_1_method_13_code
def yX7_now : MethodName := ⟨RX7, "now", "(I)I"⟩
abbrev cX7_number : ByteArray := prog_1_method_14_code
def yX7_number : MethodName := ⟨RX7, "number", "(II)I"⟩
abbrev cX7_through : ByteArray := prog_1_method_15_code
def yX7_through : MethodName := ⟨RX7, "through", "(II)I"⟩
abbrev cX7_odds : ByteArray := prog_1_method_16_code
def yX7_odds : MethodName := ⟨RX7, "odds", "(II)I"⟩
abbrev cX7_sees : ByteArray := prog_1_method_17_code
def yX7_sees : MethodName := ⟨RX7, "sees", "(II)I"⟩
abbrev cX7_forget : ByteArray := prog_1_method_18_code
def yX7_forget : MethodName := ⟨RX7, "forget", "()I"⟩
abbrev cX7_which : ByteArray := prog_1_method_19_code
def yX7_which : MethodName := ⟨RX7, "which", "()I"⟩
abbrev cX7_look : ByteArray := prog_1_method_20_code
def yX7_look : MethodName := ⟨RX7, "look", "()I"⟩
abbrev cX7_mark : ByteArray := prog_1_method_21_code
def yX7_mark : MethodName := ⟨RX7, "mark", "(II)I"⟩
abbrev cX7_keep : ByteArray := prog_1_method_22_code
def yX7_keep : MethodName := ⟨RX7, "keep", "(I)I"⟩
abbrev cX7_back : ByteArray := prog_1_method_23_code
def yX7_back : MethodName := ⟨RX7, "back", "(I)I"⟩
abbrev cX7_count : ByteArray := prog_1_method_24_code
def yX7_count : MethodName := ⟨RX7, "count", "(I)I"⟩
abbrev cX7_trace : ByteArray := prog_1_method_25_code
def yX7_trace : MethodName := ⟨RX7, "trace", "()J"⟩
abbrev cX7_isCube : ByteArray := prog_1_method_26_code
def yX7_isCube : MethodName := ⟨RX7, "isCube", "(I)Z"⟩
abbrev cX7_isPlace : ByteArray := prog_1_method_27_code
def yX7_isPlace : MethodName := ⟨RX7, "isPlace", "(I)Z"⟩
abbrev cX7_isNumber : ByteArray := prog_1_method_28_code
def yX7_isNumber : MethodName := ⟨RX7, "isNumber", "(I)Z"⟩
abbrev cX7_isSide : ByteArray := prog_1_method_29_code
def yX7_isSide : MethodName := ⟨RX7, "isSide", "(I)Z"⟩
abbrev cX7_isFigure : ByteArray := prog_1_method_30_code
def yX7_isFigure : MethodName := ⟨RX7, "isFigure", "(I)Z"⟩
abbrev cX7_isImage : ByteArray := prog_1_method_31_code
def yX7_isImage : MethodName := ⟨RX7, "isImage", "(I)Z"⟩
abbrev cX7_tellersBut : ByteArray := prog_1_method_32_code
def yX7_tellersBut : MethodName := ⟨RX7, "tellersBut", "(I)LDayCubes$Tellers;"⟩
abbrev cX7_numberInFront : ByteArray := prog_1_method_33_code
def yX7_numberInFront : MethodName := ⟨RX7, "numberInFront", "()I"⟩
abbrev cX7_isTold : ByteArray := prog_1_method_34_code
def yX7_isTold : MethodName := ⟨RX7, "isTold", "(I)Z"⟩
abbrev cX7_leastWork : ByteArray := prog_1_method_35_code
def yX7_leastWork : MethodName := ⟨RX7, "leastWork", "(II)I"⟩
abbrev cX7_sidesNeeded : ByteArray := prog_1_method_36_code
def yX7_sidesNeeded : MethodName := ⟨RX7, "sidesNeeded", "(I)I"⟩
abbrev cX7_markAs : ByteArray := prog_1_method_37_code
def yX7_markAs : MethodName := ⟨RX7, "markAs", "(II)I"⟩
def RX8 : String := "DayCubesModel"
def TX8 : u_T := fun k => match k with
  | 0 => ("DayCubesModel", "text", "[B", true)
  | 1 => ("DayCubesModel", "typed", "I", false)
  | 2 => ("DayCubesModel", "cubes", "[I", true)
  | 3 => ("DayCubesModel", "days", "[I", true)
  | 4 => ("DayCubesModel", "both", "[I", true)
  | 5 => ("DayCubesModel", "figure", "[I", true)
  | 6 => ("DayCubesModel", "day", "[I", true)
  | 7 => ("DayCubesModel", "at", "I", false)
  | 8 => ("DayCubesModel", "stands", "I", false)
  | 9 => ("DayCubesModel", "sort", "I", false)
  | 10 => ("DayCubesModel", "value", "I", false)
  | 11 => ("DayCubesModel", "isWrong", "Z", false)
  | 12 => ("DayCubesModel", "items", "I", false)
  | 13 => ("DayCubesModel", "now", "[I", true)
  | 14 => ("DayCubesModel", "known", "[I", true)
  | 15 => ("DayCubesModel", "before", "[I", true)
  | 16 => ("DayCubesModel", "store", "[I", true)
  | 17 => ("DayCubesModel", "isKept", "[Z", true)
  | 18 => ("DayCubesModel", "least", "[I", true)
  | 19 => ("DayCubesModel", "orders", "[I", true)
  | 20 => ("DayCubesModel", "manyOrders", "I", false)
  | 21 => ("DayCubesModel", "factOf", "[I", true)
  | 22 => ("DayCubesModel", "factIs", "[I", true)
  | 23 => ("DayCubesModel", "facts", "I", false)
  | _ => ("DayCubesModel", "trace", "J", false)
def tyX8 : Nat → FieldType := fun k => match k with
  | 0 => .array .byte
  | 1 => .int
  | 2 => .array .int
  | 3 => .array .int
  | 4 => .array .int
  | 5 => .array .int
  | 6 => .array .int
  | 7 => .int
  | 8 => .int
  | 9 => .int
  | 10 => .int
  | 11 => .boolean
  | 12 => .int
  | 13 => .array .int
  | 14 => .array .int
  | 15 => .array .int
  | 16 => .array .int
  | 17 => .array .boolean
  | 18 => .array .int
  | 19 => .array .int
  | 20 => .int
  | 21 => .array .int
  | 22 => .array .int
  | 23 => .int
  | _ => .long
abbrev wsX80 : List Cond := u_ws RX8 TX8 25
theorem nmX8 : ∀ a, a < 25 → ∀ b, b < 25 → a ≠ b → (TX8 a).2.1 ≠ (TX8 b).2.1 := by decide +kernel
theorem tyX8_ok : ∀ k, k < 25 → parseFieldDescriptor (TX8 k).2.2.1 = some (tyX8 k) := by decide +kernel
abbrev cX8_init : ByteArray := prog_10_method_1_code
def yX8_init : MethodName := ⟨RX8, "<init>", "()V"⟩
abbrev cX8_in : ByteArray := prog_10_method_3_code
def yX8_in : MethodName := ⟨RX8, "in", "(III)Z"⟩
abbrev cX8_has : ByteArray := prog_10_method_4_code
def yX8_has : MethodName := ⟨RX8, "has", "(II)Z"⟩
abbrev cX8_bitsOf : ByteArray := prog_10_method_5_code
def yX8_bitsOf : MethodName := ⟨RX8, "bitsOf", "(I)I"⟩
abbrev cX8_type : ByteArray := prog_10_method_6_code
def yX8_type : MethodName := ⟨RX8, "type", "(I)I"⟩
abbrev cX8_clear : ByteArray := prog_10_method_7_code
def yX8_clear : MethodName := ⟨RX8, "clear", "()I"⟩
abbrev cX8_here : ByteArray := prog_10_method_8_code
def yX8_here : MethodName := ⟨RX8, "here", "()I"⟩
abbrev cX8_step : ByteArray := prog_10_method_9_code
def yX8_step : MethodName := ⟨RX8, "step", "()V"⟩
abbrev cX8_due : ByteArray := prog_10_method_10_code
def yX8_due : MethodName := ⟨RX8, "due", "(Z)V"⟩
abbrev cX8_amount : ByteArray := prog_10_method_11_code
def yX8_amount : MethodName := ⟨RX8, "amount", "(II)I"⟩
abbrev cX8_power : ByteArray := prog_10_method_12_code
def yX8_power : MethodName := ⟨RX8, "power", "(I)I"⟩
abbrev cX8_item : ByteArray := prog_10_method_13_code
def yX8_item : MethodName := ⟨RX8, "item", "(I)V"⟩
abbrev cX8_may : ByteArray := prog_10_method_14_code
def yX8_may : MethodName := ⟨RX8, "may", "(I)Z"⟩
abbrev cX8_read : ByteArray := prog_10_method_15_code
def yX8_read : MethodName := ⟨RX8, "read", "()V"⟩
abbrev cX8_desk : ByteArray := prog_10_method_16_code
def yX8_desk : MethodName := ⟨RX8, "desk", "()I"⟩
abbrev cX8_begin : ByteArray := prog_10_method_17_code
def yX8_begin : MethodName := ⟨RX8, "begin", "()V"⟩
abbrev cX8_isCube : ByteArray := prog_10_method_18_code
def yX8_isCube : MethodName := ⟨RX8, "isCube", "(I)Z"⟩
abbrev cX8_isSide : ByteArray := prog_10_method_19_code
def yX8_isSide : MethodName := ⟨RX8, "isSide", "(I)Z"⟩
abbrev cX8_isNumber : ByteArray := prog_10_method_20_code
def yX8_isNumber : MethodName := ⟨RX8, "isNumber", "(I)Z"⟩
abbrev cX8_figureOf : ByteArray := prog_10_method_21_code
def yX8_figureOf : MethodName := ⟨RX8, "figureOf", "(II)I"⟩
abbrev cX8_fits : ByteArray := prog_10_method_22_code
def yX8_fits : MethodName := ⟨RX8, "fits", "(II)Z"⟩
abbrev cX8_hasFit : ByteArray := prog_10_method_23_code
def yX8_hasFit : MethodName := ⟨RX8, "hasFit", "(III)Z"⟩
abbrev cX8_placeOf : ByteArray := prog_10_method_24_code
def yX8_placeOf : MethodName := ⟨RX8, "placeOf", "(I)I"⟩
abbrev cX8_cubeIn : ByteArray := prog_10_method_25_code
def yX8_cubeIn : MethodName := ⟨RX8, "cubeIn", "(II)I"⟩
abbrev cX8_codes : ByteArray := prog_10_method_26_code
def yX8_codes : MethodName := ⟨RX8, "codes", "()I"⟩
abbrev cX8_isOrder : ByteArray := prog_10_method_27_code
def yX8_isOrder : MethodName := ⟨RX8, "isOrder", "(I)Z"⟩
abbrev cX8_orderNow : ByteArray := prog_10_method_28_code
def yX8_orderNow : MethodName := ⟨RX8, "orderNow", "()I"⟩
abbrev cX8_changesTo : ByteArray := prog_10_method_29_code
def yX8_changesTo : MethodName := ⟨RX8, "changesTo", "(II)I"⟩
abbrev cX8_turnsTo : ByteArray := prog_10_method_30_code
def yX8_turnsTo : MethodName := ⟨RX8, "turnsTo", "(II)I"⟩
abbrev cX8_can : ByteArray := prog_10_method_31_code
def yX8_can : MethodName := ⟨RX8, "can", "(III)Z"⟩
abbrev cX8_doneNow : ByteArray := prog_10_method_32_code
def yX8_doneNow : MethodName := ⟨RX8, "doneNow", "()I"⟩
abbrev cX8_neededOf : ByteArray := prog_10_method_33_code
def yX8_neededOf : MethodName := ⟨RX8, "neededOf", "(I)I"⟩
abbrev cX8_figuresOf : ByteArray := prog_10_method_34_code
def yX8_figuresOf : MethodName := ⟨RX8, "figuresOf", "(I)I"⟩
abbrev cX8_side : ByteArray := prog_10_method_35_code
def yX8_side : MethodName := ⟨RX8, "side", "(II)I"⟩
abbrev cX8_cube : ByteArray := prog_10_method_36_code
def yX8_cube : MethodName := ⟨RX8, "cube", "(II)I"⟩
abbrev cX8_place : ByteArray := prog_10_method_37_code
def yX8_place : MethodName := ⟨RX8, "place", "(I)I"⟩
abbrev cX8_day : ByteArray := prog_10_method_38_code
def yX8_day : MethodName := ⟨RX8, "day", "(I)I"⟩
abbrev cX8_know : ByteArray := prog_10_method_39_code
def yX8_know : MethodName := ⟨RX8, "know", "()V"⟩
abbrev cX8_worked : ByteArray := prog_10_method_40_code
def yX8_worked : MethodName := ⟨RX8, "worked", "(I)I"⟩
abbrev cX8_turn : ByteArray := prog_10_method_41_code
def yX8_turn : MethodName := ⟨RX8, "turn", "(II)I"⟩
abbrev cX8_changes : ByteArray := prog_10_method_42_code
def yX8_changes : MethodName := ⟨RX8, "changes", "(II)I"⟩
abbrev cX8_pastes : ByteArray := prog_10_method_43_code
def yX8_pastes : MethodName := ⟨RX8, "pastes", "(III)I"⟩
abbrev cX8_undo : ByteArray := prog_10_method_44_code
def yX8_undo : MethodName := ⟨RX8, "undo", "()I"⟩
abbrev cX8_inFront : ByteArray := prog_10_method_45_code
def yX8_inFront : MethodName := ⟨RX8, "inFront", "(I)I"⟩
abbrev cX8_now : ByteArray := prog_10_method_46_code
def yX8_now : MethodName := ⟨RX8, "now", "(I)I"⟩
abbrev cX8_isTold : ByteArray := prog_10_method_47_code
def yX8_isTold : MethodName := ⟨RX8, "isTold", "(I)Z"⟩
abbrev cX8_turnsFor : ByteArray := prog_10_method_48_code
def yX8_turnsFor : MethodName := ⟨RX8, "turnsFor", "(IIIII)I"⟩
abbrev cX8_tellTurns : ByteArray := prog_10_method_49_code
def yX8_tellTurns : MethodName := ⟨RX8, "tellTurns", "(II)V"⟩
abbrev cX8_tellOrders : ByteArray := prog_10_method_50_code
def yX8_tellOrders : MethodName := ⟨RX8, "tellOrders", "()V"⟩
abbrev cX8_placeIn : ByteArray := prog_10_method_51_code
def yX8_placeIn : MethodName := ⟨RX8, "placeIn", "(II)I"⟩
abbrev cX8_workBy : ByteArray := prog_10_method_52_code
def yX8_workBy : MethodName := ⟨RX8, "workBy", "(III)I"⟩
abbrev cX8_workFor : ByteArray := prog_10_method_53_code
def yX8_workFor : MethodName := ⟨RX8, "workFor", "(II)I"⟩
abbrev cX8_pastesFor : ByteArray := prog_10_method_54_code
def yX8_pastesFor : MethodName := ⟨RX8, "pastesFor", "(I)I"⟩
abbrev cX8_number : ByteArray := prog_10_method_55_code
def yX8_number : MethodName := ⟨RX8, "number", "(II)I"⟩
abbrev cX8_through : ByteArray := prog_10_method_56_code
def yX8_through : MethodName := ⟨RX8, "through", "(II)I"⟩
abbrev cX8_isBy : ByteArray := prog_10_method_57_code
def yX8_isBy : MethodName := ⟨RX8, "isBy", "(II)Z"⟩
abbrev cX8_odds : ByteArray := prog_10_method_58_code
def yX8_odds : MethodName := ⟨RX8, "odds", "(II)I"⟩
abbrev cX8_sees : ByteArray := prog_10_method_59_code
def yX8_sees : MethodName := ⟨RX8, "sees", "(II)I"⟩
abbrev cX8_forget : ByteArray := prog_10_method_60_code
def yX8_forget : MethodName := ⟨RX8, "forget", "()I"⟩
abbrev cX8_which : ByteArray := prog_10_method_61_code
def yX8_which : MethodName := ⟨RX8, "which", "()I"⟩
abbrev cX8_look : ByteArray := prog_10_method_62_code
def yX8_look : MethodName := ⟨RX8, "look", "()I"⟩
abbrev cX8_bodiesOf : ByteArray := prog_10_method_63_code
def yX8_bodiesOf : MethodName := ⟨RX8, "bodiesOf", "(I)I"⟩
abbrev cX8_mark : ByteArray := prog_10_method_64_code
def yX8_mark : MethodName := ⟨RX8, "mark", "(II)I"⟩
abbrev cX8_trace : ByteArray := prog_10_method_65_code
def yX8_trace : MethodName := ⟨RX8, "trace", "()J"⟩
abbrev cX8_keep : ByteArray := prog_10_method_66_code
def yX8_keep : MethodName := ⟨RX8, "keep", "(I)I"⟩
abbrev cX8_back : ByteArray := prog_10_method_67_code
def yX8_back : MethodName := ⟨RX8, "back", "(I)I"⟩
abbrev cX8_count : ByteArray := prog_10_method_68_code
def yX8_count : MethodName := ⟨RX8, "count", "(I)I"⟩
def RJ6 : String := "java/lang/Integer"
abbrev cJ6_bitCount_0f7a4 : ByteArray := prog_11_method_49_code
def yJ6_bitCount_0f7a4 : MethodName := ⟨RJ6, "bitCount", "(I)I"⟩
def RJ9 : String := "java/lang/Math"
abbrev cJ9_max_7cf53 : ByteArray := prog_12_method_65_code
def yJ9_max_7cf53 : MethodName := ⟨RJ9, "max", "(II)I"⟩
abbrev cJ9_min_7cf53 : ByteArray := prog_12_method_69_code
def yJ9_min_7cf53 : MethodName := ⟨RJ9, "min", "(II)I"⟩
def RJ10 : String := "java/lang/System"
def RJ7 : String := "java/util/Arrays"
abbrev cJ7_fill_53178 : ByteArray := prog_14_method_103_code
def yJ7_fill_53178 : MethodName := ⟨RJ7, "fill", "([II)V"⟩
abbrev cJ7_fill_49daa : ByteArray := prog_14_method_111_code
def yJ7_fill_49daa : MethodName := ⟨RJ7, "fill", "([ZZ)V"⟩
def RL : String := "DayCubesLaw"
abbrev cL_law : ByteArray := code
def yL_law : MethodName := ⟨RL, "law", "([I)Z"⟩
/-- the classes whose objects the heaps hold -/
def mCl : List vw_C := [(RX0, TX0, 5), (RX1, TX1, 6), (RX2, TX2, 3), (RX3, TX3, 6), (RX4, TX4, 2), (RX5, TX5, 6), (RX6, TX6, 11), (RX7, TX7, 11), (RX8, TX8, 25)]
end
section
/-! THE PURE LAYER: heaps of numbered cells, and a judgement mG over them that is proved once over the machine, an instruction a row. -/
abbrev mC : Type := (Nat × Nat × (Nat → Int32)) ⊕ ((Nat × (Nat → Option Nat)) ⊕ (Nat × List Value))
abbrev mH : Type := Nat → mC
/-- launch; classes and slots; array classes; first address; tables' addresses; script; whether cells 3, 4, 5 and 6, 7, 8 have changed places -/
abbrev mE : Type := Launch × va_G × (Nat → ClassId) × Nat × (Nat → Nat) × (Nat × (Nat → Int32)) × Bool
abbrev mY : Type := MethodName × ByteArray × Nat × Option FieldType
abbrev mM : Type := Room × mY
abbrev mKt : Type := List Frame → Array Value → State → State → Prop
def mSw (b : Bool) (k : Nat) : Nat := if b = true then (if 3 ≤ k ∧ k < 6 then k + 3 else if 6 ≤ k ∧ k < 9 then k - 3 else k) else k
theorem mSw_inj {b : Bool} {i j : Nat} (h : mSw b i = mSw b j) : i = j := by
  unfold mSw at h
  cases b <;> simp at h
  · exact h
  · split at h <;> split at h <;> (try split at h) <;> (try split at h) <;> omega
def mra (E : mE) (k : Nat) : Nat := if k < 1000 then E.2.2.2.1 + mSw E.2.2.2.2.2.2 k else E.2.2.2.2.1 (k - 1000)
def mrv (E : mE) : Value → Value
  | .ref k => .ref (mra E k)
  | v => v
theorem mrv_cat (E : mE) (v : Value) : (mrv E v).category = v.category := by cases v <;> rfl
def mEn (E : mE) : mC → va_E
  | .inl x => .inl (E.2.2.1 x.1, (x.2.1, .inl x.2.2))
  | .inr (.inl x) => .inl (E.2.2.1 3, (x.1, .inr (.inr (.inr (.inr (fun j => (x.2 j).map (mra E)))))))
  | .inr (.inr x) => .inr (x.1, x.2.map (mrv E))
def mWs (E : mE) (n : Nat) (h : mH) : va_W := (List.range n).map (fun k => (E.2.2.2.1 + mSw E.2.2.2.2.2.2 k, mEn E (h k)))
def mA (E : mE) : Nat → Prop := fun q => E.2.2.2.1 ≤ q
def mU (h : mH) (a : Nat) (c : mC) : mH := fun j => if j = a then c else h j
theorem mU_same (h : mH) (a : Nat) (c d : mC) : mU (mU h a c) a d = mU h a d := by
  funext j
  unfold mU
  by_cases e : j = a <;> simp [e]
theorem mU_self (h : mH) (a : Nat) (c : mC) (e : h a = c) : mU h a c = h := by
  funext j
  unfold mU
  by_cases q : j = a
  · rw [if_pos q, q, e]
  · rw [if_neg q]
theorem mU_comm (h : mH) {a b : Nat} (hab : a ≠ b) (c d : mC) : mU (mU h a c) b d = mU (mU h b d) a c := by
  funext j
  unfold mU
  by_cases q : j = a
  · subst q
    simp [hab]
  · by_cases r : j = b
    · subst r
      simp [q]
    · simp [q, r]
theorem mWs_get {E : mE} {n : Nat} {h : mH} {a : Nat} (ha : a < n) {c : mC} (hc : h a = c) : (mWs E n h)[a]? = some (E.2.2.2.1 + mSw E.2.2.2.2.2.2 a, mEn E c) := by
  unfold mWs
  rw [List.getElem?_map, List.getElem?_range ha, ← hc]
  rfl
theorem mWs_set {E : mE} {n : Nat} {h : mH} {a : Nat} (c : mC) : (mWs E n h).set a (E.2.2.2.1 + mSw E.2.2.2.2.2.2 a, mEn E c) = mWs E n (mU h a c) := by
  apply List.ext_getElem?
  intro i
  unfold mWs
  rw [List.getElem?_set]
  by_cases hi : i < n
  · by_cases e : a = i
    · subst e
      simp [hi, mU, List.getElem?_map, List.getElem?_range hi]
    · simp [e, mU, Ne.symm e, List.getElem?_map, List.getElem?_range hi]
  · by_cases e : a = i
    · subst e
      simp [hi, List.getElem?_map]
    · simp [e, hi, List.getElem?_map]
theorem mWs_D (E : mE) (n : Nat) (h : mH) : va_D (mA E) (mWs E n h) := by
  constructor
  · intro i j p q hp hq e
    unfold mWs at hp hq
    rw [List.getElem?_map] at hp hq
    cases hi : (List.range n)[i]? with
    | none => rw [hi] at hp; cases hp
    | some i' =>
      cases hj : (List.range n)[j]? with
      | none => rw [hj] at hq; cases hq
      | some j' =>
        rw [hi] at hp
        rw [hj] at hq
        cases hp
        cases hq
        have e1 := (List.getElem?_eq_some_iff.mp hi)
        have e2 := (List.getElem?_eq_some_iff.mp hj)
        obtain ⟨_, e1⟩ := e1
        obtain ⟨_, e2⟩ := e2
        simp at e1 e2
        subst e1
        subst e2
        exact mSw_inj (Nat.add_left_cancel e)
  · intro k q hk
    obtain ⟨i, -, hi⟩ := List.mem_map.mp (List.mem_of_getElem? hk)
    rw [← hi]
    exact Nat.le_add_right _ _
/-! the words that every method takes along -/
def mw : List Cond := lw_tbl.filter goodWord
theorem mw_of {w : Cond} (i : Nat) (h : lw_tbl[i]? = some w) (g : goodWord w = true) : w ∈ mw := List.mem_filter.mpr ⟨List.mem_of_getElem? h, g⟩
theorem mGood {w : Cond} (hw : w ∈ mw) : GoodIn mw (w :: mw) := fun x hx => by
  have hx' : x ∈ mw := (List.mem_cons.mp hx).elim (fun e => e ▸ hw) id
  exact ⟨hx', good_of_word (List.mem_filter.mp hx').2⟩
/-! what isn't among them: nest mates, arrays over a class -/
def mNf : List (String × Nat × String) := [("DayCubes$Told", 32, "POWERS_OF_TEN"), ("DayCubes$Tellers", 51, "POWERS_OF_TEN"), ("DayCubes$Fall", 45, "POWERS_OF_SIX")]
def mNm : List (Nat × String) := [(9, "DayCubes$Reader"), (18, "DayCubes$Told"), (28, "DayCubes$Stand"), (43, "DayCubes$Seen"), (50, "DayCubes$Tellers"), (57, "DayCubes$Walk"), (64, "DayCubes$Fall")]
def mTys (E : mE) : List (ClassId × FieldType) := [(E.2.2.1 0, .int), (E.2.2.1 1, .byte), (E.2.2.1 2, .boolean), (E.2.2.1 3, .object "DayCubes$Stand")]
def mKn (E : mE) (U : State) : Prop := va_K E.2.1 mCl (mTys E) U ∧ va_AO "DayCubes$Stand" U ∧ (∀ q ∈ mNf, va_Nw (.fieldLinkNest q.1 q.2.1 "DayCubes" q.2.2 "[I" "DayCubes") U) ∧ ∀ q ∈ mNm, va_Nw (.methodLinkNest "DayCubes" q.1 ⟨q.2, "<init>", "()V"⟩ "DayCubes") U
theorem mKn.warm {E : mE} {s U : State} (hW : s.WarmedH U.vm) (h : mKn E s) : mKn E U := ⟨va_K.moved hW.alike h.1, va_AO.moved hW.alike h.2.1, fun q hq => va_Nw.warmF hW (h.2.2.1 q hq), fun q hq => va_Nw.warmM hW (h.2.2.2 q hq)⟩
theorem mKn.same {E : mE} {s U : State} (hv : s.vm = U.vm) (h : mKn E s) : mKn E U := ⟨va_K.moved (by rw [hv]; exact Vm.Alike.refl _) h.1, va_AO.moved (by rw [hv]; exact Vm.Alike.refl _) h.2.1, fun q hq => va_Nw.same rfl hv (h.2.2.1 q hq), fun q hq => va_Nw.same rfl hv (h.2.2.2 q hq)⟩
/-! tables: 0 POWERS_OF_TEN, 1 POWERS_OF_SIX, 2 KIND_ABOVE, 3 KIND_TRACE, 4 SETS_WITHOUT, 5 the script -/
def mSC : Nat → String := fun i => if i = 4 then "DayCubes$Tellers" else "DayCubes"
def mSN : Nat → String := fun i => match i with
  | 0 => "POWERS_OF_TEN"
  | 1 => "POWERS_OF_SIX"
  | 2 => "KIND_ABOVE"
  | 3 => "KIND_TRACE"
  | _ => "SETS_WITHOUT"
def mTab : Nat → List Int32 := fun i => match i with
  | 0 => [1, 10, 100, 1000, 10000]
  | 1 => [1, 6, 36, 216, 1296]
  | 2 => [0, 0, 0, 1, 2, 0]
  | 3 => [1, 10, 100, 1000, 10000, 100000]
  | _ => [0x5555, 0x3333, 0x0F0F, 0x00FF]
def mTL (E : mE) (i : Nat) : Nat := if i < 5 then (mTab i).length else E.2.2.2.2.2.1.1
def mTF (E : mE) (i j : Nat) : Int32 := if i < 5 then (mTab i).getD j 0 else E.2.2.2.2.2.1.2 j
def mSt (E : mE) (U : State) (H : Heap) : Prop := (∀ i, i < 5 → va_Z (mSC i) (mSN i) "[I" (.ref (E.2.2.2.2.1 i)) (mA E) U H) ∧ ∀ i, i < 6 → va_T .int (E.2.2.2.2.1 i) (mTL E i) (fun j => .int (mTF E i j)) (mA E) U H
theorem mSt.kept {E : mE} {u U : State} {H H1 : Heap} (hv : u.vm.Alike U.vm) (h : mSt E u H) (hq : ∀ a : Nat, a < H.size → ¬ mA E a → H1[a]? = H[a]?) : mSt E U H1 := ⟨fun i hi => va_Z.moved hv ((h.1 i hi).kept hq), fun i hi => va_T.moved hv ((h.2 i hi).kept hq)⟩
def mRep (E : mE) (n : Nat) (h : mH) (H : Heap) : Prop := n ≤ 1000 ∧ va_P E.2.1 mCl (mWs E n h) H
def mRs (E : mE) (s : State) (a : Nat × Nat × Nat) (h : mH) (H : Heap) : Prop := s.heap.size + a.2.1 = E.2.2.2.1 + a.1 ∧ mRep E a.1 h H
theorem mRep.size {E : mE} {n : Nat} {h : mH} {H : Heap} (R : mRep E n h H) (hE : E.2.2.2.2.2.2 = true → 9 ≤ n) : n = 0 ∨ E.2.2.2.1 + n ≤ H.size := by
  rcases Nat.eq_zero_or_pos n with h0 | h0
  · exact Or.inl h0
  · right
    have key : ∀ i, i < n → E.2.2.2.1 + mSw E.2.2.2.2.2.2 i < H.size := fun i hi => (R.2 i _ (mWs_get hi rfl)).lt
    cases hb : E.2.2.2.2.2.2 with
    | false =>
      have := key (n - 1) (by omega)
      rw [hb] at this
      simp [mSw] at this
      omega
    | true =>
      have h9 := hE hb
      by_cases h10 : 10 ≤ n
      · have := key (n - 1) (by omega)
        rw [hb] at this
        unfold mSw at this
        rw [if_pos rfl, if_neg (by omega), if_neg (by omega)] at this
        omega
      · have e9 : n = 9 := by omega
        have := key 5 (by omega)
        rw [hb] at this
        unfold mSw at this
        rw [if_pos rfl, if_pos (by omega)] at this
        omega
/-! locals -/
def mPr (E : mE) (L : List (Option Value)) : List (Nat × Value) := (List.range L.length).filterMap (fun i => match L[i]? with
  | some (some v) => some (i, mrv E v)
  | _ => none)
theorem mPr_mem {E : mE} {L : List (Option Value)} {i : Nat} {w : Value} : (i, w) ∈ mPr E L ↔ ∃ v, L[i]? = some (some v) ∧ w = mrv E v := by
  unfold mPr
  rw [List.mem_filterMap]
  constructor
  · rintro ⟨j, -, hj⟩
    split at hj
    · rename_i v hv
      simp at hj
      obtain ⟨rfl, rfl⟩ := hj
      exact ⟨v, hv, rfl⟩
    · cases hj
  · rintro ⟨v, hv, rfl⟩
    refine ⟨i, List.mem_range.mpr (List.getElem?_eq_some_iff.mp hv).1, ?_⟩
    rw [hv]
theorem mHas_at {E : mE} {ls : Array Slot} {nL : Nat} {L : List (Option Value)} (V : lv_has ls nL (mPr E L)) {i : Nat} {v : Value} (hi : L[i]? = some (some v)) : ls[i]? = some (.val (mrv E v)) := V.2.2 (i, mrv E v) (mPr_mem.mpr ⟨v, hi, rfl⟩)
/-- a store of one word at i leaves the others, if the one ahead isn't a long -/
def mOkS (L : List (Option Value)) (i : Nat) : Bool := match i with
  | 0 => true
  | j + 1 => match L[j]? with
    | some (some v) => v.category == 1
    | _ => true
theorem mHas_set {E : mE} {ls : Array Slot} {nL : Nat} {L : List (Option Value)} {i : Nat} {v : Value} (V : lv_has ls nL ((i, mrv E v) :: (mPr E L).filter (fun q => !(q.1 == i) && !(q.1 + 1 == i && q.2.category == 2)))) (hok : mOkS L i = true) : lv_has ls nL (mPr E (L.set i (some v))) := by
  refine ⟨V.1, V.2.1, ?_⟩
  rintro ⟨j, w⟩ hq
  obtain ⟨u, hu, rfl⟩ := mPr_mem.mp hq
  rw [List.getElem?_set] at hu
  by_cases e : i = j
  · subst e
    rw [if_pos rfl] at hu
    split at hu
    · cases hu
      exact V.2.2 (i, mrv E v) List.mem_cons_self
    · cases hu
  · rw [if_neg e] at hu
    refine V.2.2 (j, mrv E u) (List.mem_cons_of_mem _ (List.mem_filter.mpr ⟨mPr_mem.mpr ⟨u, hu, rfl⟩, ?_⟩))
    have e1 : ¬ j = i := fun z => e z.symm
    simp only [Bool.and_eq_true, Bool.not_eq_true', beq_eq_false_iff_ne, ne_eq, e1, not_false_iff, true_and, Bool.and_eq_false_iff]
    by_cases e2 : j + 1 = i
    · right
      subst e2
      simp [mOkS, hu] at hok
      rw [mrv_cat]
      omega
    · left
      exact e2
theorem mHas_set2 {E : mE} {ls : Array Slot} {nL : Nat} {L : List (Option Value)} {i : Nat} {v : Value} (V : lv_has ls nL ((i, mrv E v) :: (mPr E L).filter (fun q => !(q.1 == i) && (!(q.1 == i + 1) && !(q.1 + 1 == i && q.2.category == 2))))) (hok : mOkS L i = true) : lv_has ls nL (mPr E ((L.set i (some v)).set (i + 1) none)) := by
  refine ⟨V.1, V.2.1, ?_⟩
  rintro ⟨j, w⟩ hq
  obtain ⟨u, hu, rfl⟩ := mPr_mem.mp hq
  rw [List.getElem?_set] at hu
  by_cases e0 : i + 1 = j
  · rw [if_pos e0] at hu
    split at hu <;> cases hu
  · rw [if_neg e0, List.getElem?_set] at hu
    by_cases e : i = j
    · subst e
      rw [if_pos rfl] at hu
      split at hu
      · cases hu
        exact V.2.2 (i, mrv E v) List.mem_cons_self
      · cases hu
    · rw [if_neg e] at hu
      refine V.2.2 (j, mrv E u) (List.mem_cons_of_mem _ (List.mem_filter.mpr ⟨mPr_mem.mpr ⟨u, hu, rfl⟩, ?_⟩))
      have e1 : ¬ j = i := fun z => e z.symm
      have e3 : ¬ j = i + 1 := fun z => e0 z.symm
      simp only [Bool.and_eq_true, Bool.not_eq_true', beq_eq_false_iff_ne, ne_eq, e1, e3, not_false_iff, true_and, Bool.and_eq_false_iff]
      by_cases e2 : j + 1 = i
      · right
        subst e2
        simp [mOkS, hu] at hok
        rw [mrv_cat]
        omega
      · left
        exact e2
/-! the judgement -/
def mCx (E : mE) (M : mM) (p : Program) (s : State) (m : MethodId) (args : Array Value) (meth : Method) (c : Code) : Prop :=
  p.tables.exec = Jvm.exec ∧ c.code = M.2.2.1 ∧ c.maxLocals = M.2.2.2.1 ∧ meth.sig.returnType = M.2.2.2.2 ∧ meth.locks = false ∧ s.vm.findClass M.2.1.cls = some m.cls ∧ meth.name = M.2.1.name ∧ (∀ w ∈ mw, w.before args s = true) ∧ mKn E s ∧ mSt E s s.heap ∧ E.2.2.2.1 ≤ s.heap.size
def mG (E : mE) (M : mM) (K : mKt) (pc : Nat) (L : List (Option Value)) (st : List Value) (a : Nat × Nat × Nat) (h : mH) : Prop :=
  ∀ (p : Program) (e : Env) (s : State) (m : MethodId) (args : Array Value) (below : List Frame) (meth : Method) (c : Code) (H : Heap) (locs : List Loc) (ls : Array Slot), mCx E M p s m args meth c → mRs E s a h H → va_S (mA E) s.heap H locs → lv_has ls M.2.2.2.1 (mPr E L) →
    W p E.1 e M.1 s m args below meth c H locs a.2.1 a.2.2 (K below args s) (F0 m pc ls (st.map (mrv E)))
/-- an instruction at pc, and where the next one is -/
def mD (cc : ByteArray) (pc : Nat) (i : Instr) (len pc' : Nat) : Prop := decode cc pc = .ok (i, len) ∧ pc + len = pc'
/-- a jump at pc: the next one, and where it goes -/
def mJ (cc : ByteArray) (pc : Nat) (i : Int → Instr) (pc' tgt : Nat) : Prop := ∃ off, decode cc pc = .ok (i off, 3) ∧ pc + 3 = pc' ∧ (pc : Int) + off = (tgt : Int)
theorem mJ.of {cc : ByteArray} {pc : Nat} {i : Int → Instr} {pc' tgt : Nat} (off : Int) (h : decode cc pc = .ok (i off, 3)) (h1 : pc + 3 = pc') (h2 : (pc : Int) + off = (tgt : Int)) : mJ cc pc i pc' tgt := ⟨off, h, h1, h2⟩
def mR (d : Nat) : Room := { frames := d, cells := 0, slots := 0, locals := 60 * d }
def mRa (d mc ms : Nat) : Room := { frames := d, cells := mc, slots := ms, locals := 60 * d }
def mPc (E : mE) (av : List Value) (n : Nat) (h : mH) : Array Value → State → Prop := fun v U => v = (av.map (mrv E)).toArray ∧ mRep E n h U.heap ∧ mKn E U ∧ mSt E U U.heap ∧ U.heap.size = E.2.2.2.1 + n
def mQc (E : mE) (n' : Nat) (Q : Option Value → mH → Prop) : Array Value → State → Outcome → State → Prop := fun _ st o t => (∃ (r : Option Value) (h' : mH), o = .returned (r.map (mrv E)) ∧ Q r h' ∧ mRep E n' h' t.heap) ∧ va_F (mA E) st t
def mKq (E : mE) (R : Room) (n' : Nat) (Q : Option Value → mH → Prop) : mKt := fun below args s => MQ below (mQc E n' Q) args s R.cells R.slots (mA E)
def mOkR (E : mE) (R : Room) (Y : mY) (av : List Value) (n n' : Nat) (h : mH) (Q : Option Value → mH → Prop) : Prop :=
  Met E.1 Y.1 (.code Y.1 Y.2.1 Y.2.2.1 Y.2.2.2 :: mw) R (mPc E av n h) (mQc E n' Q) R.cells R.slots (mA E)
/-- all cells of a run: 40 of the class, 16 of the reference -/
abbrev mN : Nat := 56
abbrev mOk (E : mE) (d : Nat) (Y : mY) (av : List Value) (h : mH) (Q : Option Value → mH → Prop) : Prop := mOkR E (mR d) Y av mN mN h Q
abbrev mKn0 (E : mE) (d : Nat) (Q : Option Value → mH → Prop) : mKt := mKq E (mR d) mN Q
theorem mPr_args (E : mE) (av : List Value) (hc : ∀ v ∈ av, v.category = 1) (k : Nat) {nL : Nat} {ls : Array Slot} (V : lv_has ls nL (lv_args 0 (av.map (mrv E)))) : lv_has ls nL (mPr E (av.map some ++ List.replicate k none)) := by
  have key : ∀ (av : List Value), (∀ v ∈ av, v.category = 1) → ∀ (o i : Nat) (v : Value), av[i]? = some v → (o + i, mrv E v) ∈ lv_args o (av.map (mrv E)) := by
    intro av
    induction av with
    | nil => intro _ o i v h; simp at h
    | cons x t ih =>
      intro hc o i v h
      have hx : (mrv E x).category = 1 := by rw [mrv_cat]; exact hc x List.mem_cons_self
      cases i with
      | zero =>
        simp at h
        subst h
        simp [lv_args]
      | succ j =>
        simp at h
        have := ih (fun v hv => hc v (List.mem_cons_of_mem _ hv)) (o + 1) j v h
        have e : o + (j + 1) = o + 1 + j := by omega
        rw [e]
        simp only [List.map_cons, lv_args, hx]
        exact List.mem_cons_of_mem _ this
  refine ⟨V.1, V.2.1, ?_⟩
  rintro ⟨i, w⟩ hq
  obtain ⟨v, hv, rfl⟩ := mPr_mem.mp hq
  have hav : av[i]? = some v := by
    rw [List.getElem?_append] at hv
    split at hv
    · rw [List.getElem?_map] at hv
      cases ha : av[i]? with
      | none => rw [ha] at hv; cases hv
      | some u =>
        rw [ha] at hv
        cases hv
        rfl
    · rw [List.getElem?_replicate] at hv
      split at hv <;> cases hv
  have := key av hc 0 i v hav
  rw [Nat.zero_add] at this
  exact V.2.2 _ this
end
section
section MR
variable {E : mE} {M : mM} {K : mKt} {pc pc' : Nat} {L L' : List (Option Value)} {st : List Value} {a : Nat × Nat × Nat} {h h' : mH}
theorem mG_pc {pc2 : Nat} (e : pc = pc2) (k : mG E M K pc2 L st a h) : mG E M K pc L st a h := e ▸ k
theorem mI_ofInt (n : Nat) : Int32.ofInt (n : Int) = nI n := by
  first | rfl | exact Int32.ofInt_eq_ofNat | simp [nI]
theorem mG_iconst {n : Int} {v : Int32} (hd : mD M.2.2.1 pc (.iconst n) 1 pc') (hv : Int32.ofInt n = v) (k : mG E M K pc' L (.int v :: st) a h) : mG E M K pc L (st) a h := by
  obtain ⟨hd, rfl⟩ := hd
  exact fun p e s m args below meth c H locs ls C R S V => lv_iconst C.1 C.2.1 hd hv (k p e s m args below meth c H locs ls C R S V)
theorem mG_bipush {n : Int} {v : Int32} (hd : mD M.2.2.1 pc (.bipush n) 2 pc') (hv : (Int8.ofInt n).toInt32 = v) (k : mG E M K pc' L (.int v :: st) a h) : mG E M K pc L (st) a h := by
  obtain ⟨hd, rfl⟩ := hd
  exact fun p e s m args below meth c H locs ls C R S V => lv_bipush C.1 C.2.1 hd hv (k p e s m args below meth c H locs ls C R S V)
theorem mG_sipush {n : Int} {v : Int32} (hd : mD M.2.2.1 pc (.sipush n) 3 pc') (hv : (Int16.ofInt n).toInt32 = v) (k : mG E M K pc' L (.int v :: st) a h) : mG E M K pc L (st) a h := by
  obtain ⟨hd, rfl⟩ := hd
  exact fun p e s m args below meth c H locs ls C R S V => lv_sipush C.1 C.2.1 hd hv (k p e s m args below meth c H locs ls C R S V)
theorem mG_lconst {n : Fin 2} {v : Int64} (hd : mD M.2.2.1 pc (.lconst n) 1 pc') (hv : Int64.ofNat (n : Nat) = v) (k : mG E M K pc' L (.long v :: st) a h) : mG E M K pc L (st) a h := by
  obtain ⟨hd, rfl⟩ := hd
  exact fun p e s m args below meth c H locs ls C R S V => lv_lconst C.1 C.2.1 hd hv (k p e s m args below meth c H locs ls C R S V)
theorem mG_ldc {i : Nat} {v : Int32} (hd : mD M.2.2.1 pc (.ldc i) 2 pc') (hw : Cond.constant M.2.1.cls i v ∈ mw) (k : mG E M K pc' L (.int v :: st) a h) : mG E M K pc L (st) a h := by
  obtain ⟨hd, rfl⟩ := hd
  exact fun p e s m args below meth c H locs ls C R S V => lv_ldc C.1 C.2.1 C.2.2.2.2.2.1 (C.2.2.2.2.2.2.2.1 _ hw) hd (k p e s m args below meth c H locs ls C R S V)
theorem mG_ldcw {i : Nat} {v : Int32} (hd : mD M.2.2.1 pc (.ldc_w i) 3 pc') (hw : Cond.constant M.2.1.cls i v ∈ mw) (k : mG E M K pc' L (.int v :: st) a h) : mG E M K pc L (st) a h := by
  obtain ⟨hd, rfl⟩ := hd
  exact fun p e s m args below meth c H locs ls C R S V => lv_ldcw C.1 C.2.1 C.2.2.2.2.2.1 (C.2.2.2.2.2.2.2.1 _ hw) hd (k p e s m args below meth c H locs ls C R S V)
theorem mG_ldc2 {i : Nat} {v : Int64} (hd : mD M.2.2.1 pc (.ldc2_w i) 3 pc') (hw : Cond.constantLong M.2.1.cls i v ∈ mw) (k : mG E M K pc' L (.long v :: st) a h) : mG E M K pc L (st) a h := by
  obtain ⟨hd, rfl⟩ := hd
  exact fun p e s m args below meth c H locs ls C R S V => lv_ldc2 C.1 C.2.1 C.2.2.2.2.2.1 (C.2.2.2.2.2.2.2.1 _ hw) hd (k p e s m args below meth c H locs ls C R S V)
theorem mG_iload_n {k : Fin 4} {x : Int32} (hd : mD M.2.2.1 pc (.iload_n k) 1 pc') (hl : L[(k : Nat)]? = some (some (.int x))) (k : mG E M K pc' L (.int x :: st) a h) : mG E M K pc L (st) a h := by
  obtain ⟨hd, rfl⟩ := hd
  exact fun p e s m args below meth c H locs ls C R S V => lv_iload_n C.1 C.2.1 hd rfl (mHas_at V hl) (k p e s m args below meth c H locs ls C R S V)
theorem mG_iload {i : Nat} {x : Int32} (hd : mD M.2.2.1 pc (.iload i) 2 pc') (hl : L[i]? = some (some (.int x))) (k : mG E M K pc' L (.int x :: st) a h) : mG E M K pc L (st) a h := by
  obtain ⟨hd, rfl⟩ := hd
  exact fun p e s m args below meth c H locs ls C R S V => lv_iload C.1 C.2.1 hd (mHas_at V hl) (k p e s m args below meth c H locs ls C R S V)
theorem mG_lload {i : Nat} {x : Int64} (hd : mD M.2.2.1 pc (.lload i) 2 pc') (hl : L[i]? = some (some (.long x))) (k : mG E M K pc' L (.long x :: st) a h) : mG E M K pc L (st) a h := by
  obtain ⟨hd, rfl⟩ := hd
  exact fun p e s m args below meth c H locs ls C R S V => lv_lload C.1 C.2.1 hd (mHas_at V hl) (k p e s m args below meth c H locs ls C R S V)
theorem mG_aload_n {k : Fin 4} {x : Nat} (hd : mD M.2.2.1 pc (.aload_n k) 1 pc') (hl : L[(k : Nat)]? = some (some (.ref x))) (k : mG E M K pc' L (.ref x :: st) a h) : mG E M K pc L (st) a h := by
  obtain ⟨hd, rfl⟩ := hd
  exact fun p e s m args below meth c H locs ls C R S V => lv_aload_n C.1 C.2.1 hd rfl (mHas_at V hl) (k p e s m args below meth c H locs ls C R S V)
theorem mG_aload {i : Nat} {x : Nat} (hd : mD M.2.2.1 pc (.aload i) 2 pc') (hl : L[i]? = some (some (.ref x))) (k : mG E M K pc' L (.ref x :: st) a h) : mG E M K pc L (st) a h := by
  obtain ⟨hd, rfl⟩ := hd
  exact fun p e s m args below meth c H locs ls C R S V => lv_aload C.1 C.2.1 hd (mHas_at V hl) (k p e s m args below meth c H locs ls C R S V)
theorem mG_iadd {x y : Int32} (hd : mD M.2.2.1 pc (.iadd) 1 pc')  (k : mG E M K pc' L (.int (x + y) :: st) a h) : mG E M K pc L (.int y :: .int x :: st) a h := by
  obtain ⟨hd, rfl⟩ := hd
  exact fun p e s m args below meth c H locs ls C R S V => lv_iadd C.1 C.2.1 hd (k p e s m args below meth c H locs ls C R S V)
theorem mG_isub {x y : Int32} (hd : mD M.2.2.1 pc (.isub) 1 pc')  (k : mG E M K pc' L (.int (x - y) :: st) a h) : mG E M K pc L (.int y :: .int x :: st) a h := by
  obtain ⟨hd, rfl⟩ := hd
  exact fun p e s m args below meth c H locs ls C R S V => lv_isub C.1 C.2.1 hd (k p e s m args below meth c H locs ls C R S V)
theorem mG_imul {x y : Int32} (hd : mD M.2.2.1 pc (.imul) 1 pc')  (k : mG E M K pc' L (.int (x * y) :: st) a h) : mG E M K pc L (.int y :: .int x :: st) a h := by
  obtain ⟨hd, rfl⟩ := hd
  exact fun p e s m args below meth c H locs ls C R S V => lv_imul C.1 C.2.1 hd (k p e s m args below meth c H locs ls C R S V)
theorem mG_iand {x y : Int32} (hd : mD M.2.2.1 pc (.iand) 1 pc')  (k : mG E M K pc' L (.int (x &&& y) :: st) a h) : mG E M K pc L (.int y :: .int x :: st) a h := by
  obtain ⟨hd, rfl⟩ := hd
  exact fun p e s m args below meth c H locs ls C R S V => lv_iand C.1 C.2.1 hd (k p e s m args below meth c H locs ls C R S V)
theorem mG_ior {x y : Int32} (hd : mD M.2.2.1 pc (.ior) 1 pc')  (k : mG E M K pc' L (.int (x ||| y) :: st) a h) : mG E M K pc L (.int y :: .int x :: st) a h := by
  obtain ⟨hd, rfl⟩ := hd
  exact fun p e s m args below meth c H locs ls C R S V => lv_ior C.1 C.2.1 hd (k p e s m args below meth c H locs ls C R S V)
theorem mG_ixor {x y : Int32} (hd : mD M.2.2.1 pc (.ixor) 1 pc')  (k : mG E M K pc' L (.int (x ^^^ y) :: st) a h) : mG E M K pc L (.int y :: .int x :: st) a h := by
  obtain ⟨hd, rfl⟩ := hd
  exact fun p e s m args below meth c H locs ls C R S V => lv_ixor C.1 C.2.1 hd (k p e s m args below meth c H locs ls C R S V)
theorem mG_ishl {x y : Int32} (hd : mD M.2.2.1 pc (.ishl) 1 pc')  (k : mG E M K pc' L (.int (x <<< (y &&& 31)) :: st) a h) : mG E M K pc L (.int y :: .int x :: st) a h := by
  obtain ⟨hd, rfl⟩ := hd
  exact fun p e s m args below meth c H locs ls C R S V => lv_ishl C.1 C.2.1 hd (k p e s m args below meth c H locs ls C R S V)
theorem mG_ishr {x y : Int32} (hd : mD M.2.2.1 pc (.ishr) 1 pc')  (k : mG E M K pc' L (.int (x >>> (y &&& 31)) :: st) a h) : mG E M K pc L (.int y :: .int x :: st) a h := by
  obtain ⟨hd, rfl⟩ := hd
  exact fun p e s m args below meth c H locs ls C R S V => lv_ishr C.1 C.2.1 hd (k p e s m args below meth c H locs ls C R S V)
theorem mG_iushr {x y v : Int32} (hd : mD M.2.2.1 pc (.iushr) 1 pc') (hv : (x.toUInt32 >>> (y.toUInt32 &&& Int32.toUInt32 31)).toInt32 = v) (k : mG E M K pc' L (.int v :: st) a h) : mG E M K pc L (.int y :: .int x :: st) a h := by
  obtain ⟨hd, rfl⟩ := hd
  exact fun p e s m args below meth c H locs ls C R S V => lv_iushr C.1 C.2.1 hd hv (k p e s m args below meth c H locs ls C R S V)
theorem mG_idiv {x y : Int32} (hd : mD M.2.2.1 pc (.idiv) 1 pc') (hne : ¬ y = 0) (k : mG E M K pc' L (.int (x / y) :: st) a h) : mG E M K pc L (.int y :: .int x :: st) a h := by
  obtain ⟨hd, rfl⟩ := hd
  exact fun p e s m args below meth c H locs ls C R S V => lv_idiv C.1 C.2.1 hd hne (k p e s m args below meth c H locs ls C R S V)
theorem mG_irem {x y : Int32} (hd : mD M.2.2.1 pc (.irem) 1 pc') (hne : ¬ y = 0) (k : mG E M K pc' L (.int (x - x / y * y) :: st) a h) : mG E M K pc L (.int y :: .int x :: st) a h := by
  obtain ⟨hd, rfl⟩ := hd
  exact fun p e s m args below meth c H locs ls C R S V => lv_irem C.1 C.2.1 hd hne (k p e s m args below meth c H locs ls C R S V)
theorem mG_ladd {x y : Int64} (hd : mD M.2.2.1 pc (.ladd) 1 pc')  (k : mG E M K pc' L (.long (x + y) :: st) a h) : mG E M K pc L (.long y :: .long x :: st) a h := by
  obtain ⟨hd, rfl⟩ := hd
  exact fun p e s m args below meth c H locs ls C R S V => lv_ladd C.1 C.2.1 hd (k p e s m args below meth c H locs ls C R S V)
theorem mG_lmul {x y : Int64} (hd : mD M.2.2.1 pc (.lmul) 1 pc')  (k : mG E M K pc' L (.long (x * y) :: st) a h) : mG E M K pc L (.long y :: .long x :: st) a h := by
  obtain ⟨hd, rfl⟩ := hd
  exact fun p e s m args below meth c H locs ls C R S V => lv_lmul C.1 C.2.1 hd (k p e s m args below meth c H locs ls C R S V)
theorem mG_lcmp {x y : Int64} (hd : mD M.2.2.1 pc (.lcmp) 1 pc')  (k : mG E M K pc' L (.int (lg_cmp x y) :: st) a h) : mG E M K pc L (.long y :: .long x :: st) a h := by
  obtain ⟨hd, rfl⟩ := hd
  exact fun p e s m args below meth c H locs ls C R S V => W.lcmp C.1 C.2.1 hd (k p e s m args below meth c H locs ls C R S V)
theorem mG_i2l {x : Int32} (hd : mD M.2.2.1 pc (.i2l) 1 pc')  (k : mG E M K pc' L (.long x.toInt64 :: st) a h) : mG E M K pc L (.int x :: st) a h := by
  obtain ⟨hd, rfl⟩ := hd
  exact fun p e s m args below meth c H locs ls C R S V => lv_i2l C.1 C.2.1 hd rfl (k p e s m args below meth c H locs ls C R S V)
theorem mG_i2b {x : Int32} (hd : mD M.2.2.1 pc (.i2b) 1 pc')  (k : mG E M K pc' L (.int x.toInt8.toInt32 :: st) a h) : mG E M K pc L (.int x :: st) a h := by
  obtain ⟨hd, rfl⟩ := hd
  exact fun p e s m args below meth c H locs ls C R S V => lv_i2b C.1 C.2.1 hd rfl (k p e s m args below meth c H locs ls C R S V)
theorem mG_dup {v : Value} (hd : mD M.2.2.1 pc (.dup) 1 pc') (hv : v.category = 1) (k : mG E M K pc' L (v :: v :: st) a h) : mG E M K pc L (v :: st) a h := by
  obtain ⟨hd, rfl⟩ := hd
  exact fun p e s m args below meth c H locs ls C R S V => lv_dup C.1 C.2.1 hd ((mrv_cat E v).trans hv) (k p e s m args below meth c H locs ls C R S V)
theorem mG_pop {v : Value} (hd : mD M.2.2.1 pc (.pop) 1 pc') (hv : v.category = 1) (k : mG E M K pc' L (st) a h) : mG E M K pc L (v :: st) a h := by
  obtain ⟨hd, rfl⟩ := hd
  exact fun p e s m args below meth c H locs ls C R S V => lv_pop C.1 C.2.1 hd ((mrv_cat E v).trans hv) (k p e s m args below meth c H locs ls C R S V)
theorem mG_dup2 {v w : Value} (hd : mD M.2.2.1 pc (.dup2) 1 pc') (hv : v.category = 1) (hw : w.category = 1) (k : mG E M K pc' L (v :: w :: v :: w :: st) a h) : mG E M K pc L (v :: w :: st) a h := by
  obtain ⟨hd, rfl⟩ := hd
  exact fun p e s m args below meth c H locs ls C R S V => lv_dup2_11 C.1 C.2.1 hd ((mrv_cat E v).trans hv) ((mrv_cat E w).trans hw) (k p e s m args below meth c H locs ls C R S V)
/-! numbers that are naturals -/
theorem mG_iaddN {x y : Nat} (hd : mD M.2.2.1 pc .iadd 1 pc')  (k : mG E M K pc' L (.int (nI (x + y)) :: st) a h) : mG E M K pc L (.int (nI y) :: .int (nI x) :: st) a h := by
  refine mG_iadd hd ?_
  rw [nI_add]
  exact k
theorem mG_imulN {x y : Nat} (hd : mD M.2.2.1 pc .imul 1 pc')  (k : mG E M K pc' L (.int (nI (x * y)) :: st) a h) : mG E M K pc L (.int (nI y) :: .int (nI x) :: st) a h := by
  refine mG_imul hd ?_
  rw [pk_mul]
  exact k
theorem mG_isubN {x y : Nat} (hd : mD M.2.2.1 pc .isub 1 pc') (hle : y ≤ x) (k : mG E M K pc' L (.int (nI (x - y)) :: st) a h) : mG E M K pc L (.int (nI y) :: .int (nI x) :: st) a h := by
  refine mG_isub hd ?_
  rw [pk_sub hle]
  exact k
theorem nI_ne {y : Nat} (h0 : 0 < y) (hy : y < 2 ^ 31) : ¬ nI y = 0 := nI_ne0 h0 hy
theorem mG_idivN {x y : Nat} (hd : mD M.2.2.1 pc .idiv 1 pc') (hx : x < 2 ^ 31) (h0 : 0 < y) (hy : y < 2 ^ 31) (k : mG E M K pc' L (.int (nI (x / y)) :: st) a h) : mG E M K pc L (.int (nI y) :: .int (nI x) :: st) a h := by
  refine mG_idiv hd (nI_ne h0 hy) ?_
  rw [pk_div hx h0 hy]
  exact k
theorem mG_iremN {x y : Nat} (hd : mD M.2.2.1 pc .irem 1 pc') (hx : x < 2 ^ 31) (h0 : 0 < y) (hy : y < 2 ^ 31) (k : mG E M K pc' L (.int (nI (x % y)) :: st) a h) : mG E M K pc L (.int (nI y) :: .int (nI x) :: st) a h := by
  refine mG_irem hd (nI_ne h0 hy) ?_
  rw [pk_rem hx h0 hy]
  exact k
theorem mG_istore_n {j : Fin 4} {x : Int32} (hd : mD M.2.2.1 pc (.istore_n j) 1 pc') (hn : (j : Nat) < M.2.2.2.1) (hok : mOkS L (j : Nat) = true) (hL : L.set (j : Nat) (some (.int x)) = L') (k : mG E M K pc' L' st a h) : mG E M K pc L (.int x :: st) a h := by
  obtain ⟨hd, rfl⟩ := hd
  subst hL
  exact fun p e s m args below meth c H locs ls C R S V => lv_istore_n C.1 C.2.1 hd rfl V hn rfl (fun ls V' => k p e s m args below meth c H locs ls C R S (mHas_set (v := .int x) V' hok))
theorem mG_istore {i : Nat} {x : Int32} (hd : mD M.2.2.1 pc (.istore i) 2 pc') (hn : i < M.2.2.2.1) (hok : mOkS L i = true) (hL : L.set i (some (.int x)) = L') (k : mG E M K pc' L' st a h) : mG E M K pc L (.int x :: st) a h := by
  obtain ⟨hd, rfl⟩ := hd
  subst hL
  exact fun p e s m args below meth c H locs ls C R S V => lv_istore C.1 C.2.1 hd V hn rfl (fun ls V' => k p e s m args below meth c H locs ls C R S (mHas_set (v := .int x) V' hok))
theorem mG_astore_n {j : Fin 4} {x : Nat} (hd : mD M.2.2.1 pc (.astore_n j) 1 pc') (hn : (j : Nat) < M.2.2.2.1) (hok : mOkS L (j : Nat) = true) (hL : L.set (j : Nat) (some (.ref x)) = L') (k : mG E M K pc' L' st a h) : mG E M K pc L (.ref x :: st) a h := by
  obtain ⟨hd, rfl⟩ := hd
  subst hL
  exact fun p e s m args below meth c H locs ls C R S V => lv_astore_n C.1 C.2.1 hd rfl V hn rfl (fun ls V' => k p e s m args below meth c H locs ls C R S (mHas_set (v := .ref x) V' hok))
theorem mG_lstore {i : Nat} {x : Int64} (hd : mD M.2.2.1 pc (.lstore i) 2 pc') (hn : i + 1 < M.2.2.2.1) (hok : mOkS L i = true) (hL : (L.set i (some (.long x))).set (i + 1) none = L') (k : mG E M K pc' L' st a h) : mG E M K pc L (.long x :: st) a h := by
  obtain ⟨hd, rfl⟩ := hd
  subst hL
  exact fun p e s m args below meth c H locs ls C R S V => lv_lstore C.1 C.2.1 hd V hn rfl (fun ls V' => k p e s m args below meth c H locs ls C R S (mHas_set2 (v := .long x) V' hok))
theorem mG_iinc {i : Nat} {n : Int} {x v : Int32} (hd : mD M.2.2.1 pc (.iinc i n) 3 pc') (hl : L[i]? = some (some (.int x))) (hv : x + Int32.ofInt n = v) (hn : i < M.2.2.2.1) (hok : mOkS L i = true) (hL : L.set i (some (.int v)) = L') (k : mG E M K pc' L' st a h) : mG E M K pc L st a h := by
  obtain ⟨hd, rfl⟩ := hd
  subst hL
  intro p e s m args below meth c H locs ls C R S V
  obtain ⟨q, hq⟩ := List.getElem?_of_mem (mPr_mem.mpr ⟨.int x, hl, rfl⟩ : (i, mrv E (.int x)) ∈ mPr E L)
  exact lv_iinc C.1 C.2.1 hd V hq hv hn rfl (fun ls V' => k p e s m args below meth c H locs ls C R S (mHas_set (v := .int v) V' hok))
theorem mG_iincN {i : Nat} {x : Nat} (hd : mD M.2.2.1 pc (.iinc i 1) 3 pc') (hl : L[i]? = some (some (.int (nI x)))) (hn : i < M.2.2.2.1) (hok : mOkS L i = true) (hL : L.set i (some (.int (nI (x + 1)))) = L') (k : mG E M K pc' L' st a h) : mG E M K pc L st a h :=
  mG_iinc hd hl (show nI x + Int32.ofInt 1 = nI (x + 1) from nI_1 x) hn hok hL k
theorem mG_goto {tgt : Nat} (hd : mJ M.2.2.1 pc .goto pc' tgt) (k : mG E M K tgt L st a h) : mG E M K pc L st a h := by
  obtain ⟨off, hd, -, ht⟩ := hd
  exact fun p e s m args below meth c H locs ls C R S V => lv_goto C.1 C.2.1 hd ht (k p e s m args below meth c H locs ls C R S V)
theorem mG_icmp_eq {x y : Int32} {tgt : Nat} (hd : mJ M.2.2.1 pc (.if_icmp .eq) pc' tgt) (kt : x = y → mG E M K tgt L st a h) (kf : ¬ x = y → mG E M K pc' L st a h) : mG E M K pc L (.int y :: .int x :: st) a h := by
  obtain ⟨off, hd, rfl, ht⟩ := hd
  exact fun p e s m args below meth c H locs ls C R S V => lv_icmp_eq C.1 C.2.1 hd ht (fun q => kt q p e s m args below meth c H locs ls C R S V) (fun q => kf q p e s m args below meth c H locs ls C R S V)
theorem mG_if_eq {x : Int32} {tgt : Nat} (hd : mJ M.2.2.1 pc (.ifCond .eq) pc' tgt) (kt : x = 0 → mG E M K tgt L st a h) (kf : ¬ x = 0 → mG E M K pc' L st a h) : mG E M K pc L (.int x :: st) a h := by
  obtain ⟨off, hd, rfl, ht⟩ := hd
  exact fun p e s m args below meth c H locs ls C R S V => lv_if_eq C.1 C.2.1 hd ht (fun q => kt q p e s m args below meth c H locs ls C R S V) (fun q => kf q p e s m args below meth c H locs ls C R S V)
theorem mG_icmp_ne {x y : Int32} {tgt : Nat} (hd : mJ M.2.2.1 pc (.if_icmp .ne) pc' tgt) (kt : ¬ x = y → mG E M K tgt L st a h) (kf : x = y → mG E M K pc' L st a h) : mG E M K pc L (.int y :: .int x :: st) a h := by
  obtain ⟨off, hd, rfl, ht⟩ := hd
  exact fun p e s m args below meth c H locs ls C R S V => lv_icmp_ne C.1 C.2.1 hd ht (fun q => kt q p e s m args below meth c H locs ls C R S V) (fun q => kf q p e s m args below meth c H locs ls C R S V)
theorem mG_if_ne {x : Int32} {tgt : Nat} (hd : mJ M.2.2.1 pc (.ifCond .ne) pc' tgt) (kt : ¬ x = 0 → mG E M K tgt L st a h) (kf : x = 0 → mG E M K pc' L st a h) : mG E M K pc L (.int x :: st) a h := by
  obtain ⟨off, hd, rfl, ht⟩ := hd
  exact fun p e s m args below meth c H locs ls C R S V => lv_if_ne C.1 C.2.1 hd ht (fun q => kt q p e s m args below meth c H locs ls C R S V) (fun q => kf q p e s m args below meth c H locs ls C R S V)
theorem mG_icmp_lt {x y : Int32} {tgt : Nat} (hd : mJ M.2.2.1 pc (.if_icmp .lt) pc' tgt) (kt : x < y → mG E M K tgt L st a h) (kf : ¬ x < y → mG E M K pc' L st a h) : mG E M K pc L (.int y :: .int x :: st) a h := by
  obtain ⟨off, hd, rfl, ht⟩ := hd
  exact fun p e s m args below meth c H locs ls C R S V => lv_icmp_lt C.1 C.2.1 hd ht (fun q => kt q p e s m args below meth c H locs ls C R S V) (fun q => kf q p e s m args below meth c H locs ls C R S V)
theorem mG_if_lt {x : Int32} {tgt : Nat} (hd : mJ M.2.2.1 pc (.ifCond .lt) pc' tgt) (kt : x < 0 → mG E M K tgt L st a h) (kf : ¬ x < 0 → mG E M K pc' L st a h) : mG E M K pc L (.int x :: st) a h := by
  obtain ⟨off, hd, rfl, ht⟩ := hd
  exact fun p e s m args below meth c H locs ls C R S V => lv_if_lt C.1 C.2.1 hd ht (fun q => kt q p e s m args below meth c H locs ls C R S V) (fun q => kf q p e s m args below meth c H locs ls C R S V)
theorem mG_icmp_ge {x y : Int32} {tgt : Nat} (hd : mJ M.2.2.1 pc (.if_icmp .ge) pc' tgt) (kt : y ≤ x → mG E M K tgt L st a h) (kf : ¬ y ≤ x → mG E M K pc' L st a h) : mG E M K pc L (.int y :: .int x :: st) a h := by
  obtain ⟨off, hd, rfl, ht⟩ := hd
  exact fun p e s m args below meth c H locs ls C R S V => lv_icmp_ge C.1 C.2.1 hd ht (fun q => kt q p e s m args below meth c H locs ls C R S V) (fun q => kf q p e s m args below meth c H locs ls C R S V)
theorem mG_if_ge {x : Int32} {tgt : Nat} (hd : mJ M.2.2.1 pc (.ifCond .ge) pc' tgt) (kt : 0 ≤ x → mG E M K tgt L st a h) (kf : ¬ 0 ≤ x → mG E M K pc' L st a h) : mG E M K pc L (.int x :: st) a h := by
  obtain ⟨off, hd, rfl, ht⟩ := hd
  exact fun p e s m args below meth c H locs ls C R S V => lv_if_ge C.1 C.2.1 hd ht (fun q => kt q p e s m args below meth c H locs ls C R S V) (fun q => kf q p e s m args below meth c H locs ls C R S V)
theorem mG_icmp_gt {x y : Int32} {tgt : Nat} (hd : mJ M.2.2.1 pc (.if_icmp .gt) pc' tgt) (kt : y < x → mG E M K tgt L st a h) (kf : ¬ y < x → mG E M K pc' L st a h) : mG E M K pc L (.int y :: .int x :: st) a h := by
  obtain ⟨off, hd, rfl, ht⟩ := hd
  exact fun p e s m args below meth c H locs ls C R S V => lv_icmp_gt C.1 C.2.1 hd ht (fun q => kt q p e s m args below meth c H locs ls C R S V) (fun q => kf q p e s m args below meth c H locs ls C R S V)
theorem mG_if_gt {x : Int32} {tgt : Nat} (hd : mJ M.2.2.1 pc (.ifCond .gt) pc' tgt) (kt : 0 < x → mG E M K tgt L st a h) (kf : ¬ 0 < x → mG E M K pc' L st a h) : mG E M K pc L (.int x :: st) a h := by
  obtain ⟨off, hd, rfl, ht⟩ := hd
  exact fun p e s m args below meth c H locs ls C R S V => lv_if_gt C.1 C.2.1 hd ht (fun q => kt q p e s m args below meth c H locs ls C R S V) (fun q => kf q p e s m args below meth c H locs ls C R S V)
theorem mG_icmp_le {x y : Int32} {tgt : Nat} (hd : mJ M.2.2.1 pc (.if_icmp .le) pc' tgt) (kt : x ≤ y → mG E M K tgt L st a h) (kf : ¬ x ≤ y → mG E M K pc' L st a h) : mG E M K pc L (.int y :: .int x :: st) a h := by
  obtain ⟨off, hd, rfl, ht⟩ := hd
  exact fun p e s m args below meth c H locs ls C R S V => lv_icmp_le C.1 C.2.1 hd ht (fun q => kt q p e s m args below meth c H locs ls C R S V) (fun q => kf q p e s m args below meth c H locs ls C R S V)
theorem mG_if_le {x : Int32} {tgt : Nat} (hd : mJ M.2.2.1 pc (.ifCond .le) pc' tgt) (kt : x ≤ 0 → mG E M K tgt L st a h) (kf : ¬ x ≤ 0 → mG E M K pc' L st a h) : mG E M K pc L (.int x :: st) a h := by
  obtain ⟨off, hd, rfl, ht⟩ := hd
  exact fun p e s m args below meth c H locs ls C R S V => lv_if_le C.1 C.2.1 hd ht (fun q => kt q p e s m args below meth c H locs ls C R S V) (fun q => kf q p e s m args below meth c H locs ls C R S V)
theorem mG_icmp_eqN {x y : Nat} {tgt : Nat} (hd : mJ M.2.2.1 pc (.if_icmp .eq) pc' tgt) (hx : x < 2 ^ 31) (hy : y < 2 ^ 31) (kt : x = y → mG E M K tgt L st a h) (kf : ¬ x = y → mG E M K pc' L st a h) : mG E M K pc L (.int (nI y) :: .int (nI x) :: st) a h :=
  mG_icmp_eq hd (fun q => kt ((nI_eq hx hy).mp q)) (fun q => kf (fun z => q ((nI_eq hx hy).mpr z)))
theorem mG_icmp_neN {x y : Nat} {tgt : Nat} (hd : mJ M.2.2.1 pc (.if_icmp .ne) pc' tgt) (hx : x < 2 ^ 31) (hy : y < 2 ^ 31) (kt : ¬ x = y → mG E M K tgt L st a h) (kf : x = y → mG E M K pc' L st a h) : mG E M K pc L (.int (nI y) :: .int (nI x) :: st) a h :=
  mG_icmp_ne hd (fun q => kt (fun z => q ((nI_eq hx hy).mpr z))) (fun q => kf ((nI_eq hx hy).mp q))
theorem mG_icmp_ltN {x y : Nat} {tgt : Nat} (hd : mJ M.2.2.1 pc (.if_icmp .lt) pc' tgt) (hx : x < 2 ^ 31) (hy : y < 2 ^ 31) (kt : x < y → mG E M K tgt L st a h) (kf : y ≤ x → mG E M K pc' L st a h) : mG E M K pc L (.int (nI y) :: .int (nI x) :: st) a h :=
  mG_icmp_lt hd (fun q => kt ((nI_ltI hx hy).mp q)) (fun q => kf (Nat.not_lt.mp (fun z => q ((nI_ltI hx hy).mpr z))))
theorem mG_icmp_geN {x y : Nat} {tgt : Nat} (hd : mJ M.2.2.1 pc (.if_icmp .ge) pc' tgt) (hx : x < 2 ^ 31) (hy : y < 2 ^ 31) (kt : y ≤ x → mG E M K tgt L st a h) (kf : x < y → mG E M K pc' L st a h) : mG E M K pc L (.int (nI y) :: .int (nI x) :: st) a h :=
  mG_icmp_ge hd (fun q => kt ((nI_leI hy hx).mp q)) (fun q => kf (Nat.not_le.mp (fun z => q ((nI_leI hy hx).mpr z))))
theorem mG_icmp_gtN {x y : Nat} {tgt : Nat} (hd : mJ M.2.2.1 pc (.if_icmp .gt) pc' tgt) (hx : x < 2 ^ 31) (hy : y < 2 ^ 31) (kt : y < x → mG E M K tgt L st a h) (kf : x ≤ y → mG E M K pc' L st a h) : mG E M K pc L (.int (nI y) :: .int (nI x) :: st) a h :=
  mG_icmp_gt hd (fun q => kt ((nI_ltI hy hx).mp q)) (fun q => kf (Nat.not_lt.mp (fun z => q ((nI_ltI hy hx).mpr z))))
theorem mG_icmp_leN {x y : Nat} {tgt : Nat} (hd : mJ M.2.2.1 pc (.if_icmp .le) pc' tgt) (hx : x < 2 ^ 31) (hy : y < 2 ^ 31) (kt : x ≤ y → mG E M K tgt L st a h) (kf : y < x → mG E M K pc' L st a h) : mG E M K pc L (.int (nI y) :: .int (nI x) :: st) a h :=
  mG_icmp_le hd (fun q => kt ((nI_leI hx hy).mp q)) (fun q => kf (Nat.not_le.mp (fun z => q ((nI_leI hx hy).mpr z))))
theorem mG_if_eqN {x : Nat} {tgt : Nat} (hd : mJ M.2.2.1 pc (.ifCond .eq) pc' tgt) (hx : x < 2 ^ 31) (kt : x = 0 → mG E M K tgt L st a h) (kf : ¬ x = 0 → mG E M K pc' L st a h) : mG E M K pc L (.int (nI x) :: st) a h :=
  have h0 : (0 : Nat) < 2 ^ 31 := by decide
  mG_if_eq hd (fun q => kt ((nI_eq hx h0).mp q)) (fun q => kf (fun z => q ((nI_eq hx h0).mpr z)))
theorem mG_if_neN {x : Nat} {tgt : Nat} (hd : mJ M.2.2.1 pc (.ifCond .ne) pc' tgt) (hx : x < 2 ^ 31) (kt : ¬ x = 0 → mG E M K tgt L st a h) (kf : x = 0 → mG E M K pc' L st a h) : mG E M K pc L (.int (nI x) :: st) a h :=
  have h0 : (0 : Nat) < 2 ^ 31 := by decide
  mG_if_ne hd (fun q => kt (fun z => q ((nI_eq hx h0).mpr z))) (fun q => kf ((nI_eq hx h0).mp q))
theorem mG_if_ltN {x : Nat} {tgt : Nat} (hd : mJ M.2.2.1 pc (.ifCond .lt) pc' tgt) (hx : x < 2 ^ 31) (kt : False → mG E M K tgt L st a h) (kf : True → mG E M K pc' L st a h) : mG E M K pc L (.int (nI x) :: st) a h :=
  have h0 : (0 : Nat) < 2 ^ 31 := by decide
  mG_if_lt hd (fun q => kt (nI_pos hx q)) (fun q => kf (trivial))
theorem mG_if_geN {x : Nat} {tgt : Nat} (hd : mJ M.2.2.1 pc (.ifCond .ge) pc' tgt) (hx : x < 2 ^ 31) (kt : True → mG E M K tgt L st a h) (kf : False → mG E M K pc' L st a h) : mG E M K pc L (.int (nI x) :: st) a h :=
  have h0 : (0 : Nat) < 2 ^ 31 := by decide
  mG_if_ge hd (fun q => kt (trivial)) (fun q => kf (q (nI_pos' hx)))
theorem mG_if_gtN {x : Nat} {tgt : Nat} (hd : mJ M.2.2.1 pc (.ifCond .gt) pc' tgt) (hx : x < 2 ^ 31) (kt : 0 < x → mG E M K tgt L st a h) (kf : x = 0 → mG E M K pc' L st a h) : mG E M K pc L (.int (nI x) :: st) a h :=
  have h0 : (0 : Nat) < 2 ^ 31 := by decide
  mG_if_gt hd (fun q => kt ((nI_ltI h0 hx).mp q)) (fun q => kf (Nat.eq_zero_of_not_pos (fun z => q ((nI_ltI h0 hx).mpr z))))
theorem mG_if_leN {x : Nat} {tgt : Nat} (hd : mJ M.2.2.1 pc (.ifCond .le) pc' tgt) (hx : x < 2 ^ 31) (kt : x = 0 → mG E M K tgt L st a h) (kf : 0 < x → mG E M K pc' L st a h) : mG E M K pc L (.int (nI x) :: st) a h :=
  have h0 : (0 : Nat) < 2 ^ 31 := by decide
  mG_if_le hd (fun q => kt (Nat.le_zero.mp ((nI_leI hx h0).mp q))) (fun q => kf (Nat.not_le.mp (fun z => q ((nI_leI hx h0).mpr z))))
/-- what a boolean is on the stack -/
def mb (b : Bool) : Int32 := nI b.toNat
theorem mG_if_eqB {b : Bool} {tgt : Nat} (hd : mJ M.2.2.1 pc (.ifCond .eq) pc' tgt) (kt : b = false → mG E M K tgt L st a h) (kf : b = true → mG E M K pc' L st a h) : mG E M K pc L (.int (mb b) :: st) a h := by
  cases b
  · exact mG_if_eq hd (fun _ => kt rfl) (fun q => absurd (by decide) q)
  · exact mG_if_eq hd (fun q => absurd q (by decide)) (fun _ => kf rfl)
theorem mG_if_neB {b : Bool} {tgt : Nat} (hd : mJ M.2.2.1 pc (.ifCond .ne) pc' tgt) (kt : b = true → mG E M K tgt L st a h) (kf : b = false → mG E M K pc' L st a h) : mG E M K pc L (.int (mb b) :: st) a h := by
  cases b
  · exact mG_if_ne hd (fun q => absurd (by decide) q) (fun _ => kf rfl)
  · exact mG_if_ne hd (fun _ => kt rfl) (fun q => absurd q (by decide))
theorem mG_tableIn {dflt lo hi : Int} {offs : Array Int} {len tgt : Nat} {x : Int32} {off : Int} (hd : decode M.2.2.1 pc = .ok (.tableswitch dflt lo hi offs, len)) (h1 : ¬ x.toInt < lo) (h2 : ¬ hi < x.toInt) (ho : offs[(x.toInt - lo).toNat]? = some off) (ht : (pc : Int) + off = (tgt : Int)) (k : mG E M K tgt L st a h) : mG E M K pc L (.int x :: st) a h :=
  fun p e s m args below meth c H locs ls C R S V => lv_tableIn C.1 C.2.1 hd h1 h2 ho ht (k p e s m args below meth c H locs ls C R S V)
theorem mG_tableOut {dflt lo hi : Int} {offs : Array Int} {len tgt : Nat} {x : Int32} (hd : decode M.2.2.1 pc = .ok (.tableswitch dflt lo hi offs, len)) (h1 : x.toInt < lo ∨ hi < x.toInt) (ht : (pc : Int) + dflt = (tgt : Int)) (k : mG E M K tgt L st a h) : mG E M K pc L (.int x :: st) a h :=
  fun p e s m args below meth c H locs ls C R S V => lv_tableOut C.1 C.2.1 hd h1 ht (k p e s m args below meth c H locs ls C R S V)
theorem mG_lookup {dflt : Int} {ps : Array (Int × Int)} {len tgt : Nat} {x : Int32} {off : Int} (hd : decode M.2.2.1 pc = .ok (.lookupswitch dflt ps, len)) (hp : (ps.toList.zip (ps.toList.drop 1)).all (fun (a, next) => a.1 < next.1) = true) (ho : Op.lookupswitch.offset ps.toList dflt x.toInt = off) (ht : (pc : Int) + off = (tgt : Int)) (k : mG E M K tgt L st a h) : mG E M K pc L (.int x :: st) a h :=
  fun p e s m args below meth c H locs ls C R S V => lv_lookup C.1 C.2.1 hd hp ho ht (k p e s m args below meth c H locs ls C R S V)
end MR
end
section
section MM
variable {E : mE} {M : mM} {K : mKt} {pc pc' : Nat} {L L' : List (Option Value)} {st : List Value} {a : Nat × Nat × Nat} {h h' : mH}
theorem mra_lt {E : mE} {k : Nat} (hk : k < 1000) : mra E k = E.2.2.2.1 + mSw E.2.2.2.2.2.2 k := if_pos hk
/-! fields -/
def mFd (own : String) (idx ci k : Nat) : Prop := ∃ (C : String) (T : u_T) (N : Nat), mCl[ci]? = some (C, T, N) ∧ (∀ w ∈ u_ws C T N, w ∈ mw) ∧ k < N ∧ Cond.fieldLink own idx (T k).1 (T k).2.1 (T k).2.2.1 ∈ mw
def mPd (own : String) (idx ci k : Nat) (ty : FieldType) (fin : Bool) : Prop := ∃ (C : String) (T : u_T) (N : Nat) (tf : Nat → FieldType), mCl[ci]? = some (C, T, N) ∧ (∀ w ∈ u_ws C T N, w ∈ mw) ∧ k < N ∧ Cond.fieldLink own idx (T k).1 (T k).2.1 (T k).2.2.1 ∈ mw ∧
  (∀ k, k < N → parseFieldDescriptor (T k).2.2.1 = some (tf k)) ∧ (∀ a, a < N → ∀ b, b < N → a ≠ b → (T a).2.1 ≠ (T b).2.1) ∧ (T k).2.2.2 = fin ∧ tf k = ty ∧ (fin = true → (T k).1 = own)
theorem mG_get {i ci k b : Nat} {fs : List Value} {v : Value} (hf : mFd M.2.1.cls i ci k) (hd : mD M.2.2.1 pc (.getfield i) 3 pc') (hh : h b = .inr (.inr (ci, fs))) (hn : b < a.1) (hv : fs[k]? = some v) (kk : mG E M K pc' L (v :: st) a h) : mG E M K pc L (.ref b :: st) a h := by
  obtain ⟨hd, rfl⟩ := hd
  obtain ⟨C0, T, N, hc, hin, hk, hl⟩ := hf
  intro p e s m args below meth c H locs ls C R S V
  obtain ⟨hx, hb, hml, hr, hlk, hown, hnm, hts, hK, hT, hB⟩ := id C
  show W _ _ _ _ _ _ _ _ _ _ _ _ _ _ _ (F0 m pc ls (.ref (mra E b) :: st.map (mrv E)))
  rw [mra_lt (Nat.lt_of_lt_of_le hn R.2.1)]
  exact va_get (C := C0) (T := T) (N := N) hx hb hts hin hown hK.1 R.2.2 b (mWs_get hn hh) hc k hk (hts _ hl) (fun _ q => q) (show (fs.map (mrv E))[k]? = some (mrv E v) by rw [List.getElem?_map, hv]; rfl) hd (kk p e s m args below meth c H locs ls C R S V)
theorem mG_put {i ci k b : Nat} {fs : List Value} {v : Value} {ty : FieldType} (hf : mPd M.2.1.cls i ci k ty false) (hd : mD M.2.2.1 pc (.putfield i) 3 pc') (hh : h b = .inr (.inr (ci, fs))) (hn : b < a.1) (hl : k < fs.length) (hna : narrow ty (mrv E v) = mrv E v) (hfi : fits ty (mrv E v) = true) (kk : mG E M K pc' L st a (mU h b (.inr (.inr (ci, fs.set k v))))) : mG E M K pc L (v :: .ref b :: st) a h := by
  obtain ⟨hd, rfl⟩ := hd
  obtain ⟨C0, T, N, tf, hc, hin, hk, hlk2, htf, hnm2, hfin, hty, -⟩ := hf
  intro p e s m args below meth c H locs ls C R S V
  obtain ⟨hx, hb, hml, hr, hlk, hown, hnm, hts, hK, hT, hB⟩ := id C
  show W _ _ _ _ _ _ _ _ _ _ _ _ _ _ _ (F0 m pc ls (mrv E v :: .ref (mra E b) :: st.map (mrv E)))
  rw [mra_lt (Nat.lt_of_lt_of_le hn R.2.1)]
  refine va_put (C := C0) (T := T) (N := N) hx hb hts hin tf htf hnm2 hown hK.1 R.2.2 (mWs_D E a.1 h) S b (mWs_get hn hh) hc k hk (hts _ hlk2) (fun _ q => q) hfin (hty ▸ htf k hk) hna hfi (by rw [List.length_map]; exact hl) hd (fun H1 locs1 hP hD hS => ?_)
  have e1 : (fs.map (mrv E)).set k (mrv E v) = (fs.set k v).map (mrv E) := by rw [List.map_set]
  rw [e1] at hP
  exact kk p e s m args below meth c H1 locs1 ls C ⟨R.1, R.2.1, by rw [← mWs_set]; exact hP⟩ hS V
theorem mG_putF {i ci k b : Nat} {fs : List Value} {v : Value} {ty : FieldType} (hf : mPd M.2.1.cls i ci k ty true) (hd : mD M.2.2.1 pc (.putfield i) 3 pc') (hi : M.2.1.name = "<init>") (hh : h b = .inr (.inr (ci, fs))) (hn : b < a.1) (hl : k < fs.length) (hna : narrow ty (mrv E v) = mrv E v) (hfi : fits ty (mrv E v) = true) (kk : mG E M K pc' L st a (mU h b (.inr (.inr (ci, fs.set k v))))) : mG E M K pc L (v :: .ref b :: st) a h := by
  obtain ⟨hd, rfl⟩ := hd
  obtain ⟨C0, T, N, tf, hc, hin, hk, hlk2, htf, hnm2, hfin, hty, hown2⟩ := hf
  intro p e s m args below meth c H locs ls C R S V
  obtain ⟨hx, hb, hml, hr, hlk, hown, hnm, hts, hK, hT, hB⟩ := id C
  show W _ _ _ _ _ _ _ _ _ _ _ _ _ _ _ (F0 m pc ls (mrv E v :: .ref (mra E b) :: st.map (mrv E)))
  rw [mra_lt (Nat.lt_of_lt_of_le hn R.2.1)]
  refine va_putF (C := C0) (T := T) (N := N) hx hb hts hin tf htf hnm2 hown hK.1 R.2.2 (mWs_D E a.1 h) S b (mWs_get hn hh) hc k hk (hts _ hlk2) (fun _ q => q) hfin (hnm.trans hi) (hown2 rfl) (hty ▸ htf k hk) hna hfi (by rw [List.length_map]; exact hl) hd (fun H1 locs1 hP hD hS => ?_)
  have e1 : (fs.map (mrv E)).set k (mrv E v) = (fs.set k v).map (mrv E) := by rw [List.map_set]
  rw [e1] at hP
  exact kk p e s m args below meth c H1 locs1 ls C ⟨R.1, R.2.1, by rw [← mWs_set]; exact hP⟩ hS V
theorem mG_putI {i ci k b : Nat} {fs : List Value} {x : Int32} (hf : mPd M.2.1.cls i ci k .int false) (hd : mD M.2.2.1 pc (.putfield i) 3 pc') (hh : h b = .inr (.inr (ci, fs))) (hn : b < a.1) (hl : k < fs.length) (kk : mG E M K pc' L st a (mU h b (.inr (.inr (ci, fs.set k (.int x)))))) : mG E M K pc L (.int x :: .ref b :: st) a h := mG_put hf hd hh hn hl rfl rfl kk
theorem mG_putJ {i ci k b : Nat} {fs : List Value} {x : Int64} (hf : mPd M.2.1.cls i ci k .long false) (hd : mD M.2.2.1 pc (.putfield i) 3 pc') (hh : h b = .inr (.inr (ci, fs))) (hn : b < a.1) (hl : k < fs.length) (kk : mG E M K pc' L st a (mU h b (.inr (.inr (ci, fs.set k (.long x)))))) : mG E M K pc L (.long x :: .ref b :: st) a h := mG_put hf hd hh hn hl rfl rfl kk
theorem mb_nar (x : Bool) : narrow .boolean (.int (mb x)) = .int (mb x) ∧ fits .boolean (.int (mb x)) = true := by cases x <;> decide
theorem mG_putZ {i ci k b : Nat} {fs : List Value} {x : Bool} (hf : mPd M.2.1.cls i ci k .boolean false) (hd : mD M.2.2.1 pc (.putfield i) 3 pc') (hh : h b = .inr (.inr (ci, fs))) (hn : b < a.1) (hl : k < fs.length) (kk : mG E M K pc' L st a (mU h b (.inr (.inr (ci, fs.set k (.int (mb x))))))) : mG E M K pc L (.int (mb x) :: .ref b :: st) a h := mG_put hf hd hh hn hl (mb_nar x).1 (mb_nar x).2 kk
theorem mG_putO {i ci k b q : Nat} {fs : List Value} {D : String} (hf : mPd M.2.1.cls i ci k (.object D) false) (hd : mD M.2.2.1 pc (.putfield i) 3 pc') (hh : h b = .inr (.inr (ci, fs))) (hn : b < a.1) (hl : k < fs.length) (kk : mG E M K pc' L st a (mU h b (.inr (.inr (ci, fs.set k (.ref q)))))) : mG E M K pc L (.ref q :: .ref b :: st) a h := mG_put hf hd hh hn hl rfl rfl kk
theorem mG_putFO {i ci k b q : Nat} {fs : List Value} {D : FieldType} (hf : mPd M.2.1.cls i ci k D true) (hd : mD M.2.2.1 pc (.putfield i) 3 pc') (hi : M.2.1.name = "<init>") (hh : h b = .inr (.inr (ci, fs))) (hn : b < a.1) (hl : k < fs.length) (hna : narrow D (.ref (mra E q)) = .ref (mra E q)) (hfi : fits D (.ref (mra E q)) = true) (kk : mG E M K pc' L st a (mU h b (.inr (.inr (ci, fs.set k (.ref q)))))) : mG E M K pc L (.ref q :: .ref b :: st) a h := mG_putF hf hd hi hh hn hl hna hfi kk
/-! arrays -/
theorem mTys_at (E : mE) : (mTys E)[0]? = some (E.2.2.1 0, .int) ∧ (mTys E)[1]? = some (E.2.2.1 1, .byte) ∧ (mTys E)[2]? = some (E.2.2.1 2, .boolean) ∧ (mTys E)[3]? = some (E.2.2.1 3, .object "DayCubes$Stand") := ⟨rfl, rfl, rfl, rfl⟩
theorem mG_iald {b n : Nat} {f : Nat → Int32} {i : Int32} (hd : mD M.2.2.1 pc .iaload 1 pc') (hh : h b = .inl (0, n, f)) (hn : b < a.1) (hi : vp_in i n) (kk : mG E M K pc' L (.int (f i.toNatClampNeg) :: st) a h) : mG E M K pc L (.int i :: .ref b :: st) a h := by
  obtain ⟨hd, rfl⟩ := hd
  intro p e s m args below meth c H locs ls C R S V
  obtain ⟨hx, hb, hml, hr, hlk, hown, hnm, hts, hK, hT, hB⟩ := id C
  show W _ _ _ _ _ _ _ _ _ _ _ _ _ _ _ (F0 m pc ls (.int i :: .ref (mra E b) :: st.map (mrv E)))
  rw [mra_lt (Nat.lt_of_lt_of_le hn R.2.1)]
  exact va_iald hx hb hK.1 R.2.2 b 0 (mWs_get hn hh) rfl hi hd (kk p e s m args below meth c H locs ls C R S V)
theorem mG_bald {b n : Nat} {f : Nat → Int32} {i : Int32} (hd : mD M.2.2.1 pc .baload 1 pc') (hh : h b = .inl (1, n, f)) (hn : b < a.1) (hi : vp_in i n) (kk : mG E M K pc' L (.int (f i.toNatClampNeg) :: st) a h) : mG E M K pc L (.int i :: .ref b :: st) a h := by
  obtain ⟨hd, rfl⟩ := hd
  intro p e s m args below meth c H locs ls C R S V
  obtain ⟨hx, hb, hml, hr, hlk, hown, hnm, hts, hK, hT, hB⟩ := id C
  show W _ _ _ _ _ _ _ _ _ _ _ _ _ _ _ (F0 m pc ls (.int i :: .ref (mra E b) :: st.map (mrv E)))
  rw [mra_lt (Nat.lt_of_lt_of_le hn R.2.1)]
  exact va_bald hx hb hK.1 R.2.2 b 1 (mWs_get hn hh) rfl hi hd (kk p e s m args below meth c H locs ls C R S V)
theorem mG_zald {b n : Nat} {f : Nat → Int32} {i : Int32} (hd : mD M.2.2.1 pc .baload 1 pc') (hh : h b = .inl (2, n, f)) (hn : b < a.1) (hi : vp_in i n) (kk : mG E M K pc' L (.int (f i.toNatClampNeg) :: st) a h) : mG E M K pc L (.int i :: .ref b :: st) a h := by
  obtain ⟨hd, rfl⟩ := hd
  intro p e s m args below meth c H locs ls C R S V
  obtain ⟨hx, hb, hml, hr, hlk, hown, hnm, hts, hK, hT, hB⟩ := id C
  show W _ _ _ _ _ _ _ _ _ _ _ _ _ _ _ (F0 m pc ls (.int i :: .ref (mra E b) :: st.map (mrv E)))
  rw [mra_lt (Nat.lt_of_lt_of_le hn R.2.1)]
  exact va_zald hx hb hK.1 R.2.2 b 2 (mWs_get hn hh) rfl hi hd (kk p e s m args below meth c H locs ls C R S V)
theorem mIn {i n : Nat} (hi : i < n) (hn : n < 2 ^ 31) : vp_in (nI i) n ∧ (nI i).toNatClampNeg = i := ⟨vp_in_nI hi hn, nI_clamp (Nat.lt_trans hi hn)⟩
theorem mG_ialdN {b n i : Nat} {f : Nat → Int32} (hd : mD M.2.2.1 pc .iaload 1 pc') (hh : h b = .inl (0, n, f)) (hn : b < a.1) (hm : n < 2 ^ 31) (hi : i < n) (kk : mG E M K pc' L (.int (f i) :: st) a h) : mG E M K pc L (.int (nI i) :: .ref b :: st) a h :=
  mG_iald hd hh hn (mIn hi hm).1 (by rw [(mIn hi hm).2]; exact kk)
theorem mG_baldN {b n i : Nat} {f : Nat → Int32} (hd : mD M.2.2.1 pc .baload 1 pc') (hh : h b = .inl (1, n, f)) (hn : b < a.1) (hm : n < 2 ^ 31) (hi : i < n) (kk : mG E M K pc' L (.int (f i) :: st) a h) : mG E M K pc L (.int (nI i) :: .ref b :: st) a h :=
  mG_bald hd hh hn (mIn hi hm).1 (by rw [(mIn hi hm).2]; exact kk)
theorem mG_zaldN {b n i : Nat} {f : Nat → Int32} (hd : mD M.2.2.1 pc .baload 1 pc') (hh : h b = .inl (2, n, f)) (hn : b < a.1) (hm : n < 2 ^ 31) (hi : i < n) (kk : mG E M K pc' L (.int (f i) :: st) a h) : mG E M K pc L (.int (nI i) :: .ref b :: st) a h :=
  mG_zald hd hh hn (mIn hi hm).1 (by rw [(mIn hi hm).2]; exact kk)
theorem mG_iastN {b n i : Nat} {f : Nat → Int32} {x : Int32} (hd : mD M.2.2.1 pc .iastore 1 pc') (hh : h b = .inl (0, n, f)) (hn : b < a.1) (hm : n < 2 ^ 31) (hi : i < n) (kk : mG E M K pc' L st a (mU h b (.inl (0, n, upd f i x)))) : mG E M K pc L (.int x :: .int (nI i) :: .ref b :: st) a h := by
  obtain ⟨hd, rfl⟩ := hd
  intro p e s m args below meth c H locs ls C R S V
  obtain ⟨hx, hb, hml, hr, hlk, hown, hnm, hts, hK, hT, hB⟩ := id C
  show W _ _ _ _ _ _ _ _ _ _ _ _ _ _ _ (F0 m pc ls (.int x :: .int (nI i) :: .ref (mra E b) :: st.map (mrv E)))
  rw [mra_lt (Nat.lt_of_lt_of_le hn R.2.1)]
  refine va_iast hx hb hK.1 R.2.2 (mWs_D E a.1 h) S b 0 (mWs_get hn hh) rfl (mIn hi hm).1 hd (fun H1 locs1 hP hD hS => ?_)
  rw [(mIn hi hm).2] at hP
  exact kk p e s m args below meth c H1 locs1 ls C ⟨R.1, R.2.1, by rw [← mWs_set]; exact hP⟩ hS V
theorem mG_bastN {b n i : Nat} {f : Nat → Int32} {x : Int32} (hd : mD M.2.2.1 pc .bastore 1 pc') (hh : h b = .inl (1, n, f)) (hn : b < a.1) (hm : n < 2 ^ 31) (hi : i < n) (kk : mG E M K pc' L st a (mU h b (.inl (1, n, upd f i (vp_nar .byte x))))) : mG E M K pc L (.int x :: .int (nI i) :: .ref b :: st) a h := by
  obtain ⟨hd, rfl⟩ := hd
  intro p e s m args below meth c H locs ls C R S V
  obtain ⟨hx, hb, hml, hr, hlk, hown, hnm, hts, hK, hT, hB⟩ := id C
  show W _ _ _ _ _ _ _ _ _ _ _ _ _ _ _ (F0 m pc ls (.int x :: .int (nI i) :: .ref (mra E b) :: st.map (mrv E)))
  rw [mra_lt (Nat.lt_of_lt_of_le hn R.2.1)]
  refine va_bast hx hb hK.1 R.2.2 (mWs_D E a.1 h) S b 1 (mWs_get hn hh) rfl (mIn hi hm).1 hd (fun H1 locs1 hP hD hS => ?_)
  rw [(mIn hi hm).2] at hP
  exact kk p e s m args below meth c H1 locs1 ls C ⟨R.1, R.2.1, by rw [← mWs_set]; exact hP⟩ hS V
theorem mb_vp (x : Bool) : vp_nar .boolean (mb x) = mb x := by cases x <;> decide
theorem mG_zastN {b n i : Nat} {f : Nat → Int32} {x : Bool} (hd : mD M.2.2.1 pc .bastore 1 pc') (hh : h b = .inl (2, n, f)) (hn : b < a.1) (hm : n < 2 ^ 31) (hi : i < n) (kk : mG E M K pc' L st a (mU h b (.inl (2, n, upd f i (mb x))))) : mG E M K pc L (.int (mb x) :: .int (nI i) :: .ref b :: st) a h := by
  obtain ⟨hd, rfl⟩ := hd
  intro p e s m args below meth c H locs ls C R S V
  obtain ⟨hx, hb, hml, hr, hlk, hown, hnm, hts, hK, hT, hB⟩ := id C
  show W _ _ _ _ _ _ _ _ _ _ _ _ _ _ _ (F0 m pc ls (.int (mb x) :: .int (nI i) :: .ref (mra E b) :: st.map (mrv E)))
  rw [mra_lt (Nat.lt_of_lt_of_le hn R.2.1)]
  refine va_zast hx hb hK.1 R.2.2 (mWs_D E a.1 h) S b 2 (mWs_get hn hh) rfl (mIn hi hm).1 hd (fun H1 locs1 hP hD hS => ?_)
  rw [(mIn hi hm).2, mb_vp] at hP
  exact kk p e s m args below meth c H1 locs1 ls C ⟨R.1, R.2.1, by rw [← mWs_set]; exact hP⟩ hS V
theorem mG_alen {b t n : Nat} {f : Nat → Int32} (hd : mD M.2.2.1 pc .arraylength 1 pc') (hh : h b = .inl (t, n, f)) (hn : b < a.1) (ht : t < 3) (kk : mG E M K pc' L (.int (nI n) :: st) a h) : mG E M K pc L (.ref b :: st) a h := by
  obtain ⟨hd, rfl⟩ := hd
  intro p e s m args below meth c H locs ls C R S V
  obtain ⟨hx, hb, hml, hr, hlk, hown, hnm, hts, hK, hT, hB⟩ := id C
  show W _ _ _ _ _ _ _ _ _ _ _ _ _ _ _ (F0 m pc ls (.ref (mra E b) :: st.map (mrv E)))
  rw [mra_lt (Nat.lt_of_lt_of_le hn R.2.1)]
  have hty : ∃ ty, (mTys E)[t]? = some (E.2.2.1 t, ty) := by
    rcases (show t = 0 ∨ t = 1 ∨ t = 2 by omega) with rfl | rfl | rfl
    · exact ⟨_, rfl⟩
    · exact ⟨_, rfl⟩
    · exact ⟨_, rfl⟩
  obtain ⟨ty, hty⟩ := hty
  exact va_alen hx hb hK.1 R.2.2 b t (mWs_get hn hh) hty rfl hd (kk p e s m args below meth c H locs ls C R S V)
theorem mG_aaldN {b n i q : Nat} {g : Nat → Option Nat} (hd : mD M.2.2.1 pc .aaload 1 pc') (hh : h b = .inr (.inl (n, g))) (hn : b < a.1) (hm : n < 2 ^ 31) (hi : i < n) (hg : g i = some q) (kk : mG E M K pc' L (.ref q :: st) a h) : mG E M K pc L (.int (nI i) :: .ref b :: st) a h := by
  obtain ⟨hd, rfl⟩ := hd
  intro p e s m args below meth c H locs ls C R S V
  obtain ⟨hx, hb, hml, hr, hlk, hown, hnm, hts, hK, hT, hB⟩ := id C
  show W _ _ _ _ _ _ _ _ _ _ _ _ _ _ _ (F0 m pc ls (.int (nI i) :: .ref (mra E b) :: st.map (mrv E)))
  rw [mra_lt (Nat.lt_of_lt_of_le hn R.2.1)]
  refine va_aldq (C := "DayCubes$Stand") hx hb hK.1 R.2.2 b 3 (mWs_get hn hh) rfl (mIn hi hm).1 hd ?_
  rw [(mIn hi hm).2, show (n, g).snd i = some q from hg]
  exact kk p e s m args below meth c H locs ls C R S V
theorem mG_aastN {b n i q : Nat} {g : Nat → Option Nat} {fs : List Value} (hd : mD M.2.2.1 pc .aastore 1 pc') (hh : h b = .inr (.inl (n, g))) (hn : b < a.1) (hm : n < 2 ^ 31) (hi : i < n) (hq : h q = .inr (.inr (3, fs))) (hqn : q < a.1) (kk : mG E M K pc' L st a (mU h b (.inr (.inl (n, va_up g i (some q)))))) : mG E M K pc L (.ref q :: .int (nI i) :: .ref b :: st) a h := by
  obtain ⟨hd, rfl⟩ := hd
  intro p e s m args below meth c H locs ls C R S V
  obtain ⟨hx, hb, hml, hr, hlk, hown, hnm, hts, hK, hT, hB⟩ := id C
  show W _ _ _ _ _ _ _ _ _ _ _ _ _ _ _ (F0 m pc ls (.ref (mra E q) :: .int (nI i) :: .ref (mra E b) :: st.map (mrv E)))
  rw [mra_lt (Nat.lt_of_lt_of_le hn R.2.1), mra_lt (Nat.lt_of_lt_of_le hqn R.2.1)]
  refine va_astq (r := (RX3, TX3, 6)) hx hb hK.1 R.2.2 (mWs_D E a.1 h) S b 3 q 3 (mWs_get hn hh) rfl (mWs_get hqn hq) rfl (mIn hi hm).1 hd (fun H1 locs1 hP hD hS => ?_)
  rw [(mIn hi hm).2] at hP
  have e1 : va_up (fun j => (g j).map (mra E)) i (some (E.2.2.2.1 + mSw E.2.2.2.2.2.2 q)) = fun j => (va_up g i (some q) j).map (mra E) := by
    funext j
    unfold va_up
    by_cases e : j = i
    · rw [if_pos e, if_pos e]
      show some _ = some (mra E q)
      rw [mra_lt (Nat.lt_of_lt_of_le hqn R.2.1)]
    · rw [if_neg e, if_neg e]
  rw [e1] at hP
  exact kk p e s m args below meth c H1 locs1 ls C ⟨R.1, R.2.1, by rw [← mWs_set]; exact hP⟩ hS V
/-! tables -/
theorem mG_tald {t i : Nat} (hd : mD M.2.2.1 pc .iaload 1 pc') (ht : t < 6) (hm : mTL E t < 2 ^ 31) (hi : i < mTL E t) (kk : mG E M K pc' L (.int (mTF E t i) :: st) a h) : mG E M K pc L (.int (nI i) :: .ref (1000 + t) :: st) a h := by
  obtain ⟨hd, rfl⟩ := hd
  intro p e s m args below meth c H locs ls C R S V
  obtain ⟨hx, hb, hml, hr, hlk, hown, hnm, hts, hK, hT, hB⟩ := id C
  show W _ _ _ _ _ _ _ _ _ _ _ _ _ _ _ (F0 m pc ls (.int (nI i) :: .ref (mra E (1000 + t)) :: st.map (mrv E)))
  rw [show mra E (1000 + t) = E.2.2.2.2.1 t by unfold mra; rw [if_neg (by omega), Nat.add_sub_cancel_left]]
  exact va_ti hx hb (hT.2 t ht) S (mIn hi hm).1 (by rw [(mIn hi hm).2]; rfl) hd (kk p e s m args below meth c H locs ls C R S V)
theorem mG_tlen {t : Nat} (hd : mD M.2.2.1 pc .arraylength 1 pc') (ht : t < 6) (kk : mG E M K pc' L (.int (nI (mTL E t)) :: st) a h) : mG E M K pc L (.ref (1000 + t) :: st) a h := by
  obtain ⟨hd, rfl⟩ := hd
  intro p e s m args below meth c H locs ls C R S V
  obtain ⟨hx, hb, hml, hr, hlk, hown, hnm, hts, hK, hT, hB⟩ := id C
  show W _ _ _ _ _ _ _ _ _ _ _ _ _ _ _ (F0 m pc ls (.ref (mra E (1000 + t)) :: st.map (mrv E)))
  rw [show mra E (1000 + t) = E.2.2.2.2.1 t by unfold mra; rw [if_neg (by omega), Nat.add_sub_cancel_left]]
  exact va_tlen hx hb (hT.2 t ht) S rfl hd (kk p e s m args below meth c H locs ls C R S V)
theorem mG_gets {i t : Nat} (hd : mD M.2.2.1 pc (.getstatic i) 3 pc') (ht : t < 5) (hl : Cond.fieldLink M.2.1.cls i (mSC t) (mSN t) "[I" ∈ mw) (kk : mG E M K pc' L (.ref (1000 + t) :: st) a h) : mG E M K pc L st a h := by
  obtain ⟨hd, rfl⟩ := hd
  intro p e s m args below meth c H locs ls C R S V
  obtain ⟨hx, hb, hml, hr, hlk, hown, hnm, hts, hK, hT, hB⟩ := id C
  refine va_gets hx hb (hT.1 t ht) S hown (hts _ hl) (fun _ q => q) hd ?_
  have := kk p e s m args below meth c H locs ls C R S V
  rw [show (Value.ref (1000 + t) :: st).map (mrv E) = .ref (mra E (1000 + t)) :: st.map (mrv E) from rfl, show mra E (1000 + t) = E.2.2.2.2.1 t by unfold mra; rw [if_neg (by omega), Nat.add_sub_cancel_left]] at this
  exact this
theorem mG_getsN {i t : Nat} (hd : mD M.2.2.1 pc (.getstatic i) 3 pc') (ht : t < 4) (hl : (M.2.1.cls, i, mSN t) ∈ mNf) (kk : mG E M K pc' L (.ref (1000 + t) :: st) a h) : mG E M K pc L st a h := by
  obtain ⟨hd, rfl⟩ := hd
  intro p e s m args below meth c H locs ls C R S V
  obtain ⟨hx, hb, hml, hr, hlk, hown, hnm, hts, hK, hT, hB⟩ := id C
  have hz := hT.1 t (by omega)
  rw [show mSC t = "DayCubes" from if_neg (by omega)] at hz
  refine va_getsN hx hb hz S hown (va_Nw.use rfl (hK.2.2.1 _ hl)) (fun _ q => q) hd ?_
  have := kk p e s m args below meth c H locs ls C R S V
  rw [show (Value.ref (1000 + t) :: st).map (mrv E) = .ref (mra E (1000 + t)) :: st.map (mrv E) from rfl, show mra E (1000 + t) = E.2.2.2.2.1 t by unfold mra; rw [if_neg (by omega), Nat.add_sub_cancel_left]] at this
  exact this
/-! the JDK's own -/
theorem mG_mmin {i : Nat} {x y : Int32} (hd : mD M.2.2.1 pc (.invokestatic i) 3 pc') (hl : Cond.methodLink M.2.1.cls i Lib.Math.min.name ∈ mw) (hs : Cond.static Lib.Math.min.name ∈ mw) (hi : Cond.initialized "java/lang/Math" ∈ mw) (hc : Cond.code Lib.Math.min.name Lib.Math.min.code 2 (some .int) ∈ mw) (hfr : 1 ≤ M.1.frames) (hlo : (st.map fun v => v.category).sum + 13 ≤ M.1.locals) (h1 : a.2.1 ≤ M.1.cells) (h2 : a.2.2 ≤ M.1.slots) (kk : mG E M K pc' L (.int (if y < x then y else x) :: st) a h) : mG E M K pc L (.int y :: .int x :: st) a h := by
  obtain ⟨hd, rfl⟩ := hd
  intro p e s m args below meth c H locs ls C R S V
  obtain ⟨hx, hb, hml, hr, hlk, hown, hnm, hts, hK, hT, hB⟩ := id C
  have e1 : ((st.map (mrv E)).map fun v => v.category) = st.map fun v => v.category := by rw [List.map_map]; exact List.map_congr_left (fun v _ => mrv_cat E v)
  exact va_mmin hx hb (by rw [hml]; exact V.1.symm) hown (hts _ hl) (hts _ hs) (hts _ hi) (hts _ hc) hfr (by rw [e1]; exact hlo) h1 h2 hd (kk p e s m args below meth c H locs ls C R S V)
theorem mG_mmax {i : Nat} {x y : Int32} (hd : mD M.2.2.1 pc (.invokestatic i) 3 pc') (hl : Cond.methodLink M.2.1.cls i Lib.Math.max.name ∈ mw) (hs : Cond.static Lib.Math.max.name ∈ mw) (hi : Cond.initialized "java/lang/Math" ∈ mw) (hc : Cond.code Lib.Math.max.name Lib.Math.max.code 2 (some .int) ∈ mw) (hfr : 1 ≤ M.1.frames) (hlo : (st.map fun v => v.category).sum + 13 ≤ M.1.locals) (h1 : a.2.1 ≤ M.1.cells) (h2 : a.2.2 ≤ M.1.slots) (kk : mG E M K pc' L (.int (if x < y then y else x) :: st) a h) : mG E M K pc L (.int y :: .int x :: st) a h := by
  obtain ⟨hd, rfl⟩ := hd
  intro p e s m args below meth c H locs ls C R S V
  obtain ⟨hx, hb, hml, hr, hlk, hown, hnm, hts, hK, hT, hB⟩ := id C
  have e1 : ((st.map (mrv E)).map fun v => v.category) = st.map fun v => v.category := by rw [List.map_map]; exact List.map_congr_left (fun v _ => mrv_cat E v)
  exact va_mmax hx hb (by rw [hml]; exact V.1.symm) hown (hts _ hl) (hts _ hs) (hts _ hi) (hts _ hc) hfr (by rw [e1]; exact hlo) h1 h2 hd (kk p e s m args below meth c H locs ls C R S V)
theorem mG_copy {i b b0 n0 n1 sp dp n : Nat} {f g : Nat → Int32} (hd : mD M.2.2.1 pc (.invokestatic i) 3 pc') (hl : Cond.methodLink M.2.1.cls i arraycopyName ∈ mw) (hna : Cond.native arraycopyName ∈ mw) (hs : Cond.static arraycopyName ∈ mw) (hi : Cond.initialized "java/lang/System" ∈ mw) (hh0 : h b0 = .inl (0, n0, f)) (hh : h b = .inl (0, n1, g)) (hn0 : b0 < a.1) (hn : b < a.1) (h4 : sp + n ≤ n0) (h5 : dp + n ≤ n1) (hm0 : n0 < 2 ^ 31) (hm1 : n1 < 2 ^ 31) (hfr : 1 ≤ M.1.frames) (hlo : (st.map fun v => v.category).sum + (nativeFrameWords "java/lang/System" "arraycopy" 5 + 11) ≤ M.1.locals)
    (kk : mG E M K pc' L st a (mU h b (.inl (0, n1, va_cpy f g sp dp n)))) : mG E M K pc L (.int (nI n) :: .int (nI dp) :: .ref b :: .int (nI sp) :: .ref b0 :: st) a h := by
  obtain ⟨hd, rfl⟩ := hd
  intro p e s m args below meth c H locs ls C R S V
  obtain ⟨hx, hb, hml, hr, hlk, hown, hnm, hts, hK, hT, hB⟩ := id C
  have e1 : ((st.map (mrv E)).map fun v => v.category) = st.map fun v => v.category := by rw [List.map_map]; exact List.map_congr_left (fun v _ => mrv_cat E v)
  have c1 : (nI sp).toNatClampNeg = sp := nI_clamp (by omega)
  have c2 : (nI dp).toNatClampNeg = dp := nI_clamp (by omega)
  have c3 : (nI n).toNatClampNeg = n := nI_clamp (by omega)
  show W _ _ _ _ _ _ _ _ _ _ _ _ _ _ _ (F0 m pc ls (.int (nI n) :: .int (nI dp) :: .ref (mra E b) :: .int (nI sp) :: .ref (mra E b0) :: st.map (mrv E)))
  rw [mra_lt (Nat.lt_of_lt_of_le hn R.2.1), mra_lt (Nat.lt_of_lt_of_le hn0 R.2.1)]
  refine va_copyi hx hb (by rw [hml]; exact V.1.symm) hown (hts _ hl) (hts _ hna) (hts _ hs) (hts _ hi) hK.1 R.2.2 (mWs_D E a.1 h) S b0 b 0 0 (mWs_get hn0 hh0) (mWs_get hn hh) (ty := .int) rfl rfl rfl (nI_pos (by omega)) (nI_pos (by omega)) (nI_pos (by omega)) (by rw [c1, c3]; exact h4) (by rw [c2, c3]; exact h5) (fun _ _ => rfl) hfr (by rw [e1]; exact hlo) hd (fun H1 locs1 hP hD hS => ?_)
  rw [c1, c2, c3] at hP
  exact kk p e s m args below meth c H1 locs1 ls C ⟨R.1, R.2.1, by rw [← mWs_set]; exact hP⟩ hS V
end MM
end
section
section MCa
variable {E : mE} {M : mM} {K : mKt} {pc pc' : Nat} {L L' : List (Option Value)} {st : List Value} {a : Nat × Nat × Nat} {h h' : mH}
/-! ends -/
theorem mEnd {E : mE} {s t : State} {args : Array Value} {H : Heap} {locs : List Loc} {n' : Nat} {Q : Option Value → mH → Prop} {r : Option Value} {h : mH} (S : va_S (mA E) s.heap H locs) (R : mRep E n' h H) (hq : Q r h) (ht : t.heap = H) : mQc E n' Q args s (.returned (r.map (mrv E))) t := ⟨⟨r, h, rfl, hq, by rw [ht]; exact R⟩, S.F ht⟩
theorem mG_iret {n' : Nat} {Q : Option Value → mH → Prop} {x : Int32} (hd : mD M.2.2.1 pc .ireturn 1 pc') (hr : M.2.2.2.2 = some .int) (hq : Q (some (.int x)) h) (h0 : a.1 = n' := by rfl) (h1 : a.2.1 ≤ M.1.cells := by first | exact Nat.zero_le _ | decide) (h2 : a.2.2 ≤ M.1.slots := by first | exact Nat.zero_le _ | decide) : mG E M (mKq E M.1 n' Q) pc L [.int x] a h := by
  obtain ⟨hd, rfl⟩ := hd
  subst h0
  intro p e s m args below meth c H locs ls C R S V
  refine W.widen h1 h2 (W.iret (Qc := mQc E a.1 Q) C.1 C.2.1 (C.2.2.2.1.trans hr) (fun t ht _ => mEnd S R.2 hq ht) S.2.2 hd C.2.2.2.2.1)
theorem mG_zret {n' : Nat} {Q : Option Value → mH → Prop} {x : Bool} (hd : mD M.2.2.1 pc .ireturn 1 pc') (hr : M.2.2.2.2 = some .boolean) (hq : Q (some (.int (mb x))) h) (h0 : a.1 = n' := by rfl) (h1 : a.2.1 ≤ M.1.cells := by first | exact Nat.zero_le _ | decide) (h2 : a.2.2 ≤ M.1.slots := by first | exact Nat.zero_le _ | decide) : mG E M (mKq E M.1 n' Q) pc L [.int (mb x)] a h := by
  obtain ⟨hd, rfl⟩ := hd
  subst h0
  intro p e s m args below meth c H locs ls C R S V
  refine W.widen h1 h2 (W.zret (Qc := mQc E a.1 Q) C.1 C.2.1 (C.2.2.2.1.trans hr) (mb_nar x).1 (fun t ht _ => mEnd S R.2 hq ht) S.2.2 hd C.2.2.2.2.1)
theorem mG_lret {n' : Nat} {Q : Option Value → mH → Prop} {x : Int64} (hd : mD M.2.2.1 pc .lreturn 1 pc') (hr : M.2.2.2.2 = some .long) (hq : Q (some (.long x)) h) (h0 : a.1 = n' := by rfl) (h1 : a.2.1 ≤ M.1.cells := by first | exact Nat.zero_le _ | decide) (h2 : a.2.2 ≤ M.1.slots := by first | exact Nat.zero_le _ | decide) : mG E M (mKq E M.1 n' Q) pc L [.long x] a h := by
  obtain ⟨hd, rfl⟩ := hd
  subst h0
  intro p e s m args below meth c H locs ls C R S V
  refine W.widen h1 h2 (W.lret (Qc := mQc E a.1 Q) C.1 C.2.1 (C.2.2.2.1.trans hr) (fun t ht _ => mEnd S R.2 hq ht) S.2.2 hd C.2.2.2.2.1)
theorem mG_vret {n' : Nat} {Q : Option Value → mH → Prop} (hd : mD M.2.2.1 pc .return_ 1 pc') (hr : M.2.2.2.2 = none) (hq : Q none h) (h0 : a.1 = n' := by rfl) (h1 : a.2.1 ≤ M.1.cells := by first | exact Nat.zero_le _ | decide) (h2 : a.2.2 ≤ M.1.slots := by first | exact Nat.zero_le _ | decide) : mG E M (mKq E M.1 n' Q) pc L [] a h := by
  obtain ⟨hd, rfl⟩ := hd
  subst h0
  intro p e s m args below meth c H locs ls C R S V
  refine W.widen h1 h2 (W.vret (Qc := mQc E a.1 Q) C.1 C.2.1 (C.2.2.2.1.trans hr) (fun t ht _ => mEnd (r := none) S R.2 hq ht) S.2.2 hd C.2.2.2.2.1)
theorem mG_aret {n' q : Nat} {Q : Option Value → mH → Prop} {D : String} (hd : mD M.2.2.1 pc .areturn 1 pc') (hr : M.2.2.2.2 = some (.object D)) (hq : Q (some (.ref q)) h) (h0 : a.1 = n' := by rfl) (h1 : a.2.1 ≤ M.1.cells := by first | exact Nat.zero_le _ | decide) (h2 : a.2.2 ≤ M.1.slots := by first | exact Nat.zero_le _ | decide) : mG E M (mKq E M.1 n' Q) pc L [.ref q] a h := by
  obtain ⟨hd, rfl⟩ := hd
  subst h0
  intro p e s m args below meth c H locs ls C R S V
  refine W.widen h1 h2 (W.aret (Qc := mQc E a.1 Q) (v := mrv E (.ref q)) C.1 C.2.1 (C.2.2.2.1.trans hr) (Or.inl ⟨_, rfl⟩) (Or.inr ⟨_, rfl⟩) (fun t ht _ => mEnd (r := some (.ref q)) S R.2 hq ht) S.2.2 hd C.2.2.2.2.1)
/-! a method's contract out of its walk -/
theorem mOkR_of {R : Room} {Y : mY} {av : List Value} {n n' : Nat} {Q : Option Value → mH → Prop} (hp : plainName Y.1.cls = true) (hc : ∀ v ∈ av, v.category = 1) (hl : av.length ≤ Y.2.2.1) (k : mG E (R, Y) (mKq E R n' Q) 0 (av.map some ++ List.replicate (Y.2.2.1 - av.length) none) [] (n, 0, 0) h) : mOkR E R Y av n n' h Q := by
  refine Met.ofW (cc := Y.2.1) (maxL := Y.2.2.1) (ret := Y.2.2.2) hp rfl ?_
  intro p e s m args below meth c s₁ B hml hv
  obtain ⟨rfl, hR, hK, hT, hz⟩ := hv
  have hts := atoms_spec (ws := Cond.code Y.1 Y.2.1 Y.2.2.1 Y.2.2.2 :: mw) B.pre
  have hslots : (lg_sl (av.map (mrv E))).length = av.length := by
    have : ∀ l : List Value, (∀ v ∈ l, v.category = 1) → (lg_sl (l.map (mrv E))).length = l.length := by
      intro l
      induction l with
      | nil => intro _; rfl
      | cons x t ih =>
        intro hx
        have h1 : (mrv E x).category = 1 := by rw [mrv_cat]; exact hx x List.mem_cons_self
        have h2 := ih (fun v hv => hx v (List.mem_cons_of_mem _ hv))
        simp only [lg_sl, List.map_cons, List.flatMap_cons, h1, List.length_append] at h2 ⊢
        simp [h2]
        omega
    exact this av hc
  have hl0 := lv_entry (av.map (mrv E)) (n := Y.2.2.1) (by rw [hslots]; exact hl)
  rw [lg_entry_eq]
  generalize (lg_sl (av.map (mrv E)) ++ List.replicate (Y.2.2.1 - (lg_sl (av.map (mrv E))).length) Slot.unset).toArray = ls at hl0 ⊢
  exact k p e s m _ below meth c s.heap [] ls ⟨B.exec, B.bytes, hml, B.returns, B.notSynchronized, findClass_of_methodNamed B.named, (name_of_methodNamed B.named B.method).1, fun w hw => hts w (List.mem_cons_of_mem _ hw), hK, hT, by omega⟩ ⟨by show s.heap.size + 0 = _; omega, hR⟩ va_S.rf (mPr_args E av hc _ hl0)
/-! calls -/
theorem mW_size {p : Program} {l : Launch} {e : Env} {R : Room} {s : State} {m : MethodId} {args : Array Value} {below : List Frame} {meth : Method} {c : Code} {H : Heap} {locs : List Loc} {cells slots : Nat} {Q : State → Prop} {g : JFrame} (k : H.size ≤ s.heap.size + cells → W p l e R s m args below meth c H locs cells slots Q g) : W p l e R s m args below meth c H locs cells slots Q g := fun T hT X => k (by rw [← hT]; exact X.heapSize) T hT X
theorem mPc_blind (E : mE) (av : List Value) (n : Nat) (h : mH) : FrameBlind (mPc E av n h) := fun a U g mk q => ⟨q.1, q.2.1, mKn.same (s := U) (U := U.calling g mk a) rfl q.2.2.1, mSt.kept (u := U) (U := U.calling g mk a) (Vm.Alike.refl U.vm) q.2.2.2.1 (fun _ _ _ => rfl), q.2.2.2.2⟩
theorem mPc_now {s U : State} {H : Heap} {locs : List Loc} {n cells : Nat} {av : List Value} (hW : s.WarmedH U.vm) (hU : U.heap = H) (hK : mKn E s) (hT : mSt E s s.heap) (S : va_S (mA E) s.heap H locs) (R : mRep E n h H) (hz : s.heap.size + cells = E.2.2.2.1 + n) (hz2 : H.size ≤ s.heap.size + cells) (hz3 : E.2.2.2.1 + n ≤ H.size) : mPc E av n h (av.map (mrv E)).toArray U :=
  ⟨rfl, by rw [hU]; exact R, hK.warm hW, by rw [hU]; exact hT.kept hW.alike S.2.1, by rw [hU]; omega⟩
/-- the words of a call -/
def mCy (Y : mY) (na : Nat) : Prop := Cond.code Y.1 Y.2.1 Y.2.2.1 Y.2.2.2 ∈ mw ∧ Cond.initialized Y.1.cls ∈ mw ∧ Y.1.cls ≠ "java/lang/invoke/MethodHandle" ∧ Y.1.cls ≠ "java/lang/invoke/VarHandle" ∧ (parseMethodDescriptor Y.1.desc).map (fun d => d.parameters.length) = some na
def mCv (own : String) (idx : Nat) (Y : mY) (na ci : Nat) : Prop := mCy Y na ∧ Cond.methodLink own idx Y.1 ∈ mw ∧ Cond.instanceMethod Y.1 ∈ mw ∧ Cond.selects Y.1.cls Y.1 Y.1 ∈ mw ∧ ∃ (T : u_T) (N : Nat), mCl[ci]? = some (Y.1.cls, T, N)
def mCs (own : String) (idx : Nat) (Y : mY) (na : Nat) : Prop := mCy Y na ∧ Cond.methodLink own idx Y.1 ∈ mw ∧ Cond.static Y.1 ∈ mw
def mLe (R' : Room) (nL : Nat) (R : Room) : Prop := R'.frames + 1 ≤ R.frames ∧ 8 + (nL + 11) + R'.locals ≤ R.locals
theorem mCallB {R' R : Room} {Y : mY} {na i : Nat} {own : String} {s : State} {args : Array Value} (hts : ∀ w ∈ mw, w.before args s = true) (hy : mCy Y na) (hl : Cond.methodLink own i Y.1 ∈ mw) (hR : mLe R' Y.2.2.1 R) : CallB R s args own i Y.1 Y.2.1 Y.2.2.1 Y.2.2.2 (Cond.code Y.1 Y.2.1 Y.2.2.1 Y.2.2.2 :: mw) R' R'.cells R'.slots na :=
  callB_of na hts (mGood hy.1) rfl rfl rfl (hts _ hy.2.1) (hts _ hl) hy.2.2 hR
theorem mCat (E : mE) (st : List Value) : ((st.map (mrv E)).map fun v => v.category) = st.map fun v => v.category := by rw [List.map_map]; exact List.map_congr_left (fun v _ => mrv_cat E v)
/-- behind a call -/
theorem mG_after {n n' cells slots : Nat} {R' : Room} {Q' : Option Value → mH → Prop} {st0 : List Value} {p : Program} {e : Env} {s : State} {m : MethodId} {args : Array Value} {below : List Frame} {meth : Method} {c : Code} {H : Heap} {locs : List Loc} {ls : Array Slot} {av : Array Value} (hn' : n' = n + R'.cells)
    (C : mCx E M p s m args meth c) (Rz : s.heap.size + cells = E.2.2.2.1 + n) (S : va_S (mA E) s.heap H locs) (V : lv_has ls M.2.2.2.1 (mPr E L))
    (hr : va_Run p E.1 e M.1 s m args below meth c H locs cells slots R'.cells R'.slots (F0 m pc ls st0) (st.map (mrv E)) (mQc E n' Q' av) (mA E))
    (k : ∀ r h', Q' r h' → mG E M K (pc + 3) L (r.toList ++ st) (n', cells + R'.cells, slots + R'.slots) h') : W p E.1 e M.1 s m args below meth c H locs cells slots (K below args s) (F0 m pc ls st0) := by
  intro T hT X
  obtain ⟨v, st₀, t, T', L2, h0, X', hL, e1, e2, ⟨⟨r, h', hv, hq, hrep⟩, hz, hk⟩, stp⟩ := hr T hT X
  cases hv
  rw [h0] at hz hk
  obtain ⟨t2, a1, b1⟩ := k r h' hq p e s m args below meth c T'.heap (locs ++ L2) ls C ⟨by show s.heap.size + (cells + R'.cells) = _ + n'; omega, by rw [e1]; exact hrep⟩
    ⟨Nat.le_trans S.1 (by rw [e1]; exact hz), fun q g1 g2 => by rw [e1, hk q (Nat.lt_of_lt_of_le g1 S.1) g2]; exact S.2.1 q g1 g2, fun q hq => by
      rcases List.mem_append.mp hq with g | g
      · exact S.2.2 q g
      · exact hL q g⟩ V T' rfl X'
  refine ⟨t2, stp t2 ?_, b1⟩
  have e3 : (r.toList ++ st).map (mrv E) = (r.map (mrv E)).toList ++ st.map (mrv E) := by cases r <;> simp
  rw [e3] at a1
  exact a1
theorem mG_callV {R' : Room} {Y : mY} {na i ci b n n' cells slots : Nat} {av fs : List Value} {Q' : Option Value → mH → Prop} (hc : mCv M.2.1.cls i Y na ci) (hd : mD M.2.2.1 pc (.invokevirtual i) 3 pc') (hR : mLe R' Y.2.2.1 M.1) (hcat : (st.map fun v => v.category).sum ≤ 8) (hf : cells + R'.cells ≤ M.1.cells ∧ slots + R'.slots ≤ M.1.slots) (hh : h b = .inr (.inr (ci, fs))) (hn : b < n) (hna : av.length = na) (hn' : n' = n + R'.cells) (hE : E.2.2.2.2.2.2 = true → 9 ≤ n)
    (hM : mOkR E R' Y (.ref b :: av) n n' h Q') (k : ∀ r h', Q' r h' → mG E M K pc' L (r.toList ++ st) (n', cells + R'.cells, slots + R'.slots) h') : mG E M K pc L (av.reverse ++ .ref b :: st) (n, cells, slots) h := by
  obtain ⟨hd, rfl⟩ := hd
  obtain ⟨hy, hl, hin, hse, T, N, hcl⟩ := hc
  intro p e s m args below meth c H locs ls C R S V
  obtain ⟨hx, hb, hml, hr, hlk, hown, hnm, hts, hK, hT, hB⟩ := id C
  refine mW_size (fun hz2 => ?_)
  have hz3 : E.2.2.2.1 + n ≤ H.size := (R.2.size hE).resolve_left (by omega)
  have hb1 : mra E b = E.2.2.2.1 + mSw E.2.2.2.2.2.2 b := mra_lt (Nat.lt_of_lt_of_le hn R.2.1)
  refine mG_after hn' C R.1 S V (va_runV (As := av.map (mrv E)) (b := mra E b) (rest := st.map (mrv E)) (C := Y.1.cls) ⟨hx, hb, rfl, hown, hts⟩ hM ⟨mCallB hts hy hl hR, hts _ hin, hts _ hse⟩ ⟨mPc_blind E _ n h, ?_, fun U hU hW => mPc_now hW hU hK hT S R.2 R.1 hz2 hz3⟩ rfl (by rw [List.length_map]; exact hna) (by rw [hml]; exact V.1) (by simp [mrv]) (lv_room (by rw [mCat]; exact hcat)) hd hf) k
  rw [hb1]
  exact va_recv hK.1 R.2.2 hcl (mWs_get hn hh)
theorem mG_callS {R' : Room} {Y : mY} {na i n n' cells slots : Nat} {av : List Value} {Q' : Option Value → mH → Prop} (hc : mCs M.2.1.cls i Y na) (hd : mD M.2.2.1 pc (.invokestatic i) 3 pc') (hR : mLe R' Y.2.2.1 M.1) (hcat : (st.map fun v => v.category).sum ≤ 8) (hf : cells + R'.cells ≤ M.1.cells ∧ slots + R'.slots ≤ M.1.slots) (hna : av.length = na) (hn' : n' = n + R'.cells) (h0 : 0 < n) (hE : E.2.2.2.2.2.2 = true → 9 ≤ n)
    (hM : mOkR E R' Y av n n' h Q') (k : ∀ r h', Q' r h' → mG E M K pc' L (r.toList ++ st) (n', cells + R'.cells, slots + R'.slots) h') : mG E M K pc L (av.reverse ++ st) (n, cells, slots) h := by
  obtain ⟨hd, rfl⟩ := hd
  obtain ⟨hy, hl, hst⟩ := hc
  intro p e s m args below meth c H locs ls C R S V
  obtain ⟨hx, hb, hml, hr, hlk, hown, hnm, hts, hK, hT, hB⟩ := id C
  refine mW_size (fun hz2 => ?_)
  have hz3 : E.2.2.2.1 + n ≤ H.size := (R.2.size hE).resolve_left (by omega)
  exact mG_after hn' C R.1 S V (va_runS (As := av.map (mrv E)) (rest := st.map (mrv E)) ⟨hx, hb, rfl, hown, hts⟩ hM ⟨mCallB hts hy hl hR, hts _ hst⟩ ⟨mPc_blind E _ n h, fun U hU hW => mPc_now hW hU hK hT S R.2 R.1 hz2 hz3⟩ rfl (by rw [List.length_map]; exact hna) (by rw [hml]; exact V.1) (by simp) (lv_room (by rw [mCat]; exact hcat)) hd hf) k
end MCa
end
section
theorem dX0_init_0 : mD cX0_init 0 (.aload_n 0) 1 1 := ⟨by decide +kernel, rfl⟩
theorem dX0_init_1 : mD cX0_init 1 (.invokespecial 3) 3 4 := ⟨by decide +kernel, rfl⟩
theorem dX0_init_4 : mD cX0_init 4 (.aload_n 0) 1 5 := ⟨by decide +kernel, rfl⟩
theorem dX0_init_5 : mD cX0_init 5 (.bipush 10) 2 7 := ⟨by decide +kernel, rfl⟩
theorem dX0_init_7 : mD cX0_init 7 (.newarray .int) 2 9 := ⟨by decide +kernel, rfl⟩
theorem dX0_init_9 : mD cX0_init 9 (.putfield 9) 3 12 := ⟨by decide +kernel, rfl⟩
theorem dX0_init_12 : mD cX0_init 12 .return_ 1 13 := ⟨by decide +kernel, rfl⟩
theorem dX0_reckon_0 : mD cX0_reckon 0 (.aload_n 0) 1 1 := ⟨by decide +kernel, rfl⟩
theorem dX0_reckon_1 : mD cX0_reckon 1 (.aload_n 1) 1 2 := ⟨by decide +kernel, rfl⟩
theorem dX0_reckon_2 : mD cX0_reckon 2 (.putfield 15) 3 5 := ⟨by decide +kernel, rfl⟩
theorem dX0_reckon_5 : mD cX0_reckon 5 (.aload_n 0) 1 6 := ⟨by decide +kernel, rfl⟩
theorem dX0_reckon_6 : mD cX0_reckon 6 (.aload_n 2) 1 7 := ⟨by decide +kernel, rfl⟩
theorem dX0_reckon_7 : mD cX0_reckon 7 (.putfield 19) 3 10 := ⟨by decide +kernel, rfl⟩
theorem dX0_reckon_10 : mD cX0_reckon 10 (.aload_n 0) 1 11 := ⟨by decide +kernel, rfl⟩
theorem dX0_reckon_11 : mD cX0_reckon 11 (.getfield 9) 3 14 := ⟨by decide +kernel, rfl⟩
theorem dX0_reckon_14 : mD cX0_reckon 14 (.iconst 0) 1 15 := ⟨by decide +kernel, rfl⟩
theorem dX0_reckon_15 : mD cX0_reckon 15 (.invokestatic 23) 3 18 := ⟨by decide +kernel, rfl⟩
theorem dX0_reckon_18 : mD cX0_reckon 18 (.iload_n 3) 1 19 := ⟨by decide +kernel, rfl⟩
theorem dX0_reckon_19 : mD cX0_reckon 19 (.istore 4) 2 21 := ⟨by decide +kernel, rfl⟩
theorem dX0_reckon_21 : mD cX0_reckon 21 (.iconst 0) 1 22 := ⟨by decide +kernel, rfl⟩
theorem dX0_reckon_22 : mD cX0_reckon 22 (.istore 5) 2 24 := ⟨by decide +kernel, rfl⟩
theorem dX0_reckon_24 : mD cX0_reckon 24 (.iload 5) 2 26 := ⟨by decide +kernel, rfl⟩
theorem dX0_reckon_26 : mD cX0_reckon 26 (.aload_n 0) 1 27 := ⟨by decide +kernel, rfl⟩
theorem dX0_reckon_27 : mD cX0_reckon 27 (.getfield 15) 3 30 := ⟨by decide +kernel, rfl⟩
theorem dX0_reckon_30 : mD cX0_reckon 30 (.getfield 29) 3 33 := ⟨by decide +kernel, rfl⟩
theorem dX0_reckon_33 : mJ cX0_reckon 33 (.if_icmp .ge) 36 70 := mJ.of (37) (by decide +kernel) rfl (by decide)
theorem dX0_reckon_36 : mD cX0_reckon 36 (.aload_n 0) 1 37 := ⟨by decide +kernel, rfl⟩
theorem dX0_reckon_37 : mD cX0_reckon 37 (.getfield 9) 3 40 := ⟨by decide +kernel, rfl⟩
theorem dX0_reckon_40 : mD cX0_reckon 40 (.aload_n 0) 1 41 := ⟨by decide +kernel, rfl⟩
theorem dX0_reckon_41 : mD cX0_reckon 41 (.getfield 15) 3 44 := ⟨by decide +kernel, rfl⟩
theorem dX0_reckon_44 : mD cX0_reckon 44 (.iload 4) 2 46 := ⟨by decide +kernel, rfl⟩
theorem dX0_reckon_46 : mD cX0_reckon 46 (.bipush 10) 2 48 := ⟨by decide +kernel, rfl⟩
theorem dX0_reckon_48 : mD cX0_reckon 48 .irem 1 49 := ⟨by decide +kernel, rfl⟩
theorem dX0_reckon_49 : mD cX0_reckon 49 (.invokevirtual 35) 3 52 := ⟨by decide +kernel, rfl⟩
theorem dX0_reckon_52 : mD cX0_reckon 52 .dup2 1 53 := ⟨by decide +kernel, rfl⟩
theorem dX0_reckon_53 : mD cX0_reckon 53 .iaload 1 54 := ⟨by decide +kernel, rfl⟩
theorem dX0_reckon_54 : mD cX0_reckon 54 (.iconst 1) 1 55 := ⟨by decide +kernel, rfl⟩
theorem dX0_reckon_55 : mD cX0_reckon 55 .iadd 1 56 := ⟨by decide +kernel, rfl⟩
theorem dX0_reckon_56 : mD cX0_reckon 56 .iastore 1 57 := ⟨by decide +kernel, rfl⟩
theorem dX0_reckon_57 : mD cX0_reckon 57 (.iload 4) 2 59 := ⟨by decide +kernel, rfl⟩
theorem dX0_reckon_59 : mD cX0_reckon 59 (.bipush 10) 2 61 := ⟨by decide +kernel, rfl⟩
theorem dX0_reckon_61 : mD cX0_reckon 61 .idiv 1 62 := ⟨by decide +kernel, rfl⟩
theorem dX0_reckon_62 : mD cX0_reckon 62 (.istore 4) 2 64 := ⟨by decide +kernel, rfl⟩
theorem dX0_reckon_64 : mD cX0_reckon 64 (.iinc 5 1) 3 67 := ⟨by decide +kernel, rfl⟩
theorem dX0_reckon_67 : mJ cX0_reckon 67 .goto 70 24 := mJ.of (-43) (by decide +kernel) rfl (by decide)
theorem dX0_reckon_70 : mD cX0_reckon 70 (.aload_n 0) 1 71 := ⟨by decide +kernel, rfl⟩
theorem dX0_reckon_71 : mD cX0_reckon 71 (.aload_n 0) 1 72 := ⟨by decide +kernel, rfl⟩
theorem dX0_reckon_72 : mD cX0_reckon 72 (.iconst 0) 1 73 := ⟨by decide +kernel, rfl⟩
theorem dX0_reckon_73 : mD cX0_reckon 73 (.invokevirtual 39) 3 76 := ⟨by decide +kernel, rfl⟩
theorem dX0_reckon_76 : mD cX0_reckon 76 (.putfield 42) 3 79 := ⟨by decide +kernel, rfl⟩
theorem dX0_reckon_79 : mD cX0_reckon 79 (.aload_n 0) 1 80 := ⟨by decide +kernel, rfl⟩
theorem dX0_reckon_80 : mD cX0_reckon 80 (.getstatic 45) 3 83 := ⟨by decide +kernel, rfl⟩
theorem dX0_reckon_83 : mD cX0_reckon 83 (.aload_n 0) 1 84 := ⟨by decide +kernel, rfl⟩
theorem dX0_reckon_84 : mD cX0_reckon 84 (.getfield 15) 3 87 := ⟨by decide +kernel, rfl⟩
theorem dX0_reckon_87 : mD cX0_reckon 87 (.getfield 29) 3 90 := ⟨by decide +kernel, rfl⟩
theorem dX0_reckon_90 : mD cX0_reckon 90 .iaload 1 91 := ⟨by decide +kernel, rfl⟩
theorem dX0_reckon_91 : mD cX0_reckon 91 (.putfield 48) 3 94 := ⟨by decide +kernel, rfl⟩
theorem dX0_reckon_94 : mD cX0_reckon 94 (.aload_n 0) 1 95 := ⟨by decide +kernel, rfl⟩
theorem dX0_reckon_95 : mD cX0_reckon 95 (.invokevirtual 51) 3 98 := ⟨by decide +kernel, rfl⟩
theorem dX0_reckon_98 : mD cX0_reckon 98 .return_ 1 99 := ⟨by decide +kernel, rfl⟩
theorem dX0_fallsFrom_0 : mD cX0_fallsFrom 0 (.iload_n 1) 1 1 := ⟨by decide +kernel, rfl⟩
theorem dX0_fallsFrom_1 : mD cX0_fallsFrom 1 (.aload_n 0) 1 2 := ⟨by decide +kernel, rfl⟩
theorem dX0_fallsFrom_2 : mD cX0_fallsFrom 2 (.getfield 15) 3 5 := ⟨by decide +kernel, rfl⟩
theorem dX0_fallsFrom_5 : mD cX0_fallsFrom 5 (.getfield 29) 3 8 := ⟨by decide +kernel, rfl⟩
theorem dX0_fallsFrom_8 : mJ cX0_fallsFrom 8 (.if_icmp .lt) 11 13 := mJ.of (5) (by decide +kernel) rfl (by decide)
theorem dX0_fallsFrom_11 : mD cX0_fallsFrom 11 (.iconst 1) 1 12 := ⟨by decide +kernel, rfl⟩
theorem dX0_fallsFrom_12 : mD cX0_fallsFrom 12 .ireturn 1 13 := ⟨by decide +kernel, rfl⟩
theorem dX0_fallsFrom_13 : mD cX0_fallsFrom 13 (.iconst 0) 1 14 := ⟨by decide +kernel, rfl⟩
theorem dX0_fallsFrom_14 : mD cX0_fallsFrom 14 (.istore_n 2) 1 15 := ⟨by decide +kernel, rfl⟩
theorem dX0_fallsFrom_15 : mD cX0_fallsFrom 15 (.iconst 0) 1 16 := ⟨by decide +kernel, rfl⟩
theorem dX0_fallsFrom_16 : mD cX0_fallsFrom 16 (.istore_n 3) 1 17 := ⟨by decide +kernel, rfl⟩
theorem dX0_fallsFrom_17 : mD cX0_fallsFrom 17 (.iload_n 3) 1 18 := ⟨by decide +kernel, rfl⟩
theorem dX0_fallsFrom_18 : mD cX0_fallsFrom 18 (.bipush 6) 2 20 := ⟨by decide +kernel, rfl⟩
theorem dX0_fallsFrom_20 : mJ cX0_fallsFrom 20 (.if_icmp .ge) 23 94 := mJ.of (74) (by decide +kernel) rfl (by decide)
theorem dX0_fallsFrom_23 : mD cX0_fallsFrom 23 (.aload_n 0) 1 24 := ⟨by decide +kernel, rfl⟩
theorem dX0_fallsFrom_24 : mD cX0_fallsFrom 24 (.getfield 15) 3 27 := ⟨by decide +kernel, rfl⟩
theorem dX0_fallsFrom_27 : mD cX0_fallsFrom 27 (.aload_n 0) 1 28 := ⟨by decide +kernel, rfl⟩
theorem dX0_fallsFrom_28 : mD cX0_fallsFrom 28 (.getfield 19) 3 31 := ⟨by decide +kernel, rfl⟩
theorem dX0_fallsFrom_31 : mD cX0_fallsFrom 31 (.getfield 54) 3 34 := ⟨by decide +kernel, rfl⟩
theorem dX0_fallsFrom_34 : mD cX0_fallsFrom 34 (.iload_n 1) 1 35 := ⟨by decide +kernel, rfl⟩
theorem dX0_fallsFrom_35 : mD cX0_fallsFrom 35 (.bipush 6) 2 37 := ⟨by decide +kernel, rfl⟩
theorem dX0_fallsFrom_37 : mD cX0_fallsFrom 37 .imul 1 38 := ⟨by decide +kernel, rfl⟩
theorem dX0_fallsFrom_38 : mD cX0_fallsFrom 38 (.iload_n 3) 1 39 := ⟨by decide +kernel, rfl⟩
theorem dX0_fallsFrom_39 : mD cX0_fallsFrom 39 .iadd 1 40 := ⟨by decide +kernel, rfl⟩
theorem dX0_fallsFrom_40 : mD cX0_fallsFrom 40 .iaload 1 41 := ⟨by decide +kernel, rfl⟩
theorem dX0_fallsFrom_41 : mD cX0_fallsFrom 41 (.invokevirtual 35) 3 44 := ⟨by decide +kernel, rfl⟩
theorem dX0_fallsFrom_44 : mD cX0_fallsFrom 44 (.istore 4) 2 46 := ⟨by decide +kernel, rfl⟩
theorem dX0_fallsFrom_46 : mD cX0_fallsFrom 46 (.aload_n 0) 1 47 := ⟨by decide +kernel, rfl⟩
theorem dX0_fallsFrom_47 : mD cX0_fallsFrom 47 (.getfield 9) 3 50 := ⟨by decide +kernel, rfl⟩
theorem dX0_fallsFrom_50 : mD cX0_fallsFrom 50 (.iload 4) 2 52 := ⟨by decide +kernel, rfl⟩
theorem dX0_fallsFrom_52 : mD cX0_fallsFrom 52 .iaload 1 53 := ⟨by decide +kernel, rfl⟩
theorem dX0_fallsFrom_53 : mJ cX0_fallsFrom 53 (.ifCond .le) 56 88 := mJ.of (35) (by decide +kernel) rfl (by decide)
theorem dX0_fallsFrom_56 : mD cX0_fallsFrom 56 (.aload_n 0) 1 57 := ⟨by decide +kernel, rfl⟩
theorem dX0_fallsFrom_57 : mD cX0_fallsFrom 57 (.getfield 9) 3 60 := ⟨by decide +kernel, rfl⟩
theorem dX0_fallsFrom_60 : mD cX0_fallsFrom 60 (.iload 4) 2 62 := ⟨by decide +kernel, rfl⟩
theorem dX0_fallsFrom_62 : mD cX0_fallsFrom 62 .dup2 1 63 := ⟨by decide +kernel, rfl⟩
theorem dX0_fallsFrom_63 : mD cX0_fallsFrom 63 .iaload 1 64 := ⟨by decide +kernel, rfl⟩
theorem dX0_fallsFrom_64 : mD cX0_fallsFrom 64 (.iconst 1) 1 65 := ⟨by decide +kernel, rfl⟩
theorem dX0_fallsFrom_65 : mD cX0_fallsFrom 65 .isub 1 66 := ⟨by decide +kernel, rfl⟩
theorem dX0_fallsFrom_66 : mD cX0_fallsFrom 66 .iastore 1 67 := ⟨by decide +kernel, rfl⟩
theorem dX0_fallsFrom_67 : mD cX0_fallsFrom 67 (.iload_n 2) 1 68 := ⟨by decide +kernel, rfl⟩
theorem dX0_fallsFrom_68 : mD cX0_fallsFrom 68 (.aload_n 0) 1 69 := ⟨by decide +kernel, rfl⟩
theorem dX0_fallsFrom_69 : mD cX0_fallsFrom 69 (.iload_n 1) 1 70 := ⟨by decide +kernel, rfl⟩
theorem dX0_fallsFrom_70 : mD cX0_fallsFrom 70 (.iconst 1) 1 71 := ⟨by decide +kernel, rfl⟩
theorem dX0_fallsFrom_71 : mD cX0_fallsFrom 71 .iadd 1 72 := ⟨by decide +kernel, rfl⟩
theorem dX0_fallsFrom_72 : mD cX0_fallsFrom 72 (.invokevirtual 39) 3 75 := ⟨by decide +kernel, rfl⟩
theorem dX0_fallsFrom_75 : mD cX0_fallsFrom 75 .iadd 1 76 := ⟨by decide +kernel, rfl⟩
theorem dX0_fallsFrom_76 : mD cX0_fallsFrom 76 (.istore_n 2) 1 77 := ⟨by decide +kernel, rfl⟩
theorem dX0_fallsFrom_77 : mD cX0_fallsFrom 77 (.aload_n 0) 1 78 := ⟨by decide +kernel, rfl⟩
theorem dX0_fallsFrom_78 : mD cX0_fallsFrom 78 (.getfield 9) 3 81 := ⟨by decide +kernel, rfl⟩
theorem dX0_fallsFrom_81 : mD cX0_fallsFrom 81 (.iload 4) 2 83 := ⟨by decide +kernel, rfl⟩
theorem dX0_fallsFrom_83 : mD cX0_fallsFrom 83 .dup2 1 84 := ⟨by decide +kernel, rfl⟩
theorem dX0_fallsFrom_84 : mD cX0_fallsFrom 84 .iaload 1 85 := ⟨by decide +kernel, rfl⟩
theorem dX0_fallsFrom_85 : mD cX0_fallsFrom 85 (.iconst 1) 1 86 := ⟨by decide +kernel, rfl⟩
theorem dX0_fallsFrom_86 : mD cX0_fallsFrom 86 .iadd 1 87 := ⟨by decide +kernel, rfl⟩
theorem dX0_fallsFrom_87 : mD cX0_fallsFrom 87 .iastore 1 88 := ⟨by decide +kernel, rfl⟩
theorem dX0_fallsFrom_88 : mD cX0_fallsFrom 88 (.iinc 3 1) 3 91 := ⟨by decide +kernel, rfl⟩
theorem dX0_fallsFrom_91 : mJ cX0_fallsFrom 91 .goto 94 17 := mJ.of (-74) (by decide +kernel) rfl (by decide)
theorem dX0_fallsFrom_94 : mD cX0_fallsFrom 94 (.iload_n 2) 1 95 := ⟨by decide +kernel, rfl⟩
theorem dX0_fallsFrom_95 : mD cX0_fallsFrom 95 .ireturn 1 96 := ⟨by decide +kernel, rfl⟩
theorem dX0_reduce_0 : mD cX0_reduce 0 (.iconst 0) 1 1 := ⟨by decide +kernel, rfl⟩
theorem dX0_reduce_1 : mD cX0_reduce 1 (.istore_n 1) 1 2 := ⟨by decide +kernel, rfl⟩
theorem dX0_reduce_2 : mD cX0_reduce 2 (.iload_n 1) 1 3 := ⟨by decide +kernel, rfl⟩
theorem dX0_reduce_3 : mD cX0_reduce 3 (.aload_n 0) 1 4 := ⟨by decide +kernel, rfl⟩
theorem dX0_reduce_4 : mD cX0_reduce 4 (.getfield 15) 3 7 := ⟨by decide +kernel, rfl⟩
theorem dX0_reduce_7 : mD cX0_reduce 7 (.getfield 29) 3 10 := ⟨by decide +kernel, rfl⟩
theorem dX0_reduce_10 : mJ cX0_reduce 10 (.if_icmp .ge) 13 29 := mJ.of (19) (by decide +kernel) rfl (by decide)
theorem dX0_reduce_13 : mD cX0_reduce 13 (.aload_n 0) 1 14 := ⟨by decide +kernel, rfl⟩
theorem dX0_reduce_14 : mD cX0_reduce 14 (.iconst 2) 1 15 := ⟨by decide +kernel, rfl⟩
theorem dX0_reduce_15 : mD cX0_reduce 15 (.invokevirtual 59) 3 18 := ⟨by decide +kernel, rfl⟩
theorem dX0_reduce_18 : mD cX0_reduce 18 (.aload_n 0) 1 19 := ⟨by decide +kernel, rfl⟩
theorem dX0_reduce_19 : mD cX0_reduce 19 (.iconst 3) 1 20 := ⟨by decide +kernel, rfl⟩
theorem dX0_reduce_20 : mD cX0_reduce 20 (.invokevirtual 59) 3 23 := ⟨by decide +kernel, rfl⟩
theorem dX0_reduce_23 : mD cX0_reduce 23 (.iinc 1 1) 3 26 := ⟨by decide +kernel, rfl⟩
theorem dX0_reduce_26 : mJ cX0_reduce 26 .goto 29 2 := mJ.of (-24) (by decide +kernel) rfl (by decide)
theorem dX0_reduce_29 : mD cX0_reduce 29 .return_ 1 30 := ⟨by decide +kernel, rfl⟩
theorem dX0_reduceBy_0 : mD cX0_reduceBy 0 (.iload_n 1) 1 1 := ⟨by decide +kernel, rfl⟩
theorem dX0_reduceBy_1 : mJ cX0_reduceBy 1 (.ifCond .le) 4 42 := mJ.of (41) (by decide +kernel) rfl (by decide)
theorem dX0_reduceBy_4 : mD cX0_reduceBy 4 (.aload_n 0) 1 5 := ⟨by decide +kernel, rfl⟩
theorem dX0_reduceBy_5 : mD cX0_reduceBy 5 (.getfield 42) 3 8 := ⟨by decide +kernel, rfl⟩
theorem dX0_reduceBy_8 : mD cX0_reduceBy 8 (.iload_n 1) 1 9 := ⟨by decide +kernel, rfl⟩
theorem dX0_reduceBy_9 : mD cX0_reduceBy 9 .irem 1 10 := ⟨by decide +kernel, rfl⟩
theorem dX0_reduceBy_10 : mJ cX0_reduceBy 10 (.ifCond .ne) 13 42 := mJ.of (32) (by decide +kernel) rfl (by decide)
theorem dX0_reduceBy_13 : mD cX0_reduceBy 13 (.aload_n 0) 1 14 := ⟨by decide +kernel, rfl⟩
theorem dX0_reduceBy_14 : mD cX0_reduceBy 14 (.getfield 48) 3 17 := ⟨by decide +kernel, rfl⟩
theorem dX0_reduceBy_17 : mD cX0_reduceBy 17 (.iload_n 1) 1 18 := ⟨by decide +kernel, rfl⟩
theorem dX0_reduceBy_18 : mD cX0_reduceBy 18 .irem 1 19 := ⟨by decide +kernel, rfl⟩
theorem dX0_reduceBy_19 : mJ cX0_reduceBy 19 (.ifCond .ne) 22 42 := mJ.of (23) (by decide +kernel) rfl (by decide)
theorem dX0_reduceBy_22 : mD cX0_reduceBy 22 (.aload_n 0) 1 23 := ⟨by decide +kernel, rfl⟩
theorem dX0_reduceBy_23 : mD cX0_reduceBy 23 .dup 1 24 := ⟨by decide +kernel, rfl⟩
theorem dX0_reduceBy_24 : mD cX0_reduceBy 24 (.getfield 42) 3 27 := ⟨by decide +kernel, rfl⟩
theorem dX0_reduceBy_27 : mD cX0_reduceBy 27 (.iload_n 1) 1 28 := ⟨by decide +kernel, rfl⟩
theorem dX0_reduceBy_28 : mD cX0_reduceBy 28 .idiv 1 29 := ⟨by decide +kernel, rfl⟩
theorem dX0_reduceBy_29 : mD cX0_reduceBy 29 (.putfield 42) 3 32 := ⟨by decide +kernel, rfl⟩
theorem dX0_reduceBy_32 : mD cX0_reduceBy 32 (.aload_n 0) 1 33 := ⟨by decide +kernel, rfl⟩
theorem dX0_reduceBy_33 : mD cX0_reduceBy 33 .dup 1 34 := ⟨by decide +kernel, rfl⟩
theorem dX0_reduceBy_34 : mD cX0_reduceBy 34 (.getfield 48) 3 37 := ⟨by decide +kernel, rfl⟩
theorem dX0_reduceBy_37 : mD cX0_reduceBy 37 (.iload_n 1) 1 38 := ⟨by decide +kernel, rfl⟩
theorem dX0_reduceBy_38 : mD cX0_reduceBy 38 .idiv 1 39 := ⟨by decide +kernel, rfl⟩
theorem dX0_reduceBy_39 : mD cX0_reduceBy 39 (.putfield 48) 3 42 := ⟨by decide +kernel, rfl⟩
theorem dX0_reduceBy_42 : mD cX0_reduceBy 42 .return_ 1 43 := ⟨by decide +kernel, rfl⟩
theorem dX1_init_0 : mD cX1_init 0 (.aload_n 0) 1 1 := ⟨by decide +kernel, rfl⟩
theorem dX1_init_1 : mD cX1_init 1 (.invokespecial 3) 3 4 := ⟨by decide +kernel, rfl⟩
theorem dX1_init_4 : mD cX1_init 4 (.aload_n 0) 1 5 := ⟨by decide +kernel, rfl⟩
theorem dX1_init_5 : mD cX1_init 5 (.bipush 100) 2 7 := ⟨by decide +kernel, rfl⟩
theorem dX1_init_7 : mD cX1_init 7 (.newarray .int) 2 9 := ⟨by decide +kernel, rfl⟩
theorem dX1_init_9 : mD cX1_init 9 (.putfield 9) 3 12 := ⟨by decide +kernel, rfl⟩
theorem dX1_init_12 : mD cX1_init 12 .return_ 1 13 := ⟨by decide +kernel, rfl⟩
theorem dX1_append_0 : mD cX1_append 0 (.aload_n 0) 1 1 := ⟨by decide +kernel, rfl⟩
theorem dX1_append_1 : mD cX1_append 1 (.getfield 9) 3 4 := ⟨by decide +kernel, rfl⟩
theorem dX1_append_4 : mD cX1_append 4 (.aload_n 0) 1 5 := ⟨by decide +kernel, rfl⟩
theorem dX1_append_5 : mD cX1_append 5 (.getfield 15) 3 8 := ⟨by decide +kernel, rfl⟩
theorem dX1_append_8 : mD cX1_append 8 (.iload_n 1) 1 9 := ⟨by decide +kernel, rfl⟩
theorem dX1_append_9 : mD cX1_append 9 .iastore 1 10 := ⟨by decide +kernel, rfl⟩
theorem dX1_append_10 : mD cX1_append 10 (.aload_n 0) 1 11 := ⟨by decide +kernel, rfl⟩
theorem dX1_append_11 : mD cX1_append 11 .dup 1 12 := ⟨by decide +kernel, rfl⟩
theorem dX1_append_12 : mD cX1_append 12 (.getfield 15) 3 15 := ⟨by decide +kernel, rfl⟩
theorem dX1_append_15 : mD cX1_append 15 (.iconst 1) 1 16 := ⟨by decide +kernel, rfl⟩
theorem dX1_append_16 : mD cX1_append 16 .iadd 1 17 := ⟨by decide +kernel, rfl⟩
theorem dX1_append_17 : mD cX1_append 17 (.putfield 15) 3 20 := ⟨by decide +kernel, rfl⟩
theorem dX1_append_20 : mD cX1_append 20 .return_ 1 21 := ⟨by decide +kernel, rfl⟩
theorem dX1_read_0 : mD cX1_read 0 (.aload_n 1) 1 1 := ⟨by decide +kernel, rfl⟩
theorem dX1_read_1 : mD cX1_read 1 (.invokevirtual 19) 3 4 := ⟨by decide +kernel, rfl⟩
theorem dX1_read_4 : mD cX1_read 4 (.aload_n 0) 1 5 := ⟨by decide +kernel, rfl⟩
theorem dX1_read_5 : mD cX1_read 5 (.iconst 0) 1 6 := ⟨by decide +kernel, rfl⟩
theorem dX1_read_6 : mD cX1_read 6 (.putfield 24) 3 9 := ⟨by decide +kernel, rfl⟩
theorem dX1_read_9 : mD cX1_read 9 (.iconst 0) 1 10 := ⟨by decide +kernel, rfl⟩
theorem dX1_read_10 : mD cX1_read 10 (.istore_n 2) 1 11 := ⟨by decide +kernel, rfl⟩
theorem dX1_read_11 : mD cX1_read 11 (.iload_n 2) 1 12 := ⟨by decide +kernel, rfl⟩
theorem dX1_read_12 : mD cX1_read 12 (.aload_n 0) 1 13 := ⟨by decide +kernel, rfl⟩
theorem dX1_read_13 : mD cX1_read 13 (.getfield 15) 3 16 := ⟨by decide +kernel, rfl⟩
theorem dX1_read_16 : mJ cX1_read 16 (.if_icmp .gt) 19 61 := mJ.of (45) (by decide +kernel) rfl (by decide)
theorem dX1_read_19 : mD cX1_read 19 (.aload_n 0) 1 20 := ⟨by decide +kernel, rfl⟩
theorem dX1_read_20 : mD cX1_read 20 (.invokevirtual 27) 3 23 := ⟨by decide +kernel, rfl⟩
theorem dX1_read_23 : mD cX1_read 23 (.aload_n 0) 1 24 := ⟨by decide +kernel, rfl⟩
theorem dX1_read_24 : mD cX1_read 24 (.getfield 30) 3 27 := ⟨by decide +kernel, rfl⟩
theorem dX1_read_27 : mJ cX1_read 27 (.ifCond .ne) 30 32 := mJ.of (5) (by decide +kernel) rfl (by decide)
theorem dX1_read_30 : mD cX1_read 30 (.iconst (-1)) 1 31 := ⟨by decide +kernel, rfl⟩
theorem dX1_read_31 : mD cX1_read 31 .ireturn 1 32 := ⟨by decide +kernel, rfl⟩
theorem dX1_read_32 : mD cX1_read 32 (.aload_n 0) 1 33 := ⟨by decide +kernel, rfl⟩
theorem dX1_read_33 : mD cX1_read 33 (.aload_n 1) 1 34 := ⟨by decide +kernel, rfl⟩
theorem dX1_read_34 : mD cX1_read 34 (.invokevirtual 33) 3 37 := ⟨by decide +kernel, rfl⟩
theorem dX1_read_37 : mJ cX1_read 37 (.ifCond .ne) 40 45 := mJ.of (8) (by decide +kernel) rfl (by decide)
theorem dX1_read_40 : mD cX1_read 40 (.aload_n 0) 1 41 := ⟨by decide +kernel, rfl⟩
theorem dX1_read_41 : mD cX1_read 41 (.getfield 37) 3 44 := ⟨by decide +kernel, rfl⟩
theorem dX1_read_44 : mD cX1_read 44 .ireturn 1 45 := ⟨by decide +kernel, rfl⟩
theorem dX1_read_45 : mD cX1_read 45 (.aload_n 1) 1 46 := ⟨by decide +kernel, rfl⟩
theorem dX1_read_46 : mD cX1_read 46 .dup 1 47 := ⟨by decide +kernel, rfl⟩
theorem dX1_read_47 : mD cX1_read 47 (.getfield 40) 3 50 := ⟨by decide +kernel, rfl⟩
theorem dX1_read_50 : mD cX1_read 50 (.iconst 1) 1 51 := ⟨by decide +kernel, rfl⟩
theorem dX1_read_51 : mD cX1_read 51 .iadd 1 52 := ⟨by decide +kernel, rfl⟩
theorem dX1_read_52 : mD cX1_read 52 (.putfield 40) 3 55 := ⟨by decide +kernel, rfl⟩
theorem dX1_read_55 : mD cX1_read 55 (.iinc 2 1) 3 58 := ⟨by decide +kernel, rfl⟩
theorem dX1_read_58 : mJ cX1_read 58 .goto 61 11 := mJ.of (-47) (by decide +kernel) rfl (by decide)
theorem dX1_read_61 : mD cX1_read 61 (.iconst (-1)) 1 62 := ⟨by decide +kernel, rfl⟩
theorem dX1_read_62 : mD cX1_read 62 .ireturn 1 63 := ⟨by decide +kernel, rfl⟩
theorem dX1_readItem_0 : mD cX1_readItem 0 (.aload_n 0) 1 1 := ⟨by decide +kernel, rfl⟩
theorem dX1_readItem_1 : mD cX1_readItem 1 (.getfield 30) 3 4 := ⟨by decide +kernel, rfl⟩
theorem dX1_readItem_4 : mD cX1_readItem 4 (.iconst 1) 1 5 := ⟨by decide +kernel, rfl⟩
theorem dX1_readItem_5 : mJ cX1_readItem 5 (.if_icmp .eq) 8 10 := mJ.of (5) (by decide +kernel) rfl (by decide)
theorem dX1_readItem_8 : mD cX1_readItem 8 (.iconst 0) 1 9 := ⟨by decide +kernel, rfl⟩
theorem dX1_readItem_9 : mD cX1_readItem 9 .ireturn 1 10 := ⟨by decide +kernel, rfl⟩
theorem dX1_readItem_10 : mD cX1_readItem 10 (.aload_n 0) 1 11 := ⟨by decide +kernel, rfl⟩
theorem dX1_readItem_11 : mD cX1_readItem 11 (.getfield 43) 3 14 := ⟨by decide +kernel, rfl⟩
theorem dX1_readItem_14 : decode cX1_readItem 14 = .ok (.tableswitch 53 98 100 #[26, 35, 44], 26) := by decide +kernel
theorem dX1_readItem_40 : mD cX1_readItem 40 (.aload_n 0) 1 41 := ⟨by decide +kernel, rfl⟩
theorem dX1_readItem_41 : mD cX1_readItem 41 (.aload_n 1) 1 42 := ⟨by decide +kernel, rfl⟩
theorem dX1_readItem_42 : mD cX1_readItem 42 (.invokevirtual 46) 3 45 := ⟨by decide +kernel, rfl⟩
theorem dX1_readItem_45 : mD cX1_readItem 45 (.istore_n 2) 1 46 := ⟨by decide +kernel, rfl⟩
theorem dX1_readItem_46 : mJ cX1_readItem 46 .goto 49 69 := mJ.of (23) (by decide +kernel) rfl (by decide)
theorem dX1_readItem_49 : mD cX1_readItem 49 (.aload_n 0) 1 50 := ⟨by decide +kernel, rfl⟩
theorem dX1_readItem_50 : mD cX1_readItem 50 (.aload_n 1) 1 51 := ⟨by decide +kernel, rfl⟩
theorem dX1_readItem_51 : mD cX1_readItem 51 (.invokevirtual 49) 3 54 := ⟨by decide +kernel, rfl⟩
theorem dX1_readItem_54 : mD cX1_readItem 54 (.istore_n 2) 1 55 := ⟨by decide +kernel, rfl⟩
theorem dX1_readItem_55 : mJ cX1_readItem 55 .goto 58 69 := mJ.of (14) (by decide +kernel) rfl (by decide)
theorem dX1_readItem_58 : mD cX1_readItem 58 (.aload_n 0) 1 59 := ⟨by decide +kernel, rfl⟩
theorem dX1_readItem_59 : mD cX1_readItem 59 (.aload_n 1) 1 60 := ⟨by decide +kernel, rfl⟩
theorem dX1_readItem_60 : mD cX1_readItem 60 (.invokevirtual 52) 3 63 := ⟨by decide +kernel, rfl⟩
theorem dX1_readItem_63 : mD cX1_readItem 63 (.istore_n 2) 1 64 := ⟨by decide +kernel, rfl⟩
theorem dX1_readItem_64 : mJ cX1_readItem 64 .goto 67 69 := mJ.of (5) (by decide +kernel) rfl (by decide)
theorem dX1_readItem_67 : mD cX1_readItem 67 (.iconst 0) 1 68 := ⟨by decide +kernel, rfl⟩
theorem dX1_readItem_68 : mD cX1_readItem 68 (.istore_n 2) 1 69 := ⟨by decide +kernel, rfl⟩
theorem dX1_readItem_69 : mD cX1_readItem 69 (.iload_n 2) 1 70 := ⟨by decide +kernel, rfl⟩
theorem dX1_readItem_70 : mJ cX1_readItem 70 (.ifCond .ne) 73 75 := mJ.of (5) (by decide +kernel) rfl (by decide)
theorem dX1_readItem_73 : mD cX1_readItem 73 (.iconst 0) 1 74 := ⟨by decide +kernel, rfl⟩
theorem dX1_readItem_74 : mD cX1_readItem 74 .ireturn 1 75 := ⟨by decide +kernel, rfl⟩
theorem dX1_readItem_75 : mD cX1_readItem 75 (.aload_n 0) 1 76 := ⟨by decide +kernel, rfl⟩
theorem dX1_readItem_76 : mD cX1_readItem 76 (.invokevirtual 27) 3 79 := ⟨by decide +kernel, rfl⟩
theorem dX1_readItem_79 : mD cX1_readItem 79 (.aload_n 0) 1 80 := ⟨by decide +kernel, rfl⟩
theorem dX1_readItem_80 : mD cX1_readItem 80 (.getfield 30) 3 83 := ⟨by decide +kernel, rfl⟩
theorem dX1_readItem_83 : mD cX1_readItem 83 (.iconst 3) 1 84 := ⟨by decide +kernel, rfl⟩
theorem dX1_readItem_84 : mJ cX1_readItem 84 (.if_icmp .ne) 87 91 := mJ.of (7) (by decide +kernel) rfl (by decide)
theorem dX1_readItem_87 : mD cX1_readItem 87 (.iconst 1) 1 88 := ⟨by decide +kernel, rfl⟩
theorem dX1_readItem_88 : mJ cX1_readItem 88 .goto 91 92 := mJ.of (4) (by decide +kernel) rfl (by decide)
theorem dX1_readItem_91 : mD cX1_readItem 91 (.iconst 0) 1 92 := ⟨by decide +kernel, rfl⟩
theorem dX1_readItem_92 : mD cX1_readItem 92 .ireturn 1 93 := ⟨by decide +kernel, rfl⟩
theorem dX1_readBoth_0 : mD cX1_readBoth 0 (.aload_n 1) 1 1 := ⟨by decide +kernel, rfl⟩
theorem dX1_readBoth_1 : mD cX1_readBoth 1 (.getfield 55) 3 4 := ⟨by decide +kernel, rfl⟩
theorem dX1_readBoth_4 : mJ cX1_readBoth 4 (.ifCond .eq) 7 9 := mJ.of (5) (by decide +kernel) rfl (by decide)
theorem dX1_readBoth_7 : mD cX1_readBoth 7 (.iconst 0) 1 8 := ⟨by decide +kernel, rfl⟩
theorem dX1_readBoth_8 : mD cX1_readBoth 8 .ireturn 1 9 := ⟨by decide +kernel, rfl⟩
theorem dX1_readBoth_9 : mD cX1_readBoth 9 (.aload_n 1) 1 10 := ⟨by decide +kernel, rfl⟩
theorem dX1_readBoth_10 : mD cX1_readBoth 10 (.iconst 1) 1 11 := ⟨by decide +kernel, rfl⟩
theorem dX1_readBoth_11 : mD cX1_readBoth 11 (.putfield 55) 3 14 := ⟨by decide +kernel, rfl⟩
theorem dX1_readBoth_14 : mD cX1_readBoth 14 (.iconst 1) 1 15 := ⟨by decide +kernel, rfl⟩
theorem dX1_readBoth_15 : mD cX1_readBoth 15 .ireturn 1 16 := ⟨by decide +kernel, rfl⟩
theorem dX1_readCube_0 : mD cX1_readCube 0 (.aload_n 1) 1 1 := ⟨by decide +kernel, rfl⟩
theorem dX1_readCube_1 : mD cX1_readCube 1 (.getfield 59) 3 4 := ⟨by decide +kernel, rfl⟩
theorem dX1_readCube_4 : mD cX1_readCube 4 (.iconst 4) 1 5 := ⟨by decide +kernel, rfl⟩
theorem dX1_readCube_5 : mJ cX1_readCube 5 (.if_icmp .lt) 8 10 := mJ.of (5) (by decide +kernel) rfl (by decide)
theorem dX1_readCube_8 : mD cX1_readCube 8 (.iconst 0) 1 9 := ⟨by decide +kernel, rfl⟩
theorem dX1_readCube_9 : mD cX1_readCube 9 .ireturn 1 10 := ⟨by decide +kernel, rfl⟩
theorem dX1_readCube_10 : mD cX1_readCube 10 (.iconst 0) 1 11 := ⟨by decide +kernel, rfl⟩
theorem dX1_readCube_11 : mD cX1_readCube 11 (.istore_n 2) 1 12 := ⟨by decide +kernel, rfl⟩
theorem dX1_readCube_12 : mD cX1_readCube 12 (.iload_n 2) 1 13 := ⟨by decide +kernel, rfl⟩
theorem dX1_readCube_13 : mD cX1_readCube 13 (.bipush 6) 2 15 := ⟨by decide +kernel, rfl⟩
theorem dX1_readCube_15 : mJ cX1_readCube 15 (.if_icmp .ge) 18 57 := mJ.of (42) (by decide +kernel) rfl (by decide)
theorem dX1_readCube_18 : mD cX1_readCube 18 (.aload_n 0) 1 19 := ⟨by decide +kernel, rfl⟩
theorem dX1_readCube_19 : mD cX1_readCube 19 (.invokevirtual 27) 3 22 := ⟨by decide +kernel, rfl⟩
theorem dX1_readCube_22 : mD cX1_readCube 22 (.aload_n 0) 1 23 := ⟨by decide +kernel, rfl⟩
theorem dX1_readCube_23 : mD cX1_readCube 23 (.bipush 10) 2 25 := ⟨by decide +kernel, rfl⟩
theorem dX1_readCube_25 : mD cX1_readCube 25 (.invokevirtual 62) 3 28 := ⟨by decide +kernel, rfl⟩
theorem dX1_readCube_28 : mJ cX1_readCube 28 (.ifCond .ne) 31 33 := mJ.of (5) (by decide +kernel) rfl (by decide)
theorem dX1_readCube_31 : mD cX1_readCube 31 (.iconst 0) 1 32 := ⟨by decide +kernel, rfl⟩
theorem dX1_readCube_32 : mD cX1_readCube 32 .ireturn 1 33 := ⟨by decide +kernel, rfl⟩
theorem dX1_readCube_33 : mD cX1_readCube 33 (.aload_n 1) 1 34 := ⟨by decide +kernel, rfl⟩
theorem dX1_readCube_34 : mD cX1_readCube 34 (.getfield 66) 3 37 := ⟨by decide +kernel, rfl⟩
theorem dX1_readCube_37 : mD cX1_readCube 37 (.aload_n 1) 1 38 := ⟨by decide +kernel, rfl⟩
theorem dX1_readCube_38 : mD cX1_readCube 38 (.getfield 59) 3 41 := ⟨by decide +kernel, rfl⟩
theorem dX1_readCube_41 : mD cX1_readCube 41 (.bipush 6) 2 43 := ⟨by decide +kernel, rfl⟩
theorem dX1_readCube_43 : mD cX1_readCube 43 .imul 1 44 := ⟨by decide +kernel, rfl⟩
theorem dX1_readCube_44 : mD cX1_readCube 44 (.iload_n 2) 1 45 := ⟨by decide +kernel, rfl⟩
theorem dX1_readCube_45 : mD cX1_readCube 45 .iadd 1 46 := ⟨by decide +kernel, rfl⟩
theorem dX1_readCube_46 : mD cX1_readCube 46 (.aload_n 0) 1 47 := ⟨by decide +kernel, rfl⟩
theorem dX1_readCube_47 : mD cX1_readCube 47 (.getfield 43) 3 50 := ⟨by decide +kernel, rfl⟩
theorem dX1_readCube_50 : mD cX1_readCube 50 .iastore 1 51 := ⟨by decide +kernel, rfl⟩
theorem dX1_readCube_51 : mD cX1_readCube 51 (.iinc 2 1) 3 54 := ⟨by decide +kernel, rfl⟩
theorem dX1_readCube_54 : mJ cX1_readCube 54 .goto 57 12 := mJ.of (-42) (by decide +kernel) rfl (by decide)
theorem dX1_readCube_57 : mD cX1_readCube 57 (.aload_n 1) 1 58 := ⟨by decide +kernel, rfl⟩
theorem dX1_readCube_58 : mD cX1_readCube 58 .dup 1 59 := ⟨by decide +kernel, rfl⟩
theorem dX1_readCube_59 : mD cX1_readCube 59 (.getfield 59) 3 62 := ⟨by decide +kernel, rfl⟩
theorem dX1_readCube_62 : mD cX1_readCube 62 (.iconst 1) 1 63 := ⟨by decide +kernel, rfl⟩
theorem dX1_readCube_63 : mD cX1_readCube 63 .iadd 1 64 := ⟨by decide +kernel, rfl⟩
theorem dX1_readCube_64 : mD cX1_readCube 64 (.putfield 59) 3 67 := ⟨by decide +kernel, rfl⟩
theorem dX1_readCube_67 : mD cX1_readCube 67 (.iconst 1) 1 68 := ⟨by decide +kernel, rfl⟩
theorem dX1_readCube_68 : mD cX1_readCube 68 .ireturn 1 69 := ⟨by decide +kernel, rfl⟩
theorem dX1_readDay_0 : mD cX1_readDay 0 (.aload_n 1) 1 1 := ⟨by decide +kernel, rfl⟩
theorem dX1_readDay_1 : mD cX1_readDay 1 (.getfield 69) 3 4 := ⟨by decide +kernel, rfl⟩
theorem dX1_readDay_4 : mD cX1_readDay 4 (.bipush 6) 2 6 := ⟨by decide +kernel, rfl⟩
theorem dX1_readDay_6 : mJ cX1_readDay 6 (.if_icmp .lt) 9 11 := mJ.of (5) (by decide +kernel) rfl (by decide)
theorem dX1_readDay_9 : mD cX1_readDay 9 (.iconst 0) 1 10 := ⟨by decide +kernel, rfl⟩
theorem dX1_readDay_10 : mD cX1_readDay 10 .ireturn 1 11 := ⟨by decide +kernel, rfl⟩
theorem dX1_readDay_11 : mD cX1_readDay 11 (.aload_n 0) 1 12 := ⟨by decide +kernel, rfl⟩
theorem dX1_readDay_12 : mD cX1_readDay 12 (.invokevirtual 27) 3 15 := ⟨by decide +kernel, rfl⟩
theorem dX1_readDay_15 : mD cX1_readDay 15 (.aload_n 0) 1 16 := ⟨by decide +kernel, rfl⟩
theorem dX1_readDay_16 : mD cX1_readDay 16 (.aload_n 1) 1 17 := ⟨by decide +kernel, rfl⟩
theorem dX1_readDay_17 : mD cX1_readDay 17 (.invokevirtual 72) 3 20 := ⟨by decide +kernel, rfl⟩
theorem dX1_readDay_20 : mD cX1_readDay 20 (.invokevirtual 62) 3 23 := ⟨by decide +kernel, rfl⟩
theorem dX1_readDay_23 : mJ cX1_readDay 23 (.ifCond .ne) 26 28 := mJ.of (5) (by decide +kernel) rfl (by decide)
theorem dX1_readDay_26 : mD cX1_readDay 26 (.iconst 0) 1 27 := ⟨by decide +kernel, rfl⟩
theorem dX1_readDay_27 : mD cX1_readDay 27 .ireturn 1 28 := ⟨by decide +kernel, rfl⟩
theorem dX1_readDay_28 : mD cX1_readDay 28 (.aload_n 1) 1 29 := ⟨by decide +kernel, rfl⟩
theorem dX1_readDay_29 : mD cX1_readDay 29 (.getfield 76) 3 32 := ⟨by decide +kernel, rfl⟩
theorem dX1_readDay_32 : mD cX1_readDay 32 (.aload_n 1) 1 33 := ⟨by decide +kernel, rfl⟩
theorem dX1_readDay_33 : mD cX1_readDay 33 (.getfield 69) 3 36 := ⟨by decide +kernel, rfl⟩
theorem dX1_readDay_36 : mD cX1_readDay 36 (.aload_n 0) 1 37 := ⟨by decide +kernel, rfl⟩
theorem dX1_readDay_37 : mD cX1_readDay 37 (.getfield 43) 3 40 := ⟨by decide +kernel, rfl⟩
theorem dX1_readDay_40 : mD cX1_readDay 40 .iastore 1 41 := ⟨by decide +kernel, rfl⟩
theorem dX1_readDay_41 : mD cX1_readDay 41 (.aload_n 1) 1 42 := ⟨by decide +kernel, rfl⟩
theorem dX1_readDay_42 : mD cX1_readDay 42 .dup 1 43 := ⟨by decide +kernel, rfl⟩
theorem dX1_readDay_43 : mD cX1_readDay 43 (.getfield 69) 3 46 := ⟨by decide +kernel, rfl⟩
theorem dX1_readDay_46 : mD cX1_readDay 46 (.iconst 1) 1 47 := ⟨by decide +kernel, rfl⟩
theorem dX1_readDay_47 : mD cX1_readDay 47 .iadd 1 48 := ⟨by decide +kernel, rfl⟩
theorem dX1_readDay_48 : mD cX1_readDay 48 (.putfield 69) 3 51 := ⟨by decide +kernel, rfl⟩
theorem dX1_readDay_51 : mD cX1_readDay 51 (.iconst 1) 1 52 := ⟨by decide +kernel, rfl⟩
theorem dX1_readDay_52 : mD cX1_readDay 52 .ireturn 1 53 := ⟨by decide +kernel, rfl⟩
theorem dX1_isNumberBelow_0 : mD cX1_isNumberBelow 0 (.aload_n 0) 1 1 := ⟨by decide +kernel, rfl⟩
theorem dX1_isNumberBelow_1 : mD cX1_isNumberBelow 1 (.getfield 30) 3 4 := ⟨by decide +kernel, rfl⟩
theorem dX1_isNumberBelow_4 : mD cX1_isNumberBelow 4 (.iconst 2) 1 5 := ⟨by decide +kernel, rfl⟩
theorem dX1_isNumberBelow_5 : mJ cX1_isNumberBelow 5 (.if_icmp .ne) 8 20 := mJ.of (15) (by decide +kernel) rfl (by decide)
theorem dX1_isNumberBelow_8 : mD cX1_isNumberBelow 8 (.aload_n 0) 1 9 := ⟨by decide +kernel, rfl⟩
theorem dX1_isNumberBelow_9 : mD cX1_isNumberBelow 9 (.getfield 43) 3 12 := ⟨by decide +kernel, rfl⟩
theorem dX1_isNumberBelow_12 : mD cX1_isNumberBelow 12 (.iload_n 1) 1 13 := ⟨by decide +kernel, rfl⟩
theorem dX1_isNumberBelow_13 : mJ cX1_isNumberBelow 13 (.if_icmp .ge) 16 20 := mJ.of (7) (by decide +kernel) rfl (by decide)
theorem dX1_isNumberBelow_16 : mD cX1_isNumberBelow 16 (.iconst 1) 1 17 := ⟨by decide +kernel, rfl⟩
theorem dX1_isNumberBelow_17 : mJ cX1_isNumberBelow 17 .goto 20 21 := mJ.of (4) (by decide +kernel) rfl (by decide)
theorem dX1_isNumberBelow_20 : mD cX1_isNumberBelow 20 (.iconst 0) 1 21 := ⟨by decide +kernel, rfl⟩
theorem dX1_isNumberBelow_21 : mD cX1_isNumberBelow 21 .ireturn 1 22 := ⟨by decide +kernel, rfl⟩
theorem dX1_nextToken_0 : mD cX1_nextToken 0 (.aload_n 0) 1 1 := ⟨by decide +kernel, rfl⟩
theorem dX1_nextToken_1 : mD cX1_nextToken 1 (.getfield 24) 3 4 := ⟨by decide +kernel, rfl⟩
theorem dX1_nextToken_4 : mD cX1_nextToken 4 (.aload_n 0) 1 5 := ⟨by decide +kernel, rfl⟩
theorem dX1_nextToken_5 : mD cX1_nextToken 5 (.getfield 15) 3 8 := ⟨by decide +kernel, rfl⟩
theorem dX1_nextToken_8 : mJ cX1_nextToken 8 (.if_icmp .ge) 11 38 := mJ.of (30) (by decide +kernel) rfl (by decide)
theorem dX1_nextToken_11 : mD cX1_nextToken 11 (.aload_n 0) 1 12 := ⟨by decide +kernel, rfl⟩
theorem dX1_nextToken_12 : mD cX1_nextToken 12 (.getfield 9) 3 15 := ⟨by decide +kernel, rfl⟩
theorem dX1_nextToken_15 : mD cX1_nextToken 15 (.aload_n 0) 1 16 := ⟨by decide +kernel, rfl⟩
theorem dX1_nextToken_16 : mD cX1_nextToken 16 (.getfield 24) 3 19 := ⟨by decide +kernel, rfl⟩
theorem dX1_nextToken_19 : mD cX1_nextToken 19 .iaload 1 20 := ⟨by decide +kernel, rfl⟩
theorem dX1_nextToken_20 : mD cX1_nextToken 20 (.bipush 32) 2 22 := ⟨by decide +kernel, rfl⟩
theorem dX1_nextToken_22 : mJ cX1_nextToken 22 (.if_icmp .ne) 25 38 := mJ.of (16) (by decide +kernel) rfl (by decide)
theorem dX1_nextToken_25 : mD cX1_nextToken 25 (.aload_n 0) 1 26 := ⟨by decide +kernel, rfl⟩
theorem dX1_nextToken_26 : mD cX1_nextToken 26 .dup 1 27 := ⟨by decide +kernel, rfl⟩
theorem dX1_nextToken_27 : mD cX1_nextToken 27 (.getfield 24) 3 30 := ⟨by decide +kernel, rfl⟩
theorem dX1_nextToken_30 : mD cX1_nextToken 30 (.iconst 1) 1 31 := ⟨by decide +kernel, rfl⟩
theorem dX1_nextToken_31 : mD cX1_nextToken 31 .iadd 1 32 := ⟨by decide +kernel, rfl⟩
theorem dX1_nextToken_32 : mD cX1_nextToken 32 (.putfield 24) 3 35 := ⟨by decide +kernel, rfl⟩
theorem dX1_nextToken_35 : mJ cX1_nextToken 35 .goto 38 0 := mJ.of (-35) (by decide +kernel) rfl (by decide)
theorem dX1_nextToken_38 : mD cX1_nextToken 38 (.aload_n 0) 1 39 := ⟨by decide +kernel, rfl⟩
theorem dX1_nextToken_39 : mD cX1_nextToken 39 (.aload_n 0) 1 40 := ⟨by decide +kernel, rfl⟩
theorem dX1_nextToken_40 : mD cX1_nextToken 40 (.getfield 24) 3 43 := ⟨by decide +kernel, rfl⟩
theorem dX1_nextToken_43 : mD cX1_nextToken 43 (.putfield 37) 3 46 := ⟨by decide +kernel, rfl⟩
theorem dX1_nextToken_46 : mD cX1_nextToken 46 (.aload_n 0) 1 47 := ⟨by decide +kernel, rfl⟩
theorem dX1_nextToken_47 : mD cX1_nextToken 47 (.getfield 24) 3 50 := ⟨by decide +kernel, rfl⟩
theorem dX1_nextToken_50 : mD cX1_nextToken 50 (.aload_n 0) 1 51 := ⟨by decide +kernel, rfl⟩
theorem dX1_nextToken_51 : mD cX1_nextToken 51 (.getfield 15) 3 54 := ⟨by decide +kernel, rfl⟩
theorem dX1_nextToken_54 : mJ cX1_nextToken 54 (.if_icmp .lt) 57 65 := mJ.of (11) (by decide +kernel) rfl (by decide)
theorem dX1_nextToken_57 : mD cX1_nextToken 57 (.aload_n 0) 1 58 := ⟨by decide +kernel, rfl⟩
theorem dX1_nextToken_58 : mD cX1_nextToken 58 (.iconst 0) 1 59 := ⟨by decide +kernel, rfl⟩
theorem dX1_nextToken_59 : mD cX1_nextToken 59 (.putfield 30) 3 62 := ⟨by decide +kernel, rfl⟩
theorem dX1_nextToken_62 : mJ cX1_nextToken 62 .goto 65 142 := mJ.of (80) (by decide +kernel) rfl (by decide)
theorem dX1_nextToken_65 : mD cX1_nextToken 65 (.aload_n 0) 1 66 := ⟨by decide +kernel, rfl⟩
theorem dX1_nextToken_66 : mD cX1_nextToken 66 (.getfield 9) 3 69 := ⟨by decide +kernel, rfl⟩
theorem dX1_nextToken_69 : mD cX1_nextToken 69 (.aload_n 0) 1 70 := ⟨by decide +kernel, rfl⟩
theorem dX1_nextToken_70 : mD cX1_nextToken 70 (.getfield 24) 3 73 := ⟨by decide +kernel, rfl⟩
theorem dX1_nextToken_73 : mD cX1_nextToken 73 .iaload 1 74 := ⟨by decide +kernel, rfl⟩
theorem dX1_nextToken_74 : mD cX1_nextToken 74 (.invokestatic 79) 3 77 := ⟨by decide +kernel, rfl⟩
theorem dX1_nextToken_77 : mJ cX1_nextToken 77 (.ifCond .eq) 80 87 := mJ.of (10) (by decide +kernel) rfl (by decide)
theorem dX1_nextToken_80 : mD cX1_nextToken 80 (.aload_n 0) 1 81 := ⟨by decide +kernel, rfl⟩
theorem dX1_nextToken_81 : mD cX1_nextToken 81 (.invokevirtual 82) 3 84 := ⟨by decide +kernel, rfl⟩
theorem dX1_nextToken_84 : mJ cX1_nextToken 84 .goto 87 142 := mJ.of (58) (by decide +kernel) rfl (by decide)
theorem dX1_nextToken_87 : mD cX1_nextToken 87 (.aload_n 0) 1 88 := ⟨by decide +kernel, rfl⟩
theorem dX1_nextToken_88 : mD cX1_nextToken 88 (.getfield 9) 3 91 := ⟨by decide +kernel, rfl⟩
theorem dX1_nextToken_91 : mD cX1_nextToken 91 (.aload_n 0) 1 92 := ⟨by decide +kernel, rfl⟩
theorem dX1_nextToken_92 : mD cX1_nextToken 92 (.getfield 24) 3 95 := ⟨by decide +kernel, rfl⟩
theorem dX1_nextToken_95 : mD cX1_nextToken 95 .iaload 1 96 := ⟨by decide +kernel, rfl⟩
theorem dX1_nextToken_96 : mD cX1_nextToken 96 (.invokestatic 85) 3 99 := ⟨by decide +kernel, rfl⟩
theorem dX1_nextToken_99 : mJ cX1_nextToken 99 (.ifCond .eq) 102 109 := mJ.of (10) (by decide +kernel) rfl (by decide)
theorem dX1_nextToken_102 : mD cX1_nextToken 102 (.aload_n 0) 1 103 := ⟨by decide +kernel, rfl⟩
theorem dX1_nextToken_103 : mD cX1_nextToken 103 (.invokevirtual 88) 3 106 := ⟨by decide +kernel, rfl⟩
theorem dX1_nextToken_106 : mJ cX1_nextToken 106 .goto 109 142 := mJ.of (36) (by decide +kernel) rfl (by decide)
theorem dX1_nextToken_109 : mD cX1_nextToken 109 (.aload_n 0) 1 110 := ⟨by decide +kernel, rfl⟩
theorem dX1_nextToken_110 : mD cX1_nextToken 110 (.aload_n 0) 1 111 := ⟨by decide +kernel, rfl⟩
theorem dX1_nextToken_111 : mD cX1_nextToken 111 (.getfield 9) 3 114 := ⟨by decide +kernel, rfl⟩
theorem dX1_nextToken_114 : mD cX1_nextToken 114 (.aload_n 0) 1 115 := ⟨by decide +kernel, rfl⟩
theorem dX1_nextToken_115 : mD cX1_nextToken 115 (.getfield 24) 3 118 := ⟨by decide +kernel, rfl⟩
theorem dX1_nextToken_118 : mD cX1_nextToken 118 .iaload 1 119 := ⟨by decide +kernel, rfl⟩
theorem dX1_nextToken_119 : mD cX1_nextToken 119 (.bipush 59) 2 121 := ⟨by decide +kernel, rfl⟩
theorem dX1_nextToken_121 : mJ cX1_nextToken 121 (.if_icmp .ne) 124 128 := mJ.of (7) (by decide +kernel) rfl (by decide)
theorem dX1_nextToken_124 : mD cX1_nextToken 124 (.iconst 3) 1 125 := ⟨by decide +kernel, rfl⟩
theorem dX1_nextToken_125 : mJ cX1_nextToken 125 .goto 128 129 := mJ.of (4) (by decide +kernel) rfl (by decide)
theorem dX1_nextToken_128 : mD cX1_nextToken 128 (.iconst 4) 1 129 := ⟨by decide +kernel, rfl⟩
theorem dX1_nextToken_129 : mD cX1_nextToken 129 (.putfield 30) 3 132 := ⟨by decide +kernel, rfl⟩
theorem dX1_nextToken_132 : mD cX1_nextToken 132 (.aload_n 0) 1 133 := ⟨by decide +kernel, rfl⟩
theorem dX1_nextToken_133 : mD cX1_nextToken 133 .dup 1 134 := ⟨by decide +kernel, rfl⟩
theorem dX1_nextToken_134 : mD cX1_nextToken 134 (.getfield 24) 3 137 := ⟨by decide +kernel, rfl⟩
theorem dX1_nextToken_137 : mD cX1_nextToken 137 (.iconst 1) 1 138 := ⟨by decide +kernel, rfl⟩
theorem dX1_nextToken_138 : mD cX1_nextToken 138 .iadd 1 139 := ⟨by decide +kernel, rfl⟩
theorem dX1_nextToken_139 : mD cX1_nextToken 139 (.putfield 24) 3 142 := ⟨by decide +kernel, rfl⟩
theorem dX1_nextToken_142 : mD cX1_nextToken 142 .return_ 1 143 := ⟨by decide +kernel, rfl⟩
theorem dX1_takeLetters_0 : mD cX1_takeLetters 0 (.aload_n 0) 1 1 := ⟨by decide +kernel, rfl⟩
theorem dX1_takeLetters_1 : mD cX1_takeLetters 1 (.iconst 1) 1 2 := ⟨by decide +kernel, rfl⟩
theorem dX1_takeLetters_2 : mD cX1_takeLetters 2 (.putfield 30) 3 5 := ⟨by decide +kernel, rfl⟩
theorem dX1_takeLetters_5 : mD cX1_takeLetters 5 (.aload_n 0) 1 6 := ⟨by decide +kernel, rfl⟩
theorem dX1_takeLetters_6 : mD cX1_takeLetters 6 (.aload_n 0) 1 7 := ⟨by decide +kernel, rfl⟩
theorem dX1_takeLetters_7 : mD cX1_takeLetters 7 (.getfield 9) 3 10 := ⟨by decide +kernel, rfl⟩
theorem dX1_takeLetters_10 : mD cX1_takeLetters 10 (.aload_n 0) 1 11 := ⟨by decide +kernel, rfl⟩
theorem dX1_takeLetters_11 : mD cX1_takeLetters 11 (.getfield 24) 3 14 := ⟨by decide +kernel, rfl⟩
theorem dX1_takeLetters_14 : mD cX1_takeLetters 14 .iaload 1 15 := ⟨by decide +kernel, rfl⟩
theorem dX1_takeLetters_15 : mD cX1_takeLetters 15 (.putfield 43) 3 18 := ⟨by decide +kernel, rfl⟩
theorem dX1_takeLetters_18 : mD cX1_takeLetters 18 (.aload_n 0) 1 19 := ⟨by decide +kernel, rfl⟩
theorem dX1_takeLetters_19 : mD cX1_takeLetters 19 .dup 1 20 := ⟨by decide +kernel, rfl⟩
theorem dX1_takeLetters_20 : mD cX1_takeLetters 20 (.getfield 24) 3 23 := ⟨by decide +kernel, rfl⟩
theorem dX1_takeLetters_23 : mD cX1_takeLetters 23 (.iconst 1) 1 24 := ⟨by decide +kernel, rfl⟩
theorem dX1_takeLetters_24 : mD cX1_takeLetters 24 .iadd 1 25 := ⟨by decide +kernel, rfl⟩
theorem dX1_takeLetters_25 : mD cX1_takeLetters 25 (.putfield 24) 3 28 := ⟨by decide +kernel, rfl⟩
theorem dX1_takeLetters_28 : mD cX1_takeLetters 28 (.aload_n 0) 1 29 := ⟨by decide +kernel, rfl⟩
theorem dX1_takeLetters_29 : mD cX1_takeLetters 29 (.getfield 24) 3 32 := ⟨by decide +kernel, rfl⟩
theorem dX1_takeLetters_32 : mD cX1_takeLetters 32 (.aload_n 0) 1 33 := ⟨by decide +kernel, rfl⟩
theorem dX1_takeLetters_33 : mD cX1_takeLetters 33 (.getfield 15) 3 36 := ⟨by decide +kernel, rfl⟩
theorem dX1_takeLetters_36 : mJ cX1_takeLetters 36 (.if_icmp .ge) 39 72 := mJ.of (36) (by decide +kernel) rfl (by decide)
theorem dX1_takeLetters_39 : mD cX1_takeLetters 39 (.aload_n 0) 1 40 := ⟨by decide +kernel, rfl⟩
theorem dX1_takeLetters_40 : mD cX1_takeLetters 40 (.getfield 9) 3 43 := ⟨by decide +kernel, rfl⟩
theorem dX1_takeLetters_43 : mD cX1_takeLetters 43 (.aload_n 0) 1 44 := ⟨by decide +kernel, rfl⟩
theorem dX1_takeLetters_44 : mD cX1_takeLetters 44 (.getfield 24) 3 47 := ⟨by decide +kernel, rfl⟩
theorem dX1_takeLetters_47 : mD cX1_takeLetters 47 .iaload 1 48 := ⟨by decide +kernel, rfl⟩
theorem dX1_takeLetters_48 : mD cX1_takeLetters 48 (.invokestatic 79) 3 51 := ⟨by decide +kernel, rfl⟩
theorem dX1_takeLetters_51 : mJ cX1_takeLetters 51 (.ifCond .eq) 54 72 := mJ.of (21) (by decide +kernel) rfl (by decide)
theorem dX1_takeLetters_54 : mD cX1_takeLetters 54 (.aload_n 0) 1 55 := ⟨by decide +kernel, rfl⟩
theorem dX1_takeLetters_55 : mD cX1_takeLetters 55 (.iconst 0) 1 56 := ⟨by decide +kernel, rfl⟩
theorem dX1_takeLetters_56 : mD cX1_takeLetters 56 (.putfield 43) 3 59 := ⟨by decide +kernel, rfl⟩
theorem dX1_takeLetters_59 : mD cX1_takeLetters 59 (.aload_n 0) 1 60 := ⟨by decide +kernel, rfl⟩
theorem dX1_takeLetters_60 : mD cX1_takeLetters 60 .dup 1 61 := ⟨by decide +kernel, rfl⟩
theorem dX1_takeLetters_61 : mD cX1_takeLetters 61 (.getfield 24) 3 64 := ⟨by decide +kernel, rfl⟩
theorem dX1_takeLetters_64 : mD cX1_takeLetters 64 (.iconst 1) 1 65 := ⟨by decide +kernel, rfl⟩
theorem dX1_takeLetters_65 : mD cX1_takeLetters 65 .iadd 1 66 := ⟨by decide +kernel, rfl⟩
theorem dX1_takeLetters_66 : mD cX1_takeLetters 66 (.putfield 24) 3 69 := ⟨by decide +kernel, rfl⟩
theorem dX1_takeLetters_69 : mJ cX1_takeLetters 69 .goto 72 28 := mJ.of (-41) (by decide +kernel) rfl (by decide)
theorem dX1_takeLetters_72 : mD cX1_takeLetters 72 .return_ 1 73 := ⟨by decide +kernel, rfl⟩
theorem dX1_takeDigits_0 : mD cX1_takeDigits 0 (.aload_n 0) 1 1 := ⟨by decide +kernel, rfl⟩
theorem dX1_takeDigits_1 : mD cX1_takeDigits 1 (.getfield 9) 3 4 := ⟨by decide +kernel, rfl⟩
theorem dX1_takeDigits_4 : mD cX1_takeDigits 4 (.aload_n 0) 1 5 := ⟨by decide +kernel, rfl⟩
theorem dX1_takeDigits_5 : mD cX1_takeDigits 5 (.getfield 24) 3 8 := ⟨by decide +kernel, rfl⟩
theorem dX1_takeDigits_8 : mD cX1_takeDigits 8 .iaload 1 9 := ⟨by decide +kernel, rfl⟩
theorem dX1_takeDigits_9 : mD cX1_takeDigits 9 (.bipush 48) 2 11 := ⟨by decide +kernel, rfl⟩
theorem dX1_takeDigits_11 : mJ cX1_takeDigits 11 (.if_icmp .ne) 14 18 := mJ.of (7) (by decide +kernel) rfl (by decide)
theorem dX1_takeDigits_14 : mD cX1_takeDigits 14 (.iconst 1) 1 15 := ⟨by decide +kernel, rfl⟩
theorem dX1_takeDigits_15 : mJ cX1_takeDigits 15 .goto 18 19 := mJ.of (4) (by decide +kernel) rfl (by decide)
theorem dX1_takeDigits_18 : mD cX1_takeDigits 18 (.iconst 0) 1 19 := ⟨by decide +kernel, rfl⟩
theorem dX1_takeDigits_19 : mD cX1_takeDigits 19 (.istore_n 1) 1 20 := ⟨by decide +kernel, rfl⟩
theorem dX1_takeDigits_20 : mD cX1_takeDigits 20 (.aload_n 0) 1 21 := ⟨by decide +kernel, rfl⟩
theorem dX1_takeDigits_21 : mD cX1_takeDigits 21 (.iconst 0) 1 22 := ⟨by decide +kernel, rfl⟩
theorem dX1_takeDigits_22 : mD cX1_takeDigits 22 (.putfield 43) 3 25 := ⟨by decide +kernel, rfl⟩
theorem dX1_takeDigits_25 : mD cX1_takeDigits 25 (.aload_n 0) 1 26 := ⟨by decide +kernel, rfl⟩
theorem dX1_takeDigits_26 : mD cX1_takeDigits 26 (.getfield 24) 3 29 := ⟨by decide +kernel, rfl⟩
theorem dX1_takeDigits_29 : mD cX1_takeDigits 29 (.aload_n 0) 1 30 := ⟨by decide +kernel, rfl⟩
theorem dX1_takeDigits_30 : mD cX1_takeDigits 30 (.getfield 15) 3 33 := ⟨by decide +kernel, rfl⟩
theorem dX1_takeDigits_33 : mJ cX1_takeDigits 33 (.if_icmp .ge) 36 94 := mJ.of (61) (by decide +kernel) rfl (by decide)
theorem dX1_takeDigits_36 : mD cX1_takeDigits 36 (.aload_n 0) 1 37 := ⟨by decide +kernel, rfl⟩
theorem dX1_takeDigits_37 : mD cX1_takeDigits 37 (.getfield 9) 3 40 := ⟨by decide +kernel, rfl⟩
theorem dX1_takeDigits_40 : mD cX1_takeDigits 40 (.aload_n 0) 1 41 := ⟨by decide +kernel, rfl⟩
theorem dX1_takeDigits_41 : mD cX1_takeDigits 41 (.getfield 24) 3 44 := ⟨by decide +kernel, rfl⟩
theorem dX1_takeDigits_44 : mD cX1_takeDigits 44 .iaload 1 45 := ⟨by decide +kernel, rfl⟩
theorem dX1_takeDigits_45 : mD cX1_takeDigits 45 (.invokestatic 85) 3 48 := ⟨by decide +kernel, rfl⟩
theorem dX1_takeDigits_48 : mJ cX1_takeDigits 48 (.ifCond .eq) 51 94 := mJ.of (46) (by decide +kernel) rfl (by decide)
theorem dX1_takeDigits_51 : mD cX1_takeDigits 51 (.aload_n 0) 1 52 := ⟨by decide +kernel, rfl⟩
theorem dX1_takeDigits_52 : mD cX1_takeDigits 52 (.aload_n 0) 1 53 := ⟨by decide +kernel, rfl⟩
theorem dX1_takeDigits_53 : mD cX1_takeDigits 53 (.getfield 43) 3 56 := ⟨by decide +kernel, rfl⟩
theorem dX1_takeDigits_56 : mD cX1_takeDigits 56 (.bipush 10) 2 58 := ⟨by decide +kernel, rfl⟩
theorem dX1_takeDigits_58 : mD cX1_takeDigits 58 .imul 1 59 := ⟨by decide +kernel, rfl⟩
theorem dX1_takeDigits_59 : mD cX1_takeDigits 59 (.aload_n 0) 1 60 := ⟨by decide +kernel, rfl⟩
theorem dX1_takeDigits_60 : mD cX1_takeDigits 60 (.getfield 9) 3 63 := ⟨by decide +kernel, rfl⟩
theorem dX1_takeDigits_63 : mD cX1_takeDigits 63 (.aload_n 0) 1 64 := ⟨by decide +kernel, rfl⟩
theorem dX1_takeDigits_64 : mD cX1_takeDigits 64 (.getfield 24) 3 67 := ⟨by decide +kernel, rfl⟩
theorem dX1_takeDigits_67 : mD cX1_takeDigits 67 .iaload 1 68 := ⟨by decide +kernel, rfl⟩
theorem dX1_takeDigits_68 : mD cX1_takeDigits 68 .iadd 1 69 := ⟨by decide +kernel, rfl⟩
theorem dX1_takeDigits_69 : mD cX1_takeDigits 69 (.bipush 48) 2 71 := ⟨by decide +kernel, rfl⟩
theorem dX1_takeDigits_71 : mD cX1_takeDigits 71 .isub 1 72 := ⟨by decide +kernel, rfl⟩
theorem dX1_takeDigits_72 : mD cX1_takeDigits 72 (.sipush 10000) 3 75 := ⟨by decide +kernel, rfl⟩
theorem dX1_takeDigits_75 : mD cX1_takeDigits 75 (.invokestatic 91) 3 78 := ⟨by decide +kernel, rfl⟩
theorem dX1_takeDigits_78 : mD cX1_takeDigits 78 (.putfield 43) 3 81 := ⟨by decide +kernel, rfl⟩
theorem dX1_takeDigits_81 : mD cX1_takeDigits 81 (.aload_n 0) 1 82 := ⟨by decide +kernel, rfl⟩
theorem dX1_takeDigits_82 : mD cX1_takeDigits 82 .dup 1 83 := ⟨by decide +kernel, rfl⟩
theorem dX1_takeDigits_83 : mD cX1_takeDigits 83 (.getfield 24) 3 86 := ⟨by decide +kernel, rfl⟩
theorem dX1_takeDigits_86 : mD cX1_takeDigits 86 (.iconst 1) 1 87 := ⟨by decide +kernel, rfl⟩
theorem dX1_takeDigits_87 : mD cX1_takeDigits 87 .iadd 1 88 := ⟨by decide +kernel, rfl⟩
theorem dX1_takeDigits_88 : mD cX1_takeDigits 88 (.putfield 24) 3 91 := ⟨by decide +kernel, rfl⟩
theorem dX1_takeDigits_91 : mJ cX1_takeDigits 91 .goto 94 25 := mJ.of (-66) (by decide +kernel) rfl (by decide)
theorem dX1_takeDigits_94 : mD cX1_takeDigits 94 (.aload_n 0) 1 95 := ⟨by decide +kernel, rfl⟩
theorem dX1_takeDigits_95 : mD cX1_takeDigits 95 (.getfield 43) 3 98 := ⟨by decide +kernel, rfl⟩
theorem dX1_takeDigits_98 : mD cX1_takeDigits 98 (.sipush 9999) 3 101 := ⟨by decide +kernel, rfl⟩
theorem dX1_takeDigits_101 : mJ cX1_takeDigits 101 (.if_icmp .gt) 104 121 := mJ.of (20) (by decide +kernel) rfl (by decide)
theorem dX1_takeDigits_104 : mD cX1_takeDigits 104 (.iload_n 1) 1 105 := ⟨by decide +kernel, rfl⟩
theorem dX1_takeDigits_105 : mJ cX1_takeDigits 105 (.ifCond .eq) 108 125 := mJ.of (20) (by decide +kernel) rfl (by decide)
theorem dX1_takeDigits_108 : mD cX1_takeDigits 108 (.aload_n 0) 1 109 := ⟨by decide +kernel, rfl⟩
theorem dX1_takeDigits_109 : mD cX1_takeDigits 109 (.getfield 24) 3 112 := ⟨by decide +kernel, rfl⟩
theorem dX1_takeDigits_112 : mD cX1_takeDigits 112 (.aload_n 0) 1 113 := ⟨by decide +kernel, rfl⟩
theorem dX1_takeDigits_113 : mD cX1_takeDigits 113 (.getfield 37) 3 116 := ⟨by decide +kernel, rfl⟩
theorem dX1_takeDigits_116 : mD cX1_takeDigits 116 .isub 1 117 := ⟨by decide +kernel, rfl⟩
theorem dX1_takeDigits_117 : mD cX1_takeDigits 117 (.iconst 1) 1 118 := ⟨by decide +kernel, rfl⟩
theorem dX1_takeDigits_118 : mJ cX1_takeDigits 118 (.if_icmp .le) 121 125 := mJ.of (7) (by decide +kernel) rfl (by decide)
theorem dX1_takeDigits_121 : mD cX1_takeDigits 121 (.iconst 1) 1 122 := ⟨by decide +kernel, rfl⟩
theorem dX1_takeDigits_122 : mJ cX1_takeDigits 122 .goto 125 126 := mJ.of (4) (by decide +kernel) rfl (by decide)
theorem dX1_takeDigits_125 : mD cX1_takeDigits 125 (.iconst 0) 1 126 := ⟨by decide +kernel, rfl⟩
theorem dX1_takeDigits_126 : mD cX1_takeDigits 126 (.istore_n 2) 1 127 := ⟨by decide +kernel, rfl⟩
theorem dX1_takeDigits_127 : mD cX1_takeDigits 127 (.aload_n 0) 1 128 := ⟨by decide +kernel, rfl⟩
theorem dX1_takeDigits_128 : mD cX1_takeDigits 128 (.iload_n 2) 1 129 := ⟨by decide +kernel, rfl⟩
theorem dX1_takeDigits_129 : mJ cX1_takeDigits 129 (.ifCond .eq) 132 136 := mJ.of (7) (by decide +kernel) rfl (by decide)
theorem dX1_takeDigits_132 : mD cX1_takeDigits 132 (.iconst 4) 1 133 := ⟨by decide +kernel, rfl⟩
theorem dX1_takeDigits_133 : mJ cX1_takeDigits 133 .goto 136 137 := mJ.of (4) (by decide +kernel) rfl (by decide)
theorem dX1_takeDigits_136 : mD cX1_takeDigits 136 (.iconst 2) 1 137 := ⟨by decide +kernel, rfl⟩
theorem dX1_takeDigits_137 : mD cX1_takeDigits 137 (.putfield 30) 3 140 := ⟨by decide +kernel, rfl⟩
theorem dX1_takeDigits_140 : mD cX1_takeDigits 140 .return_ 1 141 := ⟨by decide +kernel, rfl⟩
theorem dX1_isLetter_0 : mD cX1_isLetter 0 (.iload_n 0) 1 1 := ⟨by decide +kernel, rfl⟩
theorem dX1_isLetter_1 : mD cX1_isLetter 1 (.bipush 97) 2 3 := ⟨by decide +kernel, rfl⟩
theorem dX1_isLetter_3 : mJ cX1_isLetter 3 (.if_icmp .lt) 6 16 := mJ.of (13) (by decide +kernel) rfl (by decide)
theorem dX1_isLetter_6 : mD cX1_isLetter 6 (.iload_n 0) 1 7 := ⟨by decide +kernel, rfl⟩
theorem dX1_isLetter_7 : mD cX1_isLetter 7 (.bipush 122) 2 9 := ⟨by decide +kernel, rfl⟩
theorem dX1_isLetter_9 : mJ cX1_isLetter 9 (.if_icmp .gt) 12 16 := mJ.of (7) (by decide +kernel) rfl (by decide)
theorem dX1_isLetter_12 : mD cX1_isLetter 12 (.iconst 1) 1 13 := ⟨by decide +kernel, rfl⟩
theorem dX1_isLetter_13 : mJ cX1_isLetter 13 .goto 16 17 := mJ.of (4) (by decide +kernel) rfl (by decide)
theorem dX1_isLetter_16 : mD cX1_isLetter 16 (.iconst 0) 1 17 := ⟨by decide +kernel, rfl⟩
theorem dX1_isLetter_17 : mD cX1_isLetter 17 .ireturn 1 18 := ⟨by decide +kernel, rfl⟩
theorem dX1_isDigit_0 : mD cX1_isDigit 0 (.iload_n 0) 1 1 := ⟨by decide +kernel, rfl⟩
theorem dX1_isDigit_1 : mD cX1_isDigit 1 (.bipush 48) 2 3 := ⟨by decide +kernel, rfl⟩
theorem dX1_isDigit_3 : mJ cX1_isDigit 3 (.if_icmp .lt) 6 16 := mJ.of (13) (by decide +kernel) rfl (by decide)
theorem dX1_isDigit_6 : mD cX1_isDigit 6 (.iload_n 0) 1 7 := ⟨by decide +kernel, rfl⟩
theorem dX1_isDigit_7 : mD cX1_isDigit 7 (.bipush 57) 2 9 := ⟨by decide +kernel, rfl⟩
theorem dX1_isDigit_9 : mJ cX1_isDigit 9 (.if_icmp .gt) 12 16 := mJ.of (7) (by decide +kernel) rfl (by decide)
theorem dX1_isDigit_12 : mD cX1_isDigit 12 (.iconst 1) 1 13 := ⟨by decide +kernel, rfl⟩
theorem dX1_isDigit_13 : mJ cX1_isDigit 13 .goto 16 17 := mJ.of (4) (by decide +kernel) rfl (by decide)
theorem dX1_isDigit_16 : mD cX1_isDigit 16 (.iconst 0) 1 17 := ⟨by decide +kernel, rfl⟩
theorem dX1_isDigit_17 : mD cX1_isDigit 17 .ireturn 1 18 := ⟨by decide +kernel, rfl⟩
theorem dX2_init_0 : mD cX2_init 0 (.aload_n 0) 1 1 := ⟨by decide +kernel, rfl⟩
theorem dX2_init_1 : mD cX2_init 1 (.invokespecial 3) 3 4 := ⟨by decide +kernel, rfl⟩
theorem dX2_init_4 : mD cX2_init 4 (.aload_n 0) 1 5 := ⟨by decide +kernel, rfl⟩
theorem dX2_init_5 : mD cX2_init 5 (.bipush 6) 2 7 := ⟨by decide +kernel, rfl⟩
theorem dX2_init_7 : mD cX2_init 7 (.newarray .int) 2 9 := ⟨by decide +kernel, rfl⟩
theorem dX2_init_9 : mD cX2_init 9 (.putfield 9) 3 12 := ⟨by decide +kernel, rfl⟩
theorem dX2_init_12 : mD cX2_init 12 (.aload_n 0) 1 13 := ⟨by decide +kernel, rfl⟩
theorem dX2_init_13 : mD cX2_init 13 (.bipush 6) 2 15 := ⟨by decide +kernel, rfl⟩
theorem dX2_init_15 : mD cX2_init 15 (.newarray .int) 2 17 := ⟨by decide +kernel, rfl⟩
theorem dX2_init_17 : mD cX2_init 17 (.putfield 15) 3 20 := ⟨by decide +kernel, rfl⟩
theorem dX2_init_20 : mD cX2_init 20 .return_ 1 21 := ⟨by decide +kernel, rfl⟩
theorem dX2_append_0 : mD cX2_append 0 (.aload_n 0) 1 1 := ⟨by decide +kernel, rfl⟩
theorem dX2_append_1 : mD cX2_append 1 (.getfield 9) 3 4 := ⟨by decide +kernel, rfl⟩
theorem dX2_append_4 : mD cX2_append 4 (.aload_n 0) 1 5 := ⟨by decide +kernel, rfl⟩
theorem dX2_append_5 : mD cX2_append 5 (.getfield 18) 3 8 := ⟨by decide +kernel, rfl⟩
theorem dX2_append_8 : mD cX2_append 8 (.iload_n 1) 1 9 := ⟨by decide +kernel, rfl⟩
theorem dX2_append_9 : mD cX2_append 9 .iastore 1 10 := ⟨by decide +kernel, rfl⟩
theorem dX2_append_10 : mD cX2_append 10 (.aload_n 0) 1 11 := ⟨by decide +kernel, rfl⟩
theorem dX2_append_11 : mD cX2_append 11 (.getfield 15) 3 14 := ⟨by decide +kernel, rfl⟩
theorem dX2_append_14 : mD cX2_append 14 (.aload_n 0) 1 15 := ⟨by decide +kernel, rfl⟩
theorem dX2_append_15 : mD cX2_append 15 (.getfield 18) 3 18 := ⟨by decide +kernel, rfl⟩
theorem dX2_append_18 : mD cX2_append 18 (.iload_n 2) 1 19 := ⟨by decide +kernel, rfl⟩
theorem dX2_append_19 : mD cX2_append 19 .iastore 1 20 := ⟨by decide +kernel, rfl⟩
theorem dX2_append_20 : mD cX2_append 20 (.aload_n 0) 1 21 := ⟨by decide +kernel, rfl⟩
theorem dX2_append_21 : mD cX2_append 21 .dup 1 22 := ⟨by decide +kernel, rfl⟩
theorem dX2_append_22 : mD cX2_append 22 (.getfield 18) 3 25 := ⟨by decide +kernel, rfl⟩
theorem dX2_append_25 : mD cX2_append 25 (.iconst 1) 1 26 := ⟨by decide +kernel, rfl⟩
theorem dX2_append_26 : mD cX2_append 26 .iadd 1 27 := ⟨by decide +kernel, rfl⟩
theorem dX2_append_27 : mD cX2_append 27 (.putfield 18) 3 30 := ⟨by decide +kernel, rfl⟩
theorem dX2_append_30 : mD cX2_append 30 .return_ 1 31 := ⟨by decide +kernel, rfl⟩
theorem dX2_cubesThatMayBe_0 : mD cX2_cubesThatMayBe 0 (.iconst 0) 1 1 := ⟨by decide +kernel, rfl⟩
theorem dX2_cubesThatMayBe_1 : mD cX2_cubesThatMayBe 1 (.istore_n 3) 1 2 := ⟨by decide +kernel, rfl⟩
theorem dX2_cubesThatMayBe_2 : mD cX2_cubesThatMayBe 2 (.iconst 0) 1 3 := ⟨by decide +kernel, rfl⟩
theorem dX2_cubesThatMayBe_3 : mD cX2_cubesThatMayBe 3 (.istore 4) 2 5 := ⟨by decide +kernel, rfl⟩
theorem dX2_cubesThatMayBe_5 : mD cX2_cubesThatMayBe 5 (.iload 4) 2 7 := ⟨by decide +kernel, rfl⟩
theorem dX2_cubesThatMayBe_7 : mD cX2_cubesThatMayBe 7 (.iload_n 1) 1 8 := ⟨by decide +kernel, rfl⟩
theorem dX2_cubesThatMayBe_8 : mJ cX2_cubesThatMayBe 8 (.if_icmp .ge) 11 37 := mJ.of (29) (by decide +kernel) rfl (by decide)
theorem dX2_cubesThatMayBe_11 : mD cX2_cubesThatMayBe 11 (.aload_n 0) 1 12 := ⟨by decide +kernel, rfl⟩
theorem dX2_cubesThatMayBe_12 : mD cX2_cubesThatMayBe 12 (.aload_n 2) 1 13 := ⟨by decide +kernel, rfl⟩
theorem dX2_cubesThatMayBe_13 : mD cX2_cubesThatMayBe 13 (.iload 4) 2 15 := ⟨by decide +kernel, rfl⟩
theorem dX2_cubesThatMayBe_15 : mD cX2_cubesThatMayBe 15 (.invokevirtual 22) 3 18 := ⟨by decide +kernel, rfl⟩
theorem dX2_cubesThatMayBe_18 : mD cX2_cubesThatMayBe 18 (.invokevirtual 28) 3 21 := ⟨by decide +kernel, rfl⟩
theorem dX2_cubesThatMayBe_21 : mJ cX2_cubesThatMayBe 21 (.ifCond .eq) 24 31 := mJ.of (10) (by decide +kernel) rfl (by decide)
theorem dX2_cubesThatMayBe_24 : mD cX2_cubesThatMayBe 24 (.iload_n 3) 1 25 := ⟨by decide +kernel, rfl⟩
theorem dX2_cubesThatMayBe_25 : mD cX2_cubesThatMayBe 25 (.iconst 1) 1 26 := ⟨by decide +kernel, rfl⟩
theorem dX2_cubesThatMayBe_26 : mD cX2_cubesThatMayBe 26 (.iload 4) 2 28 := ⟨by decide +kernel, rfl⟩
theorem dX2_cubesThatMayBe_28 : mD cX2_cubesThatMayBe 28 .ishl 1 29 := ⟨by decide +kernel, rfl⟩
theorem dX2_cubesThatMayBe_29 : mD cX2_cubesThatMayBe 29 .ior 1 30 := ⟨by decide +kernel, rfl⟩
theorem dX2_cubesThatMayBe_30 : mD cX2_cubesThatMayBe 30 (.istore_n 3) 1 31 := ⟨by decide +kernel, rfl⟩
theorem dX2_cubesThatMayBe_31 : mD cX2_cubesThatMayBe 31 (.iinc 4 1) 3 34 := ⟨by decide +kernel, rfl⟩
theorem dX2_cubesThatMayBe_34 : mJ cX2_cubesThatMayBe 34 .goto 37 5 := mJ.of (-29) (by decide +kernel) rfl (by decide)
theorem dX2_cubesThatMayBe_37 : mD cX2_cubesThatMayBe 37 (.iload_n 3) 1 38 := ⟨by decide +kernel, rfl⟩
theorem dX2_cubesThatMayBe_38 : mD cX2_cubesThatMayBe 38 .ireturn 1 39 := ⟨by decide +kernel, rfl⟩
theorem dX2_mayBe_0 : mD cX2_mayBe 0 (.iconst 0) 1 1 := ⟨by decide +kernel, rfl⟩
theorem dX2_mayBe_1 : mD cX2_mayBe 1 (.istore_n 2) 1 2 := ⟨by decide +kernel, rfl⟩
theorem dX2_mayBe_2 : mD cX2_mayBe 2 (.iload_n 2) 1 3 := ⟨by decide +kernel, rfl⟩
theorem dX2_mayBe_3 : mD cX2_mayBe 3 (.aload_n 0) 1 4 := ⟨by decide +kernel, rfl⟩
theorem dX2_mayBe_4 : mD cX2_mayBe 4 (.getfield 18) 3 7 := ⟨by decide +kernel, rfl⟩
theorem dX2_mayBe_7 : mJ cX2_mayBe 7 (.if_icmp .ge) 10 37 := mJ.of (30) (by decide +kernel) rfl (by decide)
theorem dX2_mayBe_10 : mD cX2_mayBe 10 (.iload_n 1) 1 11 := ⟨by decide +kernel, rfl⟩
theorem dX2_mayBe_11 : mD cX2_mayBe 11 (.aload_n 0) 1 12 := ⟨by decide +kernel, rfl⟩
theorem dX2_mayBe_12 : mD cX2_mayBe 12 (.getfield 9) 3 15 := ⟨by decide +kernel, rfl⟩
theorem dX2_mayBe_15 : mD cX2_mayBe 15 (.iload_n 2) 1 16 := ⟨by decide +kernel, rfl⟩
theorem dX2_mayBe_16 : mD cX2_mayBe 16 .iaload 1 17 := ⟨by decide +kernel, rfl⟩
theorem dX2_mayBe_17 : mD cX2_mayBe 17 .ishr 1 18 := ⟨by decide +kernel, rfl⟩
theorem dX2_mayBe_18 : mD cX2_mayBe 18 (.iconst 1) 1 19 := ⟨by decide +kernel, rfl⟩
theorem dX2_mayBe_19 : mD cX2_mayBe 19 .iand 1 20 := ⟨by decide +kernel, rfl⟩
theorem dX2_mayBe_20 : mD cX2_mayBe 20 (.aload_n 0) 1 21 := ⟨by decide +kernel, rfl⟩
theorem dX2_mayBe_21 : mD cX2_mayBe 21 (.getfield 15) 3 24 := ⟨by decide +kernel, rfl⟩
theorem dX2_mayBe_24 : mD cX2_mayBe 24 (.iload_n 2) 1 25 := ⟨by decide +kernel, rfl⟩
theorem dX2_mayBe_25 : mD cX2_mayBe 25 .iaload 1 26 := ⟨by decide +kernel, rfl⟩
theorem dX2_mayBe_26 : mJ cX2_mayBe 26 (.if_icmp .eq) 29 31 := mJ.of (5) (by decide +kernel) rfl (by decide)
theorem dX2_mayBe_29 : mD cX2_mayBe 29 (.iconst 0) 1 30 := ⟨by decide +kernel, rfl⟩
theorem dX2_mayBe_30 : mD cX2_mayBe 30 .ireturn 1 31 := ⟨by decide +kernel, rfl⟩
theorem dX2_mayBe_31 : mD cX2_mayBe 31 (.iinc 2 1) 3 34 := ⟨by decide +kernel, rfl⟩
theorem dX2_mayBe_34 : mJ cX2_mayBe 34 .goto 37 2 := mJ.of (-32) (by decide +kernel) rfl (by decide)
theorem dX2_mayBe_37 : mD cX2_mayBe 37 (.iconst 1) 1 38 := ⟨by decide +kernel, rfl⟩
theorem dX2_mayBe_38 : mD cX2_mayBe 38 .ireturn 1 39 := ⟨by decide +kernel, rfl⟩
theorem dX2_bestToLookFor_0 : mD cX2_bestToLookFor 0 (.aload_n 0) 1 1 := ⟨by decide +kernel, rfl⟩
theorem dX2_bestToLookFor_1 : mD cX2_bestToLookFor 1 (.iload_n 1) 1 2 := ⟨by decide +kernel, rfl⟩
theorem dX2_bestToLookFor_2 : mD cX2_bestToLookFor 2 (.aload_n 2) 1 3 := ⟨by decide +kernel, rfl⟩
theorem dX2_bestToLookFor_3 : mD cX2_bestToLookFor 3 (.invokevirtual 32) 3 6 := ⟨by decide +kernel, rfl⟩
theorem dX2_bestToLookFor_6 : mD cX2_bestToLookFor 6 (.istore_n 3) 1 7 := ⟨by decide +kernel, rfl⟩
theorem dX2_bestToLookFor_7 : mD cX2_bestToLookFor 7 (.iload_n 3) 1 8 := ⟨by decide +kernel, rfl⟩
theorem dX2_bestToLookFor_8 : mD cX2_bestToLookFor 8 (.invokestatic 36) 3 11 := ⟨by decide +kernel, rfl⟩
theorem dX2_bestToLookFor_11 : mD cX2_bestToLookFor 11 (.istore 4) 2 13 := ⟨by decide +kernel, rfl⟩
theorem dX2_bestToLookFor_13 : mD cX2_bestToLookFor 13 (.bipush (-9)) 2 15 := ⟨by decide +kernel, rfl⟩
theorem dX2_bestToLookFor_15 : mD cX2_bestToLookFor 15 (.istore 5) 2 17 := ⟨by decide +kernel, rfl⟩
theorem dX2_bestToLookFor_17 : mD cX2_bestToLookFor 17 (.iload 4) 2 19 := ⟨by decide +kernel, rfl⟩
theorem dX2_bestToLookFor_19 : mD cX2_bestToLookFor 19 (.istore 6) 2 21 := ⟨by decide +kernel, rfl⟩
theorem dX2_bestToLookFor_21 : mD cX2_bestToLookFor 21 (.iconst 0) 1 22 := ⟨by decide +kernel, rfl⟩
theorem dX2_bestToLookFor_22 : mD cX2_bestToLookFor 22 (.istore 7) 2 24 := ⟨by decide +kernel, rfl⟩
theorem dX2_bestToLookFor_24 : mD cX2_bestToLookFor 24 (.iload 7) 2 26 := ⟨by decide +kernel, rfl⟩
theorem dX2_bestToLookFor_26 : mD cX2_bestToLookFor 26 (.bipush 10) 2 28 := ⟨by decide +kernel, rfl⟩
theorem dX2_bestToLookFor_28 : mJ cX2_bestToLookFor 28 (.if_icmp .ge) 31 74 := mJ.of (46) (by decide +kernel) rfl (by decide)
theorem dX2_bestToLookFor_31 : mD cX2_bestToLookFor 31 (.iload 7) 2 33 := ⟨by decide +kernel, rfl⟩
theorem dX2_bestToLookFor_33 : mD cX2_bestToLookFor 33 (.iload_n 3) 1 34 := ⟨by decide +kernel, rfl⟩
theorem dX2_bestToLookFor_34 : mD cX2_bestToLookFor 34 (.iload_n 1) 1 35 := ⟨by decide +kernel, rfl⟩
theorem dX2_bestToLookFor_35 : mD cX2_bestToLookFor 35 (.aload_n 2) 1 36 := ⟨by decide +kernel, rfl⟩
theorem dX2_bestToLookFor_36 : mD cX2_bestToLookFor 36 (.invokestatic 41) 3 39 := ⟨by decide +kernel, rfl⟩
theorem dX2_bestToLookFor_39 : mD cX2_bestToLookFor 39 (.istore 8) 2 41 := ⟨by decide +kernel, rfl⟩
theorem dX2_bestToLookFor_41 : mD cX2_bestToLookFor 41 (.iload 8) 2 43 := ⟨by decide +kernel, rfl⟩
theorem dX2_bestToLookFor_43 : mD cX2_bestToLookFor 43 (.iload 4) 2 45 := ⟨by decide +kernel, rfl⟩
theorem dX2_bestToLookFor_45 : mD cX2_bestToLookFor 45 (.iload 8) 2 47 := ⟨by decide +kernel, rfl⟩
theorem dX2_bestToLookFor_47 : mD cX2_bestToLookFor 47 .isub 1 48 := ⟨by decide +kernel, rfl⟩
theorem dX2_bestToLookFor_48 : mD cX2_bestToLookFor 48 (.invokestatic 45) 3 51 := ⟨by decide +kernel, rfl⟩
theorem dX2_bestToLookFor_51 : mD cX2_bestToLookFor 51 (.istore 9) 2 53 := ⟨by decide +kernel, rfl⟩
theorem dX2_bestToLookFor_53 : mD cX2_bestToLookFor 53 (.iload 9) 2 55 := ⟨by decide +kernel, rfl⟩
theorem dX2_bestToLookFor_55 : mD cX2_bestToLookFor 55 (.iload 6) 2 57 := ⟨by decide +kernel, rfl⟩
theorem dX2_bestToLookFor_57 : mJ cX2_bestToLookFor 57 (.if_icmp .ge) 60 68 := mJ.of (11) (by decide +kernel) rfl (by decide)
theorem dX2_bestToLookFor_60 : mD cX2_bestToLookFor 60 (.iload 9) 2 62 := ⟨by decide +kernel, rfl⟩
theorem dX2_bestToLookFor_62 : mD cX2_bestToLookFor 62 (.istore 6) 2 64 := ⟨by decide +kernel, rfl⟩
theorem dX2_bestToLookFor_64 : mD cX2_bestToLookFor 64 (.iload 7) 2 66 := ⟨by decide +kernel, rfl⟩
theorem dX2_bestToLookFor_66 : mD cX2_bestToLookFor 66 (.istore 5) 2 68 := ⟨by decide +kernel, rfl⟩
theorem dX2_bestToLookFor_68 : mD cX2_bestToLookFor 68 (.iinc 7 1) 3 71 := ⟨by decide +kernel, rfl⟩
theorem dX2_bestToLookFor_71 : mJ cX2_bestToLookFor 71 .goto 74 24 := mJ.of (-47) (by decide +kernel) rfl (by decide)
theorem dX2_bestToLookFor_74 : mD cX2_bestToLookFor 74 (.iload 5) 2 76 := ⟨by decide +kernel, rfl⟩
theorem dX2_bestToLookFor_76 : mD cX2_bestToLookFor 76 .ireturn 1 77 := ⟨by decide +kernel, rfl⟩
theorem dX2_howManyHave_0 : mD cX2_howManyHave 0 (.iconst 0) 1 1 := ⟨by decide +kernel, rfl⟩
theorem dX2_howManyHave_1 : mD cX2_howManyHave 1 (.istore 4) 2 3 := ⟨by decide +kernel, rfl⟩
theorem dX2_howManyHave_3 : mD cX2_howManyHave 3 (.iconst 0) 1 4 := ⟨by decide +kernel, rfl⟩
theorem dX2_howManyHave_4 : mD cX2_howManyHave 4 (.istore 5) 2 6 := ⟨by decide +kernel, rfl⟩
theorem dX2_howManyHave_6 : mD cX2_howManyHave 6 (.iload 5) 2 8 := ⟨by decide +kernel, rfl⟩
theorem dX2_howManyHave_8 : mD cX2_howManyHave 8 (.iload_n 2) 1 9 := ⟨by decide +kernel, rfl⟩
theorem dX2_howManyHave_9 : mJ cX2_howManyHave 9 (.if_icmp .ge) 12 43 := mJ.of (34) (by decide +kernel) rfl (by decide)
theorem dX2_howManyHave_12 : mD cX2_howManyHave 12 (.iload_n 1) 1 13 := ⟨by decide +kernel, rfl⟩
theorem dX2_howManyHave_13 : mD cX2_howManyHave 13 (.iload 5) 2 15 := ⟨by decide +kernel, rfl⟩
theorem dX2_howManyHave_15 : mD cX2_howManyHave 15 .ishr 1 16 := ⟨by decide +kernel, rfl⟩
theorem dX2_howManyHave_16 : mD cX2_howManyHave 16 (.iconst 1) 1 17 := ⟨by decide +kernel, rfl⟩
theorem dX2_howManyHave_17 : mD cX2_howManyHave 17 .iand 1 18 := ⟨by decide +kernel, rfl⟩
theorem dX2_howManyHave_18 : mD cX2_howManyHave 18 (.iconst 1) 1 19 := ⟨by decide +kernel, rfl⟩
theorem dX2_howManyHave_19 : mJ cX2_howManyHave 19 (.if_icmp .ne) 22 37 := mJ.of (18) (by decide +kernel) rfl (by decide)
theorem dX2_howManyHave_22 : mD cX2_howManyHave 22 (.iload 4) 2 24 := ⟨by decide +kernel, rfl⟩
theorem dX2_howManyHave_24 : mD cX2_howManyHave 24 (.aload_n 3) 1 25 := ⟨by decide +kernel, rfl⟩
theorem dX2_howManyHave_25 : mD cX2_howManyHave 25 (.iload 5) 2 27 := ⟨by decide +kernel, rfl⟩
theorem dX2_howManyHave_27 : mD cX2_howManyHave 27 (.invokevirtual 22) 3 30 := ⟨by decide +kernel, rfl⟩
theorem dX2_howManyHave_30 : mD cX2_howManyHave 30 (.iload_n 0) 1 31 := ⟨by decide +kernel, rfl⟩
theorem dX2_howManyHave_31 : mD cX2_howManyHave 31 .ishr 1 32 := ⟨by decide +kernel, rfl⟩
theorem dX2_howManyHave_32 : mD cX2_howManyHave 32 (.iconst 1) 1 33 := ⟨by decide +kernel, rfl⟩
theorem dX2_howManyHave_33 : mD cX2_howManyHave 33 .iand 1 34 := ⟨by decide +kernel, rfl⟩
theorem dX2_howManyHave_34 : mD cX2_howManyHave 34 .iadd 1 35 := ⟨by decide +kernel, rfl⟩
theorem dX2_howManyHave_35 : mD cX2_howManyHave 35 (.istore 4) 2 37 := ⟨by decide +kernel, rfl⟩
theorem dX2_howManyHave_37 : mD cX2_howManyHave 37 (.iinc 5 1) 3 40 := ⟨by decide +kernel, rfl⟩
theorem dX2_howManyHave_40 : mJ cX2_howManyHave 40 .goto 43 6 := mJ.of (-34) (by decide +kernel) rfl (by decide)
theorem dX2_howManyHave_43 : mD cX2_howManyHave 43 (.iload 4) 2 45 := ⟨by decide +kernel, rfl⟩
theorem dX2_howManyHave_45 : mD cX2_howManyHave 45 .ireturn 1 46 := ⟨by decide +kernel, rfl⟩
theorem dX3_init_0 : mD cX3_init 0 (.aload_n 0) 1 1 := ⟨by decide +kernel, rfl⟩
theorem dX3_init_1 : mD cX3_init 1 (.invokespecial 3) 3 4 := ⟨by decide +kernel, rfl⟩
theorem dX3_init_4 : mD cX3_init 4 (.aload_n 0) 1 5 := ⟨by decide +kernel, rfl⟩
theorem dX3_init_5 : mD cX3_init 5 (.bipush 24) 2 7 := ⟨by decide +kernel, rfl⟩
theorem dX3_init_7 : mD cX3_init 7 (.newarray .int) 2 9 := ⟨by decide +kernel, rfl⟩
theorem dX3_init_9 : mD cX3_init 9 (.putfield 9) 3 12 := ⟨by decide +kernel, rfl⟩
theorem dX3_init_12 : mD cX3_init 12 (.aload_n 0) 1 13 := ⟨by decide +kernel, rfl⟩
theorem dX3_init_13 : mD cX3_init 13 (.iconst 4) 1 14 := ⟨by decide +kernel, rfl⟩
theorem dX3_init_14 : mD cX3_init 14 (.newarray .int) 2 16 := ⟨by decide +kernel, rfl⟩
theorem dX3_init_16 : mD cX3_init 16 (.putfield 15) 3 19 := ⟨by decide +kernel, rfl⟩
theorem dX3_init_19 : mD cX3_init 19 (.aload_n 0) 1 20 := ⟨by decide +kernel, rfl⟩
theorem dX3_init_20 : mD cX3_init 20 (.iconst 4) 1 21 := ⟨by decide +kernel, rfl⟩
theorem dX3_init_21 : mD cX3_init 21 (.newarray .int) 2 23 := ⟨by decide +kernel, rfl⟩
theorem dX3_init_23 : mD cX3_init 23 (.putfield 18) 3 26 := ⟨by decide +kernel, rfl⟩
theorem dX3_init_26 : mD cX3_init 26 (.aload_n 0) 1 27 := ⟨by decide +kernel, rfl⟩
theorem dX3_init_27 : mD cX3_init 27 (.bipush 40) 2 29 := ⟨by decide +kernel, rfl⟩
theorem dX3_init_29 : mD cX3_init 29 (.newarray .int) 2 31 := ⟨by decide +kernel, rfl⟩
theorem dX3_init_31 : mD cX3_init 31 (.putfield 21) 3 34 := ⟨by decide +kernel, rfl⟩
theorem dX3_init_34 : mD cX3_init 34 .return_ 1 35 := ⟨by decide +kernel, rfl⟩
theorem dX3_begin_0 : mD cX3_begin 0 (.aload_n 1) 1 1 := ⟨by decide +kernel, rfl⟩
theorem dX3_begin_1 : mD cX3_begin 1 (.getfield 24) 3 4 := ⟨by decide +kernel, rfl⟩
theorem dX3_begin_4 : mD cX3_begin 4 (.iconst 0) 1 5 := ⟨by decide +kernel, rfl⟩
theorem dX3_begin_5 : mD cX3_begin 5 (.aload_n 0) 1 6 := ⟨by decide +kernel, rfl⟩
theorem dX3_begin_6 : mD cX3_begin 6 (.getfield 9) 3 9 := ⟨by decide +kernel, rfl⟩
theorem dX3_begin_9 : mD cX3_begin 9 (.iconst 0) 1 10 := ⟨by decide +kernel, rfl⟩
theorem dX3_begin_10 : mD cX3_begin 10 (.aload_n 0) 1 11 := ⟨by decide +kernel, rfl⟩
theorem dX3_begin_11 : mD cX3_begin 11 (.getfield 9) 3 14 := ⟨by decide +kernel, rfl⟩
theorem dX3_begin_14 : mD cX3_begin 14 .arraylength 1 15 := ⟨by decide +kernel, rfl⟩
theorem dX3_begin_15 : mD cX3_begin 15 (.invokestatic 27) 3 18 := ⟨by decide +kernel, rfl⟩
theorem dX3_begin_18 : mD cX3_begin 18 (.iconst 0) 1 19 := ⟨by decide +kernel, rfl⟩
theorem dX3_begin_19 : mD cX3_begin 19 (.istore_n 2) 1 20 := ⟨by decide +kernel, rfl⟩
theorem dX3_begin_20 : mD cX3_begin 20 (.iload_n 2) 1 21 := ⟨by decide +kernel, rfl⟩
theorem dX3_begin_21 : mD cX3_begin 21 (.iconst 4) 1 22 := ⟨by decide +kernel, rfl⟩
theorem dX3_begin_22 : mJ cX3_begin 22 (.if_icmp .ge) 25 45 := mJ.of (23) (by decide +kernel) rfl (by decide)
theorem dX3_begin_25 : mD cX3_begin 25 (.aload_n 0) 1 26 := ⟨by decide +kernel, rfl⟩
theorem dX3_begin_26 : mD cX3_begin 26 (.getfield 15) 3 29 := ⟨by decide +kernel, rfl⟩
theorem dX3_begin_29 : mD cX3_begin 29 (.iload_n 2) 1 30 := ⟨by decide +kernel, rfl⟩
theorem dX3_begin_30 : mD cX3_begin 30 (.iload_n 2) 1 31 := ⟨by decide +kernel, rfl⟩
theorem dX3_begin_31 : mD cX3_begin 31 .iastore 1 32 := ⟨by decide +kernel, rfl⟩
theorem dX3_begin_32 : mD cX3_begin 32 (.aload_n 0) 1 33 := ⟨by decide +kernel, rfl⟩
theorem dX3_begin_33 : mD cX3_begin 33 (.getfield 18) 3 36 := ⟨by decide +kernel, rfl⟩
theorem dX3_begin_36 : mD cX3_begin 36 (.iload_n 2) 1 37 := ⟨by decide +kernel, rfl⟩
theorem dX3_begin_37 : mD cX3_begin 37 (.iconst 0) 1 38 := ⟨by decide +kernel, rfl⟩
theorem dX3_begin_38 : mD cX3_begin 38 .iastore 1 39 := ⟨by decide +kernel, rfl⟩
theorem dX3_begin_39 : mD cX3_begin 39 (.iinc 2 1) 3 42 := ⟨by decide +kernel, rfl⟩
theorem dX3_begin_42 : mJ cX3_begin 42 .goto 45 20 := mJ.of (-22) (by decide +kernel) rfl (by decide)
theorem dX3_begin_45 : mD cX3_begin 45 (.aload_n 0) 1 46 := ⟨by decide +kernel, rfl⟩
theorem dX3_begin_46 : mD cX3_begin 46 (.iconst 0) 1 47 := ⟨by decide +kernel, rfl⟩
theorem dX3_begin_47 : mD cX3_begin 47 (.putfield 33) 3 50 := ⟨by decide +kernel, rfl⟩
theorem dX3_begin_50 : mD cX3_begin 50 (.aload_n 0) 1 51 := ⟨by decide +kernel, rfl⟩
theorem dX3_begin_51 : mD cX3_begin 51 (.iconst 0) 1 52 := ⟨by decide +kernel, rfl⟩
theorem dX3_begin_52 : mD cX3_begin 52 (.putfield 37) 3 55 := ⟨by decide +kernel, rfl⟩
theorem dX3_begin_55 : mD cX3_begin 55 .return_ 1 56 := ⟨by decide +kernel, rfl⟩
theorem dX3_copy_0 : mD cX3_copy 0 (.aload_n 1) 1 1 := ⟨by decide +kernel, rfl⟩
theorem dX3_copy_1 : mD cX3_copy 1 (.getfield 9) 3 4 := ⟨by decide +kernel, rfl⟩
theorem dX3_copy_4 : mD cX3_copy 4 (.iconst 0) 1 5 := ⟨by decide +kernel, rfl⟩
theorem dX3_copy_5 : mD cX3_copy 5 (.aload_n 0) 1 6 := ⟨by decide +kernel, rfl⟩
theorem dX3_copy_6 : mD cX3_copy 6 (.getfield 9) 3 9 := ⟨by decide +kernel, rfl⟩
theorem dX3_copy_9 : mD cX3_copy 9 (.iconst 0) 1 10 := ⟨by decide +kernel, rfl⟩
theorem dX3_copy_10 : mD cX3_copy 10 (.aload_n 0) 1 11 := ⟨by decide +kernel, rfl⟩
theorem dX3_copy_11 : mD cX3_copy 11 (.getfield 9) 3 14 := ⟨by decide +kernel, rfl⟩
theorem dX3_copy_14 : mD cX3_copy 14 .arraylength 1 15 := ⟨by decide +kernel, rfl⟩
theorem dX3_copy_15 : mD cX3_copy 15 (.invokestatic 27) 3 18 := ⟨by decide +kernel, rfl⟩
theorem dX3_copy_18 : mD cX3_copy 18 (.aload_n 1) 1 19 := ⟨by decide +kernel, rfl⟩
theorem dX3_copy_19 : mD cX3_copy 19 (.getfield 15) 3 22 := ⟨by decide +kernel, rfl⟩
theorem dX3_copy_22 : mD cX3_copy 22 (.iconst 0) 1 23 := ⟨by decide +kernel, rfl⟩
theorem dX3_copy_23 : mD cX3_copy 23 (.aload_n 0) 1 24 := ⟨by decide +kernel, rfl⟩
theorem dX3_copy_24 : mD cX3_copy 24 (.getfield 15) 3 27 := ⟨by decide +kernel, rfl⟩
theorem dX3_copy_27 : mD cX3_copy 27 (.iconst 0) 1 28 := ⟨by decide +kernel, rfl⟩
theorem dX3_copy_28 : mD cX3_copy 28 (.aload_n 0) 1 29 := ⟨by decide +kernel, rfl⟩
theorem dX3_copy_29 : mD cX3_copy 29 (.getfield 15) 3 32 := ⟨by decide +kernel, rfl⟩
theorem dX3_copy_32 : mD cX3_copy 32 .arraylength 1 33 := ⟨by decide +kernel, rfl⟩
theorem dX3_copy_33 : mD cX3_copy 33 (.invokestatic 27) 3 36 := ⟨by decide +kernel, rfl⟩
theorem dX3_copy_36 : mD cX3_copy 36 (.aload_n 1) 1 37 := ⟨by decide +kernel, rfl⟩
theorem dX3_copy_37 : mD cX3_copy 37 (.getfield 18) 3 40 := ⟨by decide +kernel, rfl⟩
theorem dX3_copy_40 : mD cX3_copy 40 (.iconst 0) 1 41 := ⟨by decide +kernel, rfl⟩
theorem dX3_copy_41 : mD cX3_copy 41 (.aload_n 0) 1 42 := ⟨by decide +kernel, rfl⟩
theorem dX3_copy_42 : mD cX3_copy 42 (.getfield 18) 3 45 := ⟨by decide +kernel, rfl⟩
theorem dX3_copy_45 : mD cX3_copy 45 (.iconst 0) 1 46 := ⟨by decide +kernel, rfl⟩
theorem dX3_copy_46 : mD cX3_copy 46 (.aload_n 0) 1 47 := ⟨by decide +kernel, rfl⟩
theorem dX3_copy_47 : mD cX3_copy 47 (.getfield 18) 3 50 := ⟨by decide +kernel, rfl⟩
theorem dX3_copy_50 : mD cX3_copy 50 .arraylength 1 51 := ⟨by decide +kernel, rfl⟩
theorem dX3_copy_51 : mD cX3_copy 51 (.invokestatic 27) 3 54 := ⟨by decide +kernel, rfl⟩
theorem dX3_copy_54 : mD cX3_copy 54 (.aload_n 1) 1 55 := ⟨by decide +kernel, rfl⟩
theorem dX3_copy_55 : mD cX3_copy 55 (.getfield 21) 3 58 := ⟨by decide +kernel, rfl⟩
theorem dX3_copy_58 : mD cX3_copy 58 (.iconst 0) 1 59 := ⟨by decide +kernel, rfl⟩
theorem dX3_copy_59 : mD cX3_copy 59 (.aload_n 0) 1 60 := ⟨by decide +kernel, rfl⟩
theorem dX3_copy_60 : mD cX3_copy 60 (.getfield 21) 3 63 := ⟨by decide +kernel, rfl⟩
theorem dX3_copy_63 : mD cX3_copy 63 (.iconst 0) 1 64 := ⟨by decide +kernel, rfl⟩
theorem dX3_copy_64 : mD cX3_copy 64 (.aload_n 0) 1 65 := ⟨by decide +kernel, rfl⟩
theorem dX3_copy_65 : mD cX3_copy 65 (.getfield 21) 3 68 := ⟨by decide +kernel, rfl⟩
theorem dX3_copy_68 : mD cX3_copy 68 .arraylength 1 69 := ⟨by decide +kernel, rfl⟩
theorem dX3_copy_69 : mD cX3_copy 69 (.invokestatic 27) 3 72 := ⟨by decide +kernel, rfl⟩
theorem dX3_copy_72 : mD cX3_copy 72 (.aload_n 0) 1 73 := ⟨by decide +kernel, rfl⟩
theorem dX3_copy_73 : mD cX3_copy 73 (.aload_n 1) 1 74 := ⟨by decide +kernel, rfl⟩
theorem dX3_copy_74 : mD cX3_copy 74 (.getfield 33) 3 77 := ⟨by decide +kernel, rfl⟩
theorem dX3_copy_77 : mD cX3_copy 77 (.putfield 33) 3 80 := ⟨by decide +kernel, rfl⟩
theorem dX3_copy_80 : mD cX3_copy 80 (.aload_n 0) 1 81 := ⟨by decide +kernel, rfl⟩
theorem dX3_copy_81 : mD cX3_copy 81 (.aload_n 1) 1 82 := ⟨by decide +kernel, rfl⟩
theorem dX3_copy_82 : mD cX3_copy 82 (.getfield 37) 3 85 := ⟨by decide +kernel, rfl⟩
theorem dX3_copy_85 : mD cX3_copy 85 (.putfield 37) 3 88 := ⟨by decide +kernel, rfl⟩
theorem dX3_copy_88 : mD cX3_copy 88 .return_ 1 89 := ⟨by decide +kernel, rfl⟩
theorem dX3_placeOf_0 : mD cX3_placeOf 0 (.iconst 0) 1 1 := ⟨by decide +kernel, rfl⟩
theorem dX3_placeOf_1 : mD cX3_placeOf 1 (.istore_n 2) 1 2 := ⟨by decide +kernel, rfl⟩
theorem dX3_placeOf_2 : mD cX3_placeOf 2 (.iload_n 2) 1 3 := ⟨by decide +kernel, rfl⟩
theorem dX3_placeOf_3 : mD cX3_placeOf 3 (.iconst 4) 1 4 := ⟨by decide +kernel, rfl⟩
theorem dX3_placeOf_4 : mJ cX3_placeOf 4 (.if_icmp .ge) 7 25 := mJ.of (21) (by decide +kernel) rfl (by decide)
theorem dX3_placeOf_7 : mD cX3_placeOf 7 (.aload_n 0) 1 8 := ⟨by decide +kernel, rfl⟩
theorem dX3_placeOf_8 : mD cX3_placeOf 8 (.getfield 15) 3 11 := ⟨by decide +kernel, rfl⟩
theorem dX3_placeOf_11 : mD cX3_placeOf 11 (.iload_n 2) 1 12 := ⟨by decide +kernel, rfl⟩
theorem dX3_placeOf_12 : mD cX3_placeOf 12 .iaload 1 13 := ⟨by decide +kernel, rfl⟩
theorem dX3_placeOf_13 : mD cX3_placeOf 13 (.iload_n 1) 1 14 := ⟨by decide +kernel, rfl⟩
theorem dX3_placeOf_14 : mJ cX3_placeOf 14 (.if_icmp .ne) 17 19 := mJ.of (5) (by decide +kernel) rfl (by decide)
theorem dX3_placeOf_17 : mD cX3_placeOf 17 (.iload_n 2) 1 18 := ⟨by decide +kernel, rfl⟩
theorem dX3_placeOf_18 : mD cX3_placeOf 18 .ireturn 1 19 := ⟨by decide +kernel, rfl⟩
theorem dX3_placeOf_19 : mD cX3_placeOf 19 (.iinc 2 1) 3 22 := ⟨by decide +kernel, rfl⟩
theorem dX3_placeOf_22 : mJ cX3_placeOf 22 .goto 25 2 := mJ.of (-20) (by decide +kernel) rfl (by decide)
theorem dX3_placeOf_25 : mD cX3_placeOf 25 (.iconst (-1)) 1 26 := ⟨by decide +kernel, rfl⟩
theorem dX3_placeOf_26 : mD cX3_placeOf 26 .ireturn 1 27 := ⟨by decide +kernel, rfl⟩
theorem dX3_figureInFront_0 : mD cX3_figureInFront 0 (.aload_n 0) 1 1 := ⟨by decide +kernel, rfl⟩
theorem dX3_figureInFront_1 : mD cX3_figureInFront 1 (.getfield 9) 3 4 := ⟨by decide +kernel, rfl⟩
theorem dX3_figureInFront_4 : mD cX3_figureInFront 4 (.iload_n 1) 1 5 := ⟨by decide +kernel, rfl⟩
theorem dX3_figureInFront_5 : mD cX3_figureInFront 5 (.bipush 6) 2 7 := ⟨by decide +kernel, rfl⟩
theorem dX3_figureInFront_7 : mD cX3_figureInFront 7 .imul 1 8 := ⟨by decide +kernel, rfl⟩
theorem dX3_figureInFront_8 : mD cX3_figureInFront 8 (.aload_n 0) 1 9 := ⟨by decide +kernel, rfl⟩
theorem dX3_figureInFront_9 : mD cX3_figureInFront 9 (.getfield 18) 3 12 := ⟨by decide +kernel, rfl⟩
theorem dX3_figureInFront_12 : mD cX3_figureInFront 12 (.iload_n 1) 1 13 := ⟨by decide +kernel, rfl⟩
theorem dX3_figureInFront_13 : mD cX3_figureInFront 13 .iaload 1 14 := ⟨by decide +kernel, rfl⟩
theorem dX3_figureInFront_14 : mD cX3_figureInFront 14 .iadd 1 15 := ⟨by decide +kernel, rfl⟩
theorem dX3_figureInFront_15 : mD cX3_figureInFront 15 .iaload 1 16 := ⟨by decide +kernel, rfl⟩
theorem dX3_figureInFront_16 : mD cX3_figureInFront 16 .ireturn 1 17 := ⟨by decide +kernel, rfl⟩
theorem dX3_figuresOf_0 : mD cX3_figuresOf 0 (.iconst 0) 1 1 := ⟨by decide +kernel, rfl⟩
theorem dX3_figuresOf_1 : mD cX3_figuresOf 1 (.istore_n 2) 1 2 := ⟨by decide +kernel, rfl⟩
theorem dX3_figuresOf_2 : mD cX3_figuresOf 2 (.iconst 0) 1 3 := ⟨by decide +kernel, rfl⟩
theorem dX3_figuresOf_3 : mD cX3_figuresOf 3 (.istore_n 3) 1 4 := ⟨by decide +kernel, rfl⟩
theorem dX3_figuresOf_4 : mD cX3_figuresOf 4 (.iload_n 3) 1 5 := ⟨by decide +kernel, rfl⟩
theorem dX3_figuresOf_5 : mD cX3_figuresOf 5 (.bipush 6) 2 7 := ⟨by decide +kernel, rfl⟩
theorem dX3_figuresOf_7 : mJ cX3_figuresOf 7 (.if_icmp .ge) 10 32 := mJ.of (25) (by decide +kernel) rfl (by decide)
theorem dX3_figuresOf_10 : mD cX3_figuresOf 10 (.iload_n 2) 1 11 := ⟨by decide +kernel, rfl⟩
theorem dX3_figuresOf_11 : mD cX3_figuresOf 11 (.iconst 1) 1 12 := ⟨by decide +kernel, rfl⟩
theorem dX3_figuresOf_12 : mD cX3_figuresOf 12 (.aload_n 0) 1 13 := ⟨by decide +kernel, rfl⟩
theorem dX3_figuresOf_13 : mD cX3_figuresOf 13 (.getfield 9) 3 16 := ⟨by decide +kernel, rfl⟩
theorem dX3_figuresOf_16 : mD cX3_figuresOf 16 (.iload_n 1) 1 17 := ⟨by decide +kernel, rfl⟩
theorem dX3_figuresOf_17 : mD cX3_figuresOf 17 (.bipush 6) 2 19 := ⟨by decide +kernel, rfl⟩
theorem dX3_figuresOf_19 : mD cX3_figuresOf 19 .imul 1 20 := ⟨by decide +kernel, rfl⟩
theorem dX3_figuresOf_20 : mD cX3_figuresOf 20 (.iload_n 3) 1 21 := ⟨by decide +kernel, rfl⟩
theorem dX3_figuresOf_21 : mD cX3_figuresOf 21 .iadd 1 22 := ⟨by decide +kernel, rfl⟩
theorem dX3_figuresOf_22 : mD cX3_figuresOf 22 .iaload 1 23 := ⟨by decide +kernel, rfl⟩
theorem dX3_figuresOf_23 : mD cX3_figuresOf 23 .ishl 1 24 := ⟨by decide +kernel, rfl⟩
theorem dX3_figuresOf_24 : mD cX3_figuresOf 24 .ior 1 25 := ⟨by decide +kernel, rfl⟩
theorem dX3_figuresOf_25 : mD cX3_figuresOf 25 (.istore_n 2) 1 26 := ⟨by decide +kernel, rfl⟩
theorem dX3_figuresOf_26 : mD cX3_figuresOf 26 (.iinc 3 1) 3 29 := ⟨by decide +kernel, rfl⟩
theorem dX3_figuresOf_29 : mJ cX3_figuresOf 29 .goto 32 4 := mJ.of (-25) (by decide +kernel) rfl (by decide)
theorem dX3_figuresOf_32 : mD cX3_figuresOf 32 (.iload_n 2) 1 33 := ⟨by decide +kernel, rfl⟩
theorem dX3_figuresOf_33 : mD cX3_figuresOf 33 .ireturn 1 34 := ⟨by decide +kernel, rfl⟩
theorem dX3_turnCube_0 : mD cX3_turnCube 0 (.aload_n 0) 1 1 := ⟨by decide +kernel, rfl⟩
theorem dX3_turnCube_1 : mD cX3_turnCube 1 (.iconst 0) 1 2 := ⟨by decide +kernel, rfl⟩
theorem dX3_turnCube_2 : mD cX3_turnCube 2 (.iload_n 1) 1 3 := ⟨by decide +kernel, rfl⟩
theorem dX3_turnCube_3 : mD cX3_turnCube 3 (.aload_n 0) 1 4 := ⟨by decide +kernel, rfl⟩
theorem dX3_turnCube_4 : mD cX3_turnCube 4 (.getfield 18) 3 7 := ⟨by decide +kernel, rfl⟩
theorem dX3_turnCube_7 : mD cX3_turnCube 7 (.iload_n 1) 1 8 := ⟨by decide +kernel, rfl⟩
theorem dX3_turnCube_8 : mD cX3_turnCube 8 .iaload 1 9 := ⟨by decide +kernel, rfl⟩
theorem dX3_turnCube_9 : mD cX3_turnCube 9 (.invokevirtual 40) 3 12 := ⟨by decide +kernel, rfl⟩
theorem dX3_turnCube_12 : mD cX3_turnCube 12 (.aload_n 0) 1 13 := ⟨by decide +kernel, rfl⟩
theorem dX3_turnCube_13 : mD cX3_turnCube 13 (.aload_n 0) 1 14 := ⟨by decide +kernel, rfl⟩
theorem dX3_turnCube_14 : mD cX3_turnCube 14 (.getfield 18) 3 17 := ⟨by decide +kernel, rfl⟩
theorem dX3_turnCube_17 : mD cX3_turnCube 17 (.iload_n 1) 1 18 := ⟨by decide +kernel, rfl⟩
theorem dX3_turnCube_18 : mD cX3_turnCube 18 .iaload 1 19 := ⟨by decide +kernel, rfl⟩
theorem dX3_turnCube_19 : mD cX3_turnCube 19 (.iload_n 2) 1 20 := ⟨by decide +kernel, rfl⟩
theorem dX3_turnCube_20 : mD cX3_turnCube 20 (.invokestatic 44) 3 23 := ⟨by decide +kernel, rfl⟩
theorem dX3_turnCube_23 : mD cX3_turnCube 23 (.invokevirtual 48) 3 26 := ⟨by decide +kernel, rfl⟩
theorem dX3_turnCube_26 : mD cX3_turnCube 26 (.aload_n 0) 1 27 := ⟨by decide +kernel, rfl⟩
theorem dX3_turnCube_27 : mD cX3_turnCube 27 (.getfield 18) 3 30 := ⟨by decide +kernel, rfl⟩
theorem dX3_turnCube_30 : mD cX3_turnCube 30 (.iload_n 1) 1 31 := ⟨by decide +kernel, rfl⟩
theorem dX3_turnCube_31 : mD cX3_turnCube 31 (.iload_n 2) 1 32 := ⟨by decide +kernel, rfl⟩
theorem dX3_turnCube_32 : mD cX3_turnCube 32 .iastore 1 33 := ⟨by decide +kernel, rfl⟩
theorem dX3_turnCube_33 : mD cX3_turnCube 33 .return_ 1 34 := ⟨by decide +kernel, rfl⟩
theorem dX3_changePlaces_0 : mD cX3_changePlaces 0 (.aload_n 0) 1 1 := ⟨by decide +kernel, rfl⟩
theorem dX3_changePlaces_1 : mD cX3_changePlaces 1 (.iconst 1) 1 2 := ⟨by decide +kernel, rfl⟩
theorem dX3_changePlaces_2 : mD cX3_changePlaces 2 (.iload_n 1) 1 3 := ⟨by decide +kernel, rfl⟩
theorem dX3_changePlaces_3 : mD cX3_changePlaces 3 (.iload_n 2) 1 4 := ⟨by decide +kernel, rfl⟩
theorem dX3_changePlaces_4 : mD cX3_changePlaces 4 (.invokevirtual 40) 3 7 := ⟨by decide +kernel, rfl⟩
theorem dX3_changePlaces_7 : mD cX3_changePlaces 7 (.aload_n 0) 1 8 := ⟨by decide +kernel, rfl⟩
theorem dX3_changePlaces_8 : mD cX3_changePlaces 8 (.iconst 1) 1 9 := ⟨by decide +kernel, rfl⟩
theorem dX3_changePlaces_9 : mD cX3_changePlaces 9 (.invokevirtual 48) 3 12 := ⟨by decide +kernel, rfl⟩
theorem dX3_changePlaces_12 : mD cX3_changePlaces 12 (.aload_n 0) 1 13 := ⟨by decide +kernel, rfl⟩
theorem dX3_changePlaces_13 : mD cX3_changePlaces 13 (.iload_n 1) 1 14 := ⟨by decide +kernel, rfl⟩
theorem dX3_changePlaces_14 : mD cX3_changePlaces 14 (.iload_n 2) 1 15 := ⟨by decide +kernel, rfl⟩
theorem dX3_changePlaces_15 : mD cX3_changePlaces 15 (.invokevirtual 52) 3 18 := ⟨by decide +kernel, rfl⟩
theorem dX3_changePlaces_18 : mD cX3_changePlaces 18 .return_ 1 19 := ⟨by decide +kernel, rfl⟩
theorem dX3_pasteFigure_0 : mD cX3_pasteFigure 0 (.aload_n 0) 1 1 := ⟨by decide +kernel, rfl⟩
theorem dX3_pasteFigure_1 : mD cX3_pasteFigure 1 (.iconst 2) 1 2 := ⟨by decide +kernel, rfl⟩
theorem dX3_pasteFigure_2 : mD cX3_pasteFigure 2 (.iload_n 1) 1 3 := ⟨by decide +kernel, rfl⟩
theorem dX3_pasteFigure_3 : mD cX3_pasteFigure 3 (.aload_n 0) 1 4 := ⟨by decide +kernel, rfl⟩
theorem dX3_pasteFigure_4 : mD cX3_pasteFigure 4 (.getfield 9) 3 7 := ⟨by decide +kernel, rfl⟩
theorem dX3_pasteFigure_7 : mD cX3_pasteFigure 7 (.iload_n 1) 1 8 := ⟨by decide +kernel, rfl⟩
theorem dX3_pasteFigure_8 : mD cX3_pasteFigure 8 .iaload 1 9 := ⟨by decide +kernel, rfl⟩
theorem dX3_pasteFigure_9 : mD cX3_pasteFigure 9 (.invokevirtual 40) 3 12 := ⟨by decide +kernel, rfl⟩
theorem dX3_pasteFigure_12 : mD cX3_pasteFigure 12 (.aload_n 0) 1 13 := ⟨by decide +kernel, rfl⟩
theorem dX3_pasteFigure_13 : mD cX3_pasteFigure 13 (.getfield 9) 3 16 := ⟨by decide +kernel, rfl⟩
theorem dX3_pasteFigure_16 : mD cX3_pasteFigure 16 (.iload_n 1) 1 17 := ⟨by decide +kernel, rfl⟩
theorem dX3_pasteFigure_17 : mD cX3_pasteFigure 17 (.iload_n 2) 1 18 := ⟨by decide +kernel, rfl⟩
theorem dX3_pasteFigure_18 : mD cX3_pasteFigure 18 .iastore 1 19 := ⟨by decide +kernel, rfl⟩
theorem dX3_pasteFigure_19 : mD cX3_pasteFigure 19 .return_ 1 20 := ⟨by decide +kernel, rfl⟩
theorem dX3_takeBack_0 : mD cX3_takeBack 0 (.aload_n 0) 1 1 := ⟨by decide +kernel, rfl⟩
theorem dX3_takeBack_1 : mD cX3_takeBack 1 (.getfield 33) 3 4 := ⟨by decide +kernel, rfl⟩
theorem dX3_takeBack_4 : mJ cX3_takeBack 4 (.ifCond .gt) 7 8 := mJ.of (4) (by decide +kernel) rfl (by decide)
theorem dX3_takeBack_7 : mD cX3_takeBack 7 .return_ 1 8 := ⟨by decide +kernel, rfl⟩
theorem dX3_takeBack_8 : mD cX3_takeBack 8 (.aload_n 0) 1 9 := ⟨by decide +kernel, rfl⟩
theorem dX3_takeBack_9 : mD cX3_takeBack 9 .dup 1 10 := ⟨by decide +kernel, rfl⟩
theorem dX3_takeBack_10 : mD cX3_takeBack 10 (.getfield 33) 3 13 := ⟨by decide +kernel, rfl⟩
theorem dX3_takeBack_13 : mD cX3_takeBack 13 (.iconst 1) 1 14 := ⟨by decide +kernel, rfl⟩
theorem dX3_takeBack_14 : mD cX3_takeBack 14 .isub 1 15 := ⟨by decide +kernel, rfl⟩
theorem dX3_takeBack_15 : mD cX3_takeBack 15 (.putfield 33) 3 18 := ⟨by decide +kernel, rfl⟩
theorem dX3_takeBack_18 : mD cX3_takeBack 18 (.aload_n 0) 1 19 := ⟨by decide +kernel, rfl⟩
theorem dX3_takeBack_19 : mD cX3_takeBack 19 (.getfield 33) 3 22 := ⟨by decide +kernel, rfl⟩
theorem dX3_takeBack_22 : mD cX3_takeBack 22 (.iconst 4) 1 23 := ⟨by decide +kernel, rfl⟩
theorem dX3_takeBack_23 : mD cX3_takeBack 23 .imul 1 24 := ⟨by decide +kernel, rfl⟩
theorem dX3_takeBack_24 : mD cX3_takeBack 24 (.istore_n 1) 1 25 := ⟨by decide +kernel, rfl⟩
theorem dX3_takeBack_25 : mD cX3_takeBack 25 (.aload_n 0) 1 26 := ⟨by decide +kernel, rfl⟩
theorem dX3_takeBack_26 : mD cX3_takeBack 26 (.getfield 21) 3 29 := ⟨by decide +kernel, rfl⟩
theorem dX3_takeBack_29 : mD cX3_takeBack 29 (.iload_n 1) 1 30 := ⟨by decide +kernel, rfl⟩
theorem dX3_takeBack_30 : mD cX3_takeBack 30 (.iconst 1) 1 31 := ⟨by decide +kernel, rfl⟩
theorem dX3_takeBack_31 : mD cX3_takeBack 31 .iadd 1 32 := ⟨by decide +kernel, rfl⟩
theorem dX3_takeBack_32 : mD cX3_takeBack 32 .iaload 1 33 := ⟨by decide +kernel, rfl⟩
theorem dX3_takeBack_33 : mD cX3_takeBack 33 (.istore_n 2) 1 34 := ⟨by decide +kernel, rfl⟩
theorem dX3_takeBack_34 : mD cX3_takeBack 34 (.aload_n 0) 1 35 := ⟨by decide +kernel, rfl⟩
theorem dX3_takeBack_35 : mD cX3_takeBack 35 (.getfield 21) 3 38 := ⟨by decide +kernel, rfl⟩
theorem dX3_takeBack_38 : mD cX3_takeBack 38 (.iload_n 1) 1 39 := ⟨by decide +kernel, rfl⟩
theorem dX3_takeBack_39 : mD cX3_takeBack 39 (.iconst 2) 1 40 := ⟨by decide +kernel, rfl⟩
theorem dX3_takeBack_40 : mD cX3_takeBack 40 .iadd 1 41 := ⟨by decide +kernel, rfl⟩
theorem dX3_takeBack_41 : mD cX3_takeBack 41 .iaload 1 42 := ⟨by decide +kernel, rfl⟩
theorem dX3_takeBack_42 : mD cX3_takeBack 42 (.istore_n 3) 1 43 := ⟨by decide +kernel, rfl⟩
theorem dX3_takeBack_43 : mD cX3_takeBack 43 (.aload_n 0) 1 44 := ⟨by decide +kernel, rfl⟩
theorem dX3_takeBack_44 : mD cX3_takeBack 44 (.getfield 21) 3 47 := ⟨by decide +kernel, rfl⟩
theorem dX3_takeBack_47 : mD cX3_takeBack 47 (.iload_n 1) 1 48 := ⟨by decide +kernel, rfl⟩
theorem dX3_takeBack_48 : mD cX3_takeBack 48 .iaload 1 49 := ⟨by decide +kernel, rfl⟩
theorem dX3_takeBack_49 : decode cX3_takeBack 49 = .ok (.lookupswitch 46 #[(0, 27), (1, 37)], 27) := by decide +kernel
theorem dX3_takeBack_76 : mD cX3_takeBack 76 (.aload_n 0) 1 77 := ⟨by decide +kernel, rfl⟩
theorem dX3_takeBack_77 : mD cX3_takeBack 77 (.getfield 18) 3 80 := ⟨by decide +kernel, rfl⟩
theorem dX3_takeBack_80 : mD cX3_takeBack 80 (.iload_n 2) 1 81 := ⟨by decide +kernel, rfl⟩
theorem dX3_takeBack_81 : mD cX3_takeBack 81 (.iload_n 3) 1 82 := ⟨by decide +kernel, rfl⟩
theorem dX3_takeBack_82 : mD cX3_takeBack 82 .iastore 1 83 := ⟨by decide +kernel, rfl⟩
theorem dX3_takeBack_83 : mJ cX3_takeBack 83 .goto 86 102 := mJ.of (19) (by decide +kernel) rfl (by decide)
theorem dX3_takeBack_86 : mD cX3_takeBack 86 (.aload_n 0) 1 87 := ⟨by decide +kernel, rfl⟩
theorem dX3_takeBack_87 : mD cX3_takeBack 87 (.iload_n 2) 1 88 := ⟨by decide +kernel, rfl⟩
theorem dX3_takeBack_88 : mD cX3_takeBack 88 (.iload_n 3) 1 89 := ⟨by decide +kernel, rfl⟩
theorem dX3_takeBack_89 : mD cX3_takeBack 89 (.invokevirtual 52) 3 92 := ⟨by decide +kernel, rfl⟩
theorem dX3_takeBack_92 : mJ cX3_takeBack 92 .goto 95 102 := mJ.of (10) (by decide +kernel) rfl (by decide)
theorem dX3_takeBack_95 : mD cX3_takeBack 95 (.aload_n 0) 1 96 := ⟨by decide +kernel, rfl⟩
theorem dX3_takeBack_96 : mD cX3_takeBack 96 (.getfield 9) 3 99 := ⟨by decide +kernel, rfl⟩
theorem dX3_takeBack_99 : mD cX3_takeBack 99 (.iload_n 2) 1 100 := ⟨by decide +kernel, rfl⟩
theorem dX3_takeBack_100 : mD cX3_takeBack 100 (.iload_n 3) 1 101 := ⟨by decide +kernel, rfl⟩
theorem dX3_takeBack_101 : mD cX3_takeBack 101 .iastore 1 102 := ⟨by decide +kernel, rfl⟩
theorem dX3_takeBack_102 : mD cX3_takeBack 102 (.aload_n 0) 1 103 := ⟨by decide +kernel, rfl⟩
theorem dX3_takeBack_103 : mD cX3_takeBack 103 (.aload_n 0) 1 104 := ⟨by decide +kernel, rfl⟩
theorem dX3_takeBack_104 : mD cX3_takeBack 104 (.getfield 21) 3 107 := ⟨by decide +kernel, rfl⟩
theorem dX3_takeBack_107 : mD cX3_takeBack 107 (.iload_n 1) 1 108 := ⟨by decide +kernel, rfl⟩
theorem dX3_takeBack_108 : mD cX3_takeBack 108 (.iconst 3) 1 109 := ⟨by decide +kernel, rfl⟩
theorem dX3_takeBack_109 : mD cX3_takeBack 109 .iadd 1 110 := ⟨by decide +kernel, rfl⟩
theorem dX3_takeBack_110 : mD cX3_takeBack 110 .iaload 1 111 := ⟨by decide +kernel, rfl⟩
theorem dX3_takeBack_111 : mD cX3_takeBack 111 (.putfield 37) 3 114 := ⟨by decide +kernel, rfl⟩
theorem dX3_takeBack_114 : mD cX3_takeBack 114 .return_ 1 115 := ⟨by decide +kernel, rfl⟩
theorem dX3_turnWork_0 : mD cX3_turnWork 0 (.iload_n 0) 1 1 := ⟨by decide +kernel, rfl⟩
theorem dX3_turnWork_1 : mD cX3_turnWork 1 (.iload_n 1) 1 2 := ⟨by decide +kernel, rfl⟩
theorem dX3_turnWork_2 : mJ cX3_turnWork 2 (.if_icmp .ne) 5 7 := mJ.of (5) (by decide +kernel) rfl (by decide)
theorem dX3_turnWork_5 : mD cX3_turnWork 5 (.iconst 0) 1 6 := ⟨by decide +kernel, rfl⟩
theorem dX3_turnWork_6 : mD cX3_turnWork 6 .ireturn 1 7 := ⟨by decide +kernel, rfl⟩
theorem dX3_turnWork_7 : mD cX3_turnWork 7 (.iload_n 0) 1 8 := ⟨by decide +kernel, rfl⟩
theorem dX3_turnWork_8 : mD cX3_turnWork 8 (.iload_n 1) 1 9 := ⟨by decide +kernel, rfl⟩
theorem dX3_turnWork_9 : mD cX3_turnWork 9 .iadd 1 10 := ⟨by decide +kernel, rfl⟩
theorem dX3_turnWork_10 : mD cX3_turnWork 10 (.iconst 5) 1 11 := ⟨by decide +kernel, rfl⟩
theorem dX3_turnWork_11 : mJ cX3_turnWork 11 (.if_icmp .ne) 14 18 := mJ.of (7) (by decide +kernel) rfl (by decide)
theorem dX3_turnWork_14 : mD cX3_turnWork 14 (.iconst 2) 1 15 := ⟨by decide +kernel, rfl⟩
theorem dX3_turnWork_15 : mJ cX3_turnWork 15 .goto 18 19 := mJ.of (4) (by decide +kernel) rfl (by decide)
theorem dX3_turnWork_18 : mD cX3_turnWork 18 (.iconst 1) 1 19 := ⟨by decide +kernel, rfl⟩
theorem dX3_turnWork_19 : mD cX3_turnWork 19 .ireturn 1 20 := ⟨by decide +kernel, rfl⟩
theorem dX3_remember_0 : mD cX3_remember 0 (.aload_n 0) 1 1 := ⟨by decide +kernel, rfl⟩
theorem dX3_remember_1 : mD cX3_remember 1 (.getfield 33) 3 4 := ⟨by decide +kernel, rfl⟩
theorem dX3_remember_4 : mD cX3_remember 4 (.bipush 10) 2 6 := ⟨by decide +kernel, rfl⟩
theorem dX3_remember_6 : mJ cX3_remember 6 (.if_icmp .lt) 9 30 := mJ.of (24) (by decide +kernel) rfl (by decide)
theorem dX3_remember_9 : mD cX3_remember 9 (.aload_n 0) 1 10 := ⟨by decide +kernel, rfl⟩
theorem dX3_remember_10 : mD cX3_remember 10 (.getfield 21) 3 13 := ⟨by decide +kernel, rfl⟩
theorem dX3_remember_13 : mD cX3_remember 13 (.iconst 4) 1 14 := ⟨by decide +kernel, rfl⟩
theorem dX3_remember_14 : mD cX3_remember 14 (.aload_n 0) 1 15 := ⟨by decide +kernel, rfl⟩
theorem dX3_remember_15 : mD cX3_remember 15 (.getfield 21) 3 18 := ⟨by decide +kernel, rfl⟩
theorem dX3_remember_18 : mD cX3_remember 18 (.iconst 0) 1 19 := ⟨by decide +kernel, rfl⟩
theorem dX3_remember_19 : mD cX3_remember 19 (.bipush 36) 2 21 := ⟨by decide +kernel, rfl⟩
theorem dX3_remember_21 : mD cX3_remember 21 (.invokestatic 27) 3 24 := ⟨by decide +kernel, rfl⟩
theorem dX3_remember_24 : mD cX3_remember 24 (.aload_n 0) 1 25 := ⟨by decide +kernel, rfl⟩
theorem dX3_remember_25 : mD cX3_remember 25 (.bipush 9) 2 27 := ⟨by decide +kernel, rfl⟩
theorem dX3_remember_27 : mD cX3_remember 27 (.putfield 33) 3 30 := ⟨by decide +kernel, rfl⟩
theorem dX3_remember_30 : mD cX3_remember 30 (.aload_n 0) 1 31 := ⟨by decide +kernel, rfl⟩
theorem dX3_remember_31 : mD cX3_remember 31 (.getfield 33) 3 34 := ⟨by decide +kernel, rfl⟩
theorem dX3_remember_34 : mD cX3_remember 34 (.iconst 4) 1 35 := ⟨by decide +kernel, rfl⟩
theorem dX3_remember_35 : mD cX3_remember 35 .imul 1 36 := ⟨by decide +kernel, rfl⟩
theorem dX3_remember_36 : mD cX3_remember 36 (.istore 4) 2 38 := ⟨by decide +kernel, rfl⟩
theorem dX3_remember_38 : mD cX3_remember 38 (.aload_n 0) 1 39 := ⟨by decide +kernel, rfl⟩
theorem dX3_remember_39 : mD cX3_remember 39 (.getfield 21) 3 42 := ⟨by decide +kernel, rfl⟩
theorem dX3_remember_42 : mD cX3_remember 42 (.iload 4) 2 44 := ⟨by decide +kernel, rfl⟩
theorem dX3_remember_44 : mD cX3_remember 44 (.iload_n 1) 1 45 := ⟨by decide +kernel, rfl⟩
theorem dX3_remember_45 : mD cX3_remember 45 .iastore 1 46 := ⟨by decide +kernel, rfl⟩
theorem dX3_remember_46 : mD cX3_remember 46 (.aload_n 0) 1 47 := ⟨by decide +kernel, rfl⟩
theorem dX3_remember_47 : mD cX3_remember 47 (.getfield 21) 3 50 := ⟨by decide +kernel, rfl⟩
theorem dX3_remember_50 : mD cX3_remember 50 (.iload 4) 2 52 := ⟨by decide +kernel, rfl⟩
theorem dX3_remember_52 : mD cX3_remember 52 (.iconst 1) 1 53 := ⟨by decide +kernel, rfl⟩
theorem dX3_remember_53 : mD cX3_remember 53 .iadd 1 54 := ⟨by decide +kernel, rfl⟩
theorem dX3_remember_54 : mD cX3_remember 54 (.iload_n 2) 1 55 := ⟨by decide +kernel, rfl⟩
theorem dX3_remember_55 : mD cX3_remember 55 .iastore 1 56 := ⟨by decide +kernel, rfl⟩
theorem dX3_remember_56 : mD cX3_remember 56 (.aload_n 0) 1 57 := ⟨by decide +kernel, rfl⟩
theorem dX3_remember_57 : mD cX3_remember 57 (.getfield 21) 3 60 := ⟨by decide +kernel, rfl⟩
theorem dX3_remember_60 : mD cX3_remember 60 (.iload 4) 2 62 := ⟨by decide +kernel, rfl⟩
theorem dX3_remember_62 : mD cX3_remember 62 (.iconst 2) 1 63 := ⟨by decide +kernel, rfl⟩
theorem dX3_remember_63 : mD cX3_remember 63 .iadd 1 64 := ⟨by decide +kernel, rfl⟩
theorem dX3_remember_64 : mD cX3_remember 64 (.iload_n 3) 1 65 := ⟨by decide +kernel, rfl⟩
theorem dX3_remember_65 : mD cX3_remember 65 .iastore 1 66 := ⟨by decide +kernel, rfl⟩
theorem dX3_remember_66 : mD cX3_remember 66 (.aload_n 0) 1 67 := ⟨by decide +kernel, rfl⟩
theorem dX3_remember_67 : mD cX3_remember 67 (.getfield 21) 3 70 := ⟨by decide +kernel, rfl⟩
theorem dX3_remember_70 : mD cX3_remember 70 (.iload 4) 2 72 := ⟨by decide +kernel, rfl⟩
theorem dX3_remember_72 : mD cX3_remember 72 (.iconst 3) 1 73 := ⟨by decide +kernel, rfl⟩
theorem dX3_remember_73 : mD cX3_remember 73 .iadd 1 74 := ⟨by decide +kernel, rfl⟩
theorem dX3_remember_74 : mD cX3_remember 74 (.aload_n 0) 1 75 := ⟨by decide +kernel, rfl⟩
theorem dX3_remember_75 : mD cX3_remember 75 (.getfield 37) 3 78 := ⟨by decide +kernel, rfl⟩
theorem dX3_remember_78 : mD cX3_remember 78 .iastore 1 79 := ⟨by decide +kernel, rfl⟩
theorem dX3_remember_79 : mD cX3_remember 79 (.aload_n 0) 1 80 := ⟨by decide +kernel, rfl⟩
theorem dX3_remember_80 : mD cX3_remember 80 .dup 1 81 := ⟨by decide +kernel, rfl⟩
theorem dX3_remember_81 : mD cX3_remember 81 (.getfield 33) 3 84 := ⟨by decide +kernel, rfl⟩
theorem dX3_remember_84 : mD cX3_remember 84 (.iconst 1) 1 85 := ⟨by decide +kernel, rfl⟩
theorem dX3_remember_85 : mD cX3_remember 85 .iadd 1 86 := ⟨by decide +kernel, rfl⟩
theorem dX3_remember_86 : mD cX3_remember 86 (.putfield 33) 3 89 := ⟨by decide +kernel, rfl⟩
theorem dX3_remember_89 : mD cX3_remember 89 .return_ 1 90 := ⟨by decide +kernel, rfl⟩
theorem dX3_addWork_0 : mD cX3_addWork 0 (.aload_n 0) 1 1 := ⟨by decide +kernel, rfl⟩
theorem dX3_addWork_1 : mD cX3_addWork 1 (.aload_n 0) 1 2 := ⟨by decide +kernel, rfl⟩
theorem dX3_addWork_2 : mD cX3_addWork 2 (.getfield 37) 3 5 := ⟨by decide +kernel, rfl⟩
theorem dX3_addWork_5 : mD cX3_addWork 5 (.iload_n 1) 1 6 := ⟨by decide +kernel, rfl⟩
theorem dX3_addWork_6 : mD cX3_addWork 6 .iadd 1 7 := ⟨by decide +kernel, rfl⟩
theorem dX3_addWork_7 : mD cX3_addWork 7 (.sipush 9999) 3 10 := ⟨by decide +kernel, rfl⟩
theorem dX3_addWork_10 : mD cX3_addWork 10 (.invokestatic 56) 3 13 := ⟨by decide +kernel, rfl⟩
theorem dX3_addWork_13 : mD cX3_addWork 13 (.putfield 37) 3 16 := ⟨by decide +kernel, rfl⟩
theorem dX3_addWork_16 : mD cX3_addWork 16 .return_ 1 17 := ⟨by decide +kernel, rfl⟩
theorem dX3_exchange_0 : mD cX3_exchange 0 (.aload_n 0) 1 1 := ⟨by decide +kernel, rfl⟩
theorem dX3_exchange_1 : mD cX3_exchange 1 (.getfield 15) 3 4 := ⟨by decide +kernel, rfl⟩
theorem dX3_exchange_4 : mD cX3_exchange 4 (.iload_n 1) 1 5 := ⟨by decide +kernel, rfl⟩
theorem dX3_exchange_5 : mD cX3_exchange 5 .iaload 1 6 := ⟨by decide +kernel, rfl⟩
theorem dX3_exchange_6 : mD cX3_exchange 6 (.istore_n 3) 1 7 := ⟨by decide +kernel, rfl⟩
theorem dX3_exchange_7 : mD cX3_exchange 7 (.aload_n 0) 1 8 := ⟨by decide +kernel, rfl⟩
theorem dX3_exchange_8 : mD cX3_exchange 8 (.getfield 15) 3 11 := ⟨by decide +kernel, rfl⟩
theorem dX3_exchange_11 : mD cX3_exchange 11 (.iload_n 1) 1 12 := ⟨by decide +kernel, rfl⟩
theorem dX3_exchange_12 : mD cX3_exchange 12 (.aload_n 0) 1 13 := ⟨by decide +kernel, rfl⟩
theorem dX3_exchange_13 : mD cX3_exchange 13 (.getfield 15) 3 16 := ⟨by decide +kernel, rfl⟩
theorem dX3_exchange_16 : mD cX3_exchange 16 (.iload_n 2) 1 17 := ⟨by decide +kernel, rfl⟩
theorem dX3_exchange_17 : mD cX3_exchange 17 .iaload 1 18 := ⟨by decide +kernel, rfl⟩
theorem dX3_exchange_18 : mD cX3_exchange 18 .iastore 1 19 := ⟨by decide +kernel, rfl⟩
theorem dX3_exchange_19 : mD cX3_exchange 19 (.aload_n 0) 1 20 := ⟨by decide +kernel, rfl⟩
theorem dX3_exchange_20 : mD cX3_exchange 20 (.getfield 15) 3 23 := ⟨by decide +kernel, rfl⟩
theorem dX3_exchange_23 : mD cX3_exchange 23 (.iload_n 2) 1 24 := ⟨by decide +kernel, rfl⟩
theorem dX3_exchange_24 : mD cX3_exchange 24 (.iload_n 3) 1 25 := ⟨by decide +kernel, rfl⟩
theorem dX3_exchange_25 : mD cX3_exchange 25 .iastore 1 26 := ⟨by decide +kernel, rfl⟩
theorem dX3_exchange_26 : mD cX3_exchange 26 .return_ 1 27 := ⟨by decide +kernel, rfl⟩
theorem dX4_init_0 : mD cX4_init 0 (.aload_n 0) 1 1 := ⟨by decide +kernel, rfl⟩
theorem dX4_init_1 : mD cX4_init 1 (.invokespecial 3) 3 4 := ⟨by decide +kernel, rfl⟩
theorem dX4_init_4 : mD cX4_init 4 (.aload_n 0) 1 5 := ⟨by decide +kernel, rfl⟩
theorem dX4_init_5 : mD cX4_init 5 (.bipush 10) 2 7 := ⟨by decide +kernel, rfl⟩
theorem dX4_init_7 : mD cX4_init 7 (.newarray .int) 2 9 := ⟨by decide +kernel, rfl⟩
theorem dX4_init_9 : mD cX4_init 9 (.putfield 9) 3 12 := ⟨by decide +kernel, rfl⟩
theorem dX4_init_12 : mD cX4_init 12 .return_ 1 13 := ⟨by decide +kernel, rfl⟩
theorem dX4_take_0 : mD cX4_take 0 (.aload_n 0) 1 1 := ⟨by decide +kernel, rfl⟩
theorem dX4_take_1 : mD cX4_take 1 (.aload_n 1) 1 2 := ⟨by decide +kernel, rfl⟩
theorem dX4_take_2 : mD cX4_take 2 (.getfield 15) 3 5 := ⟨by decide +kernel, rfl⟩
theorem dX4_take_5 : mD cX4_take 5 (.putfield 21) 3 8 := ⟨by decide +kernel, rfl⟩
theorem dX4_take_8 : mD cX4_take 8 (.aload_n 0) 1 9 := ⟨by decide +kernel, rfl⟩
theorem dX4_take_9 : mD cX4_take 9 (.getfield 9) 3 12 := ⟨by decide +kernel, rfl⟩
theorem dX4_take_12 : mD cX4_take 12 (.iconst 0) 1 13 := ⟨by decide +kernel, rfl⟩
theorem dX4_take_13 : mD cX4_take 13 (.invokestatic 22) 3 16 := ⟨by decide +kernel, rfl⟩
theorem dX4_take_16 : mD cX4_take 16 (.iconst 0) 1 17 := ⟨by decide +kernel, rfl⟩
theorem dX4_take_17 : mD cX4_take 17 (.istore 4) 2 19 := ⟨by decide +kernel, rfl⟩
theorem dX4_take_19 : mD cX4_take 19 (.iload 4) 2 21 := ⟨by decide +kernel, rfl⟩
theorem dX4_take_21 : mD cX4_take 21 (.aload_n 0) 1 22 := ⟨by decide +kernel, rfl⟩
theorem dX4_take_22 : mD cX4_take 22 (.getfield 21) 3 25 := ⟨by decide +kernel, rfl⟩
theorem dX4_take_25 : mD cX4_take 25 (.bipush 6) 2 27 := ⟨by decide +kernel, rfl⟩
theorem dX4_take_27 : mD cX4_take 27 .imul 1 28 := ⟨by decide +kernel, rfl⟩
theorem dX4_take_28 : mJ cX4_take 28 (.if_icmp .ge) 31 65 := mJ.of (37) (by decide +kernel) rfl (by decide)
theorem dX4_take_31 : mD cX4_take 31 (.iload 4) 2 33 := ⟨by decide +kernel, rfl⟩
theorem dX4_take_33 : mD cX4_take 33 (.iload_n 3) 1 34 := ⟨by decide +kernel, rfl⟩
theorem dX4_take_34 : mJ cX4_take 34 (.if_icmp .eq) 37 59 := mJ.of (25) (by decide +kernel) rfl (by decide)
theorem dX4_take_37 : mD cX4_take 37 (.aload_n 0) 1 38 := ⟨by decide +kernel, rfl⟩
theorem dX4_take_38 : mD cX4_take 38 (.getfield 9) 3 41 := ⟨by decide +kernel, rfl⟩
theorem dX4_take_41 : mD cX4_take 41 (.aload_n 2) 1 42 := ⟨by decide +kernel, rfl⟩
theorem dX4_take_42 : mD cX4_take 42 (.getfield 28) 3 45 := ⟨by decide +kernel, rfl⟩
theorem dX4_take_45 : mD cX4_take 45 (.iload 4) 2 47 := ⟨by decide +kernel, rfl⟩
theorem dX4_take_47 : mD cX4_take 47 .iaload 1 48 := ⟨by decide +kernel, rfl⟩
theorem dX4_take_48 : mD cX4_take 48 .dup2 1 49 := ⟨by decide +kernel, rfl⟩
theorem dX4_take_49 : mD cX4_take 49 .iaload 1 50 := ⟨by decide +kernel, rfl⟩
theorem dX4_take_50 : mD cX4_take 50 (.iconst 1) 1 51 := ⟨by decide +kernel, rfl⟩
theorem dX4_take_51 : mD cX4_take 51 (.iload 4) 2 53 := ⟨by decide +kernel, rfl⟩
theorem dX4_take_53 : mD cX4_take 53 (.bipush 6) 2 55 := ⟨by decide +kernel, rfl⟩
theorem dX4_take_55 : mD cX4_take 55 .idiv 1 56 := ⟨by decide +kernel, rfl⟩
theorem dX4_take_56 : mD cX4_take 56 .ishl 1 57 := ⟨by decide +kernel, rfl⟩
theorem dX4_take_57 : mD cX4_take 57 .ior 1 58 := ⟨by decide +kernel, rfl⟩
theorem dX4_take_58 : mD cX4_take 58 .iastore 1 59 := ⟨by decide +kernel, rfl⟩
theorem dX4_take_59 : mD cX4_take 59 (.iinc 4 1) 3 62 := ⟨by decide +kernel, rfl⟩
theorem dX4_take_62 : mJ cX4_take 62 .goto 65 19 := mJ.of (-43) (by decide +kernel) rfl (by decide)
theorem dX4_take_65 : mD cX4_take 65 (.aload_n 1) 1 66 := ⟨by decide +kernel, rfl⟩
theorem dX4_take_66 : mD cX4_take 66 (.getfield 33) 3 69 := ⟨by decide +kernel, rfl⟩
theorem dX4_take_69 : mJ cX4_take 69 (.ifCond .eq) 72 103 := mJ.of (34) (by decide +kernel) rfl (by decide)
theorem dX4_take_72 : mD cX4_take 72 (.aload_n 0) 1 73 := ⟨by decide +kernel, rfl⟩
theorem dX4_take_73 : mD cX4_take 73 (.getfield 9) 3 76 := ⟨by decide +kernel, rfl⟩
theorem dX4_take_76 : mD cX4_take 76 (.bipush 6) 2 78 := ⟨by decide +kernel, rfl⟩
theorem dX4_take_78 : mD cX4_take 78 .dup2 1 79 := ⟨by decide +kernel, rfl⟩
theorem dX4_take_79 : mD cX4_take 79 .iaload 1 80 := ⟨by decide +kernel, rfl⟩
theorem dX4_take_80 : mD cX4_take 80 (.aload_n 0) 1 81 := ⟨by decide +kernel, rfl⟩
theorem dX4_take_81 : mD cX4_take 81 (.getfield 9) 3 84 := ⟨by decide +kernel, rfl⟩
theorem dX4_take_84 : mD cX4_take 84 (.bipush 9) 2 86 := ⟨by decide +kernel, rfl⟩
theorem dX4_take_86 : mD cX4_take 86 .iaload 1 87 := ⟨by decide +kernel, rfl⟩
theorem dX4_take_87 : mD cX4_take 87 .ior 1 88 := ⟨by decide +kernel, rfl⟩
theorem dX4_take_88 : mD cX4_take 88 .iastore 1 89 := ⟨by decide +kernel, rfl⟩
theorem dX4_take_89 : mD cX4_take 89 (.aload_n 0) 1 90 := ⟨by decide +kernel, rfl⟩
theorem dX4_take_90 : mD cX4_take 90 (.getfield 9) 3 93 := ⟨by decide +kernel, rfl⟩
theorem dX4_take_93 : mD cX4_take 93 (.bipush 9) 2 95 := ⟨by decide +kernel, rfl⟩
theorem dX4_take_95 : mD cX4_take 95 (.aload_n 0) 1 96 := ⟨by decide +kernel, rfl⟩
theorem dX4_take_96 : mD cX4_take 96 (.getfield 9) 3 99 := ⟨by decide +kernel, rfl⟩
theorem dX4_take_99 : mD cX4_take 99 (.bipush 6) 2 101 := ⟨by decide +kernel, rfl⟩
theorem dX4_take_101 : mD cX4_take 101 .iaload 1 102 := ⟨by decide +kernel, rfl⟩
theorem dX4_take_102 : mD cX4_take 102 .iastore 1 103 := ⟨by decide +kernel, rfl⟩
theorem dX4_take_103 : mD cX4_take 103 .return_ 1 104 := ⟨by decide +kernel, rfl⟩
theorem dX4_canTell_0 : mD cX4_canTell 0 (.iconst 1) 1 1 := ⟨by decide +kernel, rfl⟩
theorem dX4_canTell_1 : mD cX4_canTell 1 (.istore_n 2) 1 2 := ⟨by decide +kernel, rfl⟩
theorem dX4_canTell_2 : mD cX4_canTell 2 (.iload_n 1) 1 3 := ⟨by decide +kernel, rfl⟩
theorem dX4_canTell_3 : mD cX4_canTell 3 (.istore_n 3) 1 4 := ⟨by decide +kernel, rfl⟩
theorem dX4_canTell_4 : mD cX4_canTell 4 (.iconst 0) 1 5 := ⟨by decide +kernel, rfl⟩
theorem dX4_canTell_5 : mD cX4_canTell 5 (.istore 4) 2 7 := ⟨by decide +kernel, rfl⟩
theorem dX4_canTell_7 : mD cX4_canTell 7 (.iload 4) 2 9 := ⟨by decide +kernel, rfl⟩
theorem dX4_canTell_9 : mD cX4_canTell 9 (.aload_n 0) 1 10 := ⟨by decide +kernel, rfl⟩
theorem dX4_canTell_10 : mD cX4_canTell 10 (.getfield 21) 3 13 := ⟨by decide +kernel, rfl⟩
theorem dX4_canTell_13 : mJ cX4_canTell 13 (.if_icmp .ge) 16 37 := mJ.of (24) (by decide +kernel) rfl (by decide)
theorem dX4_canTell_16 : mD cX4_canTell 16 (.aload_n 0) 1 17 := ⟨by decide +kernel, rfl⟩
theorem dX4_canTell_17 : mD cX4_canTell 17 (.iload_n 2) 1 18 := ⟨by decide +kernel, rfl⟩
theorem dX4_canTell_18 : mD cX4_canTell 18 (.iload_n 3) 1 19 := ⟨by decide +kernel, rfl⟩
theorem dX4_canTell_19 : mD cX4_canTell 19 (.bipush 10) 2 21 := ⟨by decide +kernel, rfl⟩
theorem dX4_canTell_21 : mD cX4_canTell 21 .irem 1 22 := ⟨by decide +kernel, rfl⟩
theorem dX4_canTell_22 : mD cX4_canTell 22 (.invokevirtual 37) 3 25 := ⟨by decide +kernel, rfl⟩
theorem dX4_canTell_25 : mD cX4_canTell 25 (.istore_n 2) 1 26 := ⟨by decide +kernel, rfl⟩
theorem dX4_canTell_26 : mD cX4_canTell 26 (.iload_n 3) 1 27 := ⟨by decide +kernel, rfl⟩
theorem dX4_canTell_27 : mD cX4_canTell 27 (.bipush 10) 2 29 := ⟨by decide +kernel, rfl⟩
theorem dX4_canTell_29 : mD cX4_canTell 29 .idiv 1 30 := ⟨by decide +kernel, rfl⟩
theorem dX4_canTell_30 : mD cX4_canTell 30 (.istore_n 3) 1 31 := ⟨by decide +kernel, rfl⟩
theorem dX4_canTell_31 : mD cX4_canTell 31 (.iinc 4 1) 3 34 := ⟨by decide +kernel, rfl⟩
theorem dX4_canTell_34 : mJ cX4_canTell 34 .goto 37 7 := mJ.of (-27) (by decide +kernel) rfl (by decide)
theorem dX4_canTell_37 : mD cX4_canTell 37 (.iload_n 2) 1 38 := ⟨by decide +kernel, rfl⟩
theorem dX4_canTell_38 : mJ cX4_canTell 38 (.ifCond .eq) 41 45 := mJ.of (7) (by decide +kernel) rfl (by decide)
theorem dX4_canTell_41 : mD cX4_canTell 41 (.iconst 1) 1 42 := ⟨by decide +kernel, rfl⟩
theorem dX4_canTell_42 : mJ cX4_canTell 42 .goto 45 46 := mJ.of (4) (by decide +kernel) rfl (by decide)
theorem dX4_canTell_45 : mD cX4_canTell 45 (.iconst 0) 1 46 := ⟨by decide +kernel, rfl⟩
theorem dX4_canTell_46 : mD cX4_canTell 46 .ireturn 1 47 := ⟨by decide +kernel, rfl⟩
theorem dX4_daysDone_0 : mD cX4_daysDone 0 (.iconst 0) 1 1 := ⟨by decide +kernel, rfl⟩
theorem dX4_daysDone_1 : mD cX4_daysDone 1 (.istore_n 2) 1 2 := ⟨by decide +kernel, rfl⟩
theorem dX4_daysDone_2 : mD cX4_daysDone 2 (.iconst 0) 1 3 := ⟨by decide +kernel, rfl⟩
theorem dX4_daysDone_3 : mD cX4_daysDone 3 (.istore_n 3) 1 4 := ⟨by decide +kernel, rfl⟩
theorem dX4_daysDone_4 : mD cX4_daysDone 4 (.iload_n 3) 1 5 := ⟨by decide +kernel, rfl⟩
theorem dX4_daysDone_5 : mD cX4_daysDone 5 (.aload_n 1) 1 6 := ⟨by decide +kernel, rfl⟩
theorem dX4_daysDone_6 : mD cX4_daysDone 6 (.getfield 41) 3 9 := ⟨by decide +kernel, rfl⟩
theorem dX4_daysDone_9 : mJ cX4_daysDone 9 (.if_icmp .ge) 12 37 := mJ.of (28) (by decide +kernel) rfl (by decide)
theorem dX4_daysDone_12 : mD cX4_daysDone 12 (.aload_n 0) 1 13 := ⟨by decide +kernel, rfl⟩
theorem dX4_daysDone_13 : mD cX4_daysDone 13 (.aload_n 1) 1 14 := ⟨by decide +kernel, rfl⟩
theorem dX4_daysDone_14 : mD cX4_daysDone 14 (.getfield 44) 3 17 := ⟨by decide +kernel, rfl⟩
theorem dX4_daysDone_17 : mD cX4_daysDone 17 (.iload_n 3) 1 18 := ⟨by decide +kernel, rfl⟩
theorem dX4_daysDone_18 : mD cX4_daysDone 18 .iaload 1 19 := ⟨by decide +kernel, rfl⟩
theorem dX4_daysDone_19 : mD cX4_daysDone 19 (.invokevirtual 47) 3 22 := ⟨by decide +kernel, rfl⟩
theorem dX4_daysDone_22 : mJ cX4_daysDone 22 (.ifCond .eq) 25 31 := mJ.of (9) (by decide +kernel) rfl (by decide)
theorem dX4_daysDone_25 : mD cX4_daysDone 25 (.iload_n 2) 1 26 := ⟨by decide +kernel, rfl⟩
theorem dX4_daysDone_26 : mD cX4_daysDone 26 (.iconst 1) 1 27 := ⟨by decide +kernel, rfl⟩
theorem dX4_daysDone_27 : mD cX4_daysDone 27 (.iload_n 3) 1 28 := ⟨by decide +kernel, rfl⟩
theorem dX4_daysDone_28 : mD cX4_daysDone 28 .ishl 1 29 := ⟨by decide +kernel, rfl⟩
theorem dX4_daysDone_29 : mD cX4_daysDone 29 .ior 1 30 := ⟨by decide +kernel, rfl⟩
theorem dX4_daysDone_30 : mD cX4_daysDone 30 (.istore_n 2) 1 31 := ⟨by decide +kernel, rfl⟩
theorem dX4_daysDone_31 : mD cX4_daysDone 31 (.iinc 3 1) 3 34 := ⟨by decide +kernel, rfl⟩
theorem dX4_daysDone_34 : mJ cX4_daysDone 34 .goto 37 4 := mJ.of (-30) (by decide +kernel) rfl (by decide)
theorem dX4_daysDone_37 : mD cX4_daysDone 37 (.iload_n 2) 1 38 := ⟨by decide +kernel, rfl⟩
theorem dX4_daysDone_38 : mD cX4_daysDone 38 .ireturn 1 39 := ⟨by decide +kernel, rfl⟩
theorem dX4_leastUntold_0 : mD cX4_leastUntold 0 (.iconst 0) 1 1 := ⟨by decide +kernel, rfl⟩
theorem dX4_leastUntold_1 : mD cX4_leastUntold 1 (.istore_n 1) 1 2 := ⟨by decide +kernel, rfl⟩
theorem dX4_leastUntold_2 : mD cX4_leastUntold 2 (.iload_n 1) 1 3 := ⟨by decide +kernel, rfl⟩
theorem dX4_leastUntold_3 : mD cX4_leastUntold 3 (.getstatic 51) 3 6 := ⟨by decide +kernel, rfl⟩
theorem dX4_leastUntold_6 : mD cX4_leastUntold 6 (.aload_n 0) 1 7 := ⟨by decide +kernel, rfl⟩
theorem dX4_leastUntold_7 : mD cX4_leastUntold 7 (.getfield 21) 3 10 := ⟨by decide +kernel, rfl⟩
theorem dX4_leastUntold_10 : mD cX4_leastUntold 10 .iaload 1 11 := ⟨by decide +kernel, rfl⟩
theorem dX4_leastUntold_11 : mJ cX4_leastUntold 11 (.if_icmp .ge) 14 30 := mJ.of (19) (by decide +kernel) rfl (by decide)
theorem dX4_leastUntold_14 : mD cX4_leastUntold 14 (.aload_n 0) 1 15 := ⟨by decide +kernel, rfl⟩
theorem dX4_leastUntold_15 : mD cX4_leastUntold 15 (.iload_n 1) 1 16 := ⟨by decide +kernel, rfl⟩
theorem dX4_leastUntold_16 : mD cX4_leastUntold 16 (.invokevirtual 47) 3 19 := ⟨by decide +kernel, rfl⟩
theorem dX4_leastUntold_19 : mJ cX4_leastUntold 19 (.ifCond .ne) 22 24 := mJ.of (5) (by decide +kernel) rfl (by decide)
theorem dX4_leastUntold_22 : mD cX4_leastUntold 22 (.iload_n 1) 1 23 := ⟨by decide +kernel, rfl⟩
theorem dX4_leastUntold_23 : mD cX4_leastUntold 23 .ireturn 1 24 := ⟨by decide +kernel, rfl⟩
theorem dX4_leastUntold_24 : mD cX4_leastUntold 24 (.iinc 1 1) 3 27 := ⟨by decide +kernel, rfl⟩
theorem dX4_leastUntold_27 : mJ cX4_leastUntold 27 .goto 30 2 := mJ.of (-25) (by decide +kernel) rfl (by decide)
theorem dX4_leastUntold_30 : mD cX4_leastUntold 30 (.bipush (-9)) 2 32 := ⟨by decide +kernel, rfl⟩
theorem dX4_leastUntold_32 : mD cX4_leastUntold 32 .ireturn 1 33 := ⟨by decide +kernel, rfl⟩
theorem dX4_fewestPastes_0 : mD cX4_fewestPastes 0 (.iconst 1) 1 1 := ⟨by decide +kernel, rfl⟩
theorem dX4_fewestPastes_1 : mD cX4_fewestPastes 1 (.istore_n 2) 1 2 := ⟨by decide +kernel, rfl⟩
theorem dX4_fewestPastes_2 : mD cX4_fewestPastes 2 (.iload_n 1) 1 3 := ⟨by decide +kernel, rfl⟩
theorem dX4_fewestPastes_3 : mD cX4_fewestPastes 3 (.istore_n 3) 1 4 := ⟨by decide +kernel, rfl⟩
theorem dX4_fewestPastes_4 : mD cX4_fewestPastes 4 (.iconst 0) 1 5 := ⟨by decide +kernel, rfl⟩
theorem dX4_fewestPastes_5 : mD cX4_fewestPastes 5 (.istore 4) 2 7 := ⟨by decide +kernel, rfl⟩
theorem dX4_fewestPastes_7 : mD cX4_fewestPastes 7 (.iload 4) 2 9 := ⟨by decide +kernel, rfl⟩
theorem dX4_fewestPastes_9 : mD cX4_fewestPastes 9 (.aload_n 0) 1 10 := ⟨by decide +kernel, rfl⟩
theorem dX4_fewestPastes_10 : mD cX4_fewestPastes 10 (.getfield 21) 3 13 := ⟨by decide +kernel, rfl⟩
theorem dX4_fewestPastes_13 : mJ cX4_fewestPastes 13 (.if_icmp .ge) 16 39 := mJ.of (26) (by decide +kernel) rfl (by decide)
theorem dX4_fewestPastes_16 : mD cX4_fewestPastes 16 (.iload_n 2) 1 17 := ⟨by decide +kernel, rfl⟩
theorem dX4_fewestPastes_17 : mD cX4_fewestPastes 17 (.aload_n 0) 1 18 := ⟨by decide +kernel, rfl⟩
theorem dX4_fewestPastes_18 : mD cX4_fewestPastes 18 (.iload_n 2) 1 19 := ⟨by decide +kernel, rfl⟩
theorem dX4_fewestPastes_19 : mD cX4_fewestPastes 19 (.iload_n 3) 1 20 := ⟨by decide +kernel, rfl⟩
theorem dX4_fewestPastes_20 : mD cX4_fewestPastes 20 (.bipush 10) 2 22 := ⟨by decide +kernel, rfl⟩
theorem dX4_fewestPastes_22 : mD cX4_fewestPastes 22 .irem 1 23 := ⟨by decide +kernel, rfl⟩
theorem dX4_fewestPastes_23 : mD cX4_fewestPastes 23 (.invokevirtual 37) 3 26 := ⟨by decide +kernel, rfl⟩
theorem dX4_fewestPastes_26 : mD cX4_fewestPastes 26 .ior 1 27 := ⟨by decide +kernel, rfl⟩
theorem dX4_fewestPastes_27 : mD cX4_fewestPastes 27 (.istore_n 2) 1 28 := ⟨by decide +kernel, rfl⟩
theorem dX4_fewestPastes_28 : mD cX4_fewestPastes 28 (.iload_n 3) 1 29 := ⟨by decide +kernel, rfl⟩
theorem dX4_fewestPastes_29 : mD cX4_fewestPastes 29 (.bipush 10) 2 31 := ⟨by decide +kernel, rfl⟩
theorem dX4_fewestPastes_31 : mD cX4_fewestPastes 31 .idiv 1 32 := ⟨by decide +kernel, rfl⟩
theorem dX4_fewestPastes_32 : mD cX4_fewestPastes 32 (.istore_n 3) 1 33 := ⟨by decide +kernel, rfl⟩
theorem dX4_fewestPastes_33 : mD cX4_fewestPastes 33 (.iinc 4 1) 3 36 := ⟨by decide +kernel, rfl⟩
theorem dX4_fewestPastes_36 : mJ cX4_fewestPastes 36 .goto 39 7 := mJ.of (-29) (by decide +kernel) rfl (by decide)
theorem dX4_fewestPastes_39 : mD cX4_fewestPastes 39 (.iconst 0) 1 40 := ⟨by decide +kernel, rfl⟩
theorem dX4_fewestPastes_40 : mD cX4_fewestPastes 40 (.istore 4) 2 42 := ⟨by decide +kernel, rfl⟩
theorem dX4_fewestPastes_42 : mD cX4_fewestPastes 42 (.iconst 0) 1 43 := ⟨by decide +kernel, rfl⟩
theorem dX4_fewestPastes_43 : mD cX4_fewestPastes 43 (.istore 5) 2 45 := ⟨by decide +kernel, rfl⟩
theorem dX4_fewestPastes_45 : mD cX4_fewestPastes 45 (.iload 5) 2 47 := ⟨by decide +kernel, rfl⟩
theorem dX4_fewestPastes_47 : mD cX4_fewestPastes 47 (.bipush 16) 2 49 := ⟨by decide +kernel, rfl⟩
theorem dX4_fewestPastes_49 : mJ cX4_fewestPastes 49 (.if_icmp .ge) 52 80 := mJ.of (31) (by decide +kernel) rfl (by decide)
theorem dX4_fewestPastes_52 : mD cX4_fewestPastes 52 (.iload_n 2) 1 53 := ⟨by decide +kernel, rfl⟩
theorem dX4_fewestPastes_53 : mD cX4_fewestPastes 53 (.iload 5) 2 55 := ⟨by decide +kernel, rfl⟩
theorem dX4_fewestPastes_55 : mD cX4_fewestPastes 55 .ishr 1 56 := ⟨by decide +kernel, rfl⟩
theorem dX4_fewestPastes_56 : mD cX4_fewestPastes 56 (.iconst 1) 1 57 := ⟨by decide +kernel, rfl⟩
theorem dX4_fewestPastes_57 : mD cX4_fewestPastes 57 .iand 1 58 := ⟨by decide +kernel, rfl⟩
theorem dX4_fewestPastes_58 : mD cX4_fewestPastes 58 (.iconst 1) 1 59 := ⟨by decide +kernel, rfl⟩
theorem dX4_fewestPastes_59 : mJ cX4_fewestPastes 59 (.if_icmp .ne) 62 74 := mJ.of (15) (by decide +kernel) rfl (by decide)
theorem dX4_fewestPastes_62 : mD cX4_fewestPastes 62 (.iload 4) 2 64 := ⟨by decide +kernel, rfl⟩
theorem dX4_fewestPastes_64 : mD cX4_fewestPastes 64 (.iload 5) 2 66 := ⟨by decide +kernel, rfl⟩
theorem dX4_fewestPastes_66 : mD cX4_fewestPastes 66 (.invokestatic 54) 3 69 := ⟨by decide +kernel, rfl⟩
theorem dX4_fewestPastes_69 : mD cX4_fewestPastes 69 (.invokestatic 60) 3 72 := ⟨by decide +kernel, rfl⟩
theorem dX4_fewestPastes_72 : mD cX4_fewestPastes 72 (.istore 4) 2 74 := ⟨by decide +kernel, rfl⟩
theorem dX4_fewestPastes_74 : mD cX4_fewestPastes 74 (.iinc 5 1) 3 77 := ⟨by decide +kernel, rfl⟩
theorem dX4_fewestPastes_77 : mJ cX4_fewestPastes 77 .goto 80 45 := mJ.of (-32) (by decide +kernel) rfl (by decide)
theorem dX4_fewestPastes_80 : mD cX4_fewestPastes 80 (.aload_n 0) 1 81 := ⟨by decide +kernel, rfl⟩
theorem dX4_fewestPastes_81 : mD cX4_fewestPastes 81 (.getfield 21) 3 84 := ⟨by decide +kernel, rfl⟩
theorem dX4_fewestPastes_84 : mD cX4_fewestPastes 84 (.iload 4) 2 86 := ⟨by decide +kernel, rfl⟩
theorem dX4_fewestPastes_86 : mD cX4_fewestPastes 86 .isub 1 87 := ⟨by decide +kernel, rfl⟩
theorem dX4_fewestPastes_87 : mD cX4_fewestPastes 87 .ireturn 1 88 := ⟨by decide +kernel, rfl⟩
theorem dX4_many_0 : mD cX4_many 0 (.aload_n 0) 1 1 := ⟨by decide +kernel, rfl⟩
theorem dX4_many_1 : mD cX4_many 1 (.iconst 0) 1 2 := ⟨by decide +kernel, rfl⟩
theorem dX4_many_2 : mD cX4_many 2 (.iconst 1) 1 3 := ⟨by decide +kernel, rfl⟩
theorem dX4_many_3 : mD cX4_many 3 (.iconst 0) 1 4 := ⟨by decide +kernel, rfl⟩
theorem dX4_many_4 : mD cX4_many 4 (.iconst 0) 1 5 := ⟨by decide +kernel, rfl⟩
theorem dX4_many_5 : mD cX4_many 5 (.iconst 1) 1 6 := ⟨by decide +kernel, rfl⟩
theorem dX4_many_6 : mD cX4_many 6 (.invokevirtual 65) 3 9 := ⟨by decide +kernel, rfl⟩
theorem dX4_many_9 : mD cX4_many 9 .ireturn 1 10 := ⟨by decide +kernel, rfl⟩
theorem dX4_manyFrom_0 : mD cX4_manyFrom 0 (.iload_n 2) 1 1 := ⟨by decide +kernel, rfl⟩
theorem dX4_manyFrom_1 : mJ cX4_manyFrom 1 (.ifCond .ne) 4 6 := mJ.of (5) (by decide +kernel) rfl (by decide)
theorem dX4_manyFrom_4 : mD cX4_manyFrom 4 (.iconst 0) 1 5 := ⟨by decide +kernel, rfl⟩
theorem dX4_manyFrom_5 : mD cX4_manyFrom 5 .ireturn 1 6 := ⟨by decide +kernel, rfl⟩
theorem dX4_manyFrom_6 : mD cX4_manyFrom 6 (.iload_n 1) 1 7 := ⟨by decide +kernel, rfl⟩
theorem dX4_manyFrom_7 : mD cX4_manyFrom 7 (.aload_n 0) 1 8 := ⟨by decide +kernel, rfl⟩
theorem dX4_manyFrom_8 : mD cX4_manyFrom 8 (.getfield 21) 3 11 := ⟨by decide +kernel, rfl⟩
theorem dX4_manyFrom_11 : mJ cX4_manyFrom 11 (.if_icmp .lt) 14 17 := mJ.of (6) (by decide +kernel) rfl (by decide)
theorem dX4_manyFrom_14 : mD cX4_manyFrom 14 (.iload 5) 2 16 := ⟨by decide +kernel, rfl⟩
theorem dX4_manyFrom_16 : mD cX4_manyFrom 16 .ireturn 1 17 := ⟨by decide +kernel, rfl⟩
theorem dX4_manyFrom_17 : mD cX4_manyFrom 17 (.iconst 0) 1 18 := ⟨by decide +kernel, rfl⟩
theorem dX4_manyFrom_18 : mD cX4_manyFrom 18 (.istore 6) 2 20 := ⟨by decide +kernel, rfl⟩
theorem dX4_manyFrom_20 : mD cX4_manyFrom 20 (.iload_n 3) 1 21 := ⟨by decide +kernel, rfl⟩
theorem dX4_manyFrom_21 : mD cX4_manyFrom 21 (.istore 7) 2 23 := ⟨by decide +kernel, rfl⟩
theorem dX4_manyFrom_23 : mD cX4_manyFrom 23 (.iload 7) 2 25 := ⟨by decide +kernel, rfl⟩
theorem dX4_manyFrom_25 : mD cX4_manyFrom 25 (.bipush 10) 2 27 := ⟨by decide +kernel, rfl⟩
theorem dX4_manyFrom_27 : mJ cX4_manyFrom 27 (.if_icmp .ge) 30 88 := mJ.of (61) (by decide +kernel) rfl (by decide)
theorem dX4_manyFrom_30 : mD cX4_manyFrom 30 (.iload 7) 2 32 := ⟨by decide +kernel, rfl⟩
theorem dX4_manyFrom_32 : mD cX4_manyFrom 32 (.iload_n 3) 1 33 := ⟨by decide +kernel, rfl⟩
theorem dX4_manyFrom_33 : mJ cX4_manyFrom 33 (.if_icmp .ne) 36 43 := mJ.of (10) (by decide +kernel) rfl (by decide)
theorem dX4_manyFrom_36 : mD cX4_manyFrom 36 (.iload 4) 2 38 := ⟨by decide +kernel, rfl⟩
theorem dX4_manyFrom_38 : mD cX4_manyFrom 38 (.iconst 1) 1 39 := ⟨by decide +kernel, rfl⟩
theorem dX4_manyFrom_39 : mD cX4_manyFrom 39 .iadd 1 40 := ⟨by decide +kernel, rfl⟩
theorem dX4_manyFrom_40 : mJ cX4_manyFrom 40 .goto 43 44 := mJ.of (4) (by decide +kernel) rfl (by decide)
theorem dX4_manyFrom_43 : mD cX4_manyFrom 43 (.iconst 1) 1 44 := ⟨by decide +kernel, rfl⟩
theorem dX4_manyFrom_44 : mD cX4_manyFrom 44 (.istore 8) 2 46 := ⟨by decide +kernel, rfl⟩
theorem dX4_manyFrom_46 : mD cX4_manyFrom 46 (.iload 5) 2 48 := ⟨by decide +kernel, rfl⟩
theorem dX4_manyFrom_48 : mD cX4_manyFrom 48 (.iload_n 1) 1 49 := ⟨by decide +kernel, rfl⟩
theorem dX4_manyFrom_49 : mD cX4_manyFrom 49 (.iconst 1) 1 50 := ⟨by decide +kernel, rfl⟩
theorem dX4_manyFrom_50 : mD cX4_manyFrom 50 .iadd 1 51 := ⟨by decide +kernel, rfl⟩
theorem dX4_manyFrom_51 : mD cX4_manyFrom 51 .imul 1 52 := ⟨by decide +kernel, rfl⟩
theorem dX4_manyFrom_52 : mD cX4_manyFrom 52 (.iload 8) 2 54 := ⟨by decide +kernel, rfl⟩
theorem dX4_manyFrom_54 : mD cX4_manyFrom 54 .idiv 1 55 := ⟨by decide +kernel, rfl⟩
theorem dX4_manyFrom_55 : mD cX4_manyFrom 55 (.istore 9) 2 57 := ⟨by decide +kernel, rfl⟩
theorem dX4_manyFrom_57 : mD cX4_manyFrom 57 (.iload 6) 2 59 := ⟨by decide +kernel, rfl⟩
theorem dX4_manyFrom_59 : mD cX4_manyFrom 59 (.aload_n 0) 1 60 := ⟨by decide +kernel, rfl⟩
theorem dX4_manyFrom_60 : mD cX4_manyFrom 60 (.iload_n 1) 1 61 := ⟨by decide +kernel, rfl⟩
theorem dX4_manyFrom_61 : mD cX4_manyFrom 61 (.iconst 1) 1 62 := ⟨by decide +kernel, rfl⟩
theorem dX4_manyFrom_62 : mD cX4_manyFrom 62 .iadd 1 63 := ⟨by decide +kernel, rfl⟩
theorem dX4_manyFrom_63 : mD cX4_manyFrom 63 (.aload_n 0) 1 64 := ⟨by decide +kernel, rfl⟩
theorem dX4_manyFrom_64 : mD cX4_manyFrom 64 (.iload_n 2) 1 65 := ⟨by decide +kernel, rfl⟩
theorem dX4_manyFrom_65 : mD cX4_manyFrom 65 (.iload 7) 2 67 := ⟨by decide +kernel, rfl⟩
theorem dX4_manyFrom_67 : mD cX4_manyFrom 67 (.invokevirtual 37) 3 70 := ⟨by decide +kernel, rfl⟩
theorem dX4_manyFrom_70 : mD cX4_manyFrom 70 (.iload 7) 2 72 := ⟨by decide +kernel, rfl⟩
theorem dX4_manyFrom_72 : mD cX4_manyFrom 72 (.iload 8) 2 74 := ⟨by decide +kernel, rfl⟩
theorem dX4_manyFrom_74 : mD cX4_manyFrom 74 (.iload 9) 2 76 := ⟨by decide +kernel, rfl⟩
theorem dX4_manyFrom_76 : mD cX4_manyFrom 76 (.invokevirtual 65) 3 79 := ⟨by decide +kernel, rfl⟩
theorem dX4_manyFrom_79 : mD cX4_manyFrom 79 .iadd 1 80 := ⟨by decide +kernel, rfl⟩
theorem dX4_manyFrom_80 : mD cX4_manyFrom 80 (.istore 6) 2 82 := ⟨by decide +kernel, rfl⟩
theorem dX4_manyFrom_82 : mD cX4_manyFrom 82 (.iinc 7 1) 3 85 := ⟨by decide +kernel, rfl⟩
theorem dX4_manyFrom_85 : mJ cX4_manyFrom 85 .goto 88 23 := mJ.of (-62) (by decide +kernel) rfl (by decide)
theorem dX4_manyFrom_88 : mD cX4_manyFrom 88 (.iload 6) 2 90 := ⟨by decide +kernel, rfl⟩
theorem dX4_manyFrom_90 : mD cX4_manyFrom 90 .ireturn 1 91 := ⟨by decide +kernel, rfl⟩
theorem dX4_withOneMore_0 : mD cX4_withOneMore 0 (.iconst 0) 1 1 := ⟨by decide +kernel, rfl⟩
theorem dX4_withOneMore_1 : mD cX4_withOneMore 1 (.istore_n 3) 1 2 := ⟨by decide +kernel, rfl⟩
theorem dX4_withOneMore_2 : mD cX4_withOneMore 2 (.iconst 0) 1 3 := ⟨by decide +kernel, rfl⟩
theorem dX4_withOneMore_3 : mD cX4_withOneMore 3 (.istore 4) 2 5 := ⟨by decide +kernel, rfl⟩
theorem dX4_withOneMore_5 : mD cX4_withOneMore 5 (.iload 4) 2 7 := ⟨by decide +kernel, rfl⟩
theorem dX4_withOneMore_7 : mD cX4_withOneMore 7 (.aload_n 0) 1 8 := ⟨by decide +kernel, rfl⟩
theorem dX4_withOneMore_8 : mD cX4_withOneMore 8 (.getfield 21) 3 11 := ⟨by decide +kernel, rfl⟩
theorem dX4_withOneMore_11 : mJ cX4_withOneMore 11 (.if_icmp .ge) 14 51 := mJ.of (40) (by decide +kernel) rfl (by decide)
theorem dX4_withOneMore_14 : mD cX4_withOneMore 14 (.aload_n 0) 1 15 := ⟨by decide +kernel, rfl⟩
theorem dX4_withOneMore_15 : mD cX4_withOneMore 15 (.getfield 9) 3 18 := ⟨by decide +kernel, rfl⟩
theorem dX4_withOneMore_18 : mD cX4_withOneMore 18 (.iload_n 2) 1 19 := ⟨by decide +kernel, rfl⟩
theorem dX4_withOneMore_19 : mD cX4_withOneMore 19 .iaload 1 20 := ⟨by decide +kernel, rfl⟩
theorem dX4_withOneMore_20 : mD cX4_withOneMore 20 (.iload 4) 2 22 := ⟨by decide +kernel, rfl⟩
theorem dX4_withOneMore_22 : mD cX4_withOneMore 22 .ishr 1 23 := ⟨by decide +kernel, rfl⟩
theorem dX4_withOneMore_23 : mD cX4_withOneMore 23 (.iconst 1) 1 24 := ⟨by decide +kernel, rfl⟩
theorem dX4_withOneMore_24 : mD cX4_withOneMore 24 .iand 1 25 := ⟨by decide +kernel, rfl⟩
theorem dX4_withOneMore_25 : mD cX4_withOneMore 25 (.iconst 1) 1 26 := ⟨by decide +kernel, rfl⟩
theorem dX4_withOneMore_26 : mJ cX4_withOneMore 26 (.if_icmp .ne) 29 45 := mJ.of (19) (by decide +kernel) rfl (by decide)
theorem dX4_withOneMore_29 : mD cX4_withOneMore 29 (.iload_n 3) 1 30 := ⟨by decide +kernel, rfl⟩
theorem dX4_withOneMore_30 : mD cX4_withOneMore 30 (.iload_n 1) 1 31 := ⟨by decide +kernel, rfl⟩
theorem dX4_withOneMore_31 : mD cX4_withOneMore 31 (.getstatic 69) 3 34 := ⟨by decide +kernel, rfl⟩
theorem dX4_withOneMore_34 : mD cX4_withOneMore 34 (.iload 4) 2 36 := ⟨by decide +kernel, rfl⟩
theorem dX4_withOneMore_36 : mD cX4_withOneMore 36 .iaload 1 37 := ⟨by decide +kernel, rfl⟩
theorem dX4_withOneMore_37 : mD cX4_withOneMore 37 .iand 1 38 := ⟨by decide +kernel, rfl⟩
theorem dX4_withOneMore_38 : mD cX4_withOneMore 38 (.iconst 1) 1 39 := ⟨by decide +kernel, rfl⟩
theorem dX4_withOneMore_39 : mD cX4_withOneMore 39 (.iload 4) 2 41 := ⟨by decide +kernel, rfl⟩
theorem dX4_withOneMore_41 : mD cX4_withOneMore 41 .ishl 1 42 := ⟨by decide +kernel, rfl⟩
theorem dX4_withOneMore_42 : mD cX4_withOneMore 42 .ishl 1 43 := ⟨by decide +kernel, rfl⟩
theorem dX4_withOneMore_43 : mD cX4_withOneMore 43 .ior 1 44 := ⟨by decide +kernel, rfl⟩
theorem dX4_withOneMore_44 : mD cX4_withOneMore 44 (.istore_n 3) 1 45 := ⟨by decide +kernel, rfl⟩
theorem dX4_withOneMore_45 : mD cX4_withOneMore 45 (.iinc 4 1) 3 48 := ⟨by decide +kernel, rfl⟩
theorem dX4_withOneMore_48 : mJ cX4_withOneMore 48 .goto 51 5 := mJ.of (-43) (by decide +kernel) rfl (by decide)
theorem dX4_withOneMore_51 : mD cX4_withOneMore 51 (.iload_n 3) 1 52 := ⟨by decide +kernel, rfl⟩
theorem dX4_withOneMore_52 : mD cX4_withOneMore 52 .ireturn 1 53 := ⟨by decide +kernel, rfl⟩
theorem dX5_init_0 : mD cX5_init 0 (.aload_n 0) 1 1 := ⟨by decide +kernel, rfl⟩
theorem dX5_init_1 : mD cX5_init 1 (.invokespecial 3) 3 4 := ⟨by decide +kernel, rfl⟩
theorem dX5_init_4 : mD cX5_init 4 (.aload_n 0) 1 5 := ⟨by decide +kernel, rfl⟩
theorem dX5_init_5 : mD cX5_init 5 (.bipush 24) 2 7 := ⟨by decide +kernel, rfl⟩
theorem dX5_init_7 : mD cX5_init 7 (.newarray .int) 2 9 := ⟨by decide +kernel, rfl⟩
theorem dX5_init_9 : mD cX5_init 9 (.putfield 9) 3 12 := ⟨by decide +kernel, rfl⟩
theorem dX5_init_12 : mD cX5_init 12 (.aload_n 0) 1 13 := ⟨by decide +kernel, rfl⟩
theorem dX5_init_13 : mD cX5_init 13 (.bipush 6) 2 15 := ⟨by decide +kernel, rfl⟩
theorem dX5_init_15 : mD cX5_init 15 (.newarray .int) 2 17 := ⟨by decide +kernel, rfl⟩
theorem dX5_init_17 : mD cX5_init 17 (.putfield 15) 3 20 := ⟨by decide +kernel, rfl⟩
theorem dX5_init_20 : mD cX5_init 20 .return_ 1 21 := ⟨by decide +kernel, rfl⟩
theorem dX5_empty_0 : mD cX5_empty 0 (.aload_n 0) 1 1 := ⟨by decide +kernel, rfl⟩
theorem dX5_empty_1 : mD cX5_empty 1 (.iconst 0) 1 2 := ⟨by decide +kernel, rfl⟩
theorem dX5_empty_2 : mD cX5_empty 2 (.putfield 18) 3 5 := ⟨by decide +kernel, rfl⟩
theorem dX5_empty_5 : mD cX5_empty 5 (.aload_n 0) 1 6 := ⟨by decide +kernel, rfl⟩
theorem dX5_empty_6 : mD cX5_empty 6 (.iconst 0) 1 7 := ⟨by decide +kernel, rfl⟩
theorem dX5_empty_7 : mD cX5_empty 7 (.putfield 22) 3 10 := ⟨by decide +kernel, rfl⟩
theorem dX5_empty_10 : mD cX5_empty 10 (.aload_n 0) 1 11 := ⟨by decide +kernel, rfl⟩
theorem dX5_empty_11 : mD cX5_empty 11 (.iconst 0) 1 12 := ⟨by decide +kernel, rfl⟩
theorem dX5_empty_12 : mD cX5_empty 12 (.putfield 25) 3 15 := ⟨by decide +kernel, rfl⟩
theorem dX5_empty_15 : mD cX5_empty 15 (.aload_n 0) 1 16 := ⟨by decide +kernel, rfl⟩
theorem dX5_empty_16 : mD cX5_empty 16 (.iconst 0) 1 17 := ⟨by decide +kernel, rfl⟩
theorem dX5_empty_17 : mD cX5_empty 17 (.putfield 28) 3 20 := ⟨by decide +kernel, rfl⟩
theorem dX5_empty_20 : mD cX5_empty 20 .return_ 1 21 := ⟨by decide +kernel, rfl⟩
theorem dX5_howManyNumbers_0 : mD cX5_howManyNumbers 0 (.getstatic 32) 3 3 := ⟨by decide +kernel, rfl⟩
theorem dX5_howManyNumbers_3 : mD cX5_howManyNumbers 3 (.aload_n 0) 1 4 := ⟨by decide +kernel, rfl⟩
theorem dX5_howManyNumbers_4 : mD cX5_howManyNumbers 4 (.getfield 18) 3 7 := ⟨by decide +kernel, rfl⟩
theorem dX5_howManyNumbers_7 : mD cX5_howManyNumbers 7 .iaload 1 8 := ⟨by decide +kernel, rfl⟩
theorem dX5_howManyNumbers_8 : mD cX5_howManyNumbers 8 .ireturn 1 9 := ⟨by decide +kernel, rfl⟩
theorem dX5_upright_0 : mD cX5_upright 0 (.aload_n 0) 1 1 := ⟨by decide +kernel, rfl⟩
theorem dX5_upright_1 : mD cX5_upright 1 (.getfield 28) 3 4 := ⟨by decide +kernel, rfl⟩
theorem dX5_upright_4 : mJ cX5_upright 4 (.ifCond .eq) 7 18 := mJ.of (14) (by decide +kernel) rfl (by decide)
theorem dX5_upright_7 : mD cX5_upright 7 (.iload_n 1) 1 8 := ⟨by decide +kernel, rfl⟩
theorem dX5_upright_8 : mD cX5_upright 8 (.bipush 9) 2 10 := ⟨by decide +kernel, rfl⟩
theorem dX5_upright_10 : mJ cX5_upright 10 (.if_icmp .ne) 13 18 := mJ.of (8) (by decide +kernel) rfl (by decide)
theorem dX5_upright_13 : mD cX5_upright 13 (.bipush 6) 2 15 := ⟨by decide +kernel, rfl⟩
theorem dX5_upright_15 : mJ cX5_upright 15 .goto 18 19 := mJ.of (4) (by decide +kernel) rfl (by decide)
theorem dX5_upright_18 : mD cX5_upright 18 (.iload_n 1) 1 19 := ⟨by decide +kernel, rfl⟩
theorem dX5_upright_19 : mD cX5_upright 19 .ireturn 1 20 := ⟨by decide +kernel, rfl⟩
theorem dX5_fits_0 : mD cX5_fits 0 (.aload_n 0) 1 1 := ⟨by decide +kernel, rfl⟩
theorem dX5_fits_1 : mD cX5_fits 1 (.iload_n 1) 1 2 := ⟨by decide +kernel, rfl⟩
theorem dX5_fits_2 : mD cX5_fits 2 (.invokevirtual 35) 3 5 := ⟨by decide +kernel, rfl⟩
theorem dX5_fits_5 : mD cX5_fits 5 (.aload_n 0) 1 6 := ⟨by decide +kernel, rfl⟩
theorem dX5_fits_6 : mD cX5_fits 6 (.iload_n 2) 1 7 := ⟨by decide +kernel, rfl⟩
theorem dX5_fits_7 : mD cX5_fits 7 (.invokevirtual 35) 3 10 := ⟨by decide +kernel, rfl⟩
theorem dX5_fits_10 : mJ cX5_fits 10 (.if_icmp .ne) 13 17 := mJ.of (7) (by decide +kernel) rfl (by decide)
theorem dX5_fits_13 : mD cX5_fits 13 (.iconst 1) 1 14 := ⟨by decide +kernel, rfl⟩
theorem dX5_fits_14 : mJ cX5_fits 14 .goto 17 18 := mJ.of (4) (by decide +kernel) rfl (by decide)
theorem dX5_fits_17 : mD cX5_fits 17 (.iconst 0) 1 18 := ⟨by decide +kernel, rfl⟩
theorem dX5_fits_18 : mD cX5_fits 18 .ireturn 1 19 := ⟨by decide +kernel, rfl⟩
theorem dX6_init_0 : mD cX6_init 0 (.aload_n 0) 1 1 := ⟨by decide +kernel, rfl⟩
theorem dX6_init_1 : mD cX6_init 1 (.invokespecial 3) 3 4 := ⟨by decide +kernel, rfl⟩
theorem dX6_init_4 : mD cX6_init 4 (.aload_n 0) 1 5 := ⟨by decide +kernel, rfl⟩
theorem dX6_init_5 : mD cX6_init 5 (.bipush 16) 2 7 := ⟨by decide +kernel, rfl⟩
theorem dX6_init_7 : mD cX6_init 7 (.newarray .int) 2 9 := ⟨by decide +kernel, rfl⟩
theorem dX6_init_9 : mD cX6_init 9 (.putfield 9) 3 12 := ⟨by decide +kernel, rfl⟩
theorem dX6_init_12 : mD cX6_init 12 (.aload_n 0) 1 13 := ⟨by decide +kernel, rfl⟩
theorem dX6_init_13 : mD cX6_init 13 (.bipush 16) 2 15 := ⟨by decide +kernel, rfl⟩
theorem dX6_init_15 : mD cX6_init 15 (.newarray .int) 2 17 := ⟨by decide +kernel, rfl⟩
theorem dX6_init_17 : mD cX6_init 17 (.putfield 15) 3 20 := ⟨by decide +kernel, rfl⟩
theorem dX6_init_20 : mD cX6_init 20 (.aload_n 0) 1 21 := ⟨by decide +kernel, rfl⟩
theorem dX6_init_21 : mD cX6_init 21 (.bipush 16) 2 23 := ⟨by decide +kernel, rfl⟩
theorem dX6_init_23 : mD cX6_init 23 (.newarray .int) 2 25 := ⟨by decide +kernel, rfl⟩
theorem dX6_init_25 : mD cX6_init 25 (.putfield 18) 3 28 := ⟨by decide +kernel, rfl⟩
theorem dX6_init_28 : mD cX6_init 28 (.aload_n 0) 1 29 := ⟨by decide +kernel, rfl⟩
theorem dX6_init_29 : mD cX6_init 29 (.bipush 16) 2 31 := ⟨by decide +kernel, rfl⟩
theorem dX6_init_31 : mD cX6_init 31 (.newarray .int) 2 33 := ⟨by decide +kernel, rfl⟩
theorem dX6_init_33 : mD cX6_init 33 (.putfield 21) 3 36 := ⟨by decide +kernel, rfl⟩
theorem dX6_init_36 : mD cX6_init 36 (.aload_n 0) 1 37 := ⟨by decide +kernel, rfl⟩
theorem dX6_init_37 : mD cX6_init 37 (.bipush 24) 2 39 := ⟨by decide +kernel, rfl⟩
theorem dX6_init_39 : mD cX6_init 39 (.newarray .int) 2 41 := ⟨by decide +kernel, rfl⟩
theorem dX6_init_41 : mD cX6_init 41 (.putfield 24) 3 44 := ⟨by decide +kernel, rfl⟩
theorem dX6_init_44 : mD cX6_init 44 (.aload_n 0) 1 45 := ⟨by decide +kernel, rfl⟩
theorem dX6_init_45 : mD cX6_init 45 (.sipush 340) 3 48 := ⟨by decide +kernel, rfl⟩
theorem dX6_init_48 : mD cX6_init 48 (.newarray .int) 2 50 := ⟨by decide +kernel, rfl⟩
theorem dX6_init_50 : mD cX6_init 50 (.putfield 27) 3 53 := ⟨by decide +kernel, rfl⟩
theorem dX6_init_53 : mD cX6_init 53 .return_ 1 54 := ⟨by decide +kernel, rfl⟩
theorem dX6_leastThrough_0 : mD cX6_leastThrough 0 (.aload_n 0) 1 1 := ⟨by decide +kernel, rfl⟩
theorem dX6_leastThrough_1 : mD cX6_leastThrough 1 (.aload_n 1) 1 2 := ⟨by decide +kernel, rfl⟩
theorem dX6_leastThrough_2 : mD cX6_leastThrough 2 (.putfield 30) 3 5 := ⟨by decide +kernel, rfl⟩
theorem dX6_leastThrough_5 : mD cX6_leastThrough 5 (.aload_n 0) 1 6 := ⟨by decide +kernel, rfl⟩
theorem dX6_leastThrough_6 : mD cX6_leastThrough 6 (.aload_n 2) 1 7 := ⟨by decide +kernel, rfl⟩
theorem dX6_leastThrough_7 : mD cX6_leastThrough 7 (.putfield 34) 3 10 := ⟨by decide +kernel, rfl⟩
theorem dX6_leastThrough_10 : mD cX6_leastThrough 10 (.aload_n 0) 1 11 := ⟨by decide +kernel, rfl⟩
theorem dX6_leastThrough_11 : mD cX6_leastThrough 11 (.aload_n 1) 1 12 := ⟨by decide +kernel, rfl⟩
theorem dX6_leastThrough_12 : mD cX6_leastThrough 12 (.getfield 38) 3 15 := ⟨by decide +kernel, rfl⟩
theorem dX6_leastThrough_15 : mD cX6_leastThrough 15 (.putfield 44) 3 18 := ⟨by decide +kernel, rfl⟩
theorem dX6_leastThrough_18 : mD cX6_leastThrough 18 (.aload_n 0) 1 19 := ⟨by decide +kernel, rfl⟩
theorem dX6_leastThrough_19 : mD cX6_leastThrough 19 (.iload 4) 2 21 := ⟨by decide +kernel, rfl⟩
theorem dX6_leastThrough_21 : mD cX6_leastThrough 21 (.putfield 45) 3 24 := ⟨by decide +kernel, rfl⟩
theorem dX6_leastThrough_24 : mD cX6_leastThrough 24 (.iconst 1) 1 25 := ⟨by decide +kernel, rfl⟩
theorem dX6_leastThrough_25 : mD cX6_leastThrough 25 (.istore 5) 2 27 := ⟨by decide +kernel, rfl⟩
theorem dX6_leastThrough_27 : mD cX6_leastThrough 27 (.iload 5) 2 29 := ⟨by decide +kernel, rfl⟩
theorem dX6_leastThrough_29 : mD cX6_leastThrough 29 (.aload_n 0) 1 30 := ⟨by decide +kernel, rfl⟩
theorem dX6_leastThrough_30 : mD cX6_leastThrough 30 (.getfield 45) 3 33 := ⟨by decide +kernel, rfl⟩
theorem dX6_leastThrough_33 : mJ cX6_leastThrough 33 (.if_icmp .gt) 36 54 := mJ.of (21) (by decide +kernel) rfl (by decide)
theorem dX6_leastThrough_36 : mD cX6_leastThrough 36 (.aload_n 0) 1 37 := ⟨by decide +kernel, rfl⟩
theorem dX6_leastThrough_37 : mD cX6_leastThrough 37 (.iload 5) 2 39 := ⟨by decide +kernel, rfl⟩
theorem dX6_leastThrough_39 : mD cX6_leastThrough 39 (.iload_n 3) 1 40 := ⟨by decide +kernel, rfl⟩
theorem dX6_leastThrough_40 : mD cX6_leastThrough 40 (.iload 5) 2 42 := ⟨by decide +kernel, rfl⟩
theorem dX6_leastThrough_42 : mD cX6_leastThrough 42 .iadd 1 43 := ⟨by decide +kernel, rfl⟩
theorem dX6_leastThrough_43 : mD cX6_leastThrough 43 (.iconst 1) 1 44 := ⟨by decide +kernel, rfl⟩
theorem dX6_leastThrough_44 : mD cX6_leastThrough 44 .isub 1 45 := ⟨by decide +kernel, rfl⟩
theorem dX6_leastThrough_45 : mD cX6_leastThrough 45 (.invokevirtual 48) 3 48 := ⟨by decide +kernel, rfl⟩
theorem dX6_leastThrough_48 : mD cX6_leastThrough 48 (.iinc 5 1) 3 51 := ⟨by decide +kernel, rfl⟩
theorem dX6_leastThrough_51 : mJ cX6_leastThrough 51 .goto 54 27 := mJ.of (-24) (by decide +kernel) rfl (by decide)
theorem dX6_leastThrough_54 : mD cX6_leastThrough 54 (.iconst 0) 1 55 := ⟨by decide +kernel, rfl⟩
theorem dX6_leastThrough_55 : mD cX6_leastThrough 55 (.istore 5) 2 57 := ⟨by decide +kernel, rfl⟩
theorem dX6_leastThrough_57 : mD cX6_leastThrough 57 (.iload 5) 2 59 := ⟨by decide +kernel, rfl⟩
theorem dX6_leastThrough_59 : mD cX6_leastThrough 59 (.aload_n 0) 1 60 := ⟨by decide +kernel, rfl⟩
theorem dX6_leastThrough_60 : mD cX6_leastThrough 60 (.getfield 44) 3 63 := ⟨by decide +kernel, rfl⟩
theorem dX6_leastThrough_63 : mJ cX6_leastThrough 63 (.if_icmp .ge) 66 103 := mJ.of (40) (by decide +kernel) rfl (by decide)
theorem dX6_leastThrough_66 : mD cX6_leastThrough 66 (.aload_n 0) 1 67 := ⟨by decide +kernel, rfl⟩
theorem dX6_leastThrough_67 : mD cX6_leastThrough 67 (.iload 5) 2 69 := ⟨by decide +kernel, rfl⟩
theorem dX6_leastThrough_69 : mD cX6_leastThrough 69 (.invokevirtual 52) 3 72 := ⟨by decide +kernel, rfl⟩
theorem dX6_leastThrough_72 : mD cX6_leastThrough 72 (.aload_n 0) 1 73 := ⟨by decide +kernel, rfl⟩
theorem dX6_leastThrough_73 : mD cX6_leastThrough 73 (.getfield 15) 3 76 := ⟨by decide +kernel, rfl⟩
theorem dX6_leastThrough_76 : mD cX6_leastThrough 76 (.iload 5) 2 78 := ⟨by decide +kernel, rfl⟩
theorem dX6_leastThrough_78 : mD cX6_leastThrough 78 (.aload_n 0) 1 79 := ⟨by decide +kernel, rfl⟩
theorem dX6_leastThrough_79 : mD cX6_leastThrough 79 (.getfield 34) 3 82 := ⟨by decide +kernel, rfl⟩
theorem dX6_leastThrough_82 : mD cX6_leastThrough 82 (.getfield 56) 3 85 := ⟨by decide +kernel, rfl⟩
theorem dX6_leastThrough_85 : mD cX6_leastThrough 85 (.iload 5) 2 87 := ⟨by decide +kernel, rfl⟩
theorem dX6_leastThrough_87 : mD cX6_leastThrough 87 .iaload 1 88 := ⟨by decide +kernel, rfl⟩
theorem dX6_leastThrough_88 : mD cX6_leastThrough 88 .iastore 1 89 := ⟨by decide +kernel, rfl⟩
theorem dX6_leastThrough_89 : mD cX6_leastThrough 89 (.aload_n 0) 1 90 := ⟨by decide +kernel, rfl⟩
theorem dX6_leastThrough_90 : mD cX6_leastThrough 90 (.getfield 21) 3 93 := ⟨by decide +kernel, rfl⟩
theorem dX6_leastThrough_93 : mD cX6_leastThrough 93 (.iload 5) 2 95 := ⟨by decide +kernel, rfl⟩
theorem dX6_leastThrough_95 : mD cX6_leastThrough 95 (.iconst 0) 1 96 := ⟨by decide +kernel, rfl⟩
theorem dX6_leastThrough_96 : mD cX6_leastThrough 96 .iastore 1 97 := ⟨by decide +kernel, rfl⟩
theorem dX6_leastThrough_97 : mD cX6_leastThrough 97 (.iinc 5 1) 3 100 := ⟨by decide +kernel, rfl⟩
theorem dX6_leastThrough_100 : mJ cX6_leastThrough 100 .goto 103 57 := mJ.of (-43) (by decide +kernel) rfl (by decide)
theorem dX6_leastThrough_103 : mD cX6_leastThrough 103 (.aload_n 0) 1 104 := ⟨by decide +kernel, rfl⟩
theorem dX6_leastThrough_104 : mD cX6_leastThrough 104 (.sipush 1000) 3 107 := ⟨by decide +kernel, rfl⟩
theorem dX6_leastThrough_107 : mD cX6_leastThrough 107 (.putfield 59) 3 110 := ⟨by decide +kernel, rfl⟩
theorem dX6_leastThrough_110 : mD cX6_leastThrough 110 (.aload_n 0) 1 111 := ⟨by decide +kernel, rfl⟩
theorem dX6_leastThrough_111 : mD cX6_leastThrough 111 (.iconst 1) 1 112 := ⟨by decide +kernel, rfl⟩
theorem dX6_leastThrough_112 : mD cX6_leastThrough 112 (.iconst 0) 1 113 := ⟨by decide +kernel, rfl⟩
theorem dX6_leastThrough_113 : mD cX6_leastThrough 113 (.iconst 0) 1 114 := ⟨by decide +kernel, rfl⟩
theorem dX6_leastThrough_114 : mD cX6_leastThrough 114 (.iconst 0) 1 115 := ⟨by decide +kernel, rfl⟩
theorem dX6_leastThrough_115 : mD cX6_leastThrough 115 (.invokevirtual 62) 3 118 := ⟨by decide +kernel, rfl⟩
theorem dX6_leastThrough_118 : mD cX6_leastThrough 118 (.aload_n 0) 1 119 := ⟨by decide +kernel, rfl⟩
theorem dX6_leastThrough_119 : mD cX6_leastThrough 119 (.getfield 59) 3 122 := ⟨by decide +kernel, rfl⟩
theorem dX6_leastThrough_122 : mD cX6_leastThrough 122 (.sipush 1000) 3 125 := ⟨by decide +kernel, rfl⟩
theorem dX6_leastThrough_125 : mJ cX6_leastThrough 125 (.if_icmp .ne) 128 133 := mJ.of (8) (by decide +kernel) rfl (by decide)
theorem dX6_leastThrough_128 : mD cX6_leastThrough 128 (.bipush (-9)) 2 130 := ⟨by decide +kernel, rfl⟩
theorem dX6_leastThrough_130 : mJ cX6_leastThrough 130 .goto 133 137 := mJ.of (7) (by decide +kernel) rfl (by decide)
theorem dX6_leastThrough_133 : mD cX6_leastThrough 133 (.aload_n 0) 1 134 := ⟨by decide +kernel, rfl⟩
theorem dX6_leastThrough_134 : mD cX6_leastThrough 134 (.getfield 59) 3 137 := ⟨by decide +kernel, rfl⟩
theorem dX6_leastThrough_137 : mD cX6_leastThrough 137 .ireturn 1 138 := ⟨by decide +kernel, rfl⟩
theorem dX6_takeWanted_0 : mD cX6_takeWanted 0 (.iload_n 2) 1 1 := ⟨by decide +kernel, rfl⟩
theorem dX6_takeWanted_1 : mD cX6_takeWanted 1 (.istore_n 3) 1 2 := ⟨by decide +kernel, rfl⟩
theorem dX6_takeWanted_2 : mD cX6_takeWanted 2 (.aload_n 0) 1 3 := ⟨by decide +kernel, rfl⟩
theorem dX6_takeWanted_3 : mD cX6_takeWanted 3 (.getfield 44) 3 6 := ⟨by decide +kernel, rfl⟩
theorem dX6_takeWanted_6 : mD cX6_takeWanted 6 (.iconst 1) 1 7 := ⟨by decide +kernel, rfl⟩
theorem dX6_takeWanted_7 : mD cX6_takeWanted 7 .isub 1 8 := ⟨by decide +kernel, rfl⟩
theorem dX6_takeWanted_8 : mD cX6_takeWanted 8 (.istore 4) 2 10 := ⟨by decide +kernel, rfl⟩
theorem dX6_takeWanted_10 : mD cX6_takeWanted 10 (.iload 4) 2 12 := ⟨by decide +kernel, rfl⟩
theorem dX6_takeWanted_12 : mJ cX6_takeWanted 12 (.ifCond .lt) 15 41 := mJ.of (29) (by decide +kernel) rfl (by decide)
theorem dX6_takeWanted_15 : mD cX6_takeWanted 15 (.aload_n 0) 1 16 := ⟨by decide +kernel, rfl⟩
theorem dX6_takeWanted_16 : mD cX6_takeWanted 16 (.getfield 9) 3 19 := ⟨by decide +kernel, rfl⟩
theorem dX6_takeWanted_19 : mD cX6_takeWanted 19 (.iload_n 1) 1 20 := ⟨by decide +kernel, rfl⟩
theorem dX6_takeWanted_20 : mD cX6_takeWanted 20 (.iconst 4) 1 21 := ⟨by decide +kernel, rfl⟩
theorem dX6_takeWanted_21 : mD cX6_takeWanted 21 .imul 1 22 := ⟨by decide +kernel, rfl⟩
theorem dX6_takeWanted_22 : mD cX6_takeWanted 22 (.iload 4) 2 24 := ⟨by decide +kernel, rfl⟩
theorem dX6_takeWanted_24 : mD cX6_takeWanted 24 .iadd 1 25 := ⟨by decide +kernel, rfl⟩
theorem dX6_takeWanted_25 : mD cX6_takeWanted 25 (.iload_n 3) 1 26 := ⟨by decide +kernel, rfl⟩
theorem dX6_takeWanted_26 : mD cX6_takeWanted 26 (.bipush 10) 2 28 := ⟨by decide +kernel, rfl⟩
theorem dX6_takeWanted_28 : mD cX6_takeWanted 28 .irem 1 29 := ⟨by decide +kernel, rfl⟩
theorem dX6_takeWanted_29 : mD cX6_takeWanted 29 .iastore 1 30 := ⟨by decide +kernel, rfl⟩
theorem dX6_takeWanted_30 : mD cX6_takeWanted 30 (.iload_n 3) 1 31 := ⟨by decide +kernel, rfl⟩
theorem dX6_takeWanted_31 : mD cX6_takeWanted 31 (.bipush 10) 2 33 := ⟨by decide +kernel, rfl⟩
theorem dX6_takeWanted_33 : mD cX6_takeWanted 33 .idiv 1 34 := ⟨by decide +kernel, rfl⟩
theorem dX6_takeWanted_34 : mD cX6_takeWanted 34 (.istore_n 3) 1 35 := ⟨by decide +kernel, rfl⟩
theorem dX6_takeWanted_35 : mD cX6_takeWanted 35 (.iinc 4 (-1)) 3 38 := ⟨by decide +kernel, rfl⟩
theorem dX6_takeWanted_38 : mJ cX6_takeWanted 38 .goto 41 10 := mJ.of (-28) (by decide +kernel) rfl (by decide)
theorem dX6_takeWanted_41 : mD cX6_takeWanted 41 .return_ 1 42 := ⟨by decide +kernel, rfl⟩
theorem dX6_reckonTurns_0 : mD cX6_reckonTurns 0 (.iconst 0) 1 1 := ⟨by decide +kernel, rfl⟩
theorem dX6_reckonTurns_1 : mD cX6_reckonTurns 1 (.istore_n 2) 1 2 := ⟨by decide +kernel, rfl⟩
theorem dX6_reckonTurns_2 : mD cX6_reckonTurns 2 (.iload_n 2) 1 3 := ⟨by decide +kernel, rfl⟩
theorem dX6_reckonTurns_3 : mD cX6_reckonTurns 3 (.bipush 6) 2 5 := ⟨by decide +kernel, rfl⟩
theorem dX6_reckonTurns_5 : mJ cX6_reckonTurns 5 (.if_icmp .ge) 8 40 := mJ.of (35) (by decide +kernel) rfl (by decide)
theorem dX6_reckonTurns_8 : mD cX6_reckonTurns 8 (.aload_n 0) 1 9 := ⟨by decide +kernel, rfl⟩
theorem dX6_reckonTurns_9 : mD cX6_reckonTurns 9 (.getfield 24) 3 12 := ⟨by decide +kernel, rfl⟩
theorem dX6_reckonTurns_12 : mD cX6_reckonTurns 12 (.iload_n 2) 1 13 := ⟨by decide +kernel, rfl⟩
theorem dX6_reckonTurns_13 : mD cX6_reckonTurns 13 (.iload_n 2) 1 14 := ⟨by decide +kernel, rfl⟩
theorem dX6_reckonTurns_14 : mD cX6_reckonTurns 14 (.aload_n 0) 1 15 := ⟨by decide +kernel, rfl⟩
theorem dX6_reckonTurns_15 : mD cX6_reckonTurns 15 (.getfield 34) 3 18 := ⟨by decide +kernel, rfl⟩
theorem dX6_reckonTurns_18 : mD cX6_reckonTurns 18 (.getfield 66) 3 21 := ⟨by decide +kernel, rfl⟩
theorem dX6_reckonTurns_21 : mD cX6_reckonTurns 21 (.iload_n 1) 1 22 := ⟨by decide +kernel, rfl⟩
theorem dX6_reckonTurns_22 : mD cX6_reckonTurns 22 .iaload 1 23 := ⟨by decide +kernel, rfl⟩
theorem dX6_reckonTurns_23 : mJ cX6_reckonTurns 23 (.if_icmp .ne) 26 30 := mJ.of (7) (by decide +kernel) rfl (by decide)
theorem dX6_reckonTurns_26 : mD cX6_reckonTurns 26 (.iconst 0) 1 27 := ⟨by decide +kernel, rfl⟩
theorem dX6_reckonTurns_27 : mJ cX6_reckonTurns 27 .goto 30 33 := mJ.of (6) (by decide +kernel) rfl (by decide)
theorem dX6_reckonTurns_30 : mD cX6_reckonTurns 30 (.sipush 1000) 3 33 := ⟨by decide +kernel, rfl⟩
theorem dX6_reckonTurns_33 : mD cX6_reckonTurns 33 .iastore 1 34 := ⟨by decide +kernel, rfl⟩
theorem dX6_reckonTurns_34 : mD cX6_reckonTurns 34 (.iinc 2 1) 3 37 := ⟨by decide +kernel, rfl⟩
theorem dX6_reckonTurns_37 : mJ cX6_reckonTurns 37 .goto 40 2 := mJ.of (-35) (by decide +kernel) rfl (by decide)
theorem dX6_reckonTurns_40 : mD cX6_reckonTurns 40 (.aload_n 0) 1 41 := ⟨by decide +kernel, rfl⟩
theorem dX6_reckonTurns_41 : mD cX6_reckonTurns 41 (.getfield 27) 3 44 := ⟨by decide +kernel, rfl⟩
theorem dX6_reckonTurns_44 : mD cX6_reckonTurns 44 (.iload_n 1) 1 45 := ⟨by decide +kernel, rfl⟩
theorem dX6_reckonTurns_45 : mD cX6_reckonTurns 45 (.bipush 85) 2 47 := ⟨by decide +kernel, rfl⟩
theorem dX6_reckonTurns_47 : mD cX6_reckonTurns 47 .imul 1 48 := ⟨by decide +kernel, rfl⟩
theorem dX6_reckonTurns_48 : mD cX6_reckonTurns 48 (.iconst 0) 1 49 := ⟨by decide +kernel, rfl⟩
theorem dX6_reckonTurns_49 : mD cX6_reckonTurns 49 .iadd 1 50 := ⟨by decide +kernel, rfl⟩
theorem dX6_reckonTurns_50 : mD cX6_reckonTurns 50 (.iconst 0) 1 51 := ⟨by decide +kernel, rfl⟩
theorem dX6_reckonTurns_51 : mD cX6_reckonTurns 51 .iastore 1 52 := ⟨by decide +kernel, rfl⟩
theorem dX6_reckonTurns_52 : mD cX6_reckonTurns 52 (.aload_n 0) 1 53 := ⟨by decide +kernel, rfl⟩
theorem dX6_reckonTurns_53 : mD cX6_reckonTurns 53 (.iload_n 1) 1 54 := ⟨by decide +kernel, rfl⟩
theorem dX6_reckonTurns_54 : mD cX6_reckonTurns 54 (.iconst 0) 1 55 := ⟨by decide +kernel, rfl⟩
theorem dX6_reckonTurns_55 : mD cX6_reckonTurns 55 (.iconst 1) 1 56 := ⟨by decide +kernel, rfl⟩
theorem dX6_reckonTurns_56 : mD cX6_reckonTurns 56 (.invokevirtual 69) 3 59 := ⟨by decide +kernel, rfl⟩
theorem dX6_reckonTurns_59 : mD cX6_reckonTurns 59 .return_ 1 60 := ⟨by decide +kernel, rfl⟩
theorem dX6_reckonPathsFrom_0 : mD cX6_reckonPathsFrom 0 (.iload_n 3) 1 1 := ⟨by decide +kernel, rfl⟩
theorem dX6_reckonPathsFrom_1 : mD cX6_reckonPathsFrom 1 (.aload_n 0) 1 2 := ⟨by decide +kernel, rfl⟩
theorem dX6_reckonPathsFrom_2 : mD cX6_reckonPathsFrom 2 (.getfield 45) 3 5 := ⟨by decide +kernel, rfl⟩
theorem dX6_reckonPathsFrom_5 : mJ cX6_reckonPathsFrom 5 (.if_icmp .le) 8 9 := mJ.of (4) (by decide +kernel) rfl (by decide)
theorem dX6_reckonPathsFrom_8 : mD cX6_reckonPathsFrom 8 .return_ 1 9 := ⟨by decide +kernel, rfl⟩
theorem dX6_reckonPathsFrom_9 : mD cX6_reckonPathsFrom 9 (.iconst 0) 1 10 := ⟨by decide +kernel, rfl⟩
theorem dX6_reckonPathsFrom_10 : mD cX6_reckonPathsFrom 10 (.istore 4) 2 12 := ⟨by decide +kernel, rfl⟩
theorem dX6_reckonPathsFrom_12 : mD cX6_reckonPathsFrom 12 (.iload 4) 2 14 := ⟨by decide +kernel, rfl⟩
theorem dX6_reckonPathsFrom_14 : mD cX6_reckonPathsFrom 14 (.aload_n 0) 1 15 := ⟨by decide +kernel, rfl⟩
theorem dX6_reckonPathsFrom_15 : mD cX6_reckonPathsFrom 15 (.getfield 44) 3 18 := ⟨by decide +kernel, rfl⟩
theorem dX6_reckonPathsFrom_18 : mJ cX6_reckonPathsFrom 18 (.if_icmp .ge) 21 86 := mJ.of (68) (by decide +kernel) rfl (by decide)
theorem dX6_reckonPathsFrom_21 : mD cX6_reckonPathsFrom 21 (.iload_n 2) 1 22 := ⟨by decide +kernel, rfl⟩
theorem dX6_reckonPathsFrom_22 : mD cX6_reckonPathsFrom 22 (.iload 4) 2 24 := ⟨by decide +kernel, rfl⟩
theorem dX6_reckonPathsFrom_24 : mD cX6_reckonPathsFrom 24 (.invokestatic 73) 3 27 := ⟨by decide +kernel, rfl⟩
theorem dX6_reckonPathsFrom_27 : mD cX6_reckonPathsFrom 27 (.istore 5) 2 29 := ⟨by decide +kernel, rfl⟩
theorem dX6_reckonPathsFrom_29 : mD cX6_reckonPathsFrom 29 (.aload_n 0) 1 30 := ⟨by decide +kernel, rfl⟩
theorem dX6_reckonPathsFrom_30 : mD cX6_reckonPathsFrom 30 (.iload_n 1) 1 31 := ⟨by decide +kernel, rfl⟩
theorem dX6_reckonPathsFrom_31 : mD cX6_reckonPathsFrom 31 (.iload_n 3) 1 32 := ⟨by decide +kernel, rfl⟩
theorem dX6_reckonPathsFrom_32 : mD cX6_reckonPathsFrom 32 (.aload_n 0) 1 33 := ⟨by decide +kernel, rfl⟩
theorem dX6_reckonPathsFrom_33 : mD cX6_reckonPathsFrom 33 (.getfield 9) 3 36 := ⟨by decide +kernel, rfl⟩
theorem dX6_reckonPathsFrom_36 : mD cX6_reckonPathsFrom 36 (.iload_n 3) 1 37 := ⟨by decide +kernel, rfl⟩
theorem dX6_reckonPathsFrom_37 : mD cX6_reckonPathsFrom 37 (.iconst 4) 1 38 := ⟨by decide +kernel, rfl⟩
theorem dX6_reckonPathsFrom_38 : mD cX6_reckonPathsFrom 38 .imul 1 39 := ⟨by decide +kernel, rfl⟩
theorem dX6_reckonPathsFrom_39 : mD cX6_reckonPathsFrom 39 (.iload 4) 2 41 := ⟨by decide +kernel, rfl⟩
theorem dX6_reckonPathsFrom_41 : mD cX6_reckonPathsFrom 41 .iadd 1 42 := ⟨by decide +kernel, rfl⟩
theorem dX6_reckonPathsFrom_42 : mD cX6_reckonPathsFrom 42 .iaload 1 43 := ⟨by decide +kernel, rfl⟩
theorem dX6_reckonPathsFrom_43 : mD cX6_reckonPathsFrom 43 (.invokevirtual 77) 3 46 := ⟨by decide +kernel, rfl⟩
theorem dX6_reckonPathsFrom_46 : mD cX6_reckonPathsFrom 46 (.istore 6) 2 48 := ⟨by decide +kernel, rfl⟩
theorem dX6_reckonPathsFrom_48 : mD cX6_reckonPathsFrom 48 (.aload_n 0) 1 49 := ⟨by decide +kernel, rfl⟩
theorem dX6_reckonPathsFrom_49 : mD cX6_reckonPathsFrom 49 (.getfield 27) 3 52 := ⟨by decide +kernel, rfl⟩
theorem dX6_reckonPathsFrom_52 : mD cX6_reckonPathsFrom 52 (.iload_n 1) 1 53 := ⟨by decide +kernel, rfl⟩
theorem dX6_reckonPathsFrom_53 : mD cX6_reckonPathsFrom 53 (.bipush 85) 2 55 := ⟨by decide +kernel, rfl⟩
theorem dX6_reckonPathsFrom_55 : mD cX6_reckonPathsFrom 55 .imul 1 56 := ⟨by decide +kernel, rfl⟩
theorem dX6_reckonPathsFrom_56 : mD cX6_reckonPathsFrom 56 (.iload 5) 2 58 := ⟨by decide +kernel, rfl⟩
theorem dX6_reckonPathsFrom_58 : mD cX6_reckonPathsFrom 58 .iadd 1 59 := ⟨by decide +kernel, rfl⟩
theorem dX6_reckonPathsFrom_59 : mD cX6_reckonPathsFrom 59 (.iload 6) 2 61 := ⟨by decide +kernel, rfl⟩
theorem dX6_reckonPathsFrom_61 : mD cX6_reckonPathsFrom 61 .iastore 1 62 := ⟨by decide +kernel, rfl⟩
theorem dX6_reckonPathsFrom_62 : mD cX6_reckonPathsFrom 62 (.iload 6) 2 64 := ⟨by decide +kernel, rfl⟩
theorem dX6_reckonPathsFrom_64 : mD cX6_reckonPathsFrom 64 (.sipush 1000) 3 67 := ⟨by decide +kernel, rfl⟩
theorem dX6_reckonPathsFrom_67 : mJ cX6_reckonPathsFrom 67 (.if_icmp .ge) 70 80 := mJ.of (13) (by decide +kernel) rfl (by decide)
theorem dX6_reckonPathsFrom_70 : mD cX6_reckonPathsFrom 70 (.aload_n 0) 1 71 := ⟨by decide +kernel, rfl⟩
theorem dX6_reckonPathsFrom_71 : mD cX6_reckonPathsFrom 71 (.iload_n 1) 1 72 := ⟨by decide +kernel, rfl⟩
theorem dX6_reckonPathsFrom_72 : mD cX6_reckonPathsFrom 72 (.iload 5) 2 74 := ⟨by decide +kernel, rfl⟩
theorem dX6_reckonPathsFrom_74 : mD cX6_reckonPathsFrom 74 (.iload_n 3) 1 75 := ⟨by decide +kernel, rfl⟩
theorem dX6_reckonPathsFrom_75 : mD cX6_reckonPathsFrom 75 (.iconst 1) 1 76 := ⟨by decide +kernel, rfl⟩
theorem dX6_reckonPathsFrom_76 : mD cX6_reckonPathsFrom 76 .iadd 1 77 := ⟨by decide +kernel, rfl⟩
theorem dX6_reckonPathsFrom_77 : mD cX6_reckonPathsFrom 77 (.invokevirtual 69) 3 80 := ⟨by decide +kernel, rfl⟩
theorem dX6_reckonPathsFrom_80 : mD cX6_reckonPathsFrom 80 (.iinc 4 1) 3 83 := ⟨by decide +kernel, rfl⟩
theorem dX6_reckonPathsFrom_83 : mJ cX6_reckonPathsFrom 83 .goto 86 12 := mJ.of (-71) (by decide +kernel) rfl (by decide)
theorem dX6_reckonPathsFrom_86 : mD cX6_reckonPathsFrom 86 .return_ 1 87 := ⟨by decide +kernel, rfl⟩
theorem dX6_reckonSides_0 : mD cX6_reckonSides 0 (.sipush 1000) 3 3 := ⟨by decide +kernel, rfl⟩
theorem dX6_reckonSides_3 : mD cX6_reckonSides 3 (.istore 4) 2 5 := ⟨by decide +kernel, rfl⟩
theorem dX6_reckonSides_5 : mD cX6_reckonSides 5 (.iconst 0) 1 6 := ⟨by decide +kernel, rfl⟩
theorem dX6_reckonSides_6 : mD cX6_reckonSides 6 (.istore 5) 2 8 := ⟨by decide +kernel, rfl⟩
theorem dX6_reckonSides_8 : mD cX6_reckonSides 8 (.iload 5) 2 10 := ⟨by decide +kernel, rfl⟩
theorem dX6_reckonSides_10 : mD cX6_reckonSides 10 (.bipush 6) 2 12 := ⟨by decide +kernel, rfl⟩
theorem dX6_reckonSides_12 : mJ cX6_reckonSides 12 (.if_icmp .ge) 15 124 := mJ.of (112) (by decide +kernel) rfl (by decide)
theorem dX6_reckonSides_15 : mD cX6_reckonSides 15 (.sipush 1000) 3 18 := ⟨by decide +kernel, rfl⟩
theorem dX6_reckonSides_18 : mD cX6_reckonSides 18 (.istore 6) 2 20 := ⟨by decide +kernel, rfl⟩
theorem dX6_reckonSides_20 : mD cX6_reckonSides 20 (.aload_n 0) 1 21 := ⟨by decide +kernel, rfl⟩
theorem dX6_reckonSides_21 : mD cX6_reckonSides 21 (.getfield 30) 3 24 := ⟨by decide +kernel, rfl⟩
theorem dX6_reckonSides_24 : mD cX6_reckonSides 24 (.aload_n 0) 1 25 := ⟨by decide +kernel, rfl⟩
theorem dX6_reckonSides_25 : mD cX6_reckonSides 25 (.getfield 34) 3 28 := ⟨by decide +kernel, rfl⟩
theorem dX6_reckonSides_28 : mD cX6_reckonSides 28 (.getfield 81) 3 31 := ⟨by decide +kernel, rfl⟩
theorem dX6_reckonSides_31 : mD cX6_reckonSides 31 (.iload_n 1) 1 32 := ⟨by decide +kernel, rfl⟩
theorem dX6_reckonSides_32 : mD cX6_reckonSides 32 (.bipush 6) 2 34 := ⟨by decide +kernel, rfl⟩
theorem dX6_reckonSides_34 : mD cX6_reckonSides 34 .imul 1 35 := ⟨by decide +kernel, rfl⟩
theorem dX6_reckonSides_35 : mD cX6_reckonSides 35 (.iload 5) 2 37 := ⟨by decide +kernel, rfl⟩
theorem dX6_reckonSides_37 : mD cX6_reckonSides 37 .iadd 1 38 := ⟨by decide +kernel, rfl⟩
theorem dX6_reckonSides_38 : mD cX6_reckonSides 38 .iaload 1 39 := ⟨by decide +kernel, rfl⟩
theorem dX6_reckonSides_39 : mD cX6_reckonSides 39 (.iload_n 3) 1 40 := ⟨by decide +kernel, rfl⟩
theorem dX6_reckonSides_40 : mD cX6_reckonSides 40 (.invokevirtual 84) 3 43 := ⟨by decide +kernel, rfl⟩
theorem dX6_reckonSides_43 : mJ cX6_reckonSides 43 (.ifCond .eq) 46 95 := mJ.of (52) (by decide +kernel) rfl (by decide)
theorem dX6_reckonSides_46 : mD cX6_reckonSides 46 (.iconst 0) 1 47 := ⟨by decide +kernel, rfl⟩
theorem dX6_reckonSides_47 : mD cX6_reckonSides 47 (.istore 7) 2 49 := ⟨by decide +kernel, rfl⟩
theorem dX6_reckonSides_49 : mD cX6_reckonSides 49 (.iload 7) 2 51 := ⟨by decide +kernel, rfl⟩
theorem dX6_reckonSides_51 : mD cX6_reckonSides 51 (.bipush 6) 2 53 := ⟨by decide +kernel, rfl⟩
theorem dX6_reckonSides_53 : mJ cX6_reckonSides 53 (.if_icmp .ge) 56 95 := mJ.of (42) (by decide +kernel) rfl (by decide)
theorem dX6_reckonSides_56 : mD cX6_reckonSides 56 (.aload_n 0) 1 57 := ⟨by decide +kernel, rfl⟩
theorem dX6_reckonSides_57 : mD cX6_reckonSides 57 (.getfield 24) 3 60 := ⟨by decide +kernel, rfl⟩
theorem dX6_reckonSides_60 : mD cX6_reckonSides 60 (.iload_n 2) 1 61 := ⟨by decide +kernel, rfl⟩
theorem dX6_reckonSides_61 : mD cX6_reckonSides 61 (.iconst 1) 1 62 := ⟨by decide +kernel, rfl⟩
theorem dX6_reckonSides_62 : mD cX6_reckonSides 62 .isub 1 63 := ⟨by decide +kernel, rfl⟩
theorem dX6_reckonSides_63 : mD cX6_reckonSides 63 (.bipush 6) 2 65 := ⟨by decide +kernel, rfl⟩
theorem dX6_reckonSides_65 : mD cX6_reckonSides 65 .imul 1 66 := ⟨by decide +kernel, rfl⟩
theorem dX6_reckonSides_66 : mD cX6_reckonSides 66 (.iload 7) 2 68 := ⟨by decide +kernel, rfl⟩
theorem dX6_reckonSides_68 : mD cX6_reckonSides 68 .iadd 1 69 := ⟨by decide +kernel, rfl⟩
theorem dX6_reckonSides_69 : mD cX6_reckonSides 69 .iaload 1 70 := ⟨by decide +kernel, rfl⟩
theorem dX6_reckonSides_70 : mD cX6_reckonSides 70 (.iload 7) 2 72 := ⟨by decide +kernel, rfl⟩
theorem dX6_reckonSides_72 : mD cX6_reckonSides 72 (.iload 5) 2 74 := ⟨by decide +kernel, rfl⟩
theorem dX6_reckonSides_74 : mD cX6_reckonSides 74 (.invokestatic 88) 3 77 := ⟨by decide +kernel, rfl⟩
theorem dX6_reckonSides_77 : mD cX6_reckonSides 77 .iadd 1 78 := ⟨by decide +kernel, rfl⟩
theorem dX6_reckonSides_78 : mD cX6_reckonSides 78 (.istore 8) 2 80 := ⟨by decide +kernel, rfl⟩
theorem dX6_reckonSides_80 : mD cX6_reckonSides 80 (.iload 6) 2 82 := ⟨by decide +kernel, rfl⟩
theorem dX6_reckonSides_82 : mD cX6_reckonSides 82 (.iload 8) 2 84 := ⟨by decide +kernel, rfl⟩
theorem dX6_reckonSides_84 : mD cX6_reckonSides 84 (.invokestatic 91) 3 87 := ⟨by decide +kernel, rfl⟩
theorem dX6_reckonSides_87 : mD cX6_reckonSides 87 (.istore 6) 2 89 := ⟨by decide +kernel, rfl⟩
theorem dX6_reckonSides_89 : mD cX6_reckonSides 89 (.iinc 7 1) 3 92 := ⟨by decide +kernel, rfl⟩
theorem dX6_reckonSides_92 : mJ cX6_reckonSides 92 .goto 95 49 := mJ.of (-43) (by decide +kernel) rfl (by decide)
theorem dX6_reckonSides_95 : mD cX6_reckonSides 95 (.aload_n 0) 1 96 := ⟨by decide +kernel, rfl⟩
theorem dX6_reckonSides_96 : mD cX6_reckonSides 96 (.getfield 24) 3 99 := ⟨by decide +kernel, rfl⟩
theorem dX6_reckonSides_99 : mD cX6_reckonSides 99 (.iload_n 2) 1 100 := ⟨by decide +kernel, rfl⟩
theorem dX6_reckonSides_100 : mD cX6_reckonSides 100 (.bipush 6) 2 102 := ⟨by decide +kernel, rfl⟩
theorem dX6_reckonSides_102 : mD cX6_reckonSides 102 .imul 1 103 := ⟨by decide +kernel, rfl⟩
theorem dX6_reckonSides_103 : mD cX6_reckonSides 103 (.iload 5) 2 105 := ⟨by decide +kernel, rfl⟩
theorem dX6_reckonSides_105 : mD cX6_reckonSides 105 .iadd 1 106 := ⟨by decide +kernel, rfl⟩
theorem dX6_reckonSides_106 : mD cX6_reckonSides 106 (.iload 6) 2 108 := ⟨by decide +kernel, rfl⟩
theorem dX6_reckonSides_108 : mD cX6_reckonSides 108 .iastore 1 109 := ⟨by decide +kernel, rfl⟩
theorem dX6_reckonSides_109 : mD cX6_reckonSides 109 (.iload 4) 2 111 := ⟨by decide +kernel, rfl⟩
theorem dX6_reckonSides_111 : mD cX6_reckonSides 111 (.iload 6) 2 113 := ⟨by decide +kernel, rfl⟩
theorem dX6_reckonSides_113 : mD cX6_reckonSides 113 (.invokestatic 91) 3 116 := ⟨by decide +kernel, rfl⟩
theorem dX6_reckonSides_116 : mD cX6_reckonSides 116 (.istore 4) 2 118 := ⟨by decide +kernel, rfl⟩
theorem dX6_reckonSides_118 : mD cX6_reckonSides 118 (.iinc 5 1) 3 121 := ⟨by decide +kernel, rfl⟩
theorem dX6_reckonSides_121 : mJ cX6_reckonSides 121 .goto 124 8 := mJ.of (-113) (by decide +kernel) rfl (by decide)
theorem dX6_reckonSides_124 : mD cX6_reckonSides 124 (.iload 4) 2 126 := ⟨by decide +kernel, rfl⟩
theorem dX6_reckonSides_126 : mD cX6_reckonSides 126 .ireturn 1 127 := ⟨by decide +kernel, rfl⟩
theorem dX6_longerPath_0 : mD cX6_longerPath 0 (.iload_n 0) 1 1 := ⟨by decide +kernel, rfl⟩
theorem dX6_longerPath_1 : mD cX6_longerPath 1 (.iconst 4) 1 2 := ⟨by decide +kernel, rfl⟩
theorem dX6_longerPath_2 : mD cX6_longerPath 2 .imul 1 3 := ⟨by decide +kernel, rfl⟩
theorem dX6_longerPath_3 : mD cX6_longerPath 3 (.iload_n 1) 1 4 := ⟨by decide +kernel, rfl⟩
theorem dX6_longerPath_4 : mD cX6_longerPath 4 .iadd 1 5 := ⟨by decide +kernel, rfl⟩
theorem dX6_longerPath_5 : mD cX6_longerPath 5 (.iconst 1) 1 6 := ⟨by decide +kernel, rfl⟩
theorem dX6_longerPath_6 : mD cX6_longerPath 6 .iadd 1 7 := ⟨by decide +kernel, rfl⟩
theorem dX6_longerPath_7 : mD cX6_longerPath 7 .ireturn 1 8 := ⟨by decide +kernel, rfl⟩
theorem dX6_choose_0 : mD cX6_choose 0 (.iload 4) 2 2 := ⟨by decide +kernel, rfl⟩
theorem dX6_choose_2 : mD cX6_choose 2 (.aload_n 0) 1 3 := ⟨by decide +kernel, rfl⟩
theorem dX6_choose_3 : mD cX6_choose 3 (.getfield 59) 3 6 := ⟨by decide +kernel, rfl⟩
theorem dX6_choose_6 : mJ cX6_choose 6 (.if_icmp .lt) 9 10 := mJ.of (4) (by decide +kernel) rfl (by decide)
theorem dX6_choose_9 : mD cX6_choose 9 .return_ 1 10 := ⟨by decide +kernel, rfl⟩
theorem dX6_choose_10 : mD cX6_choose 10 (.iload_n 2) 1 11 := ⟨by decide +kernel, rfl⟩
theorem dX6_choose_11 : mD cX6_choose 11 (.aload_n 0) 1 12 := ⟨by decide +kernel, rfl⟩
theorem dX6_choose_12 : mD cX6_choose 12 (.getfield 44) 3 15 := ⟨by decide +kernel, rfl⟩
theorem dX6_choose_15 : mJ cX6_choose 15 (.if_icmp .lt) 18 32 := mJ.of (17) (by decide +kernel) rfl (by decide)
theorem dX6_choose_18 : mD cX6_choose 18 (.aload_n 0) 1 19 := ⟨by decide +kernel, rfl⟩
theorem dX6_choose_19 : mD cX6_choose 19 (.iload_n 1) 1 20 := ⟨by decide +kernel, rfl⟩
theorem dX6_choose_20 : mD cX6_choose 20 (.iload 4) 2 22 := ⟨by decide +kernel, rfl⟩
theorem dX6_choose_22 : mD cX6_choose 22 (.aload_n 0) 1 23 := ⟨by decide +kernel, rfl⟩
theorem dX6_choose_23 : mD cX6_choose 23 (.iload_n 1) 1 24 := ⟨by decide +kernel, rfl⟩
theorem dX6_choose_24 : mD cX6_choose 24 (.invokevirtual 96) 3 27 := ⟨by decide +kernel, rfl⟩
theorem dX6_choose_27 : mD cX6_choose 27 .iadd 1 28 := ⟨by decide +kernel, rfl⟩
theorem dX6_choose_28 : mD cX6_choose 28 (.invokevirtual 100) 3 31 := ⟨by decide +kernel, rfl⟩
theorem dX6_choose_31 : mD cX6_choose 31 .return_ 1 32 := ⟨by decide +kernel, rfl⟩
theorem dX6_choose_32 : mD cX6_choose 32 (.iconst 0) 1 33 := ⟨by decide +kernel, rfl⟩
theorem dX6_choose_33 : mD cX6_choose 33 (.istore 5) 2 35 := ⟨by decide +kernel, rfl⟩
theorem dX6_choose_35 : mD cX6_choose 35 (.iload 5) 2 37 := ⟨by decide +kernel, rfl⟩
theorem dX6_choose_37 : mD cX6_choose 37 (.aload_n 0) 1 38 := ⟨by decide +kernel, rfl⟩
theorem dX6_choose_38 : mD cX6_choose 38 (.getfield 44) 3 41 := ⟨by decide +kernel, rfl⟩
theorem dX6_choose_41 : mJ cX6_choose 41 (.if_icmp .ge) 44 167 := mJ.of (126) (by decide +kernel) rfl (by decide)
theorem dX6_choose_44 : mD cX6_choose 44 (.iload_n 3) 1 45 := ⟨by decide +kernel, rfl⟩
theorem dX6_choose_45 : mD cX6_choose 45 (.iload 5) 2 47 := ⟨by decide +kernel, rfl⟩
theorem dX6_choose_47 : mD cX6_choose 47 .ishr 1 48 := ⟨by decide +kernel, rfl⟩
theorem dX6_choose_48 : mD cX6_choose 48 (.iconst 1) 1 49 := ⟨by decide +kernel, rfl⟩
theorem dX6_choose_49 : mD cX6_choose 49 .iand 1 50 := ⟨by decide +kernel, rfl⟩
theorem dX6_choose_50 : mJ cX6_choose 50 (.ifCond .ne) 53 161 := mJ.of (111) (by decide +kernel) rfl (by decide)
theorem dX6_choose_53 : mD cX6_choose 53 (.aload_n 0) 1 54 := ⟨by decide +kernel, rfl⟩
theorem dX6_choose_54 : mD cX6_choose 54 (.getfield 21) 3 57 := ⟨by decide +kernel, rfl⟩
theorem dX6_choose_57 : mD cX6_choose 57 (.iload_n 1) 1 58 := ⟨by decide +kernel, rfl⟩
theorem dX6_choose_58 : mD cX6_choose 58 (.iconst 1) 1 59 := ⟨by decide +kernel, rfl⟩
theorem dX6_choose_59 : mD cX6_choose 59 .isub 1 60 := ⟨by decide +kernel, rfl⟩
theorem dX6_choose_60 : mD cX6_choose 60 (.iconst 4) 1 61 := ⟨by decide +kernel, rfl⟩
theorem dX6_choose_61 : mD cX6_choose 61 .imul 1 62 := ⟨by decide +kernel, rfl⟩
theorem dX6_choose_62 : mD cX6_choose 62 (.iload 5) 2 64 := ⟨by decide +kernel, rfl⟩
theorem dX6_choose_64 : mD cX6_choose 64 .iadd 1 65 := ⟨by decide +kernel, rfl⟩
theorem dX6_choose_65 : mD cX6_choose 65 .iaload 1 66 := ⟨by decide +kernel, rfl⟩
theorem dX6_choose_66 : mD cX6_choose 66 (.istore 6) 2 68 := ⟨by decide +kernel, rfl⟩
theorem dX6_choose_68 : mD cX6_choose 68 (.iload 6) 2 70 := ⟨by decide +kernel, rfl⟩
theorem dX6_choose_70 : mD cX6_choose 70 (.iload_n 2) 1 71 := ⟨by decide +kernel, rfl⟩
theorem dX6_choose_71 : mD cX6_choose 71 (.invokestatic 73) 3 74 := ⟨by decide +kernel, rfl⟩
theorem dX6_choose_74 : mD cX6_choose 74 (.istore 7) 2 76 := ⟨by decide +kernel, rfl⟩
theorem dX6_choose_76 : mD cX6_choose 76 (.aload_n 0) 1 77 := ⟨by decide +kernel, rfl⟩
theorem dX6_choose_77 : mD cX6_choose 77 (.getfield 27) 3 80 := ⟨by decide +kernel, rfl⟩
theorem dX6_choose_80 : mD cX6_choose 80 (.iload 5) 2 82 := ⟨by decide +kernel, rfl⟩
theorem dX6_choose_82 : mD cX6_choose 82 (.bipush 85) 2 84 := ⟨by decide +kernel, rfl⟩
theorem dX6_choose_84 : mD cX6_choose 84 .imul 1 85 := ⟨by decide +kernel, rfl⟩
theorem dX6_choose_85 : mD cX6_choose 85 (.iload 7) 2 87 := ⟨by decide +kernel, rfl⟩
theorem dX6_choose_87 : mD cX6_choose 87 .iadd 1 88 := ⟨by decide +kernel, rfl⟩
theorem dX6_choose_88 : mD cX6_choose 88 .iaload 1 89 := ⟨by decide +kernel, rfl⟩
theorem dX6_choose_89 : mD cX6_choose 89 (.aload_n 0) 1 90 := ⟨by decide +kernel, rfl⟩
theorem dX6_choose_90 : mD cX6_choose 90 (.getfield 27) 3 93 := ⟨by decide +kernel, rfl⟩
theorem dX6_choose_93 : mD cX6_choose 93 (.iload 5) 2 95 := ⟨by decide +kernel, rfl⟩
theorem dX6_choose_95 : mD cX6_choose 95 (.bipush 85) 2 97 := ⟨by decide +kernel, rfl⟩
theorem dX6_choose_97 : mD cX6_choose 97 .imul 1 98 := ⟨by decide +kernel, rfl⟩
theorem dX6_choose_98 : mD cX6_choose 98 (.iload 6) 2 100 := ⟨by decide +kernel, rfl⟩
theorem dX6_choose_100 : mD cX6_choose 100 .iadd 1 101 := ⟨by decide +kernel, rfl⟩
theorem dX6_choose_101 : mD cX6_choose 101 .iaload 1 102 := ⟨by decide +kernel, rfl⟩
theorem dX6_choose_102 : mD cX6_choose 102 .isub 1 103 := ⟨by decide +kernel, rfl⟩
theorem dX6_choose_103 : mD cX6_choose 103 (.istore 8) 2 105 := ⟨by decide +kernel, rfl⟩
theorem dX6_choose_105 : mD cX6_choose 105 (.aload_n 0) 1 106 := ⟨by decide +kernel, rfl⟩
theorem dX6_choose_106 : mD cX6_choose 106 (.getfield 15) 3 109 := ⟨by decide +kernel, rfl⟩
theorem dX6_choose_109 : mD cX6_choose 109 (.iload_n 1) 1 110 := ⟨by decide +kernel, rfl⟩
theorem dX6_choose_110 : mD cX6_choose 110 (.iconst 4) 1 111 := ⟨by decide +kernel, rfl⟩
theorem dX6_choose_111 : mD cX6_choose 111 .imul 1 112 := ⟨by decide +kernel, rfl⟩
theorem dX6_choose_112 : mD cX6_choose 112 (.iload_n 2) 1 113 := ⟨by decide +kernel, rfl⟩
theorem dX6_choose_113 : mD cX6_choose 113 .iadd 1 114 := ⟨by decide +kernel, rfl⟩
theorem dX6_choose_114 : mD cX6_choose 114 (.iload 5) 2 116 := ⟨by decide +kernel, rfl⟩
theorem dX6_choose_116 : mD cX6_choose 116 .iastore 1 117 := ⟨by decide +kernel, rfl⟩
theorem dX6_choose_117 : mD cX6_choose 117 (.aload_n 0) 1 118 := ⟨by decide +kernel, rfl⟩
theorem dX6_choose_118 : mD cX6_choose 118 (.getfield 18) 3 121 := ⟨by decide +kernel, rfl⟩
theorem dX6_choose_121 : mD cX6_choose 121 (.iload_n 1) 1 122 := ⟨by decide +kernel, rfl⟩
theorem dX6_choose_122 : mD cX6_choose 122 (.iconst 4) 1 123 := ⟨by decide +kernel, rfl⟩
theorem dX6_choose_123 : mD cX6_choose 123 .imul 1 124 := ⟨by decide +kernel, rfl⟩
theorem dX6_choose_124 : mD cX6_choose 124 (.iload 5) 2 126 := ⟨by decide +kernel, rfl⟩
theorem dX6_choose_126 : mD cX6_choose 126 .iadd 1 127 := ⟨by decide +kernel, rfl⟩
theorem dX6_choose_127 : mD cX6_choose 127 (.iload_n 2) 1 128 := ⟨by decide +kernel, rfl⟩
theorem dX6_choose_128 : mD cX6_choose 128 .iastore 1 129 := ⟨by decide +kernel, rfl⟩
theorem dX6_choose_129 : mD cX6_choose 129 (.aload_n 0) 1 130 := ⟨by decide +kernel, rfl⟩
theorem dX6_choose_130 : mD cX6_choose 130 (.getfield 21) 3 133 := ⟨by decide +kernel, rfl⟩
theorem dX6_choose_133 : mD cX6_choose 133 (.iload_n 1) 1 134 := ⟨by decide +kernel, rfl⟩
theorem dX6_choose_134 : mD cX6_choose 134 (.iconst 4) 1 135 := ⟨by decide +kernel, rfl⟩
theorem dX6_choose_135 : mD cX6_choose 135 .imul 1 136 := ⟨by decide +kernel, rfl⟩
theorem dX6_choose_136 : mD cX6_choose 136 (.iload 5) 2 138 := ⟨by decide +kernel, rfl⟩
theorem dX6_choose_138 : mD cX6_choose 138 .iadd 1 139 := ⟨by decide +kernel, rfl⟩
theorem dX6_choose_139 : mD cX6_choose 139 (.iload 7) 2 141 := ⟨by decide +kernel, rfl⟩
theorem dX6_choose_141 : mD cX6_choose 141 .iastore 1 142 := ⟨by decide +kernel, rfl⟩
theorem dX6_choose_142 : mD cX6_choose 142 (.aload_n 0) 1 143 := ⟨by decide +kernel, rfl⟩
theorem dX6_choose_143 : mD cX6_choose 143 (.iload_n 1) 1 144 := ⟨by decide +kernel, rfl⟩
theorem dX6_choose_144 : mD cX6_choose 144 (.iload_n 2) 1 145 := ⟨by decide +kernel, rfl⟩
theorem dX6_choose_145 : mD cX6_choose 145 (.iconst 1) 1 146 := ⟨by decide +kernel, rfl⟩
theorem dX6_choose_146 : mD cX6_choose 146 .iadd 1 147 := ⟨by decide +kernel, rfl⟩
theorem dX6_choose_147 : mD cX6_choose 147 (.iload_n 3) 1 148 := ⟨by decide +kernel, rfl⟩
theorem dX6_choose_148 : mD cX6_choose 148 (.iconst 1) 1 149 := ⟨by decide +kernel, rfl⟩
theorem dX6_choose_149 : mD cX6_choose 149 (.iload 5) 2 151 := ⟨by decide +kernel, rfl⟩
theorem dX6_choose_151 : mD cX6_choose 151 .ishl 1 152 := ⟨by decide +kernel, rfl⟩
theorem dX6_choose_152 : mD cX6_choose 152 .ior 1 153 := ⟨by decide +kernel, rfl⟩
theorem dX6_choose_153 : mD cX6_choose 153 (.iload 4) 2 155 := ⟨by decide +kernel, rfl⟩
theorem dX6_choose_155 : mD cX6_choose 155 (.iload 8) 2 157 := ⟨by decide +kernel, rfl⟩
theorem dX6_choose_157 : mD cX6_choose 157 .iadd 1 158 := ⟨by decide +kernel, rfl⟩
theorem dX6_choose_158 : mD cX6_choose 158 (.invokevirtual 62) 3 161 := ⟨by decide +kernel, rfl⟩
theorem dX6_choose_161 : mD cX6_choose 161 (.iinc 5 1) 3 164 := ⟨by decide +kernel, rfl⟩
theorem dX6_choose_164 : mJ cX6_choose 164 .goto 167 35 := mJ.of (-129) (by decide +kernel) rfl (by decide)
theorem dX6_choose_167 : mD cX6_choose 167 .return_ 1 168 := ⟨by decide +kernel, rfl⟩
theorem dX6_goOn_0 : mD cX6_goOn 0 (.iload_n 1) 1 1 := ⟨by decide +kernel, rfl⟩
theorem dX6_goOn_1 : mD cX6_goOn 1 (.aload_n 0) 1 2 := ⟨by decide +kernel, rfl⟩
theorem dX6_goOn_2 : mD cX6_goOn 2 (.getfield 45) 3 5 := ⟨by decide +kernel, rfl⟩
theorem dX6_goOn_5 : mJ cX6_goOn 5 (.if_icmp .ge) 8 21 := mJ.of (16) (by decide +kernel) rfl (by decide)
theorem dX6_goOn_8 : mD cX6_goOn 8 (.aload_n 0) 1 9 := ⟨by decide +kernel, rfl⟩
theorem dX6_goOn_9 : mD cX6_goOn 9 (.iload_n 1) 1 10 := ⟨by decide +kernel, rfl⟩
theorem dX6_goOn_10 : mD cX6_goOn 10 (.iconst 1) 1 11 := ⟨by decide +kernel, rfl⟩
theorem dX6_goOn_11 : mD cX6_goOn 11 .iadd 1 12 := ⟨by decide +kernel, rfl⟩
theorem dX6_goOn_12 : mD cX6_goOn 12 (.iconst 0) 1 13 := ⟨by decide +kernel, rfl⟩
theorem dX6_goOn_13 : mD cX6_goOn 13 (.iconst 0) 1 14 := ⟨by decide +kernel, rfl⟩
theorem dX6_goOn_14 : mD cX6_goOn 14 (.iload_n 2) 1 15 := ⟨by decide +kernel, rfl⟩
theorem dX6_goOn_15 : mD cX6_goOn 15 (.invokevirtual 62) 3 18 := ⟨by decide +kernel, rfl⟩
theorem dX6_goOn_18 : mJ cX6_goOn 18 .goto 21 33 := mJ.of (15) (by decide +kernel) rfl (by decide)
theorem dX6_goOn_21 : mD cX6_goOn 21 (.aload_n 0) 1 22 := ⟨by decide +kernel, rfl⟩
theorem dX6_goOn_22 : mD cX6_goOn 22 (.aload_n 0) 1 23 := ⟨by decide +kernel, rfl⟩
theorem dX6_goOn_23 : mD cX6_goOn 23 (.getfield 59) 3 26 := ⟨by decide +kernel, rfl⟩
theorem dX6_goOn_26 : mD cX6_goOn 26 (.iload_n 2) 1 27 := ⟨by decide +kernel, rfl⟩
theorem dX6_goOn_27 : mD cX6_goOn 27 (.invokestatic 91) 3 30 := ⟨by decide +kernel, rfl⟩
theorem dX6_goOn_30 : mD cX6_goOn 30 (.putfield 59) 3 33 := ⟨by decide +kernel, rfl⟩
theorem dX6_goOn_33 : mD cX6_goOn 33 .return_ 1 34 := ⟨by decide +kernel, rfl⟩
theorem dX6_changesTo_0 : mD cX6_changesTo 0 (.iconst 0) 1 1 := ⟨by decide +kernel, rfl⟩
theorem dX6_changesTo_1 : mD cX6_changesTo 1 (.istore_n 2) 1 2 := ⟨by decide +kernel, rfl⟩
theorem dX6_changesTo_2 : mD cX6_changesTo 2 (.iconst 0) 1 3 := ⟨by decide +kernel, rfl⟩
theorem dX6_changesTo_3 : mD cX6_changesTo 3 (.istore_n 3) 1 4 := ⟨by decide +kernel, rfl⟩
theorem dX6_changesTo_4 : mD cX6_changesTo 4 (.iconst 0) 1 5 := ⟨by decide +kernel, rfl⟩
theorem dX6_changesTo_5 : mD cX6_changesTo 5 (.istore 4) 2 7 := ⟨by decide +kernel, rfl⟩
theorem dX6_changesTo_7 : mD cX6_changesTo 7 (.iload 4) 2 9 := ⟨by decide +kernel, rfl⟩
theorem dX6_changesTo_9 : mD cX6_changesTo 9 (.aload_n 0) 1 10 := ⟨by decide +kernel, rfl⟩
theorem dX6_changesTo_10 : mD cX6_changesTo 10 (.getfield 44) 3 13 := ⟨by decide +kernel, rfl⟩
theorem dX6_changesTo_13 : mJ cX6_changesTo 13 (.if_icmp .ge) 16 96 := mJ.of (83) (by decide +kernel) rfl (by decide)
theorem dX6_changesTo_16 : mD cX6_changesTo 16 (.iload_n 2) 1 17 := ⟨by decide +kernel, rfl⟩
theorem dX6_changesTo_17 : mD cX6_changesTo 17 (.iload 4) 2 19 := ⟨by decide +kernel, rfl⟩
theorem dX6_changesTo_19 : mD cX6_changesTo 19 .ishr 1 20 := ⟨by decide +kernel, rfl⟩
theorem dX6_changesTo_20 : mD cX6_changesTo 20 (.iconst 1) 1 21 := ⟨by decide +kernel, rfl⟩
theorem dX6_changesTo_21 : mD cX6_changesTo 21 .iand 1 22 := ⟨by decide +kernel, rfl⟩
theorem dX6_changesTo_22 : mJ cX6_changesTo 22 (.ifCond .ne) 25 28 := mJ.of (6) (by decide +kernel) rfl (by decide)
theorem dX6_changesTo_25 : mD cX6_changesTo 25 (.iinc 3 1) 3 28 := ⟨by decide +kernel, rfl⟩
theorem dX6_changesTo_28 : mD cX6_changesTo 28 (.iload 4) 2 30 := ⟨by decide +kernel, rfl⟩
theorem dX6_changesTo_30 : mD cX6_changesTo 30 (.istore 5) 2 32 := ⟨by decide +kernel, rfl⟩
theorem dX6_changesTo_32 : mD cX6_changesTo 32 (.iconst 0) 1 33 := ⟨by decide +kernel, rfl⟩
theorem dX6_changesTo_33 : mD cX6_changesTo 33 (.istore 6) 2 35 := ⟨by decide +kernel, rfl⟩
theorem dX6_changesTo_35 : mD cX6_changesTo 35 (.iload 6) 2 37 := ⟨by decide +kernel, rfl⟩
theorem dX6_changesTo_37 : mD cX6_changesTo 37 (.aload_n 0) 1 38 := ⟨by decide +kernel, rfl⟩
theorem dX6_changesTo_38 : mD cX6_changesTo 38 (.getfield 44) 3 41 := ⟨by decide +kernel, rfl⟩
theorem dX6_changesTo_41 : mJ cX6_changesTo 41 (.if_icmp .ge) 44 90 := mJ.of (49) (by decide +kernel) rfl (by decide)
theorem dX6_changesTo_44 : mD cX6_changesTo 44 (.iload_n 2) 1 45 := ⟨by decide +kernel, rfl⟩
theorem dX6_changesTo_45 : mD cX6_changesTo 45 (.iload 5) 2 47 := ⟨by decide +kernel, rfl⟩
theorem dX6_changesTo_47 : mD cX6_changesTo 47 .ishr 1 48 := ⟨by decide +kernel, rfl⟩
theorem dX6_changesTo_48 : mD cX6_changesTo 48 (.iconst 1) 1 49 := ⟨by decide +kernel, rfl⟩
theorem dX6_changesTo_49 : mD cX6_changesTo 49 .iand 1 50 := ⟨by decide +kernel, rfl⟩
theorem dX6_changesTo_50 : mJ cX6_changesTo 50 (.ifCond .ne) 53 90 := mJ.of (40) (by decide +kernel) rfl (by decide)
theorem dX6_changesTo_53 : mD cX6_changesTo 53 (.iload_n 2) 1 54 := ⟨by decide +kernel, rfl⟩
theorem dX6_changesTo_54 : mD cX6_changesTo 54 (.iconst 1) 1 55 := ⟨by decide +kernel, rfl⟩
theorem dX6_changesTo_55 : mD cX6_changesTo 55 (.iload 5) 2 57 := ⟨by decide +kernel, rfl⟩
theorem dX6_changesTo_57 : mD cX6_changesTo 57 .ishl 1 58 := ⟨by decide +kernel, rfl⟩
theorem dX6_changesTo_58 : mD cX6_changesTo 58 .ior 1 59 := ⟨by decide +kernel, rfl⟩
theorem dX6_changesTo_59 : mD cX6_changesTo 59 (.istore_n 2) 1 60 := ⟨by decide +kernel, rfl⟩
theorem dX6_changesTo_60 : mD cX6_changesTo 60 (.aload_n 0) 1 61 := ⟨by decide +kernel, rfl⟩
theorem dX6_changesTo_61 : mD cX6_changesTo 61 (.getfield 18) 3 64 := ⟨by decide +kernel, rfl⟩
theorem dX6_changesTo_64 : mD cX6_changesTo 64 (.iload_n 1) 1 65 := ⟨by decide +kernel, rfl⟩
theorem dX6_changesTo_65 : mD cX6_changesTo 65 (.iconst 4) 1 66 := ⟨by decide +kernel, rfl⟩
theorem dX6_changesTo_66 : mD cX6_changesTo 66 .imul 1 67 := ⟨by decide +kernel, rfl⟩
theorem dX6_changesTo_67 : mD cX6_changesTo 67 (.aload_n 0) 1 68 := ⟨by decide +kernel, rfl⟩
theorem dX6_changesTo_68 : mD cX6_changesTo 68 (.getfield 15) 3 71 := ⟨by decide +kernel, rfl⟩
theorem dX6_changesTo_71 : mD cX6_changesTo 71 (.iload_n 1) 1 72 := ⟨by decide +kernel, rfl⟩
theorem dX6_changesTo_72 : mD cX6_changesTo 72 (.iconst 1) 1 73 := ⟨by decide +kernel, rfl⟩
theorem dX6_changesTo_73 : mD cX6_changesTo 73 .isub 1 74 := ⟨by decide +kernel, rfl⟩
theorem dX6_changesTo_74 : mD cX6_changesTo 74 (.iconst 4) 1 75 := ⟨by decide +kernel, rfl⟩
theorem dX6_changesTo_75 : mD cX6_changesTo 75 .imul 1 76 := ⟨by decide +kernel, rfl⟩
theorem dX6_changesTo_76 : mD cX6_changesTo 76 (.iload 5) 2 78 := ⟨by decide +kernel, rfl⟩
theorem dX6_changesTo_78 : mD cX6_changesTo 78 .iadd 1 79 := ⟨by decide +kernel, rfl⟩
theorem dX6_changesTo_79 : mD cX6_changesTo 79 .iaload 1 80 := ⟨by decide +kernel, rfl⟩
theorem dX6_changesTo_80 : mD cX6_changesTo 80 .iadd 1 81 := ⟨by decide +kernel, rfl⟩
theorem dX6_changesTo_81 : mD cX6_changesTo 81 .iaload 1 82 := ⟨by decide +kernel, rfl⟩
theorem dX6_changesTo_82 : mD cX6_changesTo 82 (.istore 5) 2 84 := ⟨by decide +kernel, rfl⟩
theorem dX6_changesTo_84 : mD cX6_changesTo 84 (.iinc 6 1) 3 87 := ⟨by decide +kernel, rfl⟩
theorem dX6_changesTo_87 : mJ cX6_changesTo 87 .goto 90 35 := mJ.of (-52) (by decide +kernel) rfl (by decide)
theorem dX6_changesTo_90 : mD cX6_changesTo 90 (.iinc 4 1) 3 93 := ⟨by decide +kernel, rfl⟩
theorem dX6_changesTo_93 : mJ cX6_changesTo 93 .goto 96 7 := mJ.of (-86) (by decide +kernel) rfl (by decide)
theorem dX6_changesTo_96 : mD cX6_changesTo 96 (.aload_n 0) 1 97 := ⟨by decide +kernel, rfl⟩
theorem dX6_changesTo_97 : mD cX6_changesTo 97 (.getfield 44) 3 100 := ⟨by decide +kernel, rfl⟩
theorem dX6_changesTo_100 : mD cX6_changesTo 100 (.iload_n 3) 1 101 := ⟨by decide +kernel, rfl⟩
theorem dX6_changesTo_101 : mD cX6_changesTo 101 .isub 1 102 := ⟨by decide +kernel, rfl⟩
theorem dX6_changesTo_102 : mD cX6_changesTo 102 .ireturn 1 103 := ⟨by decide +kernel, rfl⟩
theorem dJ6_bitCount_0f7a4_0 : mD cJ6_bitCount_0f7a4 0 (.iload_n 0) 1 1 := ⟨by decide +kernel, rfl⟩
theorem dJ6_bitCount_0f7a4_1 : mD cJ6_bitCount_0f7a4 1 (.iload_n 0) 1 2 := ⟨by decide +kernel, rfl⟩
theorem dJ6_bitCount_0f7a4_2 : mD cJ6_bitCount_0f7a4 2 (.iconst 1) 1 3 := ⟨by decide +kernel, rfl⟩
theorem dJ6_bitCount_0f7a4_3 : mD cJ6_bitCount_0f7a4 3 .iushr 1 4 := ⟨by decide +kernel, rfl⟩
theorem dJ6_bitCount_0f7a4_4 : mD cJ6_bitCount_0f7a4 4 (.ldc_w 265) 3 7 := ⟨by decide +kernel, rfl⟩
theorem dJ6_bitCount_0f7a4_7 : mD cJ6_bitCount_0f7a4 7 .iand 1 8 := ⟨by decide +kernel, rfl⟩
theorem dJ6_bitCount_0f7a4_8 : mD cJ6_bitCount_0f7a4 8 .isub 1 9 := ⟨by decide +kernel, rfl⟩
theorem dJ6_bitCount_0f7a4_9 : mD cJ6_bitCount_0f7a4 9 (.istore_n 0) 1 10 := ⟨by decide +kernel, rfl⟩
theorem dJ6_bitCount_0f7a4_10 : mD cJ6_bitCount_0f7a4 10 (.iload_n 0) 1 11 := ⟨by decide +kernel, rfl⟩
theorem dJ6_bitCount_0f7a4_11 : mD cJ6_bitCount_0f7a4 11 (.ldc_w 266) 3 14 := ⟨by decide +kernel, rfl⟩
theorem dJ6_bitCount_0f7a4_14 : mD cJ6_bitCount_0f7a4 14 .iand 1 15 := ⟨by decide +kernel, rfl⟩
theorem dJ6_bitCount_0f7a4_15 : mD cJ6_bitCount_0f7a4 15 (.iload_n 0) 1 16 := ⟨by decide +kernel, rfl⟩
theorem dJ6_bitCount_0f7a4_16 : mD cJ6_bitCount_0f7a4 16 (.iconst 2) 1 17 := ⟨by decide +kernel, rfl⟩
theorem dJ6_bitCount_0f7a4_17 : mD cJ6_bitCount_0f7a4 17 .iushr 1 18 := ⟨by decide +kernel, rfl⟩
theorem dJ6_bitCount_0f7a4_18 : mD cJ6_bitCount_0f7a4 18 (.ldc_w 266) 3 21 := ⟨by decide +kernel, rfl⟩
theorem dJ6_bitCount_0f7a4_21 : mD cJ6_bitCount_0f7a4 21 .iand 1 22 := ⟨by decide +kernel, rfl⟩
theorem dJ6_bitCount_0f7a4_22 : mD cJ6_bitCount_0f7a4 22 .iadd 1 23 := ⟨by decide +kernel, rfl⟩
theorem dJ6_bitCount_0f7a4_23 : mD cJ6_bitCount_0f7a4 23 (.istore_n 0) 1 24 := ⟨by decide +kernel, rfl⟩
theorem dJ6_bitCount_0f7a4_24 : mD cJ6_bitCount_0f7a4 24 (.iload_n 0) 1 25 := ⟨by decide +kernel, rfl⟩
theorem dJ6_bitCount_0f7a4_25 : mD cJ6_bitCount_0f7a4 25 (.iload_n 0) 1 26 := ⟨by decide +kernel, rfl⟩
theorem dJ6_bitCount_0f7a4_26 : mD cJ6_bitCount_0f7a4 26 (.iconst 4) 1 27 := ⟨by decide +kernel, rfl⟩
theorem dJ6_bitCount_0f7a4_27 : mD cJ6_bitCount_0f7a4 27 .iushr 1 28 := ⟨by decide +kernel, rfl⟩
theorem dJ6_bitCount_0f7a4_28 : mD cJ6_bitCount_0f7a4 28 .iadd 1 29 := ⟨by decide +kernel, rfl⟩
theorem dJ6_bitCount_0f7a4_29 : mD cJ6_bitCount_0f7a4 29 (.ldc_w 267) 3 32 := ⟨by decide +kernel, rfl⟩
theorem dJ6_bitCount_0f7a4_32 : mD cJ6_bitCount_0f7a4 32 .iand 1 33 := ⟨by decide +kernel, rfl⟩
theorem dJ6_bitCount_0f7a4_33 : mD cJ6_bitCount_0f7a4 33 (.istore_n 0) 1 34 := ⟨by decide +kernel, rfl⟩
theorem dJ6_bitCount_0f7a4_34 : mD cJ6_bitCount_0f7a4 34 (.iload_n 0) 1 35 := ⟨by decide +kernel, rfl⟩
theorem dJ6_bitCount_0f7a4_35 : mD cJ6_bitCount_0f7a4 35 (.iload_n 0) 1 36 := ⟨by decide +kernel, rfl⟩
theorem dJ6_bitCount_0f7a4_36 : mD cJ6_bitCount_0f7a4 36 (.bipush 8) 2 38 := ⟨by decide +kernel, rfl⟩
theorem dJ6_bitCount_0f7a4_38 : mD cJ6_bitCount_0f7a4 38 .iushr 1 39 := ⟨by decide +kernel, rfl⟩
theorem dJ6_bitCount_0f7a4_39 : mD cJ6_bitCount_0f7a4 39 .iadd 1 40 := ⟨by decide +kernel, rfl⟩
theorem dJ6_bitCount_0f7a4_40 : mD cJ6_bitCount_0f7a4 40 (.istore_n 0) 1 41 := ⟨by decide +kernel, rfl⟩
theorem dJ6_bitCount_0f7a4_41 : mD cJ6_bitCount_0f7a4 41 (.iload_n 0) 1 42 := ⟨by decide +kernel, rfl⟩
theorem dJ6_bitCount_0f7a4_42 : mD cJ6_bitCount_0f7a4 42 (.iload_n 0) 1 43 := ⟨by decide +kernel, rfl⟩
theorem dJ6_bitCount_0f7a4_43 : mD cJ6_bitCount_0f7a4 43 (.bipush 16) 2 45 := ⟨by decide +kernel, rfl⟩
theorem dJ6_bitCount_0f7a4_45 : mD cJ6_bitCount_0f7a4 45 .iushr 1 46 := ⟨by decide +kernel, rfl⟩
theorem dJ6_bitCount_0f7a4_46 : mD cJ6_bitCount_0f7a4 46 .iadd 1 47 := ⟨by decide +kernel, rfl⟩
theorem dJ6_bitCount_0f7a4_47 : mD cJ6_bitCount_0f7a4 47 (.istore_n 0) 1 48 := ⟨by decide +kernel, rfl⟩
theorem dJ6_bitCount_0f7a4_48 : mD cJ6_bitCount_0f7a4 48 (.iload_n 0) 1 49 := ⟨by decide +kernel, rfl⟩
theorem dJ6_bitCount_0f7a4_49 : mD cJ6_bitCount_0f7a4 49 (.bipush 63) 2 51 := ⟨by decide +kernel, rfl⟩
theorem dJ6_bitCount_0f7a4_51 : mD cJ6_bitCount_0f7a4 51 .iand 1 52 := ⟨by decide +kernel, rfl⟩
theorem dJ6_bitCount_0f7a4_52 : mD cJ6_bitCount_0f7a4 52 .ireturn 1 53 := ⟨by decide +kernel, rfl⟩
theorem dJ7_fill_53178_0 : mD cJ7_fill_53178 0 (.iconst 0) 1 1 := ⟨by decide +kernel, rfl⟩
theorem dJ7_fill_53178_1 : mD cJ7_fill_53178 1 (.istore_n 2) 1 2 := ⟨by decide +kernel, rfl⟩
theorem dJ7_fill_53178_2 : mD cJ7_fill_53178 2 (.aload_n 0) 1 3 := ⟨by decide +kernel, rfl⟩
theorem dJ7_fill_53178_3 : mD cJ7_fill_53178 3 .arraylength 1 4 := ⟨by decide +kernel, rfl⟩
theorem dJ7_fill_53178_4 : mD cJ7_fill_53178 4 (.istore_n 3) 1 5 := ⟨by decide +kernel, rfl⟩
theorem dJ7_fill_53178_5 : mD cJ7_fill_53178 5 (.iload_n 2) 1 6 := ⟨by decide +kernel, rfl⟩
theorem dJ7_fill_53178_6 : mD cJ7_fill_53178 6 (.iload_n 3) 1 7 := ⟨by decide +kernel, rfl⟩
theorem dJ7_fill_53178_7 : mJ cJ7_fill_53178 7 (.if_icmp .ge) 10 20 := mJ.of (13) (by decide +kernel) rfl (by decide)
theorem dJ7_fill_53178_10 : mD cJ7_fill_53178 10 (.aload_n 0) 1 11 := ⟨by decide +kernel, rfl⟩
theorem dJ7_fill_53178_11 : mD cJ7_fill_53178 11 (.iload_n 2) 1 12 := ⟨by decide +kernel, rfl⟩
theorem dJ7_fill_53178_12 : mD cJ7_fill_53178 12 (.iload_n 1) 1 13 := ⟨by decide +kernel, rfl⟩
theorem dJ7_fill_53178_13 : mD cJ7_fill_53178 13 .iastore 1 14 := ⟨by decide +kernel, rfl⟩
theorem dJ7_fill_53178_14 : mD cJ7_fill_53178 14 (.iinc 2 1) 3 17 := ⟨by decide +kernel, rfl⟩
theorem dJ7_fill_53178_17 : mJ cJ7_fill_53178 17 .goto 20 5 := mJ.of (-12) (by decide +kernel) rfl (by decide)
theorem dJ7_fill_53178_20 : mD cJ7_fill_53178 20 .return_ 1 21 := ⟨by decide +kernel, rfl⟩
theorem dJ7_fill_49daa_0 : mD cJ7_fill_49daa 0 (.iconst 0) 1 1 := ⟨by decide +kernel, rfl⟩
theorem dJ7_fill_49daa_1 : mD cJ7_fill_49daa 1 (.istore_n 2) 1 2 := ⟨by decide +kernel, rfl⟩
theorem dJ7_fill_49daa_2 : mD cJ7_fill_49daa 2 (.aload_n 0) 1 3 := ⟨by decide +kernel, rfl⟩
theorem dJ7_fill_49daa_3 : mD cJ7_fill_49daa 3 .arraylength 1 4 := ⟨by decide +kernel, rfl⟩
theorem dJ7_fill_49daa_4 : mD cJ7_fill_49daa 4 (.istore_n 3) 1 5 := ⟨by decide +kernel, rfl⟩
theorem dJ7_fill_49daa_5 : mD cJ7_fill_49daa 5 (.iload_n 2) 1 6 := ⟨by decide +kernel, rfl⟩
theorem dJ7_fill_49daa_6 : mD cJ7_fill_49daa 6 (.iload_n 3) 1 7 := ⟨by decide +kernel, rfl⟩
theorem dJ7_fill_49daa_7 : mJ cJ7_fill_49daa 7 (.if_icmp .ge) 10 20 := mJ.of (13) (by decide +kernel) rfl (by decide)
theorem dJ7_fill_49daa_10 : mD cJ7_fill_49daa 10 (.aload_n 0) 1 11 := ⟨by decide +kernel, rfl⟩
theorem dJ7_fill_49daa_11 : mD cJ7_fill_49daa 11 (.iload_n 2) 1 12 := ⟨by decide +kernel, rfl⟩
theorem dJ7_fill_49daa_12 : mD cJ7_fill_49daa 12 (.iload_n 1) 1 13 := ⟨by decide +kernel, rfl⟩
theorem dJ7_fill_49daa_13 : mD cJ7_fill_49daa 13 .bastore 1 14 := ⟨by decide +kernel, rfl⟩
theorem dJ7_fill_49daa_14 : mD cJ7_fill_49daa 14 (.iinc 2 1) 3 17 := ⟨by decide +kernel, rfl⟩
theorem dJ7_fill_49daa_17 : mJ cJ7_fill_49daa 17 .goto 20 5 := mJ.of (-12) (by decide +kernel) rfl (by decide)
theorem dJ7_fill_49daa_20 : mD cJ7_fill_49daa 20 .return_ 1 21 := ⟨by decide +kernel, rfl⟩
end
section
theorem dX8_init_0 : mD cX8_init 0 (.aload_n 0) 1 1 := ⟨by decide +kernel, rfl⟩
theorem dX8_init_1 : mD cX8_init 1 (.invokespecial 1) 3 4 := ⟨by decide +kernel, rfl⟩
theorem dX8_init_4 : mD cX8_init 4 (.aload_n 0) 1 5 := ⟨by decide +kernel, rfl⟩
theorem dX8_init_5 : mD cX8_init 5 (.bipush 100) 2 7 := ⟨by decide +kernel, rfl⟩
theorem dX8_init_7 : mD cX8_init 7 (.newarray .byte) 2 9 := ⟨by decide +kernel, rfl⟩
theorem dX8_init_9 : mD cX8_init 9 (.putfield 7) 3 12 := ⟨by decide +kernel, rfl⟩
theorem dX8_init_12 : mD cX8_init 12 (.aload_n 0) 1 13 := ⟨by decide +kernel, rfl⟩
theorem dX8_init_13 : mD cX8_init 13 (.iconst 2) 1 14 := ⟨by decide +kernel, rfl⟩
theorem dX8_init_14 : mD cX8_init 14 (.newarray .int) 2 16 := ⟨by decide +kernel, rfl⟩
theorem dX8_init_16 : mD cX8_init 16 (.putfield 13) 3 19 := ⟨by decide +kernel, rfl⟩
theorem dX8_init_19 : mD cX8_init 19 (.aload_n 0) 1 20 := ⟨by decide +kernel, rfl⟩
theorem dX8_init_20 : mD cX8_init 20 (.iconst 2) 1 21 := ⟨by decide +kernel, rfl⟩
theorem dX8_init_21 : mD cX8_init 21 (.newarray .int) 2 23 := ⟨by decide +kernel, rfl⟩
theorem dX8_init_23 : mD cX8_init 23 (.putfield 17) 3 26 := ⟨by decide +kernel, rfl⟩
theorem dX8_init_26 : mD cX8_init 26 (.aload_n 0) 1 27 := ⟨by decide +kernel, rfl⟩
theorem dX8_init_27 : mD cX8_init 27 (.iconst 2) 1 28 := ⟨by decide +kernel, rfl⟩
theorem dX8_init_28 : mD cX8_init 28 (.newarray .int) 2 30 := ⟨by decide +kernel, rfl⟩
theorem dX8_init_30 : mD cX8_init 30 (.putfield 20) 3 33 := ⟨by decide +kernel, rfl⟩
theorem dX8_init_33 : mD cX8_init 33 (.aload_n 0) 1 34 := ⟨by decide +kernel, rfl⟩
theorem dX8_init_34 : mD cX8_init 34 (.bipush 48) 2 36 := ⟨by decide +kernel, rfl⟩
theorem dX8_init_36 : mD cX8_init 36 (.newarray .int) 2 38 := ⟨by decide +kernel, rfl⟩
theorem dX8_init_38 : mD cX8_init 38 (.putfield 23) 3 41 := ⟨by decide +kernel, rfl⟩
theorem dX8_init_41 : mD cX8_init 41 (.aload_n 0) 1 42 := ⟨by decide +kernel, rfl⟩
theorem dX8_init_42 : mD cX8_init 42 (.bipush 12) 2 44 := ⟨by decide +kernel, rfl⟩
theorem dX8_init_44 : mD cX8_init 44 (.newarray .int) 2 46 := ⟨by decide +kernel, rfl⟩
theorem dX8_init_46 : mD cX8_init 46 (.putfield 26) 3 49 := ⟨by decide +kernel, rfl⟩
theorem dX8_init_49 : mD cX8_init 49 (.aload_n 0) 1 50 := ⟨by decide +kernel, rfl⟩
theorem dX8_init_50 : mD cX8_init 50 (.bipush 33) 2 52 := ⟨by decide +kernel, rfl⟩
theorem dX8_init_52 : mD cX8_init 52 (.newarray .int) 2 54 := ⟨by decide +kernel, rfl⟩
theorem dX8_init_54 : mD cX8_init 54 (.putfield 29) 3 57 := ⟨by decide +kernel, rfl⟩
theorem dX8_init_57 : mD cX8_init 57 (.aload_n 0) 1 58 := ⟨by decide +kernel, rfl⟩
theorem dX8_init_58 : mD cX8_init 58 (.iconst 3) 1 59 := ⟨by decide +kernel, rfl⟩
theorem dX8_init_59 : mD cX8_init 59 (.newarray .int) 2 61 := ⟨by decide +kernel, rfl⟩
theorem dX8_init_61 : mD cX8_init 61 (.putfield 32) 3 64 := ⟨by decide +kernel, rfl⟩
theorem dX8_init_64 : mD cX8_init 64 (.aload_n 0) 1 65 := ⟨by decide +kernel, rfl⟩
theorem dX8_init_65 : mD cX8_init 65 (.sipush 990) 3 68 := ⟨by decide +kernel, rfl⟩
theorem dX8_init_68 : mD cX8_init 68 (.newarray .int) 2 70 := ⟨by decide +kernel, rfl⟩
theorem dX8_init_70 : mD cX8_init 70 (.putfield 35) 3 73 := ⟨by decide +kernel, rfl⟩
theorem dX8_init_73 : mD cX8_init 73 (.aload_n 0) 1 74 := ⟨by decide +kernel, rfl⟩
theorem dX8_init_74 : mD cX8_init 74 (.bipush 66) 2 76 := ⟨by decide +kernel, rfl⟩
theorem dX8_init_76 : mD cX8_init 76 (.newarray .int) 2 78 := ⟨by decide +kernel, rfl⟩
theorem dX8_init_78 : mD cX8_init 78 (.putfield 38) 3 81 := ⟨by decide +kernel, rfl⟩
theorem dX8_init_81 : mD cX8_init 81 (.aload_n 0) 1 82 := ⟨by decide +kernel, rfl⟩
theorem dX8_init_82 : mD cX8_init 82 (.iconst 2) 1 83 := ⟨by decide +kernel, rfl⟩
theorem dX8_init_83 : mD cX8_init 83 (.newarray .boolean) 2 85 := ⟨by decide +kernel, rfl⟩
theorem dX8_init_85 : mD cX8_init 85 (.putfield 41) 3 88 := ⟨by decide +kernel, rfl⟩
theorem dX8_init_88 : mD cX8_init 88 (.aload_n 0) 1 89 := ⟨by decide +kernel, rfl⟩
theorem dX8_init_89 : mD cX8_init 89 (.sipush 256) 3 92 := ⟨by decide +kernel, rfl⟩
theorem dX8_init_92 : mD cX8_init 92 (.newarray .int) 2 94 := ⟨by decide +kernel, rfl⟩
theorem dX8_init_94 : mD cX8_init 94 (.putfield 45) 3 97 := ⟨by decide +kernel, rfl⟩
theorem dX8_init_97 : mD cX8_init 97 (.aload_n 0) 1 98 := ⟨by decide +kernel, rfl⟩
theorem dX8_init_98 : mD cX8_init 98 (.bipush 24) 2 100 := ⟨by decide +kernel, rfl⟩
theorem dX8_init_100 : mD cX8_init 100 (.newarray .int) 2 102 := ⟨by decide +kernel, rfl⟩
theorem dX8_init_102 : mD cX8_init 102 (.putfield 48) 3 105 := ⟨by decide +kernel, rfl⟩
theorem dX8_init_105 : mD cX8_init 105 (.aload_n 0) 1 106 := ⟨by decide +kernel, rfl⟩
theorem dX8_init_106 : mD cX8_init 106 (.bipush 6) 2 108 := ⟨by decide +kernel, rfl⟩
theorem dX8_init_108 : mD cX8_init 108 (.newarray .int) 2 110 := ⟨by decide +kernel, rfl⟩
theorem dX8_init_110 : mD cX8_init 110 (.putfield 51) 3 113 := ⟨by decide +kernel, rfl⟩
theorem dX8_init_113 : mD cX8_init 113 (.aload_n 0) 1 114 := ⟨by decide +kernel, rfl⟩
theorem dX8_init_114 : mD cX8_init 114 (.bipush 6) 2 116 := ⟨by decide +kernel, rfl⟩
theorem dX8_init_116 : mD cX8_init 116 (.newarray .int) 2 118 := ⟨by decide +kernel, rfl⟩
theorem dX8_init_118 : mD cX8_init 118 (.putfield 54) 3 121 := ⟨by decide +kernel, rfl⟩
theorem dX8_init_121 : mD cX8_init 121 (.aload_n 0) 1 122 := ⟨by decide +kernel, rfl⟩
theorem dX8_init_122 : mD cX8_init 122 (.invokevirtual 57) 3 125 := ⟨by decide +kernel, rfl⟩
theorem dX8_init_125 : mD cX8_init 125 (.aload_n 0) 1 126 := ⟨by decide +kernel, rfl⟩
theorem dX8_init_126 : mD cX8_init 126 (.invokevirtual 60) 3 129 := ⟨by decide +kernel, rfl⟩
theorem dX8_init_129 : mD cX8_init 129 .return_ 1 130 := ⟨by decide +kernel, rfl⟩
theorem dX8_in_0 : mD cX8_in 0 (.iload_n 0) 1 1 := ⟨by decide +kernel, rfl⟩
theorem dX8_in_1 : mD cX8_in 1 (.iload_n 1) 1 2 := ⟨by decide +kernel, rfl⟩
theorem dX8_in_2 : mJ cX8_in 2 (.if_icmp .lt) 5 14 := mJ.of (12) (by decide +kernel) rfl (by decide)
theorem dX8_in_5 : mD cX8_in 5 (.iload_n 0) 1 6 := ⟨by decide +kernel, rfl⟩
theorem dX8_in_6 : mD cX8_in 6 (.iload_n 2) 1 7 := ⟨by decide +kernel, rfl⟩
theorem dX8_in_7 : mJ cX8_in 7 (.if_icmp .gt) 10 14 := mJ.of (7) (by decide +kernel) rfl (by decide)
theorem dX8_in_10 : mD cX8_in 10 (.iconst 1) 1 11 := ⟨by decide +kernel, rfl⟩
theorem dX8_in_11 : mJ cX8_in 11 .goto 14 15 := mJ.of (4) (by decide +kernel) rfl (by decide)
theorem dX8_in_14 : mD cX8_in 14 (.iconst 0) 1 15 := ⟨by decide +kernel, rfl⟩
theorem dX8_in_15 : mD cX8_in 15 .ireturn 1 16 := ⟨by decide +kernel, rfl⟩
theorem dX8_has_0 : mD cX8_has 0 (.iload_n 0) 1 1 := ⟨by decide +kernel, rfl⟩
theorem dX8_has_1 : mD cX8_has 1 (.iload_n 1) 1 2 := ⟨by decide +kernel, rfl⟩
theorem dX8_has_2 : mD cX8_has 2 .ishr 1 3 := ⟨by decide +kernel, rfl⟩
theorem dX8_has_3 : mD cX8_has 3 (.iconst 1) 1 4 := ⟨by decide +kernel, rfl⟩
theorem dX8_has_4 : mD cX8_has 4 .iand 1 5 := ⟨by decide +kernel, rfl⟩
theorem dX8_has_5 : mD cX8_has 5 (.iconst 1) 1 6 := ⟨by decide +kernel, rfl⟩
theorem dX8_has_6 : mJ cX8_has 6 (.if_icmp .ne) 9 13 := mJ.of (7) (by decide +kernel) rfl (by decide)
theorem dX8_has_9 : mD cX8_has 9 (.iconst 1) 1 10 := ⟨by decide +kernel, rfl⟩
theorem dX8_has_10 : mJ cX8_has 10 .goto 13 14 := mJ.of (4) (by decide +kernel) rfl (by decide)
theorem dX8_has_13 : mD cX8_has 13 (.iconst 0) 1 14 := ⟨by decide +kernel, rfl⟩
theorem dX8_has_14 : mD cX8_has 14 .ireturn 1 15 := ⟨by decide +kernel, rfl⟩
theorem dX8_bitsOf_0 : mD cX8_bitsOf 0 (.iconst 0) 1 1 := ⟨by decide +kernel, rfl⟩
theorem dX8_bitsOf_1 : mD cX8_bitsOf 1 (.istore_n 1) 1 2 := ⟨by decide +kernel, rfl⟩
theorem dX8_bitsOf_2 : mD cX8_bitsOf 2 (.iconst 0) 1 3 := ⟨by decide +kernel, rfl⟩
theorem dX8_bitsOf_3 : mD cX8_bitsOf 3 (.istore_n 2) 1 4 := ⟨by decide +kernel, rfl⟩
theorem dX8_bitsOf_4 : mD cX8_bitsOf 4 (.iload_n 2) 1 5 := ⟨by decide +kernel, rfl⟩
theorem dX8_bitsOf_5 : mD cX8_bitsOf 5 (.bipush 10) 2 7 := ⟨by decide +kernel, rfl⟩
theorem dX8_bitsOf_7 : mJ cX8_bitsOf 7 (.if_icmp .ge) 10 24 := mJ.of (17) (by decide +kernel) rfl (by decide)
theorem dX8_bitsOf_10 : mD cX8_bitsOf 10 (.iload_n 1) 1 11 := ⟨by decide +kernel, rfl⟩
theorem dX8_bitsOf_11 : mD cX8_bitsOf 11 (.iload_n 0) 1 12 := ⟨by decide +kernel, rfl⟩
theorem dX8_bitsOf_12 : mD cX8_bitsOf 12 (.iload_n 2) 1 13 := ⟨by decide +kernel, rfl⟩
theorem dX8_bitsOf_13 : mD cX8_bitsOf 13 .ishr 1 14 := ⟨by decide +kernel, rfl⟩
theorem dX8_bitsOf_14 : mD cX8_bitsOf 14 (.iconst 1) 1 15 := ⟨by decide +kernel, rfl⟩
theorem dX8_bitsOf_15 : mD cX8_bitsOf 15 .iand 1 16 := ⟨by decide +kernel, rfl⟩
theorem dX8_bitsOf_16 : mD cX8_bitsOf 16 .iadd 1 17 := ⟨by decide +kernel, rfl⟩
theorem dX8_bitsOf_17 : mD cX8_bitsOf 17 (.istore_n 1) 1 18 := ⟨by decide +kernel, rfl⟩
theorem dX8_bitsOf_18 : mD cX8_bitsOf 18 (.iinc 2 1) 3 21 := ⟨by decide +kernel, rfl⟩
theorem dX8_bitsOf_21 : mJ cX8_bitsOf 21 .goto 24 4 := mJ.of (-17) (by decide +kernel) rfl (by decide)
theorem dX8_bitsOf_24 : mD cX8_bitsOf 24 (.iload_n 1) 1 25 := ⟨by decide +kernel, rfl⟩
theorem dX8_bitsOf_25 : mD cX8_bitsOf 25 .ireturn 1 26 := ⟨by decide +kernel, rfl⟩
theorem dX8_type_0 : mD cX8_type 0 (.iload_n 1) 1 1 := ⟨by decide +kernel, rfl⟩
theorem dX8_type_1 : mD cX8_type 1 (.iconst 0) 1 2 := ⟨by decide +kernel, rfl⟩
theorem dX8_type_2 : mD cX8_type 2 (.sipush 255) 3 5 := ⟨by decide +kernel, rfl⟩
theorem dX8_type_5 : mD cX8_type 5 (.invokestatic 63) 3 8 := ⟨by decide +kernel, rfl⟩
theorem dX8_type_8 : mJ cX8_type 8 (.ifCond .ne) 11 13 := mJ.of (5) (by decide +kernel) rfl (by decide)
theorem dX8_type_11 : mD cX8_type 11 (.iconst (-1)) 1 12 := ⟨by decide +kernel, rfl⟩
theorem dX8_type_12 : mD cX8_type 12 .ireturn 1 13 := ⟨by decide +kernel, rfl⟩
theorem dX8_type_13 : mD cX8_type 13 (.aload_n 0) 1 14 := ⟨by decide +kernel, rfl⟩
theorem dX8_type_14 : mD cX8_type 14 (.getfield 67) 3 17 := ⟨by decide +kernel, rfl⟩
theorem dX8_type_17 : mD cX8_type 17 (.bipush 100) 2 19 := ⟨by decide +kernel, rfl⟩
theorem dX8_type_19 : mJ cX8_type 19 (.if_icmp .ne) 22 25 := mJ.of (6) (by decide +kernel) rfl (by decide)
theorem dX8_type_22 : mD cX8_type 22 (.bipush (-3)) 2 24 := ⟨by decide +kernel, rfl⟩
theorem dX8_type_24 : mD cX8_type 24 .ireturn 1 25 := ⟨by decide +kernel, rfl⟩
theorem dX8_type_25 : mD cX8_type 25 (.aload_n 0) 1 26 := ⟨by decide +kernel, rfl⟩
theorem dX8_type_26 : mD cX8_type 26 (.getfield 7) 3 29 := ⟨by decide +kernel, rfl⟩
theorem dX8_type_29 : mD cX8_type 29 (.aload_n 0) 1 30 := ⟨by decide +kernel, rfl⟩
theorem dX8_type_30 : mD cX8_type 30 (.getfield 67) 3 33 := ⟨by decide +kernel, rfl⟩
theorem dX8_type_33 : mD cX8_type 33 (.iload_n 1) 1 34 := ⟨by decide +kernel, rfl⟩
theorem dX8_type_34 : mD cX8_type 34 .i2b 1 35 := ⟨by decide +kernel, rfl⟩
theorem dX8_type_35 : mD cX8_type 35 .bastore 1 36 := ⟨by decide +kernel, rfl⟩
theorem dX8_type_36 : mD cX8_type 36 (.aload_n 0) 1 37 := ⟨by decide +kernel, rfl⟩
theorem dX8_type_37 : mD cX8_type 37 .dup 1 38 := ⟨by decide +kernel, rfl⟩
theorem dX8_type_38 : mD cX8_type 38 (.getfield 67) 3 41 := ⟨by decide +kernel, rfl⟩
theorem dX8_type_41 : mD cX8_type 41 (.iconst 1) 1 42 := ⟨by decide +kernel, rfl⟩
theorem dX8_type_42 : mD cX8_type 42 .iadd 1 43 := ⟨by decide +kernel, rfl⟩
theorem dX8_type_43 : mD cX8_type 43 (.putfield 67) 3 46 := ⟨by decide +kernel, rfl⟩
theorem dX8_type_46 : mD cX8_type 46 (.aload_n 0) 1 47 := ⟨by decide +kernel, rfl⟩
theorem dX8_type_47 : mD cX8_type 47 (.getfield 67) 3 50 := ⟨by decide +kernel, rfl⟩
theorem dX8_type_50 : mD cX8_type 50 .ireturn 1 51 := ⟨by decide +kernel, rfl⟩
theorem dX8_clear_0 : mD cX8_clear 0 (.aload_n 0) 1 1 := ⟨by decide +kernel, rfl⟩
theorem dX8_clear_1 : mD cX8_clear 1 (.getfield 67) 3 4 := ⟨by decide +kernel, rfl⟩
theorem dX8_clear_4 : mD cX8_clear 4 (.istore_n 1) 1 5 := ⟨by decide +kernel, rfl⟩
theorem dX8_clear_5 : mD cX8_clear 5 (.aload_n 0) 1 6 := ⟨by decide +kernel, rfl⟩
theorem dX8_clear_6 : mD cX8_clear 6 (.iconst 0) 1 7 := ⟨by decide +kernel, rfl⟩
theorem dX8_clear_7 : mD cX8_clear 7 (.putfield 67) 3 10 := ⟨by decide +kernel, rfl⟩
theorem dX8_clear_10 : mD cX8_clear 10 (.iload_n 1) 1 11 := ⟨by decide +kernel, rfl⟩
theorem dX8_clear_11 : mD cX8_clear 11 .ireturn 1 12 := ⟨by decide +kernel, rfl⟩
theorem dX8_here_0 : mD cX8_here 0 (.aload_n 0) 1 1 := ⟨by decide +kernel, rfl⟩
theorem dX8_here_1 : mD cX8_here 1 (.getfield 71) 3 4 := ⟨by decide +kernel, rfl⟩
theorem dX8_here_4 : mD cX8_here 4 (.aload_n 0) 1 5 := ⟨by decide +kernel, rfl⟩
theorem dX8_here_5 : mD cX8_here 5 (.getfield 67) 3 8 := ⟨by decide +kernel, rfl⟩
theorem dX8_here_8 : mJ cX8_here 8 (.if_icmp .ge) 11 27 := mJ.of (19) (by decide +kernel) rfl (by decide)
theorem dX8_here_11 : mD cX8_here 11 (.aload_n 0) 1 12 := ⟨by decide +kernel, rfl⟩
theorem dX8_here_12 : mD cX8_here 12 (.getfield 7) 3 15 := ⟨by decide +kernel, rfl⟩
theorem dX8_here_15 : mD cX8_here 15 (.aload_n 0) 1 16 := ⟨by decide +kernel, rfl⟩
theorem dX8_here_16 : mD cX8_here 16 (.getfield 71) 3 19 := ⟨by decide +kernel, rfl⟩
theorem dX8_here_19 : mD cX8_here 19 .baload 1 20 := ⟨by decide +kernel, rfl⟩
theorem dX8_here_20 : mD cX8_here 20 (.sipush 255) 3 23 := ⟨by decide +kernel, rfl⟩
theorem dX8_here_23 : mD cX8_here 23 .iand 1 24 := ⟨by decide +kernel, rfl⟩
theorem dX8_here_24 : mJ cX8_here 24 .goto 27 29 := mJ.of (5) (by decide +kernel) rfl (by decide)
theorem dX8_here_27 : mD cX8_here 27 (.bipush (-9)) 2 29 := ⟨by decide +kernel, rfl⟩
theorem dX8_here_29 : mD cX8_here 29 .ireturn 1 30 := ⟨by decide +kernel, rfl⟩
theorem dX8_step_0 : mD cX8_step 0 (.aload_n 0) 1 1 := ⟨by decide +kernel, rfl⟩
theorem dX8_step_1 : mD cX8_step 1 (.invokevirtual 74) 3 4 := ⟨by decide +kernel, rfl⟩
theorem dX8_step_4 : mD cX8_step 4 (.bipush 32) 2 6 := ⟨by decide +kernel, rfl⟩
theorem dX8_step_6 : mJ cX8_step 6 (.if_icmp .ne) 9 22 := mJ.of (16) (by decide +kernel) rfl (by decide)
theorem dX8_step_9 : mD cX8_step 9 (.aload_n 0) 1 10 := ⟨by decide +kernel, rfl⟩
theorem dX8_step_10 : mD cX8_step 10 .dup 1 11 := ⟨by decide +kernel, rfl⟩
theorem dX8_step_11 : mD cX8_step 11 (.getfield 71) 3 14 := ⟨by decide +kernel, rfl⟩
theorem dX8_step_14 : mD cX8_step 14 (.iconst 1) 1 15 := ⟨by decide +kernel, rfl⟩
theorem dX8_step_15 : mD cX8_step 15 .iadd 1 16 := ⟨by decide +kernel, rfl⟩
theorem dX8_step_16 : mD cX8_step 16 (.putfield 71) 3 19 := ⟨by decide +kernel, rfl⟩
theorem dX8_step_19 : mJ cX8_step 19 .goto 22 0 := mJ.of (-19) (by decide +kernel) rfl (by decide)
theorem dX8_step_22 : mD cX8_step 22 (.aload_n 0) 1 23 := ⟨by decide +kernel, rfl⟩
theorem dX8_step_23 : mD cX8_step 23 (.aload_n 0) 1 24 := ⟨by decide +kernel, rfl⟩
theorem dX8_step_24 : mD cX8_step 24 (.getfield 71) 3 27 := ⟨by decide +kernel, rfl⟩
theorem dX8_step_27 : mD cX8_step 27 (.putfield 78) 3 30 := ⟨by decide +kernel, rfl⟩
theorem dX8_step_30 : mD cX8_step 30 (.aload_n 0) 1 31 := ⟨by decide +kernel, rfl⟩
theorem dX8_step_31 : mD cX8_step 31 (.iconst 0) 1 32 := ⟨by decide +kernel, rfl⟩
theorem dX8_step_32 : mD cX8_step 32 (.putfield 81) 3 35 := ⟨by decide +kernel, rfl⟩
theorem dX8_step_35 : mD cX8_step 35 (.aload_n 0) 1 36 := ⟨by decide +kernel, rfl⟩
theorem dX8_step_36 : mD cX8_step 36 (.invokevirtual 74) 3 39 := ⟨by decide +kernel, rfl⟩
theorem dX8_step_39 : mD cX8_step 39 (.istore_n 1) 1 40 := ⟨by decide +kernel, rfl⟩
theorem dX8_step_40 : mD cX8_step 40 (.iload_n 1) 1 41 := ⟨by decide +kernel, rfl⟩
theorem dX8_step_41 : mD cX8_step 41 (.bipush (-9)) 2 43 := ⟨by decide +kernel, rfl⟩
theorem dX8_step_43 : mJ cX8_step 43 (.if_icmp .ne) 46 54 := mJ.of (11) (by decide +kernel) rfl (by decide)
theorem dX8_step_46 : mD cX8_step 46 (.aload_n 0) 1 47 := ⟨by decide +kernel, rfl⟩
theorem dX8_step_47 : mD cX8_step 47 (.iconst 4) 1 48 := ⟨by decide +kernel, rfl⟩
theorem dX8_step_48 : mD cX8_step 48 (.putfield 84) 3 51 := ⟨by decide +kernel, rfl⟩
theorem dX8_step_51 : mJ cX8_step 51 .goto 54 262 := mJ.of (211) (by decide +kernel) rfl (by decide)
theorem dX8_step_54 : mD cX8_step 54 (.iload_n 1) 1 55 := ⟨by decide +kernel, rfl⟩
theorem dX8_step_55 : mD cX8_step 55 (.bipush 48) 2 57 := ⟨by decide +kernel, rfl⟩
theorem dX8_step_57 : mD cX8_step 57 (.bipush 57) 2 59 := ⟨by decide +kernel, rfl⟩
theorem dX8_step_59 : mD cX8_step 59 (.invokestatic 63) 3 62 := ⟨by decide +kernel, rfl⟩
theorem dX8_step_62 : mJ cX8_step 62 (.ifCond .eq) 65 169 := mJ.of (107) (by decide +kernel) rfl (by decide)
theorem dX8_step_65 : mD cX8_step 65 (.aload_n 0) 1 66 := ⟨by decide +kernel, rfl⟩
theorem dX8_step_66 : mD cX8_step 66 (.invokevirtual 74) 3 69 := ⟨by decide +kernel, rfl⟩
theorem dX8_step_69 : mD cX8_step 69 (.bipush 48) 2 71 := ⟨by decide +kernel, rfl⟩
theorem dX8_step_71 : mD cX8_step 71 (.bipush 57) 2 73 := ⟨by decide +kernel, rfl⟩
theorem dX8_step_73 : mD cX8_step 73 (.invokestatic 63) 3 76 := ⟨by decide +kernel, rfl⟩
theorem dX8_step_76 : mJ cX8_step 76 (.ifCond .eq) 79 128 := mJ.of (52) (by decide +kernel) rfl (by decide)
theorem dX8_step_79 : mD cX8_step 79 (.aload_n 0) 1 80 := ⟨by decide +kernel, rfl⟩
theorem dX8_step_80 : mD cX8_step 80 (.aload_n 0) 1 81 := ⟨by decide +kernel, rfl⟩
theorem dX8_step_81 : mD cX8_step 81 (.getfield 81) 3 84 := ⟨by decide +kernel, rfl⟩
theorem dX8_step_84 : mD cX8_step 84 (.sipush 9999) 3 87 := ⟨by decide +kernel, rfl⟩
theorem dX8_step_87 : mJ cX8_step 87 (.if_icmp .le) 90 97 := mJ.of (10) (by decide +kernel) rfl (by decide)
theorem dX8_step_90 : mD cX8_step 90 (.aload_n 0) 1 91 := ⟨by decide +kernel, rfl⟩
theorem dX8_step_91 : mD cX8_step 91 (.getfield 81) 3 94 := ⟨by decide +kernel, rfl⟩
theorem dX8_step_94 : mJ cX8_step 94 .goto 97 112 := mJ.of (18) (by decide +kernel) rfl (by decide)
theorem dX8_step_97 : mD cX8_step 97 (.bipush 10) 2 99 := ⟨by decide +kernel, rfl⟩
theorem dX8_step_99 : mD cX8_step 99 (.aload_n 0) 1 100 := ⟨by decide +kernel, rfl⟩
theorem dX8_step_100 : mD cX8_step 100 (.getfield 81) 3 103 := ⟨by decide +kernel, rfl⟩
theorem dX8_step_103 : mD cX8_step 103 .imul 1 104 := ⟨by decide +kernel, rfl⟩
theorem dX8_step_104 : mD cX8_step 104 (.aload_n 0) 1 105 := ⟨by decide +kernel, rfl⟩
theorem dX8_step_105 : mD cX8_step 105 (.invokevirtual 74) 3 108 := ⟨by decide +kernel, rfl⟩
theorem dX8_step_108 : mD cX8_step 108 .iadd 1 109 := ⟨by decide +kernel, rfl⟩
theorem dX8_step_109 : mD cX8_step 109 (.bipush 48) 2 111 := ⟨by decide +kernel, rfl⟩
theorem dX8_step_111 : mD cX8_step 111 .isub 1 112 := ⟨by decide +kernel, rfl⟩
theorem dX8_step_112 : mD cX8_step 112 (.putfield 81) 3 115 := ⟨by decide +kernel, rfl⟩
theorem dX8_step_115 : mD cX8_step 115 (.aload_n 0) 1 116 := ⟨by decide +kernel, rfl⟩
theorem dX8_step_116 : mD cX8_step 116 .dup 1 117 := ⟨by decide +kernel, rfl⟩
theorem dX8_step_117 : mD cX8_step 117 (.getfield 71) 3 120 := ⟨by decide +kernel, rfl⟩
theorem dX8_step_120 : mD cX8_step 120 (.iconst 1) 1 121 := ⟨by decide +kernel, rfl⟩
theorem dX8_step_121 : mD cX8_step 121 .iadd 1 122 := ⟨by decide +kernel, rfl⟩
theorem dX8_step_122 : mD cX8_step 122 (.putfield 71) 3 125 := ⟨by decide +kernel, rfl⟩
theorem dX8_step_125 : mJ cX8_step 125 .goto 128 65 := mJ.of (-60) (by decide +kernel) rfl (by decide)
theorem dX8_step_128 : mD cX8_step 128 (.aload_n 0) 1 129 := ⟨by decide +kernel, rfl⟩
theorem dX8_step_129 : mD cX8_step 129 (.aload_n 0) 1 130 := ⟨by decide +kernel, rfl⟩
theorem dX8_step_130 : mD cX8_step 130 (.getfield 81) 3 133 := ⟨by decide +kernel, rfl⟩
theorem dX8_step_133 : mD cX8_step 133 (.sipush 9999) 3 136 := ⟨by decide +kernel, rfl⟩
theorem dX8_step_136 : mJ cX8_step 136 (.if_icmp .gt) 139 158 := mJ.of (22) (by decide +kernel) rfl (by decide)
theorem dX8_step_139 : mD cX8_step 139 (.iload_n 1) 1 140 := ⟨by decide +kernel, rfl⟩
theorem dX8_step_140 : mD cX8_step 140 (.bipush 48) 2 142 := ⟨by decide +kernel, rfl⟩
theorem dX8_step_142 : mJ cX8_step 142 (.if_icmp .ne) 145 162 := mJ.of (20) (by decide +kernel) rfl (by decide)
theorem dX8_step_145 : mD cX8_step 145 (.aload_n 0) 1 146 := ⟨by decide +kernel, rfl⟩
theorem dX8_step_146 : mD cX8_step 146 (.getfield 71) 3 149 := ⟨by decide +kernel, rfl⟩
theorem dX8_step_149 : mD cX8_step 149 (.aload_n 0) 1 150 := ⟨by decide +kernel, rfl⟩
theorem dX8_step_150 : mD cX8_step 150 (.getfield 78) 3 153 := ⟨by decide +kernel, rfl⟩
theorem dX8_step_153 : mD cX8_step 153 .isub 1 154 := ⟨by decide +kernel, rfl⟩
theorem dX8_step_154 : mD cX8_step 154 (.iconst 1) 1 155 := ⟨by decide +kernel, rfl⟩
theorem dX8_step_155 : mJ cX8_step 155 (.if_icmp .le) 158 162 := mJ.of (7) (by decide +kernel) rfl (by decide)
theorem dX8_step_158 : mD cX8_step 158 (.iconst 5) 1 159 := ⟨by decide +kernel, rfl⟩
theorem dX8_step_159 : mJ cX8_step 159 .goto 162 163 := mJ.of (4) (by decide +kernel) rfl (by decide)
theorem dX8_step_162 : mD cX8_step 162 (.iconst 2) 1 163 := ⟨by decide +kernel, rfl⟩
theorem dX8_step_163 : mD cX8_step 163 (.putfield 84) 3 166 := ⟨by decide +kernel, rfl⟩
theorem dX8_step_166 : mJ cX8_step 166 .goto 169 262 := mJ.of (96) (by decide +kernel) rfl (by decide)
theorem dX8_step_169 : mD cX8_step 169 (.iload_n 1) 1 170 := ⟨by decide +kernel, rfl⟩
theorem dX8_step_170 : mD cX8_step 170 (.bipush 97) 2 172 := ⟨by decide +kernel, rfl⟩
theorem dX8_step_172 : mD cX8_step 172 (.bipush 122) 2 174 := ⟨by decide +kernel, rfl⟩
theorem dX8_step_174 : mD cX8_step 174 (.invokestatic 63) 3 177 := ⟨by decide +kernel, rfl⟩
theorem dX8_step_177 : mJ cX8_step 177 (.ifCond .eq) 180 237 := mJ.of (60) (by decide +kernel) rfl (by decide)
theorem dX8_step_180 : mD cX8_step 180 (.aload_n 0) 1 181 := ⟨by decide +kernel, rfl⟩
theorem dX8_step_181 : mD cX8_step 181 (.invokevirtual 74) 3 184 := ⟨by decide +kernel, rfl⟩
theorem dX8_step_184 : mD cX8_step 184 (.bipush 97) 2 186 := ⟨by decide +kernel, rfl⟩
theorem dX8_step_186 : mD cX8_step 186 (.bipush 122) 2 188 := ⟨by decide +kernel, rfl⟩
theorem dX8_step_188 : mD cX8_step 188 (.invokestatic 63) 3 191 := ⟨by decide +kernel, rfl⟩
theorem dX8_step_191 : mJ cX8_step 191 (.ifCond .eq) 194 207 := mJ.of (16) (by decide +kernel) rfl (by decide)
theorem dX8_step_194 : mD cX8_step 194 (.aload_n 0) 1 195 := ⟨by decide +kernel, rfl⟩
theorem dX8_step_195 : mD cX8_step 195 .dup 1 196 := ⟨by decide +kernel, rfl⟩
theorem dX8_step_196 : mD cX8_step 196 (.getfield 71) 3 199 := ⟨by decide +kernel, rfl⟩
theorem dX8_step_199 : mD cX8_step 199 (.iconst 1) 1 200 := ⟨by decide +kernel, rfl⟩
theorem dX8_step_200 : mD cX8_step 200 .iadd 1 201 := ⟨by decide +kernel, rfl⟩
theorem dX8_step_201 : mD cX8_step 201 (.putfield 71) 3 204 := ⟨by decide +kernel, rfl⟩
theorem dX8_step_204 : mJ cX8_step 204 .goto 207 180 := mJ.of (-24) (by decide +kernel) rfl (by decide)
theorem dX8_step_207 : mD cX8_step 207 (.aload_n 0) 1 208 := ⟨by decide +kernel, rfl⟩
theorem dX8_step_208 : mD cX8_step 208 (.aload_n 0) 1 209 := ⟨by decide +kernel, rfl⟩
theorem dX8_step_209 : mD cX8_step 209 (.getfield 71) 3 212 := ⟨by decide +kernel, rfl⟩
theorem dX8_step_212 : mD cX8_step 212 (.aload_n 0) 1 213 := ⟨by decide +kernel, rfl⟩
theorem dX8_step_213 : mD cX8_step 213 (.getfield 78) 3 216 := ⟨by decide +kernel, rfl⟩
theorem dX8_step_216 : mD cX8_step 216 .isub 1 217 := ⟨by decide +kernel, rfl⟩
theorem dX8_step_217 : mD cX8_step 217 (.iconst 1) 1 218 := ⟨by decide +kernel, rfl⟩
theorem dX8_step_218 : mJ cX8_step 218 (.if_icmp .ne) 221 225 := mJ.of (7) (by decide +kernel) rfl (by decide)
theorem dX8_step_221 : mD cX8_step 221 (.iload_n 1) 1 222 := ⟨by decide +kernel, rfl⟩
theorem dX8_step_222 : mJ cX8_step 222 .goto 225 226 := mJ.of (4) (by decide +kernel) rfl (by decide)
theorem dX8_step_225 : mD cX8_step 225 (.iconst 0) 1 226 := ⟨by decide +kernel, rfl⟩
theorem dX8_step_226 : mD cX8_step 226 (.putfield 81) 3 229 := ⟨by decide +kernel, rfl⟩
theorem dX8_step_229 : mD cX8_step 229 (.aload_n 0) 1 230 := ⟨by decide +kernel, rfl⟩
theorem dX8_step_230 : mD cX8_step 230 (.iconst 1) 1 231 := ⟨by decide +kernel, rfl⟩
theorem dX8_step_231 : mD cX8_step 231 (.putfield 84) 3 234 := ⟨by decide +kernel, rfl⟩
theorem dX8_step_234 : mJ cX8_step 234 .goto 237 262 := mJ.of (28) (by decide +kernel) rfl (by decide)
theorem dX8_step_237 : mD cX8_step 237 (.aload_n 0) 1 238 := ⟨by decide +kernel, rfl⟩
theorem dX8_step_238 : mD cX8_step 238 .dup 1 239 := ⟨by decide +kernel, rfl⟩
theorem dX8_step_239 : mD cX8_step 239 (.getfield 71) 3 242 := ⟨by decide +kernel, rfl⟩
theorem dX8_step_242 : mD cX8_step 242 (.iconst 1) 1 243 := ⟨by decide +kernel, rfl⟩
theorem dX8_step_243 : mD cX8_step 243 .iadd 1 244 := ⟨by decide +kernel, rfl⟩
theorem dX8_step_244 : mD cX8_step 244 (.putfield 71) 3 247 := ⟨by decide +kernel, rfl⟩
theorem dX8_step_247 : mD cX8_step 247 (.aload_n 0) 1 248 := ⟨by decide +kernel, rfl⟩
theorem dX8_step_248 : mD cX8_step 248 (.iload_n 1) 1 249 := ⟨by decide +kernel, rfl⟩
theorem dX8_step_249 : mD cX8_step 249 (.bipush 59) 2 251 := ⟨by decide +kernel, rfl⟩
theorem dX8_step_251 : mJ cX8_step 251 (.if_icmp .ne) 254 258 := mJ.of (7) (by decide +kernel) rfl (by decide)
theorem dX8_step_254 : mD cX8_step 254 (.iconst 3) 1 255 := ⟨by decide +kernel, rfl⟩
theorem dX8_step_255 : mJ cX8_step 255 .goto 258 259 := mJ.of (4) (by decide +kernel) rfl (by decide)
theorem dX8_step_258 : mD cX8_step 258 (.iconst 5) 1 259 := ⟨by decide +kernel, rfl⟩
theorem dX8_step_259 : mD cX8_step 259 (.putfield 84) 3 262 := ⟨by decide +kernel, rfl⟩
theorem dX8_step_262 : mD cX8_step 262 .return_ 1 263 := ⟨by decide +kernel, rfl⟩
theorem dX8_due_0 : mD cX8_due 0 (.aload_n 0) 1 1 := ⟨by decide +kernel, rfl⟩
theorem dX8_due_1 : mD cX8_due 1 (.getfield 87) 3 4 := ⟨by decide +kernel, rfl⟩
theorem dX8_due_4 : mJ cX8_due 4 (.ifCond .eq) 7 8 := mJ.of (4) (by decide +kernel) rfl (by decide)
theorem dX8_due_7 : mD cX8_due 7 .return_ 1 8 := ⟨by decide +kernel, rfl⟩
theorem dX8_due_8 : mD cX8_due 8 (.iload_n 1) 1 9 := ⟨by decide +kernel, rfl⟩
theorem dX8_due_9 : mJ cX8_due 9 (.ifCond .eq) 12 19 := mJ.of (10) (by decide +kernel) rfl (by decide)
theorem dX8_due_12 : mD cX8_due 12 (.aload_n 0) 1 13 := ⟨by decide +kernel, rfl⟩
theorem dX8_due_13 : mD cX8_due 13 (.invokevirtual 91) 3 16 := ⟨by decide +kernel, rfl⟩
theorem dX8_due_16 : mJ cX8_due 16 .goto 19 24 := mJ.of (8) (by decide +kernel) rfl (by decide)
theorem dX8_due_19 : mD cX8_due 19 (.aload_n 0) 1 20 := ⟨by decide +kernel, rfl⟩
theorem dX8_due_20 : mD cX8_due 20 (.iconst 1) 1 21 := ⟨by decide +kernel, rfl⟩
theorem dX8_due_21 : mD cX8_due 21 (.putfield 87) 3 24 := ⟨by decide +kernel, rfl⟩
theorem dX8_due_24 : mD cX8_due 24 .return_ 1 25 := ⟨by decide +kernel, rfl⟩
theorem dX8_amount_0 : mD cX8_amount 0 (.aload_n 0) 1 1 := ⟨by decide +kernel, rfl⟩
theorem dX8_amount_1 : mD cX8_amount 1 (.getfield 81) 3 4 := ⟨by decide +kernel, rfl⟩
theorem dX8_amount_4 : mD cX8_amount 4 (.istore_n 3) 1 5 := ⟨by decide +kernel, rfl⟩
theorem dX8_amount_5 : mD cX8_amount 5 (.aload_n 0) 1 6 := ⟨by decide +kernel, rfl⟩
theorem dX8_amount_6 : mD cX8_amount 6 (.aload_n 0) 1 7 := ⟨by decide +kernel, rfl⟩
theorem dX8_amount_7 : mD cX8_amount 7 (.getfield 84) 3 10 := ⟨by decide +kernel, rfl⟩
theorem dX8_amount_10 : mD cX8_amount 10 (.iconst 2) 1 11 := ⟨by decide +kernel, rfl⟩
theorem dX8_amount_11 : mJ cX8_amount 11 (.if_icmp .ne) 14 27 := mJ.of (16) (by decide +kernel) rfl (by decide)
theorem dX8_amount_14 : mD cX8_amount 14 (.iload_n 3) 1 15 := ⟨by decide +kernel, rfl⟩
theorem dX8_amount_15 : mD cX8_amount 15 (.iload_n 1) 1 16 := ⟨by decide +kernel, rfl⟩
theorem dX8_amount_16 : mD cX8_amount 16 (.iload_n 2) 1 17 := ⟨by decide +kernel, rfl⟩
theorem dX8_amount_17 : mD cX8_amount 17 (.invokestatic 63) 3 20 := ⟨by decide +kernel, rfl⟩
theorem dX8_amount_20 : mJ cX8_amount 20 (.ifCond .eq) 23 27 := mJ.of (7) (by decide +kernel) rfl (by decide)
theorem dX8_amount_23 : mD cX8_amount 23 (.iconst 1) 1 24 := ⟨by decide +kernel, rfl⟩
theorem dX8_amount_24 : mJ cX8_amount 24 .goto 27 28 := mJ.of (4) (by decide +kernel) rfl (by decide)
theorem dX8_amount_27 : mD cX8_amount 27 (.iconst 0) 1 28 := ⟨by decide +kernel, rfl⟩
theorem dX8_amount_28 : mD cX8_amount 28 (.invokevirtual 94) 3 31 := ⟨by decide +kernel, rfl⟩
theorem dX8_amount_31 : mD cX8_amount 31 (.iload_n 3) 1 32 := ⟨by decide +kernel, rfl⟩
theorem dX8_amount_32 : mD cX8_amount 32 .ireturn 1 33 := ⟨by decide +kernel, rfl⟩
theorem dX8_power_0 : mD cX8_power 0 (.iconst 1) 1 1 := ⟨by decide +kernel, rfl⟩
theorem dX8_power_1 : mD cX8_power 1 (.istore_n 1) 1 2 := ⟨by decide +kernel, rfl⟩
theorem dX8_power_2 : mD cX8_power 2 (.iconst 0) 1 3 := ⟨by decide +kernel, rfl⟩
theorem dX8_power_3 : mD cX8_power 3 (.istore_n 2) 1 4 := ⟨by decide +kernel, rfl⟩
theorem dX8_power_4 : mD cX8_power 4 (.iload_n 2) 1 5 := ⟨by decide +kernel, rfl⟩
theorem dX8_power_5 : mD cX8_power 5 (.iload_n 0) 1 6 := ⟨by decide +kernel, rfl⟩
theorem dX8_power_6 : mJ cX8_power 6 (.if_icmp .ge) 9 20 := mJ.of (14) (by decide +kernel) rfl (by decide)
theorem dX8_power_9 : mD cX8_power 9 (.iload_n 1) 1 10 := ⟨by decide +kernel, rfl⟩
theorem dX8_power_10 : mD cX8_power 10 (.bipush 10) 2 12 := ⟨by decide +kernel, rfl⟩
theorem dX8_power_12 : mD cX8_power 12 .imul 1 13 := ⟨by decide +kernel, rfl⟩
theorem dX8_power_13 : mD cX8_power 13 (.istore_n 1) 1 14 := ⟨by decide +kernel, rfl⟩
theorem dX8_power_14 : mD cX8_power 14 (.iinc 2 1) 3 17 := ⟨by decide +kernel, rfl⟩
theorem dX8_power_17 : mJ cX8_power 17 .goto 20 4 := mJ.of (-13) (by decide +kernel) rfl (by decide)
theorem dX8_power_20 : mD cX8_power 20 (.iload_n 1) 1 21 := ⟨by decide +kernel, rfl⟩
theorem dX8_power_21 : mD cX8_power 21 .ireturn 1 22 := ⟨by decide +kernel, rfl⟩
theorem dX8_item_0 : mD cX8_item 0 (.iload_n 1) 1 1 := ⟨by decide +kernel, rfl⟩
theorem dX8_item_1 : decode cX8_item 1 = .ok (.lookupswitch 90 #[(98, 27), (99, 37)], 27) := by decide +kernel
theorem dX8_item_28 : mD cX8_item 28 (.aload_n 0) 1 29 := ⟨by decide +kernel, rfl⟩
theorem dX8_item_29 : mD cX8_item 29 (.getfield 20) 3 32 := ⟨by decide +kernel, rfl⟩
theorem dX8_item_32 : mD cX8_item 32 (.iconst 1) 1 33 := ⟨by decide +kernel, rfl⟩
theorem dX8_item_33 : mD cX8_item 33 (.iconst 1) 1 34 := ⟨by decide +kernel, rfl⟩
theorem dX8_item_34 : mD cX8_item 34 .iastore 1 35 := ⟨by decide +kernel, rfl⟩
theorem dX8_item_35 : mJ cX8_item 35 .goto 38 131 := mJ.of (96) (by decide +kernel) rfl (by decide)
theorem dX8_item_38 : mD cX8_item 38 (.iconst 0) 1 39 := ⟨by decide +kernel, rfl⟩
theorem dX8_item_39 : mD cX8_item 39 (.istore_n 2) 1 40 := ⟨by decide +kernel, rfl⟩
theorem dX8_item_40 : mD cX8_item 40 (.iload_n 2) 1 41 := ⟨by decide +kernel, rfl⟩
theorem dX8_item_41 : mD cX8_item 41 (.bipush 6) 2 43 := ⟨by decide +kernel, rfl⟩
theorem dX8_item_43 : mJ cX8_item 43 (.if_icmp .ge) 46 78 := mJ.of (35) (by decide +kernel) rfl (by decide)
theorem dX8_item_46 : mD cX8_item 46 (.aload_n 0) 1 47 := ⟨by decide +kernel, rfl⟩
theorem dX8_item_47 : mD cX8_item 47 (.getfield 23) 3 50 := ⟨by decide +kernel, rfl⟩
theorem dX8_item_50 : mD cX8_item 50 (.bipush 24) 2 52 := ⟨by decide +kernel, rfl⟩
theorem dX8_item_52 : mD cX8_item 52 (.bipush 6) 2 54 := ⟨by decide +kernel, rfl⟩
theorem dX8_item_54 : mD cX8_item 54 (.aload_n 0) 1 55 := ⟨by decide +kernel, rfl⟩
theorem dX8_item_55 : mD cX8_item 55 (.getfield 13) 3 58 := ⟨by decide +kernel, rfl⟩
theorem dX8_item_58 : mD cX8_item 58 (.iconst 1) 1 59 := ⟨by decide +kernel, rfl⟩
theorem dX8_item_59 : mD cX8_item 59 .iaload 1 60 := ⟨by decide +kernel, rfl⟩
theorem dX8_item_60 : mD cX8_item 60 .imul 1 61 := ⟨by decide +kernel, rfl⟩
theorem dX8_item_61 : mD cX8_item 61 .iadd 1 62 := ⟨by decide +kernel, rfl⟩
theorem dX8_item_62 : mD cX8_item 62 (.iload_n 2) 1 63 := ⟨by decide +kernel, rfl⟩
theorem dX8_item_63 : mD cX8_item 63 .iadd 1 64 := ⟨by decide +kernel, rfl⟩
theorem dX8_item_64 : mD cX8_item 64 (.aload_n 0) 1 65 := ⟨by decide +kernel, rfl⟩
theorem dX8_item_65 : mD cX8_item 65 (.iconst 0) 1 66 := ⟨by decide +kernel, rfl⟩
theorem dX8_item_66 : mD cX8_item 66 (.bipush 9) 2 68 := ⟨by decide +kernel, rfl⟩
theorem dX8_item_68 : mD cX8_item 68 (.invokevirtual 98) 3 71 := ⟨by decide +kernel, rfl⟩
theorem dX8_item_71 : mD cX8_item 71 .iastore 1 72 := ⟨by decide +kernel, rfl⟩
theorem dX8_item_72 : mD cX8_item 72 (.iinc 2 1) 3 75 := ⟨by decide +kernel, rfl⟩
theorem dX8_item_75 : mJ cX8_item 75 .goto 78 40 := mJ.of (-35) (by decide +kernel) rfl (by decide)
theorem dX8_item_78 : mD cX8_item 78 (.aload_n 0) 1 79 := ⟨by decide +kernel, rfl⟩
theorem dX8_item_79 : mD cX8_item 79 (.getfield 13) 3 82 := ⟨by decide +kernel, rfl⟩
theorem dX8_item_82 : mD cX8_item 82 (.iconst 1) 1 83 := ⟨by decide +kernel, rfl⟩
theorem dX8_item_83 : mD cX8_item 83 .dup2 1 84 := ⟨by decide +kernel, rfl⟩
theorem dX8_item_84 : mD cX8_item 84 .iaload 1 85 := ⟨by decide +kernel, rfl⟩
theorem dX8_item_85 : mD cX8_item 85 (.iconst 1) 1 86 := ⟨by decide +kernel, rfl⟩
theorem dX8_item_86 : mD cX8_item 86 .iadd 1 87 := ⟨by decide +kernel, rfl⟩
theorem dX8_item_87 : mD cX8_item 87 .iastore 1 88 := ⟨by decide +kernel, rfl⟩
theorem dX8_item_88 : mJ cX8_item 88 .goto 91 131 := mJ.of (43) (by decide +kernel) rfl (by decide)
theorem dX8_item_91 : mD cX8_item 91 (.aload_n 0) 1 92 := ⟨by decide +kernel, rfl⟩
theorem dX8_item_92 : mD cX8_item 92 (.getfield 26) 3 95 := ⟨by decide +kernel, rfl⟩
theorem dX8_item_95 : mD cX8_item 95 (.bipush 6) 2 97 := ⟨by decide +kernel, rfl⟩
theorem dX8_item_97 : mD cX8_item 97 (.aload_n 0) 1 98 := ⟨by decide +kernel, rfl⟩
theorem dX8_item_98 : mD cX8_item 98 (.getfield 17) 3 101 := ⟨by decide +kernel, rfl⟩
theorem dX8_item_101 : mD cX8_item 101 (.iconst 1) 1 102 := ⟨by decide +kernel, rfl⟩
theorem dX8_item_102 : mD cX8_item 102 .iaload 1 103 := ⟨by decide +kernel, rfl⟩
theorem dX8_item_103 : mD cX8_item 103 .iadd 1 104 := ⟨by decide +kernel, rfl⟩
theorem dX8_item_104 : mD cX8_item 104 (.aload_n 0) 1 105 := ⟨by decide +kernel, rfl⟩
theorem dX8_item_105 : mD cX8_item 105 (.iconst 0) 1 106 := ⟨by decide +kernel, rfl⟩
theorem dX8_item_106 : mD cX8_item 106 (.aload_n 0) 1 107 := ⟨by decide +kernel, rfl⟩
theorem dX8_item_107 : mD cX8_item 107 (.getfield 13) 3 110 := ⟨by decide +kernel, rfl⟩
theorem dX8_item_110 : mD cX8_item 110 (.iconst 1) 1 111 := ⟨by decide +kernel, rfl⟩
theorem dX8_item_111 : mD cX8_item 111 .iaload 1 112 := ⟨by decide +kernel, rfl⟩
theorem dX8_item_112 : mD cX8_item 112 (.invokestatic 102) 3 115 := ⟨by decide +kernel, rfl⟩
theorem dX8_item_115 : mD cX8_item 115 (.iconst 1) 1 116 := ⟨by decide +kernel, rfl⟩
theorem dX8_item_116 : mD cX8_item 116 .isub 1 117 := ⟨by decide +kernel, rfl⟩
theorem dX8_item_117 : mD cX8_item 117 (.invokevirtual 98) 3 120 := ⟨by decide +kernel, rfl⟩
theorem dX8_item_120 : mD cX8_item 120 .iastore 1 121 := ⟨by decide +kernel, rfl⟩
theorem dX8_item_121 : mD cX8_item 121 (.aload_n 0) 1 122 := ⟨by decide +kernel, rfl⟩
theorem dX8_item_122 : mD cX8_item 122 (.getfield 17) 3 125 := ⟨by decide +kernel, rfl⟩
theorem dX8_item_125 : mD cX8_item 125 (.iconst 1) 1 126 := ⟨by decide +kernel, rfl⟩
theorem dX8_item_126 : mD cX8_item 126 .dup2 1 127 := ⟨by decide +kernel, rfl⟩
theorem dX8_item_127 : mD cX8_item 127 .iaload 1 128 := ⟨by decide +kernel, rfl⟩
theorem dX8_item_128 : mD cX8_item 128 (.iconst 1) 1 129 := ⟨by decide +kernel, rfl⟩
theorem dX8_item_129 : mD cX8_item 129 .iadd 1 130 := ⟨by decide +kernel, rfl⟩
theorem dX8_item_130 : mD cX8_item 130 .iastore 1 131 := ⟨by decide +kernel, rfl⟩
theorem dX8_item_131 : mD cX8_item 131 .return_ 1 132 := ⟨by decide +kernel, rfl⟩
theorem dX8_may_0 : mD cX8_may 0 (.iload_n 1) 1 1 := ⟨by decide +kernel, rfl⟩
theorem dX8_may_1 : decode cX8_may 1 = .ok (.lookupswitch 58 #[(98, 27), (99, 42)], 27) := by decide +kernel
theorem dX8_may_28 : mD cX8_may 28 (.aload_n 0) 1 29 := ⟨by decide +kernel, rfl⟩
theorem dX8_may_29 : mD cX8_may 29 (.getfield 20) 3 32 := ⟨by decide +kernel, rfl⟩
theorem dX8_may_32 : mD cX8_may 32 (.iconst 1) 1 33 := ⟨by decide +kernel, rfl⟩
theorem dX8_may_33 : mD cX8_may 33 .iaload 1 34 := ⟨by decide +kernel, rfl⟩
theorem dX8_may_34 : mJ cX8_may 34 (.ifCond .ne) 37 41 := mJ.of (7) (by decide +kernel) rfl (by decide)
theorem dX8_may_37 : mD cX8_may 37 (.iconst 1) 1 38 := ⟨by decide +kernel, rfl⟩
theorem dX8_may_38 : mJ cX8_may 38 .goto 41 42 := mJ.of (4) (by decide +kernel) rfl (by decide)
theorem dX8_may_41 : mD cX8_may 41 (.iconst 0) 1 42 := ⟨by decide +kernel, rfl⟩
theorem dX8_may_42 : mD cX8_may 42 .ireturn 1 43 := ⟨by decide +kernel, rfl⟩
theorem dX8_may_43 : mD cX8_may 43 (.aload_n 0) 1 44 := ⟨by decide +kernel, rfl⟩
theorem dX8_may_44 : mD cX8_may 44 (.getfield 13) 3 47 := ⟨by decide +kernel, rfl⟩
theorem dX8_may_47 : mD cX8_may 47 (.iconst 1) 1 48 := ⟨by decide +kernel, rfl⟩
theorem dX8_may_48 : mD cX8_may 48 .iaload 1 49 := ⟨by decide +kernel, rfl⟩
theorem dX8_may_49 : mD cX8_may 49 (.iconst 4) 1 50 := ⟨by decide +kernel, rfl⟩
theorem dX8_may_50 : mJ cX8_may 50 (.if_icmp .ge) 53 57 := mJ.of (7) (by decide +kernel) rfl (by decide)
theorem dX8_may_53 : mD cX8_may 53 (.iconst 1) 1 54 := ⟨by decide +kernel, rfl⟩
theorem dX8_may_54 : mJ cX8_may 54 .goto 57 58 := mJ.of (4) (by decide +kernel) rfl (by decide)
theorem dX8_may_57 : mD cX8_may 57 (.iconst 0) 1 58 := ⟨by decide +kernel, rfl⟩
theorem dX8_may_58 : mD cX8_may 58 .ireturn 1 59 := ⟨by decide +kernel, rfl⟩
theorem dX8_may_59 : mD cX8_may 59 (.iload_n 1) 1 60 := ⟨by decide +kernel, rfl⟩
theorem dX8_may_60 : mD cX8_may 60 (.bipush 100) 2 62 := ⟨by decide +kernel, rfl⟩
theorem dX8_may_62 : mJ cX8_may 62 (.if_icmp .ne) 65 80 := mJ.of (18) (by decide +kernel) rfl (by decide)
theorem dX8_may_65 : mD cX8_may 65 (.aload_n 0) 1 66 := ⟨by decide +kernel, rfl⟩
theorem dX8_may_66 : mD cX8_may 66 (.getfield 17) 3 69 := ⟨by decide +kernel, rfl⟩
theorem dX8_may_69 : mD cX8_may 69 (.iconst 1) 1 70 := ⟨by decide +kernel, rfl⟩
theorem dX8_may_70 : mD cX8_may 70 .iaload 1 71 := ⟨by decide +kernel, rfl⟩
theorem dX8_may_71 : mD cX8_may 71 (.bipush 6) 2 73 := ⟨by decide +kernel, rfl⟩
theorem dX8_may_73 : mJ cX8_may 73 (.if_icmp .ge) 76 80 := mJ.of (7) (by decide +kernel) rfl (by decide)
theorem dX8_may_76 : mD cX8_may 76 (.iconst 1) 1 77 := ⟨by decide +kernel, rfl⟩
theorem dX8_may_77 : mJ cX8_may 77 .goto 80 81 := mJ.of (4) (by decide +kernel) rfl (by decide)
theorem dX8_may_80 : mD cX8_may 80 (.iconst 0) 1 81 := ⟨by decide +kernel, rfl⟩
theorem dX8_may_81 : mD cX8_may 81 .ireturn 1 82 := ⟨by decide +kernel, rfl⟩
theorem dX8_read_0 : mD cX8_read 0 (.aload_n 0) 1 1 := ⟨by decide +kernel, rfl⟩
theorem dX8_read_1 : mD cX8_read 1 (.iconst 0) 1 2 := ⟨by decide +kernel, rfl⟩
theorem dX8_read_2 : mD cX8_read 2 (.putfield 71) 3 5 := ⟨by decide +kernel, rfl⟩
theorem dX8_read_5 : mD cX8_read 5 (.aload_n 0) 1 6 := ⟨by decide +kernel, rfl⟩
theorem dX8_read_6 : mD cX8_read 6 (.iconst 0) 1 7 := ⟨by decide +kernel, rfl⟩
theorem dX8_read_7 : mD cX8_read 7 (.putfield 87) 3 10 := ⟨by decide +kernel, rfl⟩
theorem dX8_read_10 : mD cX8_read 10 (.aload_n 0) 1 11 := ⟨by decide +kernel, rfl⟩
theorem dX8_read_11 : mD cX8_read 11 (.iconst 0) 1 12 := ⟨by decide +kernel, rfl⟩
theorem dX8_read_12 : mD cX8_read 12 (.putfield 106) 3 15 := ⟨by decide +kernel, rfl⟩
theorem dX8_read_15 : mD cX8_read 15 (.aload_n 0) 1 16 := ⟨by decide +kernel, rfl⟩
theorem dX8_read_16 : mD cX8_read 16 (.getfield 13) 3 19 := ⟨by decide +kernel, rfl⟩
theorem dX8_read_19 : mD cX8_read 19 (.iconst 1) 1 20 := ⟨by decide +kernel, rfl⟩
theorem dX8_read_20 : mD cX8_read 20 (.iconst 0) 1 21 := ⟨by decide +kernel, rfl⟩
theorem dX8_read_21 : mD cX8_read 21 .iastore 1 22 := ⟨by decide +kernel, rfl⟩
theorem dX8_read_22 : mD cX8_read 22 (.aload_n 0) 1 23 := ⟨by decide +kernel, rfl⟩
theorem dX8_read_23 : mD cX8_read 23 (.getfield 17) 3 26 := ⟨by decide +kernel, rfl⟩
theorem dX8_read_26 : mD cX8_read 26 (.iconst 1) 1 27 := ⟨by decide +kernel, rfl⟩
theorem dX8_read_27 : mD cX8_read 27 (.iconst 0) 1 28 := ⟨by decide +kernel, rfl⟩
theorem dX8_read_28 : mD cX8_read 28 .iastore 1 29 := ⟨by decide +kernel, rfl⟩
theorem dX8_read_29 : mD cX8_read 29 (.aload_n 0) 1 30 := ⟨by decide +kernel, rfl⟩
theorem dX8_read_30 : mD cX8_read 30 (.getfield 20) 3 33 := ⟨by decide +kernel, rfl⟩
theorem dX8_read_33 : mD cX8_read 33 (.iconst 1) 1 34 := ⟨by decide +kernel, rfl⟩
theorem dX8_read_34 : mD cX8_read 34 (.iconst 0) 1 35 := ⟨by decide +kernel, rfl⟩
theorem dX8_read_35 : mD cX8_read 35 .iastore 1 36 := ⟨by decide +kernel, rfl⟩
theorem dX8_read_36 : mD cX8_read 36 (.aload_n 0) 1 37 := ⟨by decide +kernel, rfl⟩
theorem dX8_read_37 : mD cX8_read 37 (.invokevirtual 91) 3 40 := ⟨by decide +kernel, rfl⟩
theorem dX8_read_40 : mD cX8_read 40 (.aload_n 0) 1 41 := ⟨by decide +kernel, rfl⟩
theorem dX8_read_41 : mD cX8_read 41 (.getfield 84) 3 44 := ⟨by decide +kernel, rfl⟩
theorem dX8_read_44 : mD cX8_read 44 (.iconst 4) 1 45 := ⟨by decide +kernel, rfl⟩
theorem dX8_read_45 : mJ cX8_read 45 (.if_icmp .eq) 48 139 := mJ.of (94) (by decide +kernel) rfl (by decide)
theorem dX8_read_48 : mD cX8_read 48 (.aload_n 0) 1 49 := ⟨by decide +kernel, rfl⟩
theorem dX8_read_49 : mD cX8_read 49 (.getfield 87) 3 52 := ⟨by decide +kernel, rfl⟩
theorem dX8_read_52 : mJ cX8_read 52 (.ifCond .ne) 55 139 := mJ.of (87) (by decide +kernel) rfl (by decide)
theorem dX8_read_55 : mD cX8_read 55 (.aload_n 0) 1 56 := ⟨by decide +kernel, rfl⟩
theorem dX8_read_56 : mD cX8_read 56 (.getfield 84) 3 59 := ⟨by decide +kernel, rfl⟩
theorem dX8_read_59 : mD cX8_read 59 (.iconst 1) 1 60 := ⟨by decide +kernel, rfl⟩
theorem dX8_read_60 : mJ cX8_read 60 (.if_icmp .ne) 63 70 := mJ.of (10) (by decide +kernel) rfl (by decide)
theorem dX8_read_63 : mD cX8_read 63 (.aload_n 0) 1 64 := ⟨by decide +kernel, rfl⟩
theorem dX8_read_64 : mD cX8_read 64 (.getfield 81) 3 67 := ⟨by decide +kernel, rfl⟩
theorem dX8_read_67 : mJ cX8_read 67 .goto 70 71 := mJ.of (4) (by decide +kernel) rfl (by decide)
theorem dX8_read_70 : mD cX8_read 70 (.iconst 0) 1 71 := ⟨by decide +kernel, rfl⟩
theorem dX8_read_71 : mD cX8_read 71 (.istore_n 1) 1 72 := ⟨by decide +kernel, rfl⟩
theorem dX8_read_72 : mD cX8_read 72 (.aload_n 0) 1 73 := ⟨by decide +kernel, rfl⟩
theorem dX8_read_73 : mD cX8_read 73 (.aload_n 0) 1 74 := ⟨by decide +kernel, rfl⟩
theorem dX8_read_74 : mD cX8_read 74 (.getfield 84) 3 77 := ⟨by decide +kernel, rfl⟩
theorem dX8_read_77 : mD cX8_read 77 (.iconst 1) 1 78 := ⟨by decide +kernel, rfl⟩
theorem dX8_read_78 : mJ cX8_read 78 (.if_icmp .ne) 81 93 := mJ.of (15) (by decide +kernel) rfl (by decide)
theorem dX8_read_81 : mD cX8_read 81 (.aload_n 0) 1 82 := ⟨by decide +kernel, rfl⟩
theorem dX8_read_82 : mD cX8_read 82 (.iload_n 1) 1 83 := ⟨by decide +kernel, rfl⟩
theorem dX8_read_83 : mD cX8_read 83 (.invokevirtual 109) 3 86 := ⟨by decide +kernel, rfl⟩
theorem dX8_read_86 : mJ cX8_read 86 (.ifCond .eq) 89 93 := mJ.of (7) (by decide +kernel) rfl (by decide)
theorem dX8_read_89 : mD cX8_read 89 (.iconst 1) 1 90 := ⟨by decide +kernel, rfl⟩
theorem dX8_read_90 : mJ cX8_read 90 .goto 93 94 := mJ.of (4) (by decide +kernel) rfl (by decide)
theorem dX8_read_93 : mD cX8_read 93 (.iconst 0) 1 94 := ⟨by decide +kernel, rfl⟩
theorem dX8_read_94 : mD cX8_read 94 (.invokevirtual 94) 3 97 := ⟨by decide +kernel, rfl⟩
theorem dX8_read_97 : mD cX8_read 97 (.aload_n 0) 1 98 := ⟨by decide +kernel, rfl⟩
theorem dX8_read_98 : mD cX8_read 98 (.getfield 87) 3 101 := ⟨by decide +kernel, rfl⟩
theorem dX8_read_101 : mJ cX8_read 101 (.ifCond .ne) 104 136 := mJ.of (35) (by decide +kernel) rfl (by decide)
theorem dX8_read_104 : mD cX8_read 104 (.aload_n 0) 1 105 := ⟨by decide +kernel, rfl⟩
theorem dX8_read_105 : mD cX8_read 105 (.iload_n 1) 1 106 := ⟨by decide +kernel, rfl⟩
theorem dX8_read_106 : mD cX8_read 106 (.invokevirtual 113) 3 109 := ⟨by decide +kernel, rfl⟩
theorem dX8_read_109 : mD cX8_read 109 (.aload_n 0) 1 110 := ⟨by decide +kernel, rfl⟩
theorem dX8_read_110 : mD cX8_read 110 (.aload_n 0) 1 111 := ⟨by decide +kernel, rfl⟩
theorem dX8_read_111 : mD cX8_read 111 (.getfield 84) 3 114 := ⟨by decide +kernel, rfl⟩
theorem dX8_read_114 : mD cX8_read 114 (.iconst 3) 1 115 := ⟨by decide +kernel, rfl⟩
theorem dX8_read_115 : mJ cX8_read 115 (.if_icmp .ne) 118 122 := mJ.of (7) (by decide +kernel) rfl (by decide)
theorem dX8_read_118 : mD cX8_read 118 (.iconst 1) 1 119 := ⟨by decide +kernel, rfl⟩
theorem dX8_read_119 : mJ cX8_read 119 .goto 122 123 := mJ.of (4) (by decide +kernel) rfl (by decide)
theorem dX8_read_122 : mD cX8_read 122 (.iconst 0) 1 123 := ⟨by decide +kernel, rfl⟩
theorem dX8_read_123 : mD cX8_read 123 (.invokevirtual 94) 3 126 := ⟨by decide +kernel, rfl⟩
theorem dX8_read_126 : mD cX8_read 126 (.aload_n 0) 1 127 := ⟨by decide +kernel, rfl⟩
theorem dX8_read_127 : mD cX8_read 127 .dup 1 128 := ⟨by decide +kernel, rfl⟩
theorem dX8_read_128 : mD cX8_read 128 (.getfield 106) 3 131 := ⟨by decide +kernel, rfl⟩
theorem dX8_read_131 : mD cX8_read 131 (.iconst 1) 1 132 := ⟨by decide +kernel, rfl⟩
theorem dX8_read_132 : mD cX8_read 132 .iadd 1 133 := ⟨by decide +kernel, rfl⟩
theorem dX8_read_133 : mD cX8_read 133 (.putfield 106) 3 136 := ⟨by decide +kernel, rfl⟩
theorem dX8_read_136 : mJ cX8_read 136 .goto 139 40 := mJ.of (-96) (by decide +kernel) rfl (by decide)
theorem dX8_read_139 : mD cX8_read 139 .return_ 1 140 := ⟨by decide +kernel, rfl⟩
theorem dX8_desk_0 : mD cX8_desk 0 (.aload_n 0) 1 1 := ⟨by decide +kernel, rfl⟩
theorem dX8_desk_1 : mD cX8_desk 1 (.invokevirtual 117) 3 4 := ⟨by decide +kernel, rfl⟩
theorem dX8_desk_4 : mD cX8_desk 4 (.aload_n 0) 1 5 := ⟨by decide +kernel, rfl⟩
theorem dX8_desk_5 : mD cX8_desk 5 (.getfield 87) 3 8 := ⟨by decide +kernel, rfl⟩
theorem dX8_desk_8 : mJ cX8_desk 8 (.ifCond .eq) 11 19 := mJ.of (11) (by decide +kernel) rfl (by decide)
theorem dX8_desk_11 : mD cX8_desk 11 (.bipush (-10)) 2 13 := ⟨by decide +kernel, rfl⟩
theorem dX8_desk_13 : mD cX8_desk 13 (.aload_n 0) 1 14 := ⟨by decide +kernel, rfl⟩
theorem dX8_desk_14 : mD cX8_desk 14 (.getfield 78) 3 17 := ⟨by decide +kernel, rfl⟩
theorem dX8_desk_17 : mD cX8_desk 17 .isub 1 18 := ⟨by decide +kernel, rfl⟩
theorem dX8_desk_18 : mD cX8_desk 18 .ireturn 1 19 := ⟨by decide +kernel, rfl⟩
theorem dX8_desk_19 : mD cX8_desk 19 (.aload_n 0) 1 20 := ⟨by decide +kernel, rfl⟩
theorem dX8_desk_20 : mD cX8_desk 20 (.getfield 13) 3 23 := ⟨by decide +kernel, rfl⟩
theorem dX8_desk_23 : mD cX8_desk 23 (.iconst 0) 1 24 := ⟨by decide +kernel, rfl⟩
theorem dX8_desk_24 : mD cX8_desk 24 (.aload_n 0) 1 25 := ⟨by decide +kernel, rfl⟩
theorem dX8_desk_25 : mD cX8_desk 25 (.getfield 13) 3 28 := ⟨by decide +kernel, rfl⟩
theorem dX8_desk_28 : mD cX8_desk 28 (.iconst 1) 1 29 := ⟨by decide +kernel, rfl⟩
theorem dX8_desk_29 : mD cX8_desk 29 .iaload 1 30 := ⟨by decide +kernel, rfl⟩
theorem dX8_desk_30 : mD cX8_desk 30 .iastore 1 31 := ⟨by decide +kernel, rfl⟩
theorem dX8_desk_31 : mD cX8_desk 31 (.aload_n 0) 1 32 := ⟨by decide +kernel, rfl⟩
theorem dX8_desk_32 : mD cX8_desk 32 (.getfield 17) 3 35 := ⟨by decide +kernel, rfl⟩
theorem dX8_desk_35 : mD cX8_desk 35 (.iconst 0) 1 36 := ⟨by decide +kernel, rfl⟩
theorem dX8_desk_36 : mD cX8_desk 36 (.aload_n 0) 1 37 := ⟨by decide +kernel, rfl⟩
theorem dX8_desk_37 : mD cX8_desk 37 (.getfield 17) 3 40 := ⟨by decide +kernel, rfl⟩
theorem dX8_desk_40 : mD cX8_desk 40 (.iconst 1) 1 41 := ⟨by decide +kernel, rfl⟩
theorem dX8_desk_41 : mD cX8_desk 41 .iaload 1 42 := ⟨by decide +kernel, rfl⟩
theorem dX8_desk_42 : mD cX8_desk 42 .iastore 1 43 := ⟨by decide +kernel, rfl⟩
theorem dX8_desk_43 : mD cX8_desk 43 (.aload_n 0) 1 44 := ⟨by decide +kernel, rfl⟩
theorem dX8_desk_44 : mD cX8_desk 44 (.getfield 20) 3 47 := ⟨by decide +kernel, rfl⟩
theorem dX8_desk_47 : mD cX8_desk 47 (.iconst 0) 1 48 := ⟨by decide +kernel, rfl⟩
theorem dX8_desk_48 : mD cX8_desk 48 (.aload_n 0) 1 49 := ⟨by decide +kernel, rfl⟩
theorem dX8_desk_49 : mD cX8_desk 49 (.getfield 20) 3 52 := ⟨by decide +kernel, rfl⟩
theorem dX8_desk_52 : mD cX8_desk 52 (.iconst 1) 1 53 := ⟨by decide +kernel, rfl⟩
theorem dX8_desk_53 : mD cX8_desk 53 .iaload 1 54 := ⟨by decide +kernel, rfl⟩
theorem dX8_desk_54 : mD cX8_desk 54 .iastore 1 55 := ⟨by decide +kernel, rfl⟩
theorem dX8_desk_55 : mD cX8_desk 55 (.iconst 0) 1 56 := ⟨by decide +kernel, rfl⟩
theorem dX8_desk_56 : mD cX8_desk 56 (.istore_n 1) 1 57 := ⟨by decide +kernel, rfl⟩
theorem dX8_desk_57 : mD cX8_desk 57 (.iload_n 1) 1 58 := ⟨by decide +kernel, rfl⟩
theorem dX8_desk_58 : mD cX8_desk 58 (.bipush 24) 2 60 := ⟨by decide +kernel, rfl⟩
theorem dX8_desk_60 : mJ cX8_desk 60 (.if_icmp .ge) 63 84 := mJ.of (24) (by decide +kernel) rfl (by decide)
theorem dX8_desk_63 : mD cX8_desk 63 (.aload_n 0) 1 64 := ⟨by decide +kernel, rfl⟩
theorem dX8_desk_64 : mD cX8_desk 64 (.getfield 23) 3 67 := ⟨by decide +kernel, rfl⟩
theorem dX8_desk_67 : mD cX8_desk 67 (.iload_n 1) 1 68 := ⟨by decide +kernel, rfl⟩
theorem dX8_desk_68 : mD cX8_desk 68 (.aload_n 0) 1 69 := ⟨by decide +kernel, rfl⟩
theorem dX8_desk_69 : mD cX8_desk 69 (.getfield 23) 3 72 := ⟨by decide +kernel, rfl⟩
theorem dX8_desk_72 : mD cX8_desk 72 (.bipush 24) 2 74 := ⟨by decide +kernel, rfl⟩
theorem dX8_desk_74 : mD cX8_desk 74 (.iload_n 1) 1 75 := ⟨by decide +kernel, rfl⟩
theorem dX8_desk_75 : mD cX8_desk 75 .iadd 1 76 := ⟨by decide +kernel, rfl⟩
theorem dX8_desk_76 : mD cX8_desk 76 .iaload 1 77 := ⟨by decide +kernel, rfl⟩
theorem dX8_desk_77 : mD cX8_desk 77 .iastore 1 78 := ⟨by decide +kernel, rfl⟩
theorem dX8_desk_78 : mD cX8_desk 78 (.iinc 1 1) 3 81 := ⟨by decide +kernel, rfl⟩
theorem dX8_desk_81 : mJ cX8_desk 81 .goto 84 57 := mJ.of (-24) (by decide +kernel) rfl (by decide)
theorem dX8_desk_84 : mD cX8_desk 84 (.iconst 0) 1 85 := ⟨by decide +kernel, rfl⟩
theorem dX8_desk_85 : mD cX8_desk 85 (.istore_n 1) 1 86 := ⟨by decide +kernel, rfl⟩
theorem dX8_desk_86 : mD cX8_desk 86 (.iload_n 1) 1 87 := ⟨by decide +kernel, rfl⟩
theorem dX8_desk_87 : mD cX8_desk 87 (.bipush 6) 2 89 := ⟨by decide +kernel, rfl⟩
theorem dX8_desk_89 : mJ cX8_desk 89 (.if_icmp .ge) 92 113 := mJ.of (24) (by decide +kernel) rfl (by decide)
theorem dX8_desk_92 : mD cX8_desk 92 (.aload_n 0) 1 93 := ⟨by decide +kernel, rfl⟩
theorem dX8_desk_93 : mD cX8_desk 93 (.getfield 26) 3 96 := ⟨by decide +kernel, rfl⟩
theorem dX8_desk_96 : mD cX8_desk 96 (.iload_n 1) 1 97 := ⟨by decide +kernel, rfl⟩
theorem dX8_desk_97 : mD cX8_desk 97 (.aload_n 0) 1 98 := ⟨by decide +kernel, rfl⟩
theorem dX8_desk_98 : mD cX8_desk 98 (.getfield 26) 3 101 := ⟨by decide +kernel, rfl⟩
theorem dX8_desk_101 : mD cX8_desk 101 (.bipush 6) 2 103 := ⟨by decide +kernel, rfl⟩
theorem dX8_desk_103 : mD cX8_desk 103 (.iload_n 1) 1 104 := ⟨by decide +kernel, rfl⟩
theorem dX8_desk_104 : mD cX8_desk 104 .iadd 1 105 := ⟨by decide +kernel, rfl⟩
theorem dX8_desk_105 : mD cX8_desk 105 .iaload 1 106 := ⟨by decide +kernel, rfl⟩
theorem dX8_desk_106 : mD cX8_desk 106 .iastore 1 107 := ⟨by decide +kernel, rfl⟩
theorem dX8_desk_107 : mD cX8_desk 107 (.iinc 1 1) 3 110 := ⟨by decide +kernel, rfl⟩
theorem dX8_desk_110 : mJ cX8_desk 110 .goto 113 86 := mJ.of (-24) (by decide +kernel) rfl (by decide)
theorem dX8_desk_113 : mD cX8_desk 113 (.aload_n 0) 1 114 := ⟨by decide +kernel, rfl⟩
theorem dX8_desk_114 : mD cX8_desk 114 (.invokevirtual 57) 3 117 := ⟨by decide +kernel, rfl⟩
theorem dX8_desk_117 : mD cX8_desk 117 (.aload_n 0) 1 118 := ⟨by decide +kernel, rfl⟩
theorem dX8_desk_118 : mD cX8_desk 118 (.invokevirtual 60) 3 121 := ⟨by decide +kernel, rfl⟩
theorem dX8_desk_121 : mD cX8_desk 121 (.aload_n 0) 1 122 := ⟨by decide +kernel, rfl⟩
theorem dX8_desk_122 : mD cX8_desk 122 (.getfield 32) 3 125 := ⟨by decide +kernel, rfl⟩
theorem dX8_desk_125 : mD cX8_desk 125 (.iconst 0) 1 126 := ⟨by decide +kernel, rfl⟩
theorem dX8_desk_126 : mD cX8_desk 126 (.iconst 0) 1 127 := ⟨by decide +kernel, rfl⟩
theorem dX8_desk_127 : mD cX8_desk 127 .iastore 1 128 := ⟨by decide +kernel, rfl⟩
theorem dX8_desk_128 : mD cX8_desk 128 (.aload_n 0) 1 129 := ⟨by decide +kernel, rfl⟩
theorem dX8_desk_129 : mD cX8_desk 129 (.getfield 41) 3 132 := ⟨by decide +kernel, rfl⟩
theorem dX8_desk_132 : mD cX8_desk 132 (.iconst 0) 1 133 := ⟨by decide +kernel, rfl⟩
theorem dX8_desk_133 : mD cX8_desk 133 (.iconst 0) 1 134 := ⟨by decide +kernel, rfl⟩
theorem dX8_desk_134 : mD cX8_desk 134 .bastore 1 135 := ⟨by decide +kernel, rfl⟩
theorem dX8_desk_135 : mD cX8_desk 135 (.aload_n 0) 1 136 := ⟨by decide +kernel, rfl⟩
theorem dX8_desk_136 : mD cX8_desk 136 (.getfield 41) 3 139 := ⟨by decide +kernel, rfl⟩
theorem dX8_desk_139 : mD cX8_desk 139 (.iconst 1) 1 140 := ⟨by decide +kernel, rfl⟩
theorem dX8_desk_140 : mD cX8_desk 140 (.iconst 0) 1 141 := ⟨by decide +kernel, rfl⟩
theorem dX8_desk_141 : mD cX8_desk 141 .bastore 1 142 := ⟨by decide +kernel, rfl⟩
theorem dX8_desk_142 : mD cX8_desk 142 (.aload_n 0) 1 143 := ⟨by decide +kernel, rfl⟩
theorem dX8_desk_143 : mD cX8_desk 143 (.iconst 0) 1 144 := ⟨by decide +kernel, rfl⟩
theorem dX8_desk_144 : mD cX8_desk 144 (.putfield 120) 3 147 := ⟨by decide +kernel, rfl⟩
theorem dX8_desk_147 : mD cX8_desk 147 (.aload_n 0) 1 148 := ⟨by decide +kernel, rfl⟩
theorem dX8_desk_148 : mD cX8_desk 148 (.iconst 0) 1 149 := ⟨by decide +kernel, rfl⟩
theorem dX8_desk_149 : mD cX8_desk 149 (.putfield 67) 3 152 := ⟨by decide +kernel, rfl⟩
theorem dX8_desk_152 : mD cX8_desk 152 (.aload_n 0) 1 153 := ⟨by decide +kernel, rfl⟩
theorem dX8_desk_153 : mD cX8_desk 153 (.getfield 106) 3 156 := ⟨by decide +kernel, rfl⟩
theorem dX8_desk_156 : mD cX8_desk 156 .ireturn 1 157 := ⟨by decide +kernel, rfl⟩
theorem dX8_begin_0 : mD cX8_begin 0 (.iconst 0) 1 1 := ⟨by decide +kernel, rfl⟩
theorem dX8_begin_1 : mD cX8_begin 1 (.istore_n 1) 1 2 := ⟨by decide +kernel, rfl⟩
theorem dX8_begin_2 : mD cX8_begin 2 (.iload_n 1) 1 3 := ⟨by decide +kernel, rfl⟩
theorem dX8_begin_3 : mD cX8_begin 3 (.bipush 24) 2 5 := ⟨by decide +kernel, rfl⟩
theorem dX8_begin_5 : mJ cX8_begin 5 (.if_icmp .ge) 8 26 := mJ.of (21) (by decide +kernel) rfl (by decide)
theorem dX8_begin_8 : mD cX8_begin 8 (.aload_n 0) 1 9 := ⟨by decide +kernel, rfl⟩
theorem dX8_begin_9 : mD cX8_begin 9 (.getfield 29) 3 12 := ⟨by decide +kernel, rfl⟩
theorem dX8_begin_12 : mD cX8_begin 12 (.iload_n 1) 1 13 := ⟨by decide +kernel, rfl⟩
theorem dX8_begin_13 : mD cX8_begin 13 (.aload_n 0) 1 14 := ⟨by decide +kernel, rfl⟩
theorem dX8_begin_14 : mD cX8_begin 14 (.getfield 23) 3 17 := ⟨by decide +kernel, rfl⟩
theorem dX8_begin_17 : mD cX8_begin 17 (.iload_n 1) 1 18 := ⟨by decide +kernel, rfl⟩
theorem dX8_begin_18 : mD cX8_begin 18 .iaload 1 19 := ⟨by decide +kernel, rfl⟩
theorem dX8_begin_19 : mD cX8_begin 19 .iastore 1 20 := ⟨by decide +kernel, rfl⟩
theorem dX8_begin_20 : mD cX8_begin 20 (.iinc 1 1) 3 23 := ⟨by decide +kernel, rfl⟩
theorem dX8_begin_23 : mJ cX8_begin 23 .goto 26 2 := mJ.of (-21) (by decide +kernel) rfl (by decide)
theorem dX8_begin_26 : mD cX8_begin 26 (.iconst 0) 1 27 := ⟨by decide +kernel, rfl⟩
theorem dX8_begin_27 : mD cX8_begin 27 (.istore_n 1) 1 28 := ⟨by decide +kernel, rfl⟩
theorem dX8_begin_28 : mD cX8_begin 28 (.iload_n 1) 1 29 := ⟨by decide +kernel, rfl⟩
theorem dX8_begin_29 : mD cX8_begin 29 (.iconst 4) 1 30 := ⟨by decide +kernel, rfl⟩
theorem dX8_begin_30 : mJ cX8_begin 30 (.if_icmp .ge) 33 59 := mJ.of (29) (by decide +kernel) rfl (by decide)
theorem dX8_begin_33 : mD cX8_begin 33 (.aload_n 0) 1 34 := ⟨by decide +kernel, rfl⟩
theorem dX8_begin_34 : mD cX8_begin 34 (.getfield 29) 3 37 := ⟨by decide +kernel, rfl⟩
theorem dX8_begin_37 : mD cX8_begin 37 (.bipush 24) 2 39 := ⟨by decide +kernel, rfl⟩
theorem dX8_begin_39 : mD cX8_begin 39 (.iload_n 1) 1 40 := ⟨by decide +kernel, rfl⟩
theorem dX8_begin_40 : mD cX8_begin 40 .iadd 1 41 := ⟨by decide +kernel, rfl⟩
theorem dX8_begin_41 : mD cX8_begin 41 (.iload_n 1) 1 42 := ⟨by decide +kernel, rfl⟩
theorem dX8_begin_42 : mD cX8_begin 42 .iastore 1 43 := ⟨by decide +kernel, rfl⟩
theorem dX8_begin_43 : mD cX8_begin 43 (.aload_n 0) 1 44 := ⟨by decide +kernel, rfl⟩
theorem dX8_begin_44 : mD cX8_begin 44 (.getfield 29) 3 47 := ⟨by decide +kernel, rfl⟩
theorem dX8_begin_47 : mD cX8_begin 47 (.bipush 28) 2 49 := ⟨by decide +kernel, rfl⟩
theorem dX8_begin_49 : mD cX8_begin 49 (.iload_n 1) 1 50 := ⟨by decide +kernel, rfl⟩
theorem dX8_begin_50 : mD cX8_begin 50 .iadd 1 51 := ⟨by decide +kernel, rfl⟩
theorem dX8_begin_51 : mD cX8_begin 51 (.iconst 0) 1 52 := ⟨by decide +kernel, rfl⟩
theorem dX8_begin_52 : mD cX8_begin 52 .iastore 1 53 := ⟨by decide +kernel, rfl⟩
theorem dX8_begin_53 : mD cX8_begin 53 (.iinc 1 1) 3 56 := ⟨by decide +kernel, rfl⟩
theorem dX8_begin_56 : mJ cX8_begin 56 .goto 59 28 := mJ.of (-28) (by decide +kernel) rfl (by decide)
theorem dX8_begin_59 : mD cX8_begin 59 (.aload_n 0) 1 60 := ⟨by decide +kernel, rfl⟩
theorem dX8_begin_60 : mD cX8_begin 60 (.getfield 29) 3 63 := ⟨by decide +kernel, rfl⟩
theorem dX8_begin_63 : mD cX8_begin 63 (.bipush 32) 2 65 := ⟨by decide +kernel, rfl⟩
theorem dX8_begin_65 : mD cX8_begin 65 (.iconst 0) 1 66 := ⟨by decide +kernel, rfl⟩
theorem dX8_begin_66 : mD cX8_begin 66 .iastore 1 67 := ⟨by decide +kernel, rfl⟩
theorem dX8_begin_67 : mD cX8_begin 67 .return_ 1 68 := ⟨by decide +kernel, rfl⟩
theorem dX8_isCube_0 : mD cX8_isCube 0 (.iload_n 1) 1 1 := ⟨by decide +kernel, rfl⟩
theorem dX8_isCube_1 : mD cX8_isCube 1 (.iconst 0) 1 2 := ⟨by decide +kernel, rfl⟩
theorem dX8_isCube_2 : mD cX8_isCube 2 (.aload_n 0) 1 3 := ⟨by decide +kernel, rfl⟩
theorem dX8_isCube_3 : mD cX8_isCube 3 (.getfield 13) 3 6 := ⟨by decide +kernel, rfl⟩
theorem dX8_isCube_6 : mD cX8_isCube 6 (.iconst 0) 1 7 := ⟨by decide +kernel, rfl⟩
theorem dX8_isCube_7 : mD cX8_isCube 7 .iaload 1 8 := ⟨by decide +kernel, rfl⟩
theorem dX8_isCube_8 : mD cX8_isCube 8 (.iconst 1) 1 9 := ⟨by decide +kernel, rfl⟩
theorem dX8_isCube_9 : mD cX8_isCube 9 .isub 1 10 := ⟨by decide +kernel, rfl⟩
theorem dX8_isCube_10 : mD cX8_isCube 10 (.invokestatic 63) 3 13 := ⟨by decide +kernel, rfl⟩
theorem dX8_isCube_13 : mD cX8_isCube 13 .ireturn 1 14 := ⟨by decide +kernel, rfl⟩
theorem dX8_isSide_0 : mD cX8_isSide 0 (.iload_n 0) 1 1 := ⟨by decide +kernel, rfl⟩
theorem dX8_isSide_1 : mD cX8_isSide 1 (.iconst 0) 1 2 := ⟨by decide +kernel, rfl⟩
theorem dX8_isSide_2 : mD cX8_isSide 2 (.iconst 5) 1 3 := ⟨by decide +kernel, rfl⟩
theorem dX8_isSide_3 : mD cX8_isSide 3 (.invokestatic 63) 3 6 := ⟨by decide +kernel, rfl⟩
theorem dX8_isSide_6 : mD cX8_isSide 6 .ireturn 1 7 := ⟨by decide +kernel, rfl⟩
theorem dX8_isNumber_0 : mD cX8_isNumber 0 (.iload_n 1) 1 1 := ⟨by decide +kernel, rfl⟩
theorem dX8_isNumber_1 : mD cX8_isNumber 1 (.iconst 0) 1 2 := ⟨by decide +kernel, rfl⟩
theorem dX8_isNumber_2 : mD cX8_isNumber 2 (.aload_n 0) 1 3 := ⟨by decide +kernel, rfl⟩
theorem dX8_isNumber_3 : mD cX8_isNumber 3 (.getfield 13) 3 6 := ⟨by decide +kernel, rfl⟩
theorem dX8_isNumber_6 : mD cX8_isNumber 6 (.iconst 0) 1 7 := ⟨by decide +kernel, rfl⟩
theorem dX8_isNumber_7 : mD cX8_isNumber 7 .iaload 1 8 := ⟨by decide +kernel, rfl⟩
theorem dX8_isNumber_8 : mD cX8_isNumber 8 (.invokestatic 102) 3 11 := ⟨by decide +kernel, rfl⟩
theorem dX8_isNumber_11 : mD cX8_isNumber 11 (.iconst 1) 1 12 := ⟨by decide +kernel, rfl⟩
theorem dX8_isNumber_12 : mD cX8_isNumber 12 .isub 1 13 := ⟨by decide +kernel, rfl⟩
theorem dX8_isNumber_13 : mD cX8_isNumber 13 (.invokestatic 63) 3 16 := ⟨by decide +kernel, rfl⟩
theorem dX8_isNumber_16 : mD cX8_isNumber 16 .ireturn 1 17 := ⟨by decide +kernel, rfl⟩
theorem dX8_figureOf_0 : mD cX8_figureOf 0 (.iload_n 1) 1 1 := ⟨by decide +kernel, rfl⟩
theorem dX8_figureOf_1 : mD cX8_figureOf 1 (.aload_n 0) 1 2 := ⟨by decide +kernel, rfl⟩
theorem dX8_figureOf_2 : mD cX8_figureOf 2 (.getfield 13) 3 5 := ⟨by decide +kernel, rfl⟩
theorem dX8_figureOf_5 : mD cX8_figureOf 5 (.iconst 0) 1 6 := ⟨by decide +kernel, rfl⟩
theorem dX8_figureOf_6 : mD cX8_figureOf 6 .iaload 1 7 := ⟨by decide +kernel, rfl⟩
theorem dX8_figureOf_7 : mD cX8_figureOf 7 (.iconst 1) 1 8 := ⟨by decide +kernel, rfl⟩
theorem dX8_figureOf_8 : mD cX8_figureOf 8 .isub 1 9 := ⟨by decide +kernel, rfl⟩
theorem dX8_figureOf_9 : mD cX8_figureOf 9 (.iload_n 2) 1 10 := ⟨by decide +kernel, rfl⟩
theorem dX8_figureOf_10 : mD cX8_figureOf 10 .isub 1 11 := ⟨by decide +kernel, rfl⟩
theorem dX8_figureOf_11 : mD cX8_figureOf 11 (.invokestatic 102) 3 14 := ⟨by decide +kernel, rfl⟩
theorem dX8_figureOf_14 : mD cX8_figureOf 14 .idiv 1 15 := ⟨by decide +kernel, rfl⟩
theorem dX8_figureOf_15 : mD cX8_figureOf 15 (.bipush 10) 2 17 := ⟨by decide +kernel, rfl⟩
theorem dX8_figureOf_17 : mD cX8_figureOf 17 .irem 1 18 := ⟨by decide +kernel, rfl⟩
theorem dX8_figureOf_18 : mD cX8_figureOf 18 .ireturn 1 19 := ⟨by decide +kernel, rfl⟩
theorem dX8_fits_0 : mD cX8_fits 0 (.iload_n 1) 1 1 := ⟨by decide +kernel, rfl⟩
theorem dX8_fits_1 : mD cX8_fits 1 (.iload_n 2) 1 2 := ⟨by decide +kernel, rfl⟩
theorem dX8_fits_2 : mJ cX8_fits 2 (.if_icmp .eq) 5 39 := mJ.of (37) (by decide +kernel) rfl (by decide)
theorem dX8_fits_5 : mD cX8_fits 5 (.aload_n 0) 1 6 := ⟨by decide +kernel, rfl⟩
theorem dX8_fits_6 : mD cX8_fits 6 (.getfield 20) 3 9 := ⟨by decide +kernel, rfl⟩
theorem dX8_fits_9 : mD cX8_fits 9 (.iconst 0) 1 10 := ⟨by decide +kernel, rfl⟩
theorem dX8_fits_10 : mD cX8_fits 10 .iaload 1 11 := ⟨by decide +kernel, rfl⟩
theorem dX8_fits_11 : mD cX8_fits 11 (.iconst 1) 1 12 := ⟨by decide +kernel, rfl⟩
theorem dX8_fits_12 : mJ cX8_fits 12 (.if_icmp .ne) 15 43 := mJ.of (31) (by decide +kernel) rfl (by decide)
theorem dX8_fits_15 : mD cX8_fits 15 (.iload_n 1) 1 16 := ⟨by decide +kernel, rfl⟩
theorem dX8_fits_16 : mD cX8_fits 16 (.bipush 6) 2 18 := ⟨by decide +kernel, rfl⟩
theorem dX8_fits_18 : mJ cX8_fits 18 (.if_icmp .ne) 21 27 := mJ.of (9) (by decide +kernel) rfl (by decide)
theorem dX8_fits_21 : mD cX8_fits 21 (.iload_n 2) 1 22 := ⟨by decide +kernel, rfl⟩
theorem dX8_fits_22 : mD cX8_fits 22 (.bipush 9) 2 24 := ⟨by decide +kernel, rfl⟩
theorem dX8_fits_24 : mJ cX8_fits 24 (.if_icmp .eq) 27 39 := mJ.of (15) (by decide +kernel) rfl (by decide)
theorem dX8_fits_27 : mD cX8_fits 27 (.iload_n 1) 1 28 := ⟨by decide +kernel, rfl⟩
theorem dX8_fits_28 : mD cX8_fits 28 (.bipush 9) 2 30 := ⟨by decide +kernel, rfl⟩
theorem dX8_fits_30 : mJ cX8_fits 30 (.if_icmp .ne) 33 43 := mJ.of (13) (by decide +kernel) rfl (by decide)
theorem dX8_fits_33 : mD cX8_fits 33 (.iload_n 2) 1 34 := ⟨by decide +kernel, rfl⟩
theorem dX8_fits_34 : mD cX8_fits 34 (.bipush 6) 2 36 := ⟨by decide +kernel, rfl⟩
theorem dX8_fits_36 : mJ cX8_fits 36 (.if_icmp .ne) 39 43 := mJ.of (7) (by decide +kernel) rfl (by decide)
theorem dX8_fits_39 : mD cX8_fits 39 (.iconst 1) 1 40 := ⟨by decide +kernel, rfl⟩
theorem dX8_fits_40 : mJ cX8_fits 40 .goto 43 44 := mJ.of (4) (by decide +kernel) rfl (by decide)
theorem dX8_fits_43 : mD cX8_fits 43 (.iconst 0) 1 44 := ⟨by decide +kernel, rfl⟩
theorem dX8_fits_44 : mD cX8_fits 44 .ireturn 1 45 := ⟨by decide +kernel, rfl⟩
theorem dX8_hasFit_0 : mD cX8_hasFit 0 (.iconst 0) 1 1 := ⟨by decide +kernel, rfl⟩
theorem dX8_hasFit_1 : mD cX8_hasFit 1 (.istore 4) 2 3 := ⟨by decide +kernel, rfl⟩
theorem dX8_hasFit_3 : mD cX8_hasFit 3 (.iconst 0) 1 4 := ⟨by decide +kernel, rfl⟩
theorem dX8_hasFit_4 : mD cX8_hasFit 4 (.istore 5) 2 6 := ⟨by decide +kernel, rfl⟩
theorem dX8_hasFit_6 : mD cX8_hasFit 6 (.iload 5) 2 8 := ⟨by decide +kernel, rfl⟩
theorem dX8_hasFit_8 : mD cX8_hasFit 8 (.bipush 6) 2 10 := ⟨by decide +kernel, rfl⟩
theorem dX8_hasFit_10 : mJ cX8_hasFit 10 (.if_icmp .ge) 13 57 := mJ.of (47) (by decide +kernel) rfl (by decide)
theorem dX8_hasFit_13 : mD cX8_hasFit 13 (.iload 4) 2 15 := ⟨by decide +kernel, rfl⟩
theorem dX8_hasFit_15 : mJ cX8_hasFit 15 (.ifCond .ne) 18 44 := mJ.of (29) (by decide +kernel) rfl (by decide)
theorem dX8_hasFit_18 : mD cX8_hasFit 18 (.iload 5) 2 20 := ⟨by decide +kernel, rfl⟩
theorem dX8_hasFit_20 : mD cX8_hasFit 20 (.iload_n 3) 1 21 := ⟨by decide +kernel, rfl⟩
theorem dX8_hasFit_21 : mJ cX8_hasFit 21 (.if_icmp .eq) 24 48 := mJ.of (27) (by decide +kernel) rfl (by decide)
theorem dX8_hasFit_24 : mD cX8_hasFit 24 (.aload_n 0) 1 25 := ⟨by decide +kernel, rfl⟩
theorem dX8_hasFit_25 : mD cX8_hasFit 25 (.aload_n 0) 1 26 := ⟨by decide +kernel, rfl⟩
theorem dX8_hasFit_26 : mD cX8_hasFit 26 (.getfield 29) 3 29 := ⟨by decide +kernel, rfl⟩
theorem dX8_hasFit_29 : mD cX8_hasFit 29 (.bipush 6) 2 31 := ⟨by decide +kernel, rfl⟩
theorem dX8_hasFit_31 : mD cX8_hasFit 31 (.iload_n 1) 1 32 := ⟨by decide +kernel, rfl⟩
theorem dX8_hasFit_32 : mD cX8_hasFit 32 .imul 1 33 := ⟨by decide +kernel, rfl⟩
theorem dX8_hasFit_33 : mD cX8_hasFit 33 (.iload 5) 2 35 := ⟨by decide +kernel, rfl⟩
theorem dX8_hasFit_35 : mD cX8_hasFit 35 .iadd 1 36 := ⟨by decide +kernel, rfl⟩
theorem dX8_hasFit_36 : mD cX8_hasFit 36 .iaload 1 37 := ⟨by decide +kernel, rfl⟩
theorem dX8_hasFit_37 : mD cX8_hasFit 37 (.iload_n 2) 1 38 := ⟨by decide +kernel, rfl⟩
theorem dX8_hasFit_38 : mD cX8_hasFit 38 (.invokevirtual 123) 3 41 := ⟨by decide +kernel, rfl⟩
theorem dX8_hasFit_41 : mJ cX8_hasFit 41 (.ifCond .eq) 44 48 := mJ.of (7) (by decide +kernel) rfl (by decide)
theorem dX8_hasFit_44 : mD cX8_hasFit 44 (.iconst 1) 1 45 := ⟨by decide +kernel, rfl⟩
theorem dX8_hasFit_45 : mJ cX8_hasFit 45 .goto 48 49 := mJ.of (4) (by decide +kernel) rfl (by decide)
theorem dX8_hasFit_48 : mD cX8_hasFit 48 (.iconst 0) 1 49 := ⟨by decide +kernel, rfl⟩
theorem dX8_hasFit_49 : mD cX8_hasFit 49 (.istore 4) 2 51 := ⟨by decide +kernel, rfl⟩
theorem dX8_hasFit_51 : mD cX8_hasFit 51 (.iinc 5 1) 3 54 := ⟨by decide +kernel, rfl⟩
theorem dX8_hasFit_54 : mJ cX8_hasFit 54 .goto 57 6 := mJ.of (-48) (by decide +kernel) rfl (by decide)
theorem dX8_hasFit_57 : mD cX8_hasFit 57 (.iload 4) 2 59 := ⟨by decide +kernel, rfl⟩
theorem dX8_hasFit_59 : mD cX8_hasFit 59 .ireturn 1 60 := ⟨by decide +kernel, rfl⟩
theorem dX8_placeOf_0 : mD cX8_placeOf 0 (.iconst 0) 1 1 := ⟨by decide +kernel, rfl⟩
theorem dX8_placeOf_1 : mD cX8_placeOf 1 (.istore_n 2) 1 2 := ⟨by decide +kernel, rfl⟩
theorem dX8_placeOf_2 : mD cX8_placeOf 2 (.iconst 0) 1 3 := ⟨by decide +kernel, rfl⟩
theorem dX8_placeOf_3 : mD cX8_placeOf 3 (.istore_n 3) 1 4 := ⟨by decide +kernel, rfl⟩
theorem dX8_placeOf_4 : mD cX8_placeOf 4 (.iload_n 3) 1 5 := ⟨by decide +kernel, rfl⟩
theorem dX8_placeOf_5 : mD cX8_placeOf 5 (.aload_n 0) 1 6 := ⟨by decide +kernel, rfl⟩
theorem dX8_placeOf_6 : mD cX8_placeOf 6 (.getfield 13) 3 9 := ⟨by decide +kernel, rfl⟩
theorem dX8_placeOf_9 : mD cX8_placeOf 9 (.iconst 0) 1 10 := ⟨by decide +kernel, rfl⟩
theorem dX8_placeOf_10 : mD cX8_placeOf 10 .iaload 1 11 := ⟨by decide +kernel, rfl⟩
theorem dX8_placeOf_11 : mJ cX8_placeOf 11 (.if_icmp .ge) 14 39 := mJ.of (28) (by decide +kernel) rfl (by decide)
theorem dX8_placeOf_14 : mD cX8_placeOf 14 (.aload_n 0) 1 15 := ⟨by decide +kernel, rfl⟩
theorem dX8_placeOf_15 : mD cX8_placeOf 15 (.getfield 29) 3 18 := ⟨by decide +kernel, rfl⟩
theorem dX8_placeOf_18 : mD cX8_placeOf 18 (.bipush 24) 2 20 := ⟨by decide +kernel, rfl⟩
theorem dX8_placeOf_20 : mD cX8_placeOf 20 (.iload_n 3) 1 21 := ⟨by decide +kernel, rfl⟩
theorem dX8_placeOf_21 : mD cX8_placeOf 21 .iadd 1 22 := ⟨by decide +kernel, rfl⟩
theorem dX8_placeOf_22 : mD cX8_placeOf 22 .iaload 1 23 := ⟨by decide +kernel, rfl⟩
theorem dX8_placeOf_23 : mD cX8_placeOf 23 (.iload_n 1) 1 24 := ⟨by decide +kernel, rfl⟩
theorem dX8_placeOf_24 : mJ cX8_placeOf 24 (.if_icmp .ne) 27 31 := mJ.of (7) (by decide +kernel) rfl (by decide)
theorem dX8_placeOf_27 : mD cX8_placeOf 27 (.iload_n 3) 1 28 := ⟨by decide +kernel, rfl⟩
theorem dX8_placeOf_28 : mJ cX8_placeOf 28 .goto 31 32 := mJ.of (4) (by decide +kernel) rfl (by decide)
theorem dX8_placeOf_31 : mD cX8_placeOf 31 (.iload_n 2) 1 32 := ⟨by decide +kernel, rfl⟩
theorem dX8_placeOf_32 : mD cX8_placeOf 32 (.istore_n 2) 1 33 := ⟨by decide +kernel, rfl⟩
theorem dX8_placeOf_33 : mD cX8_placeOf 33 (.iinc 3 1) 3 36 := ⟨by decide +kernel, rfl⟩
theorem dX8_placeOf_36 : mJ cX8_placeOf 36 .goto 39 4 := mJ.of (-32) (by decide +kernel) rfl (by decide)
theorem dX8_placeOf_39 : mD cX8_placeOf 39 (.iload_n 2) 1 40 := ⟨by decide +kernel, rfl⟩
theorem dX8_placeOf_40 : mD cX8_placeOf 40 .ireturn 1 41 := ⟨by decide +kernel, rfl⟩
theorem dX8_cubeIn_0 : mD cX8_cubeIn 0 (.iload_n 0) 1 1 := ⟨by decide +kernel, rfl⟩
theorem dX8_cubeIn_1 : mD cX8_cubeIn 1 (.iconst 2) 1 2 := ⟨by decide +kernel, rfl⟩
theorem dX8_cubeIn_2 : mD cX8_cubeIn 2 (.iload_n 1) 1 3 := ⟨by decide +kernel, rfl⟩
theorem dX8_cubeIn_3 : mD cX8_cubeIn 3 .imul 1 4 := ⟨by decide +kernel, rfl⟩
theorem dX8_cubeIn_4 : mD cX8_cubeIn 4 .ishr 1 5 := ⟨by decide +kernel, rfl⟩
theorem dX8_cubeIn_5 : mD cX8_cubeIn 5 (.iconst 3) 1 6 := ⟨by decide +kernel, rfl⟩
theorem dX8_cubeIn_6 : mD cX8_cubeIn 6 .iand 1 7 := ⟨by decide +kernel, rfl⟩
theorem dX8_cubeIn_7 : mD cX8_cubeIn 7 .ireturn 1 8 := ⟨by decide +kernel, rfl⟩
theorem dX8_codes_0 : mD cX8_codes 0 (.iconst 1) 1 1 := ⟨by decide +kernel, rfl⟩
theorem dX8_codes_1 : mD cX8_codes 1 (.iconst 2) 1 2 := ⟨by decide +kernel, rfl⟩
theorem dX8_codes_2 : mD cX8_codes 2 (.aload_n 0) 1 3 := ⟨by decide +kernel, rfl⟩
theorem dX8_codes_3 : mD cX8_codes 3 (.getfield 13) 3 6 := ⟨by decide +kernel, rfl⟩
theorem dX8_codes_6 : mD cX8_codes 6 (.iconst 0) 1 7 := ⟨by decide +kernel, rfl⟩
theorem dX8_codes_7 : mD cX8_codes 7 .iaload 1 8 := ⟨by decide +kernel, rfl⟩
theorem dX8_codes_8 : mD cX8_codes 8 .imul 1 9 := ⟨by decide +kernel, rfl⟩
theorem dX8_codes_9 : mD cX8_codes 9 .ishl 1 10 := ⟨by decide +kernel, rfl⟩
theorem dX8_codes_10 : mD cX8_codes 10 .ireturn 1 11 := ⟨by decide +kernel, rfl⟩
theorem dX8_isOrder_0 : mD cX8_isOrder 0 (.iconst 0) 1 1 := ⟨by decide +kernel, rfl⟩
theorem dX8_isOrder_1 : mD cX8_isOrder 1 (.istore_n 2) 1 2 := ⟨by decide +kernel, rfl⟩
theorem dX8_isOrder_2 : mD cX8_isOrder 2 (.iconst 0) 1 3 := ⟨by decide +kernel, rfl⟩
theorem dX8_isOrder_3 : mD cX8_isOrder 3 (.istore_n 3) 1 4 := ⟨by decide +kernel, rfl⟩
theorem dX8_isOrder_4 : mD cX8_isOrder 4 (.iload_n 3) 1 5 := ⟨by decide +kernel, rfl⟩
theorem dX8_isOrder_5 : mD cX8_isOrder 5 (.aload_n 0) 1 6 := ⟨by decide +kernel, rfl⟩
theorem dX8_isOrder_6 : mD cX8_isOrder 6 (.getfield 13) 3 9 := ⟨by decide +kernel, rfl⟩
theorem dX8_isOrder_9 : mD cX8_isOrder 9 (.iconst 0) 1 10 := ⟨by decide +kernel, rfl⟩
theorem dX8_isOrder_10 : mD cX8_isOrder 10 .iaload 1 11 := ⟨by decide +kernel, rfl⟩
theorem dX8_isOrder_11 : mJ cX8_isOrder 11 (.if_icmp .ge) 14 30 := mJ.of (19) (by decide +kernel) rfl (by decide)
theorem dX8_isOrder_14 : mD cX8_isOrder 14 (.iload_n 2) 1 15 := ⟨by decide +kernel, rfl⟩
theorem dX8_isOrder_15 : mD cX8_isOrder 15 (.iconst 1) 1 16 := ⟨by decide +kernel, rfl⟩
theorem dX8_isOrder_16 : mD cX8_isOrder 16 (.iload_n 1) 1 17 := ⟨by decide +kernel, rfl⟩
theorem dX8_isOrder_17 : mD cX8_isOrder 17 (.iload_n 3) 1 18 := ⟨by decide +kernel, rfl⟩
theorem dX8_isOrder_18 : mD cX8_isOrder 18 (.invokestatic 127) 3 21 := ⟨by decide +kernel, rfl⟩
theorem dX8_isOrder_21 : mD cX8_isOrder 21 .ishl 1 22 := ⟨by decide +kernel, rfl⟩
theorem dX8_isOrder_22 : mD cX8_isOrder 22 .ior 1 23 := ⟨by decide +kernel, rfl⟩
theorem dX8_isOrder_23 : mD cX8_isOrder 23 (.istore_n 2) 1 24 := ⟨by decide +kernel, rfl⟩
theorem dX8_isOrder_24 : mD cX8_isOrder 24 (.iinc 3 1) 3 27 := ⟨by decide +kernel, rfl⟩
theorem dX8_isOrder_27 : mJ cX8_isOrder 27 .goto 30 4 := mJ.of (-23) (by decide +kernel) rfl (by decide)
theorem dX8_isOrder_30 : mD cX8_isOrder 30 (.iload_n 2) 1 31 := ⟨by decide +kernel, rfl⟩
theorem dX8_isOrder_31 : mD cX8_isOrder 31 (.iconst 1) 1 32 := ⟨by decide +kernel, rfl⟩
theorem dX8_isOrder_32 : mD cX8_isOrder 32 (.aload_n 0) 1 33 := ⟨by decide +kernel, rfl⟩
theorem dX8_isOrder_33 : mD cX8_isOrder 33 (.getfield 13) 3 36 := ⟨by decide +kernel, rfl⟩
theorem dX8_isOrder_36 : mD cX8_isOrder 36 (.iconst 0) 1 37 := ⟨by decide +kernel, rfl⟩
theorem dX8_isOrder_37 : mD cX8_isOrder 37 .iaload 1 38 := ⟨by decide +kernel, rfl⟩
theorem dX8_isOrder_38 : mD cX8_isOrder 38 .ishl 1 39 := ⟨by decide +kernel, rfl⟩
theorem dX8_isOrder_39 : mD cX8_isOrder 39 (.iconst 1) 1 40 := ⟨by decide +kernel, rfl⟩
theorem dX8_isOrder_40 : mD cX8_isOrder 40 .isub 1 41 := ⟨by decide +kernel, rfl⟩
theorem dX8_isOrder_41 : mJ cX8_isOrder 41 (.if_icmp .ne) 44 48 := mJ.of (7) (by decide +kernel) rfl (by decide)
theorem dX8_isOrder_44 : mD cX8_isOrder 44 (.iconst 1) 1 45 := ⟨by decide +kernel, rfl⟩
theorem dX8_isOrder_45 : mJ cX8_isOrder 45 .goto 48 49 := mJ.of (4) (by decide +kernel) rfl (by decide)
theorem dX8_isOrder_48 : mD cX8_isOrder 48 (.iconst 0) 1 49 := ⟨by decide +kernel, rfl⟩
theorem dX8_isOrder_49 : mD cX8_isOrder 49 .ireturn 1 50 := ⟨by decide +kernel, rfl⟩
theorem dX8_orderNow_0 : mD cX8_orderNow 0 (.iconst 0) 1 1 := ⟨by decide +kernel, rfl⟩
theorem dX8_orderNow_1 : mD cX8_orderNow 1 (.istore_n 1) 1 2 := ⟨by decide +kernel, rfl⟩
theorem dX8_orderNow_2 : mD cX8_orderNow 2 (.iconst 0) 1 3 := ⟨by decide +kernel, rfl⟩
theorem dX8_orderNow_3 : mD cX8_orderNow 3 (.istore_n 2) 1 4 := ⟨by decide +kernel, rfl⟩
theorem dX8_orderNow_4 : mD cX8_orderNow 4 (.iload_n 2) 1 5 := ⟨by decide +kernel, rfl⟩
theorem dX8_orderNow_5 : mD cX8_orderNow 5 (.aload_n 0) 1 6 := ⟨by decide +kernel, rfl⟩
theorem dX8_orderNow_6 : mD cX8_orderNow 6 (.getfield 13) 3 9 := ⟨by decide +kernel, rfl⟩
theorem dX8_orderNow_9 : mD cX8_orderNow 9 (.iconst 0) 1 10 := ⟨by decide +kernel, rfl⟩
theorem dX8_orderNow_10 : mD cX8_orderNow 10 .iaload 1 11 := ⟨by decide +kernel, rfl⟩
theorem dX8_orderNow_11 : mJ cX8_orderNow 11 (.if_icmp .ge) 14 36 := mJ.of (25) (by decide +kernel) rfl (by decide)
theorem dX8_orderNow_14 : mD cX8_orderNow 14 (.iload_n 1) 1 15 := ⟨by decide +kernel, rfl⟩
theorem dX8_orderNow_15 : mD cX8_orderNow 15 (.aload_n 0) 1 16 := ⟨by decide +kernel, rfl⟩
theorem dX8_orderNow_16 : mD cX8_orderNow 16 (.getfield 29) 3 19 := ⟨by decide +kernel, rfl⟩
theorem dX8_orderNow_19 : mD cX8_orderNow 19 (.bipush 24) 2 21 := ⟨by decide +kernel, rfl⟩
theorem dX8_orderNow_21 : mD cX8_orderNow 21 (.iload_n 2) 1 22 := ⟨by decide +kernel, rfl⟩
theorem dX8_orderNow_22 : mD cX8_orderNow 22 .iadd 1 23 := ⟨by decide +kernel, rfl⟩
theorem dX8_orderNow_23 : mD cX8_orderNow 23 .iaload 1 24 := ⟨by decide +kernel, rfl⟩
theorem dX8_orderNow_24 : mD cX8_orderNow 24 (.iconst 2) 1 25 := ⟨by decide +kernel, rfl⟩
theorem dX8_orderNow_25 : mD cX8_orderNow 25 (.iload_n 2) 1 26 := ⟨by decide +kernel, rfl⟩
theorem dX8_orderNow_26 : mD cX8_orderNow 26 .imul 1 27 := ⟨by decide +kernel, rfl⟩
theorem dX8_orderNow_27 : mD cX8_orderNow 27 .ishl 1 28 := ⟨by decide +kernel, rfl⟩
theorem dX8_orderNow_28 : mD cX8_orderNow 28 .ior 1 29 := ⟨by decide +kernel, rfl⟩
theorem dX8_orderNow_29 : mD cX8_orderNow 29 (.istore_n 1) 1 30 := ⟨by decide +kernel, rfl⟩
theorem dX8_orderNow_30 : mD cX8_orderNow 30 (.iinc 2 1) 3 33 := ⟨by decide +kernel, rfl⟩
theorem dX8_orderNow_33 : mJ cX8_orderNow 33 .goto 36 4 := mJ.of (-29) (by decide +kernel) rfl (by decide)
theorem dX8_orderNow_36 : mD cX8_orderNow 36 (.iload_n 1) 1 37 := ⟨by decide +kernel, rfl⟩
theorem dX8_orderNow_37 : mD cX8_orderNow 37 .ireturn 1 38 := ⟨by decide +kernel, rfl⟩
theorem dX8_changesTo_0 : mD cX8_changesTo 0 (.iconst 0) 1 1 := ⟨by decide +kernel, rfl⟩
theorem dX8_changesTo_1 : mD cX8_changesTo 1 (.istore_n 3) 1 2 := ⟨by decide +kernel, rfl⟩
theorem dX8_changesTo_2 : mD cX8_changesTo 2 (.iload_n 1) 1 3 := ⟨by decide +kernel, rfl⟩
theorem dX8_changesTo_3 : mD cX8_changesTo 3 (.istore 4) 2 5 := ⟨by decide +kernel, rfl⟩
theorem dX8_changesTo_5 : mD cX8_changesTo 5 (.iconst 0) 1 6 := ⟨by decide +kernel, rfl⟩
theorem dX8_changesTo_6 : mD cX8_changesTo 6 (.istore 5) 2 8 := ⟨by decide +kernel, rfl⟩
theorem dX8_changesTo_8 : mD cX8_changesTo 8 (.iload 5) 2 10 := ⟨by decide +kernel, rfl⟩
theorem dX8_changesTo_10 : mD cX8_changesTo 10 (.aload_n 0) 1 11 := ⟨by decide +kernel, rfl⟩
theorem dX8_changesTo_11 : mD cX8_changesTo 11 (.getfield 13) 3 14 := ⟨by decide +kernel, rfl⟩
theorem dX8_changesTo_14 : mD cX8_changesTo 14 (.iconst 0) 1 15 := ⟨by decide +kernel, rfl⟩
theorem dX8_changesTo_15 : mD cX8_changesTo 15 .iaload 1 16 := ⟨by decide +kernel, rfl⟩
theorem dX8_changesTo_16 : mJ cX8_changesTo 16 (.if_icmp .ge) 19 134 := mJ.of (118) (by decide +kernel) rfl (by decide)
theorem dX8_changesTo_19 : mD cX8_changesTo 19 (.iload 4) 2 21 := ⟨by decide +kernel, rfl⟩
theorem dX8_changesTo_21 : mD cX8_changesTo 21 (.iload 5) 2 23 := ⟨by decide +kernel, rfl⟩
theorem dX8_changesTo_23 : mD cX8_changesTo 23 (.invokestatic 127) 3 26 := ⟨by decide +kernel, rfl⟩
theorem dX8_changesTo_26 : mD cX8_changesTo 26 (.istore 6) 2 28 := ⟨by decide +kernel, rfl⟩
theorem dX8_changesTo_28 : mD cX8_changesTo 28 (.iload_n 2) 1 29 := ⟨by decide +kernel, rfl⟩
theorem dX8_changesTo_29 : mD cX8_changesTo 29 (.iload 5) 2 31 := ⟨by decide +kernel, rfl⟩
theorem dX8_changesTo_31 : mD cX8_changesTo 31 (.invokestatic 127) 3 34 := ⟨by decide +kernel, rfl⟩
theorem dX8_changesTo_34 : mD cX8_changesTo 34 (.istore 7) 2 36 := ⟨by decide +kernel, rfl⟩
theorem dX8_changesTo_36 : mD cX8_changesTo 36 (.iload 6) 2 38 := ⟨by decide +kernel, rfl⟩
theorem dX8_changesTo_38 : mD cX8_changesTo 38 (.iload 7) 2 40 := ⟨by decide +kernel, rfl⟩
theorem dX8_changesTo_40 : mJ cX8_changesTo 40 (.if_icmp .eq) 43 128 := mJ.of (88) (by decide +kernel) rfl (by decide)
theorem dX8_changesTo_43 : mD cX8_changesTo 43 (.iconst 0) 1 44 := ⟨by decide +kernel, rfl⟩
theorem dX8_changesTo_44 : mD cX8_changesTo 44 (.istore 8) 2 46 := ⟨by decide +kernel, rfl⟩
theorem dX8_changesTo_46 : mD cX8_changesTo 46 (.iconst 0) 1 47 := ⟨by decide +kernel, rfl⟩
theorem dX8_changesTo_47 : mD cX8_changesTo 47 (.istore 9) 2 49 := ⟨by decide +kernel, rfl⟩
theorem dX8_changesTo_49 : mD cX8_changesTo 49 (.iload 9) 2 51 := ⟨by decide +kernel, rfl⟩
theorem dX8_changesTo_51 : mD cX8_changesTo 51 (.aload_n 0) 1 52 := ⟨by decide +kernel, rfl⟩
theorem dX8_changesTo_52 : mD cX8_changesTo 52 (.getfield 13) 3 55 := ⟨by decide +kernel, rfl⟩
theorem dX8_changesTo_55 : mD cX8_changesTo 55 (.iconst 0) 1 56 := ⟨by decide +kernel, rfl⟩
theorem dX8_changesTo_56 : mD cX8_changesTo 56 .iaload 1 57 := ⟨by decide +kernel, rfl⟩
theorem dX8_changesTo_57 : mJ cX8_changesTo 57 (.if_icmp .ge) 60 87 := mJ.of (30) (by decide +kernel) rfl (by decide)
theorem dX8_changesTo_60 : mD cX8_changesTo 60 (.iload 4) 2 62 := ⟨by decide +kernel, rfl⟩
theorem dX8_changesTo_62 : mD cX8_changesTo 62 (.iload 9) 2 64 := ⟨by decide +kernel, rfl⟩
theorem dX8_changesTo_64 : mD cX8_changesTo 64 (.invokestatic 127) 3 67 := ⟨by decide +kernel, rfl⟩
theorem dX8_changesTo_67 : mD cX8_changesTo 67 (.iload 7) 2 69 := ⟨by decide +kernel, rfl⟩
theorem dX8_changesTo_69 : mJ cX8_changesTo 69 (.if_icmp .ne) 72 77 := mJ.of (8) (by decide +kernel) rfl (by decide)
theorem dX8_changesTo_72 : mD cX8_changesTo 72 (.iload 9) 2 74 := ⟨by decide +kernel, rfl⟩
theorem dX8_changesTo_74 : mJ cX8_changesTo 74 .goto 77 79 := mJ.of (5) (by decide +kernel) rfl (by decide)
theorem dX8_changesTo_77 : mD cX8_changesTo 77 (.iload 8) 2 79 := ⟨by decide +kernel, rfl⟩
theorem dX8_changesTo_79 : mD cX8_changesTo 79 (.istore 8) 2 81 := ⟨by decide +kernel, rfl⟩
theorem dX8_changesTo_81 : mD cX8_changesTo 81 (.iinc 9 1) 3 84 := ⟨by decide +kernel, rfl⟩
theorem dX8_changesTo_84 : mJ cX8_changesTo 84 .goto 87 49 := mJ.of (-35) (by decide +kernel) rfl (by decide)
theorem dX8_changesTo_87 : mD cX8_changesTo 87 (.iload 4) 2 89 := ⟨by decide +kernel, rfl⟩
theorem dX8_changesTo_89 : mD cX8_changesTo 89 (.iconst 3) 1 90 := ⟨by decide +kernel, rfl⟩
theorem dX8_changesTo_90 : mD cX8_changesTo 90 (.iconst 2) 1 91 := ⟨by decide +kernel, rfl⟩
theorem dX8_changesTo_91 : mD cX8_changesTo 91 (.iload 5) 2 93 := ⟨by decide +kernel, rfl⟩
theorem dX8_changesTo_93 : mD cX8_changesTo 93 .imul 1 94 := ⟨by decide +kernel, rfl⟩
theorem dX8_changesTo_94 : mD cX8_changesTo 94 .ishl 1 95 := ⟨by decide +kernel, rfl⟩
theorem dX8_changesTo_95 : mD cX8_changesTo 95 (.iconst (-1)) 1 96 := ⟨by decide +kernel, rfl⟩
theorem dX8_changesTo_96 : mD cX8_changesTo 96 .ixor 1 97 := ⟨by decide +kernel, rfl⟩
theorem dX8_changesTo_97 : mD cX8_changesTo 97 .iand 1 98 := ⟨by decide +kernel, rfl⟩
theorem dX8_changesTo_98 : mD cX8_changesTo 98 (.iconst 3) 1 99 := ⟨by decide +kernel, rfl⟩
theorem dX8_changesTo_99 : mD cX8_changesTo 99 (.iconst 2) 1 100 := ⟨by decide +kernel, rfl⟩
theorem dX8_changesTo_100 : mD cX8_changesTo 100 (.iload 8) 2 102 := ⟨by decide +kernel, rfl⟩
theorem dX8_changesTo_102 : mD cX8_changesTo 102 .imul 1 103 := ⟨by decide +kernel, rfl⟩
theorem dX8_changesTo_103 : mD cX8_changesTo 103 .ishl 1 104 := ⟨by decide +kernel, rfl⟩
theorem dX8_changesTo_104 : mD cX8_changesTo 104 (.iconst (-1)) 1 105 := ⟨by decide +kernel, rfl⟩
theorem dX8_changesTo_105 : mD cX8_changesTo 105 .ixor 1 106 := ⟨by decide +kernel, rfl⟩
theorem dX8_changesTo_106 : mD cX8_changesTo 106 .iand 1 107 := ⟨by decide +kernel, rfl⟩
theorem dX8_changesTo_107 : mD cX8_changesTo 107 (.iload 7) 2 109 := ⟨by decide +kernel, rfl⟩
theorem dX8_changesTo_109 : mD cX8_changesTo 109 (.iconst 2) 1 110 := ⟨by decide +kernel, rfl⟩
theorem dX8_changesTo_110 : mD cX8_changesTo 110 (.iload 5) 2 112 := ⟨by decide +kernel, rfl⟩
theorem dX8_changesTo_112 : mD cX8_changesTo 112 .imul 1 113 := ⟨by decide +kernel, rfl⟩
theorem dX8_changesTo_113 : mD cX8_changesTo 113 .ishl 1 114 := ⟨by decide +kernel, rfl⟩
theorem dX8_changesTo_114 : mD cX8_changesTo 114 .ior 1 115 := ⟨by decide +kernel, rfl⟩
theorem dX8_changesTo_115 : mD cX8_changesTo 115 (.iload 6) 2 117 := ⟨by decide +kernel, rfl⟩
theorem dX8_changesTo_117 : mD cX8_changesTo 117 (.iconst 2) 1 118 := ⟨by decide +kernel, rfl⟩
theorem dX8_changesTo_118 : mD cX8_changesTo 118 (.iload 8) 2 120 := ⟨by decide +kernel, rfl⟩
theorem dX8_changesTo_120 : mD cX8_changesTo 120 .imul 1 121 := ⟨by decide +kernel, rfl⟩
theorem dX8_changesTo_121 : mD cX8_changesTo 121 .ishl 1 122 := ⟨by decide +kernel, rfl⟩
theorem dX8_changesTo_122 : mD cX8_changesTo 122 .ior 1 123 := ⟨by decide +kernel, rfl⟩
theorem dX8_changesTo_123 : mD cX8_changesTo 123 (.istore 4) 2 125 := ⟨by decide +kernel, rfl⟩
theorem dX8_changesTo_125 : mD cX8_changesTo 125 (.iinc 3 1) 3 128 := ⟨by decide +kernel, rfl⟩
theorem dX8_changesTo_128 : mD cX8_changesTo 128 (.iinc 5 1) 3 131 := ⟨by decide +kernel, rfl⟩
theorem dX8_changesTo_131 : mJ cX8_changesTo 131 .goto 134 8 := mJ.of (-123) (by decide +kernel) rfl (by decide)
theorem dX8_changesTo_134 : mD cX8_changesTo 134 (.iload_n 3) 1 135 := ⟨by decide +kernel, rfl⟩
theorem dX8_changesTo_135 : mD cX8_changesTo 135 .ireturn 1 136 := ⟨by decide +kernel, rfl⟩
theorem dX8_turnsTo_0 : mD cX8_turnsTo 0 (.iload_n 0) 1 1 := ⟨by decide +kernel, rfl⟩
theorem dX8_turnsTo_1 : mD cX8_turnsTo 1 (.iload_n 1) 1 2 := ⟨by decide +kernel, rfl⟩
theorem dX8_turnsTo_2 : mJ cX8_turnsTo 2 (.if_icmp .ne) 5 9 := mJ.of (7) (by decide +kernel) rfl (by decide)
theorem dX8_turnsTo_5 : mD cX8_turnsTo 5 (.iconst 0) 1 6 := ⟨by decide +kernel, rfl⟩
theorem dX8_turnsTo_6 : mJ cX8_turnsTo 6 .goto 9 21 := mJ.of (15) (by decide +kernel) rfl (by decide)
theorem dX8_turnsTo_9 : mD cX8_turnsTo 9 (.iload_n 0) 1 10 := ⟨by decide +kernel, rfl⟩
theorem dX8_turnsTo_10 : mD cX8_turnsTo 10 (.iconst 5) 1 11 := ⟨by decide +kernel, rfl⟩
theorem dX8_turnsTo_11 : mD cX8_turnsTo 11 (.iload_n 1) 1 12 := ⟨by decide +kernel, rfl⟩
theorem dX8_turnsTo_12 : mD cX8_turnsTo 12 .isub 1 13 := ⟨by decide +kernel, rfl⟩
theorem dX8_turnsTo_13 : mJ cX8_turnsTo 13 (.if_icmp .ne) 16 20 := mJ.of (7) (by decide +kernel) rfl (by decide)
theorem dX8_turnsTo_16 : mD cX8_turnsTo 16 (.iconst 2) 1 17 := ⟨by decide +kernel, rfl⟩
theorem dX8_turnsTo_17 : mJ cX8_turnsTo 17 .goto 20 21 := mJ.of (4) (by decide +kernel) rfl (by decide)
theorem dX8_turnsTo_20 : mD cX8_turnsTo 20 (.iconst 1) 1 21 := ⟨by decide +kernel, rfl⟩
theorem dX8_turnsTo_21 : mD cX8_turnsTo 21 .ireturn 1 22 := ⟨by decide +kernel, rfl⟩
theorem dX8_can_0 : mD cX8_can 0 (.iconst 0) 1 1 := ⟨by decide +kernel, rfl⟩
theorem dX8_can_1 : mD cX8_can 1 (.istore 4) 2 3 := ⟨by decide +kernel, rfl⟩
theorem dX8_can_3 : mD cX8_can 3 (.iload 4) 2 5 := ⟨by decide +kernel, rfl⟩
theorem dX8_can_5 : mD cX8_can 5 (.aload_n 0) 1 6 := ⟨by decide +kernel, rfl⟩
theorem dX8_can_6 : mD cX8_can 6 (.getfield 130) 3 9 := ⟨by decide +kernel, rfl⟩
theorem dX8_can_9 : mJ cX8_can 9 (.if_icmp .ge) 12 94 := mJ.of (85) (by decide +kernel) rfl (by decide)
theorem dX8_can_12 : mD cX8_can 12 (.iconst 1) 1 13 := ⟨by decide +kernel, rfl⟩
theorem dX8_can_13 : mD cX8_can 13 (.istore 5) 2 15 := ⟨by decide +kernel, rfl⟩
theorem dX8_can_15 : mD cX8_can 15 (.iconst 0) 1 16 := ⟨by decide +kernel, rfl⟩
theorem dX8_can_16 : mD cX8_can 16 (.istore 6) 2 18 := ⟨by decide +kernel, rfl⟩
theorem dX8_can_18 : mD cX8_can 18 (.iload 6) 2 20 := ⟨by decide +kernel, rfl⟩
theorem dX8_can_20 : mD cX8_can 20 (.aload_n 0) 1 21 := ⟨by decide +kernel, rfl⟩
theorem dX8_can_21 : mD cX8_can 21 (.getfield 13) 3 24 := ⟨by decide +kernel, rfl⟩
theorem dX8_can_24 : mD cX8_can 24 (.iconst 0) 1 25 := ⟨by decide +kernel, rfl⟩
theorem dX8_can_25 : mD cX8_can 25 .iaload 1 26 := ⟨by decide +kernel, rfl⟩
theorem dX8_can_26 : mJ cX8_can 26 (.if_icmp .ge) 29 81 := mJ.of (55) (by decide +kernel) rfl (by decide)
theorem dX8_can_29 : mD cX8_can 29 (.iload 5) 2 31 := ⟨by decide +kernel, rfl⟩
theorem dX8_can_31 : mJ cX8_can 31 (.ifCond .eq) 34 81 := mJ.of (50) (by decide +kernel) rfl (by decide)
theorem dX8_can_34 : mD cX8_can 34 (.aload_n 0) 1 35 := ⟨by decide +kernel, rfl⟩
theorem dX8_can_35 : mD cX8_can 35 (.getfield 48) 3 38 := ⟨by decide +kernel, rfl⟩
theorem dX8_can_38 : mD cX8_can 38 (.iload 4) 2 40 := ⟨by decide +kernel, rfl⟩
theorem dX8_can_40 : mD cX8_can 40 .iaload 1 41 := ⟨by decide +kernel, rfl⟩
theorem dX8_can_41 : mD cX8_can 41 (.iload 6) 2 43 := ⟨by decide +kernel, rfl⟩
theorem dX8_can_43 : mD cX8_can 43 (.invokestatic 127) 3 46 := ⟨by decide +kernel, rfl⟩
theorem dX8_can_46 : mD cX8_can 46 (.istore 7) 2 48 := ⟨by decide +kernel, rfl⟩
theorem dX8_can_48 : mD cX8_can 48 (.aload_n 0) 1 49 := ⟨by decide +kernel, rfl⟩
theorem dX8_can_49 : mD cX8_can 49 (.iload 7) 2 51 := ⟨by decide +kernel, rfl⟩
theorem dX8_can_51 : mD cX8_can 51 (.aload_n 0) 1 52 := ⟨by decide +kernel, rfl⟩
theorem dX8_can_52 : mD cX8_can 52 (.iload_n 1) 1 53 := ⟨by decide +kernel, rfl⟩
theorem dX8_can_53 : mD cX8_can 53 (.iload 6) 2 55 := ⟨by decide +kernel, rfl⟩
theorem dX8_can_55 : mD cX8_can 55 (.invokevirtual 133) 3 58 := ⟨by decide +kernel, rfl⟩
theorem dX8_can_58 : mD cX8_can 58 (.iload 7) 2 60 := ⟨by decide +kernel, rfl⟩
theorem dX8_can_60 : mD cX8_can 60 (.iload_n 2) 1 61 := ⟨by decide +kernel, rfl⟩
theorem dX8_can_61 : mJ cX8_can 61 (.if_icmp .ne) 64 68 := mJ.of (7) (by decide +kernel) rfl (by decide)
theorem dX8_can_64 : mD cX8_can 64 (.iload_n 3) 1 65 := ⟨by decide +kernel, rfl⟩
theorem dX8_can_65 : mJ cX8_can 65 .goto 68 70 := mJ.of (5) (by decide +kernel) rfl (by decide)
theorem dX8_can_68 : mD cX8_can 68 (.bipush 6) 2 70 := ⟨by decide +kernel, rfl⟩
theorem dX8_can_70 : mD cX8_can 70 (.invokevirtual 136) 3 73 := ⟨by decide +kernel, rfl⟩
theorem dX8_can_73 : mD cX8_can 73 (.istore 5) 2 75 := ⟨by decide +kernel, rfl⟩
theorem dX8_can_75 : mD cX8_can 75 (.iinc 6 1) 3 78 := ⟨by decide +kernel, rfl⟩
theorem dX8_can_78 : mJ cX8_can 78 .goto 81 18 := mJ.of (-60) (by decide +kernel) rfl (by decide)
theorem dX8_can_81 : mD cX8_can 81 (.iload 5) 2 83 := ⟨by decide +kernel, rfl⟩
theorem dX8_can_83 : mJ cX8_can 83 (.ifCond .eq) 86 88 := mJ.of (5) (by decide +kernel) rfl (by decide)
theorem dX8_can_86 : mD cX8_can 86 (.iconst 1) 1 87 := ⟨by decide +kernel, rfl⟩
theorem dX8_can_87 : mD cX8_can 87 .ireturn 1 88 := ⟨by decide +kernel, rfl⟩
theorem dX8_can_88 : mD cX8_can 88 (.iinc 4 1) 3 91 := ⟨by decide +kernel, rfl⟩
theorem dX8_can_91 : mJ cX8_can 91 .goto 94 3 := mJ.of (-88) (by decide +kernel) rfl (by decide)
theorem dX8_can_94 : mD cX8_can 94 (.iconst 0) 1 95 := ⟨by decide +kernel, rfl⟩
theorem dX8_can_95 : mD cX8_can 95 .ireturn 1 96 := ⟨by decide +kernel, rfl⟩
theorem dX8_doneNow_0 : mD cX8_doneNow 0 (.iconst 0) 1 1 := ⟨by decide +kernel, rfl⟩
theorem dX8_doneNow_1 : mD cX8_doneNow 1 (.istore_n 1) 1 2 := ⟨by decide +kernel, rfl⟩
theorem dX8_doneNow_2 : mD cX8_doneNow 2 (.iconst 0) 1 3 := ⟨by decide +kernel, rfl⟩
theorem dX8_doneNow_3 : mD cX8_doneNow 3 (.istore_n 2) 1 4 := ⟨by decide +kernel, rfl⟩
theorem dX8_doneNow_4 : mD cX8_doneNow 4 (.iload_n 2) 1 5 := ⟨by decide +kernel, rfl⟩
theorem dX8_doneNow_5 : mD cX8_doneNow 5 (.aload_n 0) 1 6 := ⟨by decide +kernel, rfl⟩
theorem dX8_doneNow_6 : mD cX8_doneNow 6 (.getfield 17) 3 9 := ⟨by decide +kernel, rfl⟩
theorem dX8_doneNow_9 : mD cX8_doneNow 9 (.iconst 0) 1 10 := ⟨by decide +kernel, rfl⟩
theorem dX8_doneNow_10 : mD cX8_doneNow 10 .iaload 1 11 := ⟨by decide +kernel, rfl⟩
theorem dX8_doneNow_11 : mJ cX8_doneNow 11 (.if_icmp .ge) 14 46 := mJ.of (35) (by decide +kernel) rfl (by decide)
theorem dX8_doneNow_14 : mD cX8_doneNow 14 (.iload_n 1) 1 15 := ⟨by decide +kernel, rfl⟩
theorem dX8_doneNow_15 : mD cX8_doneNow 15 (.aload_n 0) 1 16 := ⟨by decide +kernel, rfl⟩
theorem dX8_doneNow_16 : mD cX8_doneNow 16 (.aload_n 0) 1 17 := ⟨by decide +kernel, rfl⟩
theorem dX8_doneNow_17 : mD cX8_doneNow 17 (.getfield 26) 3 20 := ⟨by decide +kernel, rfl⟩
theorem dX8_doneNow_20 : mD cX8_doneNow 20 (.iload_n 2) 1 21 := ⟨by decide +kernel, rfl⟩
theorem dX8_doneNow_21 : mD cX8_doneNow 21 .iaload 1 22 := ⟨by decide +kernel, rfl⟩
theorem dX8_doneNow_22 : mD cX8_doneNow 22 (.iconst 0) 1 23 := ⟨by decide +kernel, rfl⟩
theorem dX8_doneNow_23 : mD cX8_doneNow 23 (.bipush 6) 2 25 := ⟨by decide +kernel, rfl⟩
theorem dX8_doneNow_25 : mD cX8_doneNow 25 (.invokevirtual 139) 3 28 := ⟨by decide +kernel, rfl⟩
theorem dX8_doneNow_28 : mJ cX8_doneNow 28 (.ifCond .eq) 31 37 := mJ.of (9) (by decide +kernel) rfl (by decide)
theorem dX8_doneNow_31 : mD cX8_doneNow 31 (.iconst 1) 1 32 := ⟨by decide +kernel, rfl⟩
theorem dX8_doneNow_32 : mD cX8_doneNow 32 (.iload_n 2) 1 33 := ⟨by decide +kernel, rfl⟩
theorem dX8_doneNow_33 : mD cX8_doneNow 33 .ishl 1 34 := ⟨by decide +kernel, rfl⟩
theorem dX8_doneNow_34 : mJ cX8_doneNow 34 .goto 37 38 := mJ.of (4) (by decide +kernel) rfl (by decide)
theorem dX8_doneNow_37 : mD cX8_doneNow 37 (.iconst 0) 1 38 := ⟨by decide +kernel, rfl⟩
theorem dX8_doneNow_38 : mD cX8_doneNow 38 .ior 1 39 := ⟨by decide +kernel, rfl⟩
theorem dX8_doneNow_39 : mD cX8_doneNow 39 (.istore_n 1) 1 40 := ⟨by decide +kernel, rfl⟩
theorem dX8_doneNow_40 : mD cX8_doneNow 40 (.iinc 2 1) 3 43 := ⟨by decide +kernel, rfl⟩
theorem dX8_doneNow_43 : mJ cX8_doneNow 43 .goto 46 4 := mJ.of (-39) (by decide +kernel) rfl (by decide)
theorem dX8_doneNow_46 : mD cX8_doneNow 46 (.iload_n 1) 1 47 := ⟨by decide +kernel, rfl⟩
theorem dX8_doneNow_47 : mD cX8_doneNow 47 .ireturn 1 48 := ⟨by decide +kernel, rfl⟩
theorem dX8_neededOf_0 : mD cX8_neededOf 0 (.aload_n 0) 1 1 := ⟨by decide +kernel, rfl⟩
theorem dX8_neededOf_1 : mD cX8_neededOf 1 (.invokevirtual 142) 3 4 := ⟨by decide +kernel, rfl⟩
theorem dX8_neededOf_4 : mD cX8_neededOf 4 (.istore_n 2) 1 5 := ⟨by decide +kernel, rfl⟩
theorem dX8_neededOf_5 : mD cX8_neededOf 5 (.iconst 0) 1 6 := ⟨by decide +kernel, rfl⟩
theorem dX8_neededOf_6 : mD cX8_neededOf 6 (.istore_n 3) 1 7 := ⟨by decide +kernel, rfl⟩
theorem dX8_neededOf_7 : mD cX8_neededOf 7 (.iconst 0) 1 8 := ⟨by decide +kernel, rfl⟩
theorem dX8_neededOf_8 : mD cX8_neededOf 8 (.istore 4) 2 10 := ⟨by decide +kernel, rfl⟩
theorem dX8_neededOf_10 : mD cX8_neededOf 10 (.iload 4) 2 12 := ⟨by decide +kernel, rfl⟩
theorem dX8_neededOf_12 : mD cX8_neededOf 12 (.bipush 6) 2 14 := ⟨by decide +kernel, rfl⟩
theorem dX8_neededOf_14 : mJ cX8_neededOf 14 (.if_icmp .ge) 17 100 := mJ.of (86) (by decide +kernel) rfl (by decide)
theorem dX8_neededOf_17 : mD cX8_neededOf 17 (.iconst 0) 1 18 := ⟨by decide +kernel, rfl⟩
theorem dX8_neededOf_18 : mD cX8_neededOf 18 (.istore 5) 2 20 := ⟨by decide +kernel, rfl⟩
theorem dX8_neededOf_20 : mD cX8_neededOf 20 (.iconst 0) 1 21 := ⟨by decide +kernel, rfl⟩
theorem dX8_neededOf_21 : mD cX8_neededOf 21 (.istore 6) 2 23 := ⟨by decide +kernel, rfl⟩
theorem dX8_neededOf_23 : mD cX8_neededOf 23 (.iload 6) 2 25 := ⟨by decide +kernel, rfl⟩
theorem dX8_neededOf_25 : mD cX8_neededOf 25 (.aload_n 0) 1 26 := ⟨by decide +kernel, rfl⟩
theorem dX8_neededOf_26 : mD cX8_neededOf 26 (.getfield 17) 3 29 := ⟨by decide +kernel, rfl⟩
theorem dX8_neededOf_29 : mD cX8_neededOf 29 (.iconst 0) 1 30 := ⟨by decide +kernel, rfl⟩
theorem dX8_neededOf_30 : mD cX8_neededOf 30 .iaload 1 31 := ⟨by decide +kernel, rfl⟩
theorem dX8_neededOf_31 : mJ cX8_neededOf 31 (.if_icmp .ge) 34 78 := mJ.of (47) (by decide +kernel) rfl (by decide)
theorem dX8_neededOf_34 : mD cX8_neededOf 34 (.iload 5) 2 36 := ⟨by decide +kernel, rfl⟩
theorem dX8_neededOf_36 : mJ cX8_neededOf 36 (.ifCond .ne) 39 65 := mJ.of (29) (by decide +kernel) rfl (by decide)
theorem dX8_neededOf_39 : mD cX8_neededOf 39 (.iload_n 2) 1 40 := ⟨by decide +kernel, rfl⟩
theorem dX8_neededOf_40 : mD cX8_neededOf 40 (.iload 6) 2 42 := ⟨by decide +kernel, rfl⟩
theorem dX8_neededOf_42 : mD cX8_neededOf 42 (.invokestatic 145) 3 45 := ⟨by decide +kernel, rfl⟩
theorem dX8_neededOf_45 : mJ cX8_neededOf 45 (.ifCond .eq) 48 69 := mJ.of (24) (by decide +kernel) rfl (by decide)
theorem dX8_neededOf_48 : mD cX8_neededOf 48 (.aload_n 0) 1 49 := ⟨by decide +kernel, rfl⟩
theorem dX8_neededOf_49 : mD cX8_neededOf 49 (.aload_n 0) 1 50 := ⟨by decide +kernel, rfl⟩
theorem dX8_neededOf_50 : mD cX8_neededOf 50 (.getfield 26) 3 53 := ⟨by decide +kernel, rfl⟩
theorem dX8_neededOf_53 : mD cX8_neededOf 53 (.iload 6) 2 55 := ⟨by decide +kernel, rfl⟩
theorem dX8_neededOf_55 : mD cX8_neededOf 55 .iaload 1 56 := ⟨by decide +kernel, rfl⟩
theorem dX8_neededOf_56 : mD cX8_neededOf 56 (.iload_n 1) 1 57 := ⟨by decide +kernel, rfl⟩
theorem dX8_neededOf_57 : mD cX8_neededOf 57 (.iload 4) 2 59 := ⟨by decide +kernel, rfl⟩
theorem dX8_neededOf_59 : mD cX8_neededOf 59 (.invokevirtual 139) 3 62 := ⟨by decide +kernel, rfl⟩
theorem dX8_neededOf_62 : mJ cX8_neededOf 62 (.ifCond .ne) 65 69 := mJ.of (7) (by decide +kernel) rfl (by decide)
theorem dX8_neededOf_65 : mD cX8_neededOf 65 (.iconst 1) 1 66 := ⟨by decide +kernel, rfl⟩
theorem dX8_neededOf_66 : mJ cX8_neededOf 66 .goto 69 70 := mJ.of (4) (by decide +kernel) rfl (by decide)
theorem dX8_neededOf_69 : mD cX8_neededOf 69 (.iconst 0) 1 70 := ⟨by decide +kernel, rfl⟩
theorem dX8_neededOf_70 : mD cX8_neededOf 70 (.istore 5) 2 72 := ⟨by decide +kernel, rfl⟩
theorem dX8_neededOf_72 : mD cX8_neededOf 72 (.iinc 6 1) 3 75 := ⟨by decide +kernel, rfl⟩
theorem dX8_neededOf_75 : mJ cX8_neededOf 75 .goto 78 23 := mJ.of (-52) (by decide +kernel) rfl (by decide)
theorem dX8_neededOf_78 : mD cX8_neededOf 78 (.iload_n 3) 1 79 := ⟨by decide +kernel, rfl⟩
theorem dX8_neededOf_79 : mD cX8_neededOf 79 (.iload 5) 2 81 := ⟨by decide +kernel, rfl⟩
theorem dX8_neededOf_81 : mJ cX8_neededOf 81 (.ifCond .eq) 84 91 := mJ.of (10) (by decide +kernel) rfl (by decide)
theorem dX8_neededOf_84 : mD cX8_neededOf 84 (.iconst 1) 1 85 := ⟨by decide +kernel, rfl⟩
theorem dX8_neededOf_85 : mD cX8_neededOf 85 (.iload 4) 2 87 := ⟨by decide +kernel, rfl⟩
theorem dX8_neededOf_87 : mD cX8_neededOf 87 .ishl 1 88 := ⟨by decide +kernel, rfl⟩
theorem dX8_neededOf_88 : mJ cX8_neededOf 88 .goto 91 92 := mJ.of (4) (by decide +kernel) rfl (by decide)
theorem dX8_neededOf_91 : mD cX8_neededOf 91 (.iconst 0) 1 92 := ⟨by decide +kernel, rfl⟩
theorem dX8_neededOf_92 : mD cX8_neededOf 92 .ior 1 93 := ⟨by decide +kernel, rfl⟩
theorem dX8_neededOf_93 : mD cX8_neededOf 93 (.istore_n 3) 1 94 := ⟨by decide +kernel, rfl⟩
theorem dX8_neededOf_94 : mD cX8_neededOf 94 (.iinc 4 1) 3 97 := ⟨by decide +kernel, rfl⟩
theorem dX8_neededOf_97 : mJ cX8_neededOf 97 .goto 100 10 := mJ.of (-87) (by decide +kernel) rfl (by decide)
theorem dX8_neededOf_100 : mD cX8_neededOf 100 (.iload_n 3) 1 101 := ⟨by decide +kernel, rfl⟩
theorem dX8_neededOf_101 : mD cX8_neededOf 101 .ireturn 1 102 := ⟨by decide +kernel, rfl⟩
theorem dX8_figuresOf_0 : mD cX8_figuresOf 0 (.iconst 0) 1 1 := ⟨by decide +kernel, rfl⟩
theorem dX8_figuresOf_1 : mD cX8_figuresOf 1 (.istore_n 2) 1 2 := ⟨by decide +kernel, rfl⟩
theorem dX8_figuresOf_2 : mD cX8_figuresOf 2 (.iconst 0) 1 3 := ⟨by decide +kernel, rfl⟩
theorem dX8_figuresOf_3 : mD cX8_figuresOf 3 (.istore_n 3) 1 4 := ⟨by decide +kernel, rfl⟩
theorem dX8_figuresOf_4 : mD cX8_figuresOf 4 (.iload_n 3) 1 5 := ⟨by decide +kernel, rfl⟩
theorem dX8_figuresOf_5 : mD cX8_figuresOf 5 (.bipush 6) 2 7 := ⟨by decide +kernel, rfl⟩
theorem dX8_figuresOf_7 : mJ cX8_figuresOf 7 (.if_icmp .ge) 10 32 := mJ.of (25) (by decide +kernel) rfl (by decide)
theorem dX8_figuresOf_10 : mD cX8_figuresOf 10 (.iload_n 2) 1 11 := ⟨by decide +kernel, rfl⟩
theorem dX8_figuresOf_11 : mD cX8_figuresOf 11 (.iconst 1) 1 12 := ⟨by decide +kernel, rfl⟩
theorem dX8_figuresOf_12 : mD cX8_figuresOf 12 (.aload_n 0) 1 13 := ⟨by decide +kernel, rfl⟩
theorem dX8_figuresOf_13 : mD cX8_figuresOf 13 (.getfield 29) 3 16 := ⟨by decide +kernel, rfl⟩
theorem dX8_figuresOf_16 : mD cX8_figuresOf 16 (.bipush 6) 2 18 := ⟨by decide +kernel, rfl⟩
theorem dX8_figuresOf_18 : mD cX8_figuresOf 18 (.iload_n 1) 1 19 := ⟨by decide +kernel, rfl⟩
theorem dX8_figuresOf_19 : mD cX8_figuresOf 19 .imul 1 20 := ⟨by decide +kernel, rfl⟩
theorem dX8_figuresOf_20 : mD cX8_figuresOf 20 (.iload_n 3) 1 21 := ⟨by decide +kernel, rfl⟩
theorem dX8_figuresOf_21 : mD cX8_figuresOf 21 .iadd 1 22 := ⟨by decide +kernel, rfl⟩
theorem dX8_figuresOf_22 : mD cX8_figuresOf 22 .iaload 1 23 := ⟨by decide +kernel, rfl⟩
theorem dX8_figuresOf_23 : mD cX8_figuresOf 23 .ishl 1 24 := ⟨by decide +kernel, rfl⟩
theorem dX8_figuresOf_24 : mD cX8_figuresOf 24 .ior 1 25 := ⟨by decide +kernel, rfl⟩
theorem dX8_figuresOf_25 : mD cX8_figuresOf 25 (.istore_n 2) 1 26 := ⟨by decide +kernel, rfl⟩
theorem dX8_figuresOf_26 : mD cX8_figuresOf 26 (.iinc 3 1) 3 29 := ⟨by decide +kernel, rfl⟩
theorem dX8_figuresOf_29 : mJ cX8_figuresOf 29 .goto 32 4 := mJ.of (-25) (by decide +kernel) rfl (by decide)
theorem dX8_figuresOf_32 : mD cX8_figuresOf 32 (.iload_n 2) 1 33 := ⟨by decide +kernel, rfl⟩
theorem dX8_figuresOf_33 : mD cX8_figuresOf 33 .ireturn 1 34 := ⟨by decide +kernel, rfl⟩
theorem dX8_side_0 : mD cX8_side 0 (.aload_n 0) 1 1 := ⟨by decide +kernel, rfl⟩
theorem dX8_side_1 : mD cX8_side 1 (.iload_n 1) 1 2 := ⟨by decide +kernel, rfl⟩
theorem dX8_side_2 : mD cX8_side 2 (.invokevirtual 148) 3 5 := ⟨by decide +kernel, rfl⟩
theorem dX8_side_5 : mJ cX8_side 5 (.ifCond .eq) 8 29 := mJ.of (24) (by decide +kernel) rfl (by decide)
theorem dX8_side_8 : mD cX8_side 8 (.iload_n 2) 1 9 := ⟨by decide +kernel, rfl⟩
theorem dX8_side_9 : mD cX8_side 9 (.invokestatic 151) 3 12 := ⟨by decide +kernel, rfl⟩
theorem dX8_side_12 : mJ cX8_side 12 (.ifCond .eq) 15 29 := mJ.of (17) (by decide +kernel) rfl (by decide)
theorem dX8_side_15 : mD cX8_side 15 (.aload_n 0) 1 16 := ⟨by decide +kernel, rfl⟩
theorem dX8_side_16 : mD cX8_side 16 (.getfield 29) 3 19 := ⟨by decide +kernel, rfl⟩
theorem dX8_side_19 : mD cX8_side 19 (.bipush 6) 2 21 := ⟨by decide +kernel, rfl⟩
theorem dX8_side_21 : mD cX8_side 21 (.iload_n 1) 1 22 := ⟨by decide +kernel, rfl⟩
theorem dX8_side_22 : mD cX8_side 22 .imul 1 23 := ⟨by decide +kernel, rfl⟩
theorem dX8_side_23 : mD cX8_side 23 (.iload_n 2) 1 24 := ⟨by decide +kernel, rfl⟩
theorem dX8_side_24 : mD cX8_side 24 .iadd 1 25 := ⟨by decide +kernel, rfl⟩
theorem dX8_side_25 : mD cX8_side 25 .iaload 1 26 := ⟨by decide +kernel, rfl⟩
theorem dX8_side_26 : mJ cX8_side 26 .goto 29 30 := mJ.of (4) (by decide +kernel) rfl (by decide)
theorem dX8_side_29 : mD cX8_side 29 (.iconst (-1)) 1 30 := ⟨by decide +kernel, rfl⟩
theorem dX8_side_30 : mD cX8_side 30 .ireturn 1 31 := ⟨by decide +kernel, rfl⟩
theorem dX8_cube_0 : mD cX8_cube 0 (.aload_n 0) 1 1 := ⟨by decide +kernel, rfl⟩
theorem dX8_cube_1 : mD cX8_cube 1 (.iload_n 1) 1 2 := ⟨by decide +kernel, rfl⟩
theorem dX8_cube_2 : mD cX8_cube 2 (.invokevirtual 148) 3 5 := ⟨by decide +kernel, rfl⟩
theorem dX8_cube_5 : mJ cX8_cube 5 (.ifCond .ne) 8 10 := mJ.of (5) (by decide +kernel) rfl (by decide)
theorem dX8_cube_8 : mD cX8_cube 8 (.iconst (-1)) 1 9 := ⟨by decide +kernel, rfl⟩
theorem dX8_cube_9 : mD cX8_cube 9 .ireturn 1 10 := ⟨by decide +kernel, rfl⟩
theorem dX8_cube_10 : mD cX8_cube 10 (.iload_n 2) 1 11 := ⟨by decide +kernel, rfl⟩
theorem dX8_cube_11 : decode cX8_cube 11 = .ok (.tableswitch 57 0 3 #[29, 35, 45, 51], 29) := by decide +kernel
theorem dX8_cube_40 : mD cX8_cube 40 (.aload_n 0) 1 41 := ⟨by decide +kernel, rfl⟩
theorem dX8_cube_41 : mD cX8_cube 41 (.iload_n 1) 1 42 := ⟨by decide +kernel, rfl⟩
theorem dX8_cube_42 : mD cX8_cube 42 (.invokevirtual 154) 3 45 := ⟨by decide +kernel, rfl⟩
theorem dX8_cube_45 : mD cX8_cube 45 .ireturn 1 46 := ⟨by decide +kernel, rfl⟩
theorem dX8_cube_46 : mD cX8_cube 46 (.aload_n 0) 1 47 := ⟨by decide +kernel, rfl⟩
theorem dX8_cube_47 : mD cX8_cube 47 (.getfield 29) 3 50 := ⟨by decide +kernel, rfl⟩
theorem dX8_cube_50 : mD cX8_cube 50 (.bipush 28) 2 52 := ⟨by decide +kernel, rfl⟩
theorem dX8_cube_52 : mD cX8_cube 52 (.iload_n 1) 1 53 := ⟨by decide +kernel, rfl⟩
theorem dX8_cube_53 : mD cX8_cube 53 .iadd 1 54 := ⟨by decide +kernel, rfl⟩
theorem dX8_cube_54 : mD cX8_cube 54 .iaload 1 55 := ⟨by decide +kernel, rfl⟩
theorem dX8_cube_55 : mD cX8_cube 55 .ireturn 1 56 := ⟨by decide +kernel, rfl⟩
theorem dX8_cube_56 : mD cX8_cube 56 (.aload_n 0) 1 57 := ⟨by decide +kernel, rfl⟩
theorem dX8_cube_57 : mD cX8_cube 57 (.iload_n 1) 1 58 := ⟨by decide +kernel, rfl⟩
theorem dX8_cube_58 : mD cX8_cube 58 (.invokevirtual 157) 3 61 := ⟨by decide +kernel, rfl⟩
theorem dX8_cube_61 : mD cX8_cube 61 .ireturn 1 62 := ⟨by decide +kernel, rfl⟩
theorem dX8_cube_62 : mD cX8_cube 62 (.aload_n 0) 1 63 := ⟨by decide +kernel, rfl⟩
theorem dX8_cube_63 : mD cX8_cube 63 (.iload_n 1) 1 64 := ⟨by decide +kernel, rfl⟩
theorem dX8_cube_64 : mD cX8_cube 64 (.invokevirtual 160) 3 67 := ⟨by decide +kernel, rfl⟩
theorem dX8_cube_67 : mD cX8_cube 67 .ireturn 1 68 := ⟨by decide +kernel, rfl⟩
theorem dX8_cube_68 : mD cX8_cube 68 (.iconst (-1)) 1 69 := ⟨by decide +kernel, rfl⟩
theorem dX8_cube_69 : mD cX8_cube 69 .ireturn 1 70 := ⟨by decide +kernel, rfl⟩
theorem dX8_place_0 : mD cX8_place 0 (.aload_n 0) 1 1 := ⟨by decide +kernel, rfl⟩
theorem dX8_place_1 : mD cX8_place 1 (.iload_n 1) 1 2 := ⟨by decide +kernel, rfl⟩
theorem dX8_place_2 : mD cX8_place 2 (.invokevirtual 148) 3 5 := ⟨by decide +kernel, rfl⟩
theorem dX8_place_5 : mJ cX8_place 5 (.ifCond .eq) 8 20 := mJ.of (15) (by decide +kernel) rfl (by decide)
theorem dX8_place_8 : mD cX8_place 8 (.aload_n 0) 1 9 := ⟨by decide +kernel, rfl⟩
theorem dX8_place_9 : mD cX8_place 9 (.getfield 29) 3 12 := ⟨by decide +kernel, rfl⟩
theorem dX8_place_12 : mD cX8_place 12 (.bipush 24) 2 14 := ⟨by decide +kernel, rfl⟩
theorem dX8_place_14 : mD cX8_place 14 (.iload_n 1) 1 15 := ⟨by decide +kernel, rfl⟩
theorem dX8_place_15 : mD cX8_place 15 .iadd 1 16 := ⟨by decide +kernel, rfl⟩
theorem dX8_place_16 : mD cX8_place 16 .iaload 1 17 := ⟨by decide +kernel, rfl⟩
theorem dX8_place_17 : mJ cX8_place 17 .goto 20 21 := mJ.of (4) (by decide +kernel) rfl (by decide)
theorem dX8_place_20 : mD cX8_place 20 (.iconst (-1)) 1 21 := ⟨by decide +kernel, rfl⟩
theorem dX8_place_21 : mD cX8_place 21 .ireturn 1 22 := ⟨by decide +kernel, rfl⟩
theorem dX8_day_0 : mD cX8_day 0 (.iload_n 1) 1 1 := ⟨by decide +kernel, rfl⟩
theorem dX8_day_1 : mD cX8_day 1 (.iconst 0) 1 2 := ⟨by decide +kernel, rfl⟩
theorem dX8_day_2 : mD cX8_day 2 (.aload_n 0) 1 3 := ⟨by decide +kernel, rfl⟩
theorem dX8_day_3 : mD cX8_day 3 (.getfield 17) 3 6 := ⟨by decide +kernel, rfl⟩
theorem dX8_day_6 : mD cX8_day 6 (.iconst 0) 1 7 := ⟨by decide +kernel, rfl⟩
theorem dX8_day_7 : mD cX8_day 7 .iaload 1 8 := ⟨by decide +kernel, rfl⟩
theorem dX8_day_8 : mD cX8_day 8 (.iconst 1) 1 9 := ⟨by decide +kernel, rfl⟩
theorem dX8_day_9 : mD cX8_day 9 .isub 1 10 := ⟨by decide +kernel, rfl⟩
theorem dX8_day_10 : mD cX8_day 10 (.invokestatic 63) 3 13 := ⟨by decide +kernel, rfl⟩
theorem dX8_day_13 : mJ cX8_day 13 (.ifCond .eq) 16 25 := mJ.of (12) (by decide +kernel) rfl (by decide)
theorem dX8_day_16 : mD cX8_day 16 (.aload_n 0) 1 17 := ⟨by decide +kernel, rfl⟩
theorem dX8_day_17 : mD cX8_day 17 (.getfield 26) 3 20 := ⟨by decide +kernel, rfl⟩
theorem dX8_day_20 : mD cX8_day 20 (.iload_n 1) 1 21 := ⟨by decide +kernel, rfl⟩
theorem dX8_day_21 : mD cX8_day 21 .iaload 1 22 := ⟨by decide +kernel, rfl⟩
theorem dX8_day_22 : mJ cX8_day 22 .goto 25 26 := mJ.of (4) (by decide +kernel) rfl (by decide)
theorem dX8_day_25 : mD cX8_day 25 (.iconst (-1)) 1 26 := ⟨by decide +kernel, rfl⟩
theorem dX8_day_26 : mD cX8_day 26 .ireturn 1 27 := ⟨by decide +kernel, rfl⟩
theorem dX8_know_0 : mD cX8_know 0 (.aload_n 0) 1 1 := ⟨by decide +kernel, rfl⟩
theorem dX8_know_1 : mD cX8_know 1 (.getfield 32) 3 4 := ⟨by decide +kernel, rfl⟩
theorem dX8_know_4 : mD cX8_know 4 (.iconst 0) 1 5 := ⟨by decide +kernel, rfl⟩
theorem dX8_know_5 : mD cX8_know 5 .iaload 1 6 := ⟨by decide +kernel, rfl⟩
theorem dX8_know_6 : mD cX8_know 6 (.bipush 10) 2 8 := ⟨by decide +kernel, rfl⟩
theorem dX8_know_8 : mJ cX8_know 8 (.if_icmp .ne) 11 51 := mJ.of (43) (by decide +kernel) rfl (by decide)
theorem dX8_know_11 : mD cX8_know 11 (.iconst 0) 1 12 := ⟨by decide +kernel, rfl⟩
theorem dX8_know_12 : mD cX8_know 12 (.istore_n 1) 1 13 := ⟨by decide +kernel, rfl⟩
theorem dX8_know_13 : mD cX8_know 13 (.iload_n 1) 1 14 := ⟨by decide +kernel, rfl⟩
theorem dX8_know_14 : mD cX8_know 14 (.sipush 297) 3 17 := ⟨by decide +kernel, rfl⟩
theorem dX8_know_17 : mJ cX8_know 17 (.if_icmp .ge) 20 41 := mJ.of (24) (by decide +kernel) rfl (by decide)
theorem dX8_know_20 : mD cX8_know 20 (.aload_n 0) 1 21 := ⟨by decide +kernel, rfl⟩
theorem dX8_know_21 : mD cX8_know 21 (.getfield 35) 3 24 := ⟨by decide +kernel, rfl⟩
theorem dX8_know_24 : mD cX8_know 24 (.iload_n 1) 1 25 := ⟨by decide +kernel, rfl⟩
theorem dX8_know_25 : mD cX8_know 25 (.aload_n 0) 1 26 := ⟨by decide +kernel, rfl⟩
theorem dX8_know_26 : mD cX8_know 26 (.getfield 35) 3 29 := ⟨by decide +kernel, rfl⟩
theorem dX8_know_29 : mD cX8_know 29 (.bipush 33) 2 31 := ⟨by decide +kernel, rfl⟩
theorem dX8_know_31 : mD cX8_know 31 (.iload_n 1) 1 32 := ⟨by decide +kernel, rfl⟩
theorem dX8_know_32 : mD cX8_know 32 .iadd 1 33 := ⟨by decide +kernel, rfl⟩
theorem dX8_know_33 : mD cX8_know 33 .iaload 1 34 := ⟨by decide +kernel, rfl⟩
theorem dX8_know_34 : mD cX8_know 34 .iastore 1 35 := ⟨by decide +kernel, rfl⟩
theorem dX8_know_35 : mD cX8_know 35 (.iinc 1 1) 3 38 := ⟨by decide +kernel, rfl⟩
theorem dX8_know_38 : mJ cX8_know 38 .goto 41 13 := mJ.of (-25) (by decide +kernel) rfl (by decide)
theorem dX8_know_41 : mD cX8_know 41 (.aload_n 0) 1 42 := ⟨by decide +kernel, rfl⟩
theorem dX8_know_42 : mD cX8_know 42 (.getfield 32) 3 45 := ⟨by decide +kernel, rfl⟩
theorem dX8_know_45 : mD cX8_know 45 (.iconst 0) 1 46 := ⟨by decide +kernel, rfl⟩
theorem dX8_know_46 : mD cX8_know 46 .dup2 1 47 := ⟨by decide +kernel, rfl⟩
theorem dX8_know_47 : mD cX8_know 47 .iaload 1 48 := ⟨by decide +kernel, rfl⟩
theorem dX8_know_48 : mD cX8_know 48 (.iconst 1) 1 49 := ⟨by decide +kernel, rfl⟩
theorem dX8_know_49 : mD cX8_know 49 .isub 1 50 := ⟨by decide +kernel, rfl⟩
theorem dX8_know_50 : mD cX8_know 50 .iastore 1 51 := ⟨by decide +kernel, rfl⟩
theorem dX8_know_51 : mD cX8_know 51 (.iconst 0) 1 52 := ⟨by decide +kernel, rfl⟩
theorem dX8_know_52 : mD cX8_know 52 (.istore_n 1) 1 53 := ⟨by decide +kernel, rfl⟩
theorem dX8_know_53 : mD cX8_know 53 (.iload_n 1) 1 54 := ⟨by decide +kernel, rfl⟩
theorem dX8_know_54 : mD cX8_know 54 (.bipush 33) 2 56 := ⟨by decide +kernel, rfl⟩
theorem dX8_know_56 : mJ cX8_know 56 (.if_icmp .ge) 59 87 := mJ.of (31) (by decide +kernel) rfl (by decide)
theorem dX8_know_59 : mD cX8_know 59 (.aload_n 0) 1 60 := ⟨by decide +kernel, rfl⟩
theorem dX8_know_60 : mD cX8_know 60 (.getfield 35) 3 63 := ⟨by decide +kernel, rfl⟩
theorem dX8_know_63 : mD cX8_know 63 (.bipush 33) 2 65 := ⟨by decide +kernel, rfl⟩
theorem dX8_know_65 : mD cX8_know 65 (.aload_n 0) 1 66 := ⟨by decide +kernel, rfl⟩
theorem dX8_know_66 : mD cX8_know 66 (.getfield 32) 3 69 := ⟨by decide +kernel, rfl⟩
theorem dX8_know_69 : mD cX8_know 69 (.iconst 0) 1 70 := ⟨by decide +kernel, rfl⟩
theorem dX8_know_70 : mD cX8_know 70 .iaload 1 71 := ⟨by decide +kernel, rfl⟩
theorem dX8_know_71 : mD cX8_know 71 .imul 1 72 := ⟨by decide +kernel, rfl⟩
theorem dX8_know_72 : mD cX8_know 72 (.iload_n 1) 1 73 := ⟨by decide +kernel, rfl⟩
theorem dX8_know_73 : mD cX8_know 73 .iadd 1 74 := ⟨by decide +kernel, rfl⟩
theorem dX8_know_74 : mD cX8_know 74 (.aload_n 0) 1 75 := ⟨by decide +kernel, rfl⟩
theorem dX8_know_75 : mD cX8_know 75 (.getfield 29) 3 78 := ⟨by decide +kernel, rfl⟩
theorem dX8_know_78 : mD cX8_know 78 (.iload_n 1) 1 79 := ⟨by decide +kernel, rfl⟩
theorem dX8_know_79 : mD cX8_know 79 .iaload 1 80 := ⟨by decide +kernel, rfl⟩
theorem dX8_know_80 : mD cX8_know 80 .iastore 1 81 := ⟨by decide +kernel, rfl⟩
theorem dX8_know_81 : mD cX8_know 81 (.iinc 1 1) 3 84 := ⟨by decide +kernel, rfl⟩
theorem dX8_know_84 : mJ cX8_know 84 .goto 87 53 := mJ.of (-31) (by decide +kernel) rfl (by decide)
theorem dX8_know_87 : mD cX8_know 87 (.aload_n 0) 1 88 := ⟨by decide +kernel, rfl⟩
theorem dX8_know_88 : mD cX8_know 88 (.getfield 32) 3 91 := ⟨by decide +kernel, rfl⟩
theorem dX8_know_91 : mD cX8_know 91 (.iconst 0) 1 92 := ⟨by decide +kernel, rfl⟩
theorem dX8_know_92 : mD cX8_know 92 .dup2 1 93 := ⟨by decide +kernel, rfl⟩
theorem dX8_know_93 : mD cX8_know 93 .iaload 1 94 := ⟨by decide +kernel, rfl⟩
theorem dX8_know_94 : mD cX8_know 94 (.iconst 1) 1 95 := ⟨by decide +kernel, rfl⟩
theorem dX8_know_95 : mD cX8_know 95 .iadd 1 96 := ⟨by decide +kernel, rfl⟩
theorem dX8_know_96 : mD cX8_know 96 .iastore 1 97 := ⟨by decide +kernel, rfl⟩
theorem dX8_know_97 : mD cX8_know 97 .return_ 1 98 := ⟨by decide +kernel, rfl⟩
theorem dX8_worked_0 : mD cX8_worked 0 (.aload_n 0) 1 1 := ⟨by decide +kernel, rfl⟩
theorem dX8_worked_1 : mD cX8_worked 1 (.getfield 29) 3 4 := ⟨by decide +kernel, rfl⟩
theorem dX8_worked_4 : mD cX8_worked 4 (.bipush 32) 2 6 := ⟨by decide +kernel, rfl⟩
theorem dX8_worked_6 : mD cX8_worked 6 (.aload_n 0) 1 7 := ⟨by decide +kernel, rfl⟩
theorem dX8_worked_7 : mD cX8_worked 7 (.getfield 29) 3 10 := ⟨by decide +kernel, rfl⟩
theorem dX8_worked_10 : mD cX8_worked 10 (.bipush 32) 2 12 := ⟨by decide +kernel, rfl⟩
theorem dX8_worked_12 : mD cX8_worked 12 .iaload 1 13 := ⟨by decide +kernel, rfl⟩
theorem dX8_worked_13 : mD cX8_worked 13 (.iload_n 1) 1 14 := ⟨by decide +kernel, rfl⟩
theorem dX8_worked_14 : mD cX8_worked 14 .iadd 1 15 := ⟨by decide +kernel, rfl⟩
theorem dX8_worked_15 : mD cX8_worked 15 (.sipush 9999) 3 18 := ⟨by decide +kernel, rfl⟩
theorem dX8_worked_18 : mJ cX8_worked 18 (.if_icmp .le) 21 27 := mJ.of (9) (by decide +kernel) rfl (by decide)
theorem dX8_worked_21 : mD cX8_worked 21 (.sipush 9999) 3 24 := ⟨by decide +kernel, rfl⟩
theorem dX8_worked_24 : mJ cX8_worked 24 .goto 27 36 := mJ.of (12) (by decide +kernel) rfl (by decide)
theorem dX8_worked_27 : mD cX8_worked 27 (.aload_n 0) 1 28 := ⟨by decide +kernel, rfl⟩
theorem dX8_worked_28 : mD cX8_worked 28 (.getfield 29) 3 31 := ⟨by decide +kernel, rfl⟩
theorem dX8_worked_31 : mD cX8_worked 31 (.bipush 32) 2 33 := ⟨by decide +kernel, rfl⟩
theorem dX8_worked_33 : mD cX8_worked 33 .iaload 1 34 := ⟨by decide +kernel, rfl⟩
theorem dX8_worked_34 : mD cX8_worked 34 (.iload_n 1) 1 35 := ⟨by decide +kernel, rfl⟩
theorem dX8_worked_35 : mD cX8_worked 35 .iadd 1 36 := ⟨by decide +kernel, rfl⟩
theorem dX8_worked_36 : mD cX8_worked 36 .iastore 1 37 := ⟨by decide +kernel, rfl⟩
theorem dX8_worked_37 : mD cX8_worked 37 (.aload_n 0) 1 38 := ⟨by decide +kernel, rfl⟩
theorem dX8_worked_38 : mD cX8_worked 38 (.getfield 29) 3 41 := ⟨by decide +kernel, rfl⟩
theorem dX8_worked_41 : mD cX8_worked 41 (.bipush 32) 2 43 := ⟨by decide +kernel, rfl⟩
theorem dX8_worked_43 : mD cX8_worked 43 .iaload 1 44 := ⟨by decide +kernel, rfl⟩
theorem dX8_worked_44 : mD cX8_worked 44 .ireturn 1 45 := ⟨by decide +kernel, rfl⟩
theorem dX8_turn_0 : mD cX8_turn 0 (.aload_n 0) 1 1 := ⟨by decide +kernel, rfl⟩
theorem dX8_turn_1 : mD cX8_turn 1 (.iload_n 1) 1 2 := ⟨by decide +kernel, rfl⟩
theorem dX8_turn_2 : mD cX8_turn 2 (.invokevirtual 148) 3 5 := ⟨by decide +kernel, rfl⟩
theorem dX8_turn_5 : mJ cX8_turn 5 (.ifCond .eq) 8 15 := mJ.of (10) (by decide +kernel) rfl (by decide)
theorem dX8_turn_8 : mD cX8_turn 8 (.iload_n 2) 1 9 := ⟨by decide +kernel, rfl⟩
theorem dX8_turn_9 : mD cX8_turn 9 (.invokestatic 151) 3 12 := ⟨by decide +kernel, rfl⟩
theorem dX8_turn_12 : mJ cX8_turn 12 (.ifCond .ne) 15 17 := mJ.of (5) (by decide +kernel) rfl (by decide)
theorem dX8_turn_15 : mD cX8_turn 15 (.iconst (-1)) 1 16 := ⟨by decide +kernel, rfl⟩
theorem dX8_turn_16 : mD cX8_turn 16 .ireturn 1 17 := ⟨by decide +kernel, rfl⟩
theorem dX8_turn_17 : mD cX8_turn 17 (.aload_n 0) 1 18 := ⟨by decide +kernel, rfl⟩
theorem dX8_turn_18 : mD cX8_turn 18 (.getfield 29) 3 21 := ⟨by decide +kernel, rfl⟩
theorem dX8_turn_21 : mD cX8_turn 21 (.bipush 28) 2 23 := ⟨by decide +kernel, rfl⟩
theorem dX8_turn_23 : mD cX8_turn 23 (.iload_n 1) 1 24 := ⟨by decide +kernel, rfl⟩
theorem dX8_turn_24 : mD cX8_turn 24 .iadd 1 25 := ⟨by decide +kernel, rfl⟩
theorem dX8_turn_25 : mD cX8_turn 25 .iaload 1 26 := ⟨by decide +kernel, rfl⟩
theorem dX8_turn_26 : mD cX8_turn 26 (.istore_n 3) 1 27 := ⟨by decide +kernel, rfl⟩
theorem dX8_turn_27 : mD cX8_turn 27 (.iload_n 3) 1 28 := ⟨by decide +kernel, rfl⟩
theorem dX8_turn_28 : mD cX8_turn 28 (.iload_n 2) 1 29 := ⟨by decide +kernel, rfl⟩
theorem dX8_turn_29 : mJ cX8_turn 29 (.if_icmp .ne) 32 35 := mJ.of (6) (by decide +kernel) rfl (by decide)
theorem dX8_turn_32 : mD cX8_turn 32 (.bipush (-2)) 2 34 := ⟨by decide +kernel, rfl⟩
theorem dX8_turn_34 : mD cX8_turn 34 .ireturn 1 35 := ⟨by decide +kernel, rfl⟩
theorem dX8_turn_35 : mD cX8_turn 35 (.aload_n 0) 1 36 := ⟨by decide +kernel, rfl⟩
theorem dX8_turn_36 : mD cX8_turn 36 (.invokevirtual 163) 3 39 := ⟨by decide +kernel, rfl⟩
theorem dX8_turn_39 : mD cX8_turn 39 (.aload_n 0) 1 40 := ⟨by decide +kernel, rfl⟩
theorem dX8_turn_40 : mD cX8_turn 40 (.getfield 29) 3 43 := ⟨by decide +kernel, rfl⟩
theorem dX8_turn_43 : mD cX8_turn 43 (.bipush 28) 2 45 := ⟨by decide +kernel, rfl⟩
theorem dX8_turn_45 : mD cX8_turn 45 (.iload_n 1) 1 46 := ⟨by decide +kernel, rfl⟩
theorem dX8_turn_46 : mD cX8_turn 46 .iadd 1 47 := ⟨by decide +kernel, rfl⟩
theorem dX8_turn_47 : mD cX8_turn 47 (.iload_n 2) 1 48 := ⟨by decide +kernel, rfl⟩
theorem dX8_turn_48 : mD cX8_turn 48 .iastore 1 49 := ⟨by decide +kernel, rfl⟩
theorem dX8_turn_49 : mD cX8_turn 49 (.aload_n 0) 1 50 := ⟨by decide +kernel, rfl⟩
theorem dX8_turn_50 : mD cX8_turn 50 (.iload_n 3) 1 51 := ⟨by decide +kernel, rfl⟩
theorem dX8_turn_51 : mD cX8_turn 51 (.iload_n 2) 1 52 := ⟨by decide +kernel, rfl⟩
theorem dX8_turn_52 : mD cX8_turn 52 (.invokestatic 166) 3 55 := ⟨by decide +kernel, rfl⟩
theorem dX8_turn_55 : mD cX8_turn 55 (.invokevirtual 169) 3 58 := ⟨by decide +kernel, rfl⟩
theorem dX8_turn_58 : mD cX8_turn 58 .ireturn 1 59 := ⟨by decide +kernel, rfl⟩
theorem dX8_changes_0 : mD cX8_changes 0 (.aload_n 0) 1 1 := ⟨by decide +kernel, rfl⟩
theorem dX8_changes_1 : mD cX8_changes 1 (.iload_n 1) 1 2 := ⟨by decide +kernel, rfl⟩
theorem dX8_changes_2 : mD cX8_changes 2 (.invokevirtual 148) 3 5 := ⟨by decide +kernel, rfl⟩
theorem dX8_changes_5 : mJ cX8_changes 5 (.ifCond .eq) 8 21 := mJ.of (16) (by decide +kernel) rfl (by decide)
theorem dX8_changes_8 : mD cX8_changes 8 (.aload_n 0) 1 9 := ⟨by decide +kernel, rfl⟩
theorem dX8_changes_9 : mD cX8_changes 9 (.iload_n 2) 1 10 := ⟨by decide +kernel, rfl⟩
theorem dX8_changes_10 : mD cX8_changes 10 (.invokevirtual 148) 3 13 := ⟨by decide +kernel, rfl⟩
theorem dX8_changes_13 : mJ cX8_changes 13 (.ifCond .eq) 16 21 := mJ.of (8) (by decide +kernel) rfl (by decide)
theorem dX8_changes_16 : mD cX8_changes 16 (.iload_n 1) 1 17 := ⟨by decide +kernel, rfl⟩
theorem dX8_changes_17 : mD cX8_changes 17 (.iload_n 2) 1 18 := ⟨by decide +kernel, rfl⟩
theorem dX8_changes_18 : mJ cX8_changes 18 (.if_icmp .ne) 21 23 := mJ.of (5) (by decide +kernel) rfl (by decide)
theorem dX8_changes_21 : mD cX8_changes 21 (.iconst (-1)) 1 22 := ⟨by decide +kernel, rfl⟩
theorem dX8_changes_22 : mD cX8_changes 22 .ireturn 1 23 := ⟨by decide +kernel, rfl⟩
theorem dX8_changes_23 : mD cX8_changes 23 (.aload_n 0) 1 24 := ⟨by decide +kernel, rfl⟩
theorem dX8_changes_24 : mD cX8_changes 24 (.invokevirtual 163) 3 27 := ⟨by decide +kernel, rfl⟩
theorem dX8_changes_27 : mD cX8_changes 27 (.aload_n 0) 1 28 := ⟨by decide +kernel, rfl⟩
theorem dX8_changes_28 : mD cX8_changes 28 (.getfield 29) 3 31 := ⟨by decide +kernel, rfl⟩
theorem dX8_changes_31 : mD cX8_changes 31 (.bipush 24) 2 33 := ⟨by decide +kernel, rfl⟩
theorem dX8_changes_33 : mD cX8_changes 33 (.iload_n 1) 1 34 := ⟨by decide +kernel, rfl⟩
theorem dX8_changes_34 : mD cX8_changes 34 .iadd 1 35 := ⟨by decide +kernel, rfl⟩
theorem dX8_changes_35 : mD cX8_changes 35 .iaload 1 36 := ⟨by decide +kernel, rfl⟩
theorem dX8_changes_36 : mD cX8_changes 36 (.istore_n 3) 1 37 := ⟨by decide +kernel, rfl⟩
theorem dX8_changes_37 : mD cX8_changes 37 (.aload_n 0) 1 38 := ⟨by decide +kernel, rfl⟩
theorem dX8_changes_38 : mD cX8_changes 38 (.getfield 29) 3 41 := ⟨by decide +kernel, rfl⟩
theorem dX8_changes_41 : mD cX8_changes 41 (.bipush 24) 2 43 := ⟨by decide +kernel, rfl⟩
theorem dX8_changes_43 : mD cX8_changes 43 (.iload_n 1) 1 44 := ⟨by decide +kernel, rfl⟩
theorem dX8_changes_44 : mD cX8_changes 44 .iadd 1 45 := ⟨by decide +kernel, rfl⟩
theorem dX8_changes_45 : mD cX8_changes 45 (.aload_n 0) 1 46 := ⟨by decide +kernel, rfl⟩
theorem dX8_changes_46 : mD cX8_changes 46 (.getfield 29) 3 49 := ⟨by decide +kernel, rfl⟩
theorem dX8_changes_49 : mD cX8_changes 49 (.bipush 24) 2 51 := ⟨by decide +kernel, rfl⟩
theorem dX8_changes_51 : mD cX8_changes 51 (.iload_n 2) 1 52 := ⟨by decide +kernel, rfl⟩
theorem dX8_changes_52 : mD cX8_changes 52 .iadd 1 53 := ⟨by decide +kernel, rfl⟩
theorem dX8_changes_53 : mD cX8_changes 53 .iaload 1 54 := ⟨by decide +kernel, rfl⟩
theorem dX8_changes_54 : mD cX8_changes 54 .iastore 1 55 := ⟨by decide +kernel, rfl⟩
theorem dX8_changes_55 : mD cX8_changes 55 (.aload_n 0) 1 56 := ⟨by decide +kernel, rfl⟩
theorem dX8_changes_56 : mD cX8_changes 56 (.getfield 29) 3 59 := ⟨by decide +kernel, rfl⟩
theorem dX8_changes_59 : mD cX8_changes 59 (.bipush 24) 2 61 := ⟨by decide +kernel, rfl⟩
theorem dX8_changes_61 : mD cX8_changes 61 (.iload_n 2) 1 62 := ⟨by decide +kernel, rfl⟩
theorem dX8_changes_62 : mD cX8_changes 62 .iadd 1 63 := ⟨by decide +kernel, rfl⟩
theorem dX8_changes_63 : mD cX8_changes 63 (.iload_n 3) 1 64 := ⟨by decide +kernel, rfl⟩
theorem dX8_changes_64 : mD cX8_changes 64 .iastore 1 65 := ⟨by decide +kernel, rfl⟩
theorem dX8_changes_65 : mD cX8_changes 65 (.aload_n 0) 1 66 := ⟨by decide +kernel, rfl⟩
theorem dX8_changes_66 : mD cX8_changes 66 (.iconst 1) 1 67 := ⟨by decide +kernel, rfl⟩
theorem dX8_changes_67 : mD cX8_changes 67 (.invokevirtual 169) 3 70 := ⟨by decide +kernel, rfl⟩
theorem dX8_changes_70 : mD cX8_changes 70 .ireturn 1 71 := ⟨by decide +kernel, rfl⟩
theorem dX8_pastes_0 : mD cX8_pastes 0 (.aload_n 0) 1 1 := ⟨by decide +kernel, rfl⟩
theorem dX8_pastes_1 : mD cX8_pastes 1 (.iload_n 1) 1 2 := ⟨by decide +kernel, rfl⟩
theorem dX8_pastes_2 : mD cX8_pastes 2 (.invokevirtual 148) 3 5 := ⟨by decide +kernel, rfl⟩
theorem dX8_pastes_5 : mJ cX8_pastes 5 (.ifCond .eq) 8 25 := mJ.of (20) (by decide +kernel) rfl (by decide)
theorem dX8_pastes_8 : mD cX8_pastes 8 (.iload_n 2) 1 9 := ⟨by decide +kernel, rfl⟩
theorem dX8_pastes_9 : mD cX8_pastes 9 (.invokestatic 151) 3 12 := ⟨by decide +kernel, rfl⟩
theorem dX8_pastes_12 : mJ cX8_pastes 12 (.ifCond .eq) 15 25 := mJ.of (13) (by decide +kernel) rfl (by decide)
theorem dX8_pastes_15 : mD cX8_pastes 15 (.iload_n 3) 1 16 := ⟨by decide +kernel, rfl⟩
theorem dX8_pastes_16 : mD cX8_pastes 16 (.iconst 0) 1 17 := ⟨by decide +kernel, rfl⟩
theorem dX8_pastes_17 : mD cX8_pastes 17 (.bipush 9) 2 19 := ⟨by decide +kernel, rfl⟩
theorem dX8_pastes_19 : mD cX8_pastes 19 (.invokestatic 63) 3 22 := ⟨by decide +kernel, rfl⟩
theorem dX8_pastes_22 : mJ cX8_pastes 22 (.ifCond .ne) 25 27 := mJ.of (5) (by decide +kernel) rfl (by decide)
theorem dX8_pastes_25 : mD cX8_pastes 25 (.iconst (-1)) 1 26 := ⟨by decide +kernel, rfl⟩
theorem dX8_pastes_26 : mD cX8_pastes 26 .ireturn 1 27 := ⟨by decide +kernel, rfl⟩
theorem dX8_pastes_27 : mD cX8_pastes 27 (.aload_n 0) 1 28 := ⟨by decide +kernel, rfl⟩
theorem dX8_pastes_28 : mD cX8_pastes 28 (.getfield 29) 3 31 := ⟨by decide +kernel, rfl⟩
theorem dX8_pastes_31 : mD cX8_pastes 31 (.bipush 6) 2 33 := ⟨by decide +kernel, rfl⟩
theorem dX8_pastes_33 : mD cX8_pastes 33 (.iload_n 1) 1 34 := ⟨by decide +kernel, rfl⟩
theorem dX8_pastes_34 : mD cX8_pastes 34 .imul 1 35 := ⟨by decide +kernel, rfl⟩
theorem dX8_pastes_35 : mD cX8_pastes 35 (.iload_n 2) 1 36 := ⟨by decide +kernel, rfl⟩
theorem dX8_pastes_36 : mD cX8_pastes 36 .iadd 1 37 := ⟨by decide +kernel, rfl⟩
theorem dX8_pastes_37 : mD cX8_pastes 37 .iaload 1 38 := ⟨by decide +kernel, rfl⟩
theorem dX8_pastes_38 : mD cX8_pastes 38 (.istore 4) 2 40 := ⟨by decide +kernel, rfl⟩
theorem dX8_pastes_40 : mD cX8_pastes 40 (.iload 4) 2 42 := ⟨by decide +kernel, rfl⟩
theorem dX8_pastes_42 : mD cX8_pastes 42 (.iload_n 3) 1 43 := ⟨by decide +kernel, rfl⟩
theorem dX8_pastes_43 : mJ cX8_pastes 43 (.if_icmp .ne) 46 49 := mJ.of (6) (by decide +kernel) rfl (by decide)
theorem dX8_pastes_46 : mD cX8_pastes 46 (.bipush (-2)) 2 48 := ⟨by decide +kernel, rfl⟩
theorem dX8_pastes_48 : mD cX8_pastes 48 .ireturn 1 49 := ⟨by decide +kernel, rfl⟩
theorem dX8_pastes_49 : mD cX8_pastes 49 (.aload_n 0) 1 50 := ⟨by decide +kernel, rfl⟩
theorem dX8_pastes_50 : mD cX8_pastes 50 (.invokevirtual 163) 3 53 := ⟨by decide +kernel, rfl⟩
theorem dX8_pastes_53 : mD cX8_pastes 53 (.aload_n 0) 1 54 := ⟨by decide +kernel, rfl⟩
theorem dX8_pastes_54 : mD cX8_pastes 54 (.getfield 29) 3 57 := ⟨by decide +kernel, rfl⟩
theorem dX8_pastes_57 : mD cX8_pastes 57 (.bipush 6) 2 59 := ⟨by decide +kernel, rfl⟩
theorem dX8_pastes_59 : mD cX8_pastes 59 (.iload_n 1) 1 60 := ⟨by decide +kernel, rfl⟩
theorem dX8_pastes_60 : mD cX8_pastes 60 .imul 1 61 := ⟨by decide +kernel, rfl⟩
theorem dX8_pastes_61 : mD cX8_pastes 61 (.iload_n 2) 1 62 := ⟨by decide +kernel, rfl⟩
theorem dX8_pastes_62 : mD cX8_pastes 62 .iadd 1 63 := ⟨by decide +kernel, rfl⟩
theorem dX8_pastes_63 : mD cX8_pastes 63 (.iload_n 3) 1 64 := ⟨by decide +kernel, rfl⟩
theorem dX8_pastes_64 : mD cX8_pastes 64 .iastore 1 65 := ⟨by decide +kernel, rfl⟩
theorem dX8_pastes_65 : mD cX8_pastes 65 (.iload 4) 2 67 := ⟨by decide +kernel, rfl⟩
theorem dX8_pastes_67 : mD cX8_pastes 67 .ireturn 1 68 := ⟨by decide +kernel, rfl⟩
theorem dX8_undo_0 : mD cX8_undo 0 (.aload_n 0) 1 1 := ⟨by decide +kernel, rfl⟩
theorem dX8_undo_1 : mD cX8_undo 1 (.getfield 32) 3 4 := ⟨by decide +kernel, rfl⟩
theorem dX8_undo_4 : mD cX8_undo 4 (.iconst 0) 1 5 := ⟨by decide +kernel, rfl⟩
theorem dX8_undo_5 : mD cX8_undo 5 .iaload 1 6 := ⟨by decide +kernel, rfl⟩
theorem dX8_undo_6 : mJ cX8_undo 6 (.ifCond .ne) 9 12 := mJ.of (6) (by decide +kernel) rfl (by decide)
theorem dX8_undo_9 : mD cX8_undo 9 (.bipush (-2)) 2 11 := ⟨by decide +kernel, rfl⟩
theorem dX8_undo_11 : mD cX8_undo 11 .ireturn 1 12 := ⟨by decide +kernel, rfl⟩
theorem dX8_undo_12 : mD cX8_undo 12 (.aload_n 0) 1 13 := ⟨by decide +kernel, rfl⟩
theorem dX8_undo_13 : mD cX8_undo 13 (.getfield 32) 3 16 := ⟨by decide +kernel, rfl⟩
theorem dX8_undo_16 : mD cX8_undo 16 (.iconst 0) 1 17 := ⟨by decide +kernel, rfl⟩
theorem dX8_undo_17 : mD cX8_undo 17 .dup2 1 18 := ⟨by decide +kernel, rfl⟩
theorem dX8_undo_18 : mD cX8_undo 18 .iaload 1 19 := ⟨by decide +kernel, rfl⟩
theorem dX8_undo_19 : mD cX8_undo 19 (.iconst 1) 1 20 := ⟨by decide +kernel, rfl⟩
theorem dX8_undo_20 : mD cX8_undo 20 .isub 1 21 := ⟨by decide +kernel, rfl⟩
theorem dX8_undo_21 : mD cX8_undo 21 .iastore 1 22 := ⟨by decide +kernel, rfl⟩
theorem dX8_undo_22 : mD cX8_undo 22 (.iconst 0) 1 23 := ⟨by decide +kernel, rfl⟩
theorem dX8_undo_23 : mD cX8_undo 23 (.istore_n 1) 1 24 := ⟨by decide +kernel, rfl⟩
theorem dX8_undo_24 : mD cX8_undo 24 (.iload_n 1) 1 25 := ⟨by decide +kernel, rfl⟩
theorem dX8_undo_25 : mD cX8_undo 25 (.bipush 33) 2 27 := ⟨by decide +kernel, rfl⟩
theorem dX8_undo_27 : mJ cX8_undo 27 (.if_icmp .ge) 30 58 := mJ.of (31) (by decide +kernel) rfl (by decide)
theorem dX8_undo_30 : mD cX8_undo 30 (.aload_n 0) 1 31 := ⟨by decide +kernel, rfl⟩
theorem dX8_undo_31 : mD cX8_undo 31 (.getfield 29) 3 34 := ⟨by decide +kernel, rfl⟩
theorem dX8_undo_34 : mD cX8_undo 34 (.iload_n 1) 1 35 := ⟨by decide +kernel, rfl⟩
theorem dX8_undo_35 : mD cX8_undo 35 (.aload_n 0) 1 36 := ⟨by decide +kernel, rfl⟩
theorem dX8_undo_36 : mD cX8_undo 36 (.getfield 35) 3 39 := ⟨by decide +kernel, rfl⟩
theorem dX8_undo_39 : mD cX8_undo 39 (.bipush 33) 2 41 := ⟨by decide +kernel, rfl⟩
theorem dX8_undo_41 : mD cX8_undo 41 (.aload_n 0) 1 42 := ⟨by decide +kernel, rfl⟩
theorem dX8_undo_42 : mD cX8_undo 42 (.getfield 32) 3 45 := ⟨by decide +kernel, rfl⟩
theorem dX8_undo_45 : mD cX8_undo 45 (.iconst 0) 1 46 := ⟨by decide +kernel, rfl⟩
theorem dX8_undo_46 : mD cX8_undo 46 .iaload 1 47 := ⟨by decide +kernel, rfl⟩
theorem dX8_undo_47 : mD cX8_undo 47 .imul 1 48 := ⟨by decide +kernel, rfl⟩
theorem dX8_undo_48 : mD cX8_undo 48 (.iload_n 1) 1 49 := ⟨by decide +kernel, rfl⟩
theorem dX8_undo_49 : mD cX8_undo 49 .iadd 1 50 := ⟨by decide +kernel, rfl⟩
theorem dX8_undo_50 : mD cX8_undo 50 .iaload 1 51 := ⟨by decide +kernel, rfl⟩
theorem dX8_undo_51 : mD cX8_undo 51 .iastore 1 52 := ⟨by decide +kernel, rfl⟩
theorem dX8_undo_52 : mD cX8_undo 52 (.iinc 1 1) 3 55 := ⟨by decide +kernel, rfl⟩
theorem dX8_undo_55 : mJ cX8_undo 55 .goto 58 24 := mJ.of (-31) (by decide +kernel) rfl (by decide)
theorem dX8_undo_58 : mD cX8_undo 58 (.aload_n 0) 1 59 := ⟨by decide +kernel, rfl⟩
theorem dX8_undo_59 : mD cX8_undo 59 (.getfield 32) 3 62 := ⟨by decide +kernel, rfl⟩
theorem dX8_undo_62 : mD cX8_undo 62 (.iconst 0) 1 63 := ⟨by decide +kernel, rfl⟩
theorem dX8_undo_63 : mD cX8_undo 63 .iaload 1 64 := ⟨by decide +kernel, rfl⟩
theorem dX8_undo_64 : mD cX8_undo 64 .ireturn 1 65 := ⟨by decide +kernel, rfl⟩
theorem dX8_inFront_0 : mD cX8_inFront 0 (.aload_n 0) 1 1 := ⟨by decide +kernel, rfl⟩
theorem dX8_inFront_1 : mD cX8_inFront 1 (.getfield 29) 3 4 := ⟨by decide +kernel, rfl⟩
theorem dX8_inFront_4 : mD cX8_inFront 4 (.bipush 6) 2 6 := ⟨by decide +kernel, rfl⟩
theorem dX8_inFront_6 : mD cX8_inFront 6 (.iload_n 1) 1 7 := ⟨by decide +kernel, rfl⟩
theorem dX8_inFront_7 : mD cX8_inFront 7 .imul 1 8 := ⟨by decide +kernel, rfl⟩
theorem dX8_inFront_8 : mD cX8_inFront 8 (.aload_n 0) 1 9 := ⟨by decide +kernel, rfl⟩
theorem dX8_inFront_9 : mD cX8_inFront 9 (.getfield 29) 3 12 := ⟨by decide +kernel, rfl⟩
theorem dX8_inFront_12 : mD cX8_inFront 12 (.bipush 28) 2 14 := ⟨by decide +kernel, rfl⟩
theorem dX8_inFront_14 : mD cX8_inFront 14 (.iload_n 1) 1 15 := ⟨by decide +kernel, rfl⟩
theorem dX8_inFront_15 : mD cX8_inFront 15 .iadd 1 16 := ⟨by decide +kernel, rfl⟩
theorem dX8_inFront_16 : mD cX8_inFront 16 .iaload 1 17 := ⟨by decide +kernel, rfl⟩
theorem dX8_inFront_17 : mD cX8_inFront 17 .iadd 1 18 := ⟨by decide +kernel, rfl⟩
theorem dX8_inFront_18 : mD cX8_inFront 18 .iaload 1 19 := ⟨by decide +kernel, rfl⟩
theorem dX8_inFront_19 : mD cX8_inFront 19 .ireturn 1 20 := ⟨by decide +kernel, rfl⟩
theorem dX8_now_0 : mD cX8_now 0 (.iconst 0) 1 1 := ⟨by decide +kernel, rfl⟩
theorem dX8_now_1 : mD cX8_now 1 (.istore_n 2) 1 2 := ⟨by decide +kernel, rfl⟩
theorem dX8_now_2 : mD cX8_now 2 (.iload_n 1) 1 3 := ⟨by decide +kernel, rfl⟩
theorem dX8_now_3 : decode cX8_now 3 = .ok (.tableswitch 164 0 4 #[33, 41, 80, 122, 159], 33) := by decide +kernel
theorem dX8_now_36 : mD cX8_now 36 (.aload_n 0) 1 37 := ⟨by decide +kernel, rfl⟩
theorem dX8_now_37 : mD cX8_now 37 (.getfield 29) 3 40 := ⟨by decide +kernel, rfl⟩
theorem dX8_now_40 : mD cX8_now 40 (.bipush 32) 2 42 := ⟨by decide +kernel, rfl⟩
theorem dX8_now_42 : mD cX8_now 42 .iaload 1 43 := ⟨by decide +kernel, rfl⟩
theorem dX8_now_43 : mD cX8_now 43 .ireturn 1 44 := ⟨by decide +kernel, rfl⟩
theorem dX8_now_44 : mD cX8_now 44 (.iconst 0) 1 45 := ⟨by decide +kernel, rfl⟩
theorem dX8_now_45 : mD cX8_now 45 (.istore_n 3) 1 46 := ⟨by decide +kernel, rfl⟩
theorem dX8_now_46 : mD cX8_now 46 (.iload_n 3) 1 47 := ⟨by decide +kernel, rfl⟩
theorem dX8_now_47 : mD cX8_now 47 (.aload_n 0) 1 48 := ⟨by decide +kernel, rfl⟩
theorem dX8_now_48 : mD cX8_now 48 (.getfield 13) 3 51 := ⟨by decide +kernel, rfl⟩
theorem dX8_now_51 : mD cX8_now 51 (.iconst 0) 1 52 := ⟨by decide +kernel, rfl⟩
theorem dX8_now_52 : mD cX8_now 52 .iaload 1 53 := ⟨by decide +kernel, rfl⟩
theorem dX8_now_53 : mJ cX8_now 53 (.if_icmp .ge) 56 81 := mJ.of (28) (by decide +kernel) rfl (by decide)
theorem dX8_now_56 : mD cX8_now 56 (.bipush 10) 2 58 := ⟨by decide +kernel, rfl⟩
theorem dX8_now_58 : mD cX8_now 58 (.iload_n 2) 1 59 := ⟨by decide +kernel, rfl⟩
theorem dX8_now_59 : mD cX8_now 59 .imul 1 60 := ⟨by decide +kernel, rfl⟩
theorem dX8_now_60 : mD cX8_now 60 (.aload_n 0) 1 61 := ⟨by decide +kernel, rfl⟩
theorem dX8_now_61 : mD cX8_now 61 (.aload_n 0) 1 62 := ⟨by decide +kernel, rfl⟩
theorem dX8_now_62 : mD cX8_now 62 (.getfield 29) 3 65 := ⟨by decide +kernel, rfl⟩
theorem dX8_now_65 : mD cX8_now 65 (.bipush 24) 2 67 := ⟨by decide +kernel, rfl⟩
theorem dX8_now_67 : mD cX8_now 67 (.iload_n 3) 1 68 := ⟨by decide +kernel, rfl⟩
theorem dX8_now_68 : mD cX8_now 68 .iadd 1 69 := ⟨by decide +kernel, rfl⟩
theorem dX8_now_69 : mD cX8_now 69 .iaload 1 70 := ⟨by decide +kernel, rfl⟩
theorem dX8_now_70 : mD cX8_now 70 (.invokevirtual 172) 3 73 := ⟨by decide +kernel, rfl⟩
theorem dX8_now_73 : mD cX8_now 73 .iadd 1 74 := ⟨by decide +kernel, rfl⟩
theorem dX8_now_74 : mD cX8_now 74 (.istore_n 2) 1 75 := ⟨by decide +kernel, rfl⟩
theorem dX8_now_75 : mD cX8_now 75 (.iinc 3 1) 3 78 := ⟨by decide +kernel, rfl⟩
theorem dX8_now_78 : mJ cX8_now 78 .goto 81 46 := mJ.of (-32) (by decide +kernel) rfl (by decide)
theorem dX8_now_81 : mD cX8_now 81 (.iload_n 2) 1 82 := ⟨by decide +kernel, rfl⟩
theorem dX8_now_82 : mD cX8_now 82 .ireturn 1 83 := ⟨by decide +kernel, rfl⟩
theorem dX8_now_83 : mD cX8_now 83 (.iconst 0) 1 84 := ⟨by decide +kernel, rfl⟩
theorem dX8_now_84 : mD cX8_now 84 (.istore_n 3) 1 85 := ⟨by decide +kernel, rfl⟩
theorem dX8_now_85 : mD cX8_now 85 (.iload_n 3) 1 86 := ⟨by decide +kernel, rfl⟩
theorem dX8_now_86 : mD cX8_now 86 (.aload_n 0) 1 87 := ⟨by decide +kernel, rfl⟩
theorem dX8_now_87 : mD cX8_now 87 (.getfield 13) 3 90 := ⟨by decide +kernel, rfl⟩
theorem dX8_now_90 : mD cX8_now 90 (.iconst 0) 1 91 := ⟨by decide +kernel, rfl⟩
theorem dX8_now_91 : mD cX8_now 91 .iaload 1 92 := ⟨by decide +kernel, rfl⟩
theorem dX8_now_92 : mD cX8_now 92 (.invokestatic 102) 3 95 := ⟨by decide +kernel, rfl⟩
theorem dX8_now_95 : mJ cX8_now 95 (.if_icmp .ge) 98 123 := mJ.of (28) (by decide +kernel) rfl (by decide)
theorem dX8_now_98 : mD cX8_now 98 (.iload_n 2) 1 99 := ⟨by decide +kernel, rfl⟩
theorem dX8_now_99 : mD cX8_now 99 (.aload_n 0) 1 100 := ⟨by decide +kernel, rfl⟩
theorem dX8_now_100 : mD cX8_now 100 (.iload_n 3) 1 101 := ⟨by decide +kernel, rfl⟩
theorem dX8_now_101 : mD cX8_now 101 (.iconst 0) 1 102 := ⟨by decide +kernel, rfl⟩
theorem dX8_now_102 : mD cX8_now 102 (.bipush 6) 2 104 := ⟨by decide +kernel, rfl⟩
theorem dX8_now_104 : mD cX8_now 104 (.invokevirtual 139) 3 107 := ⟨by decide +kernel, rfl⟩
theorem dX8_now_107 : mJ cX8_now 107 (.ifCond .eq) 110 114 := mJ.of (7) (by decide +kernel) rfl (by decide)
theorem dX8_now_110 : mD cX8_now 110 (.iconst 1) 1 111 := ⟨by decide +kernel, rfl⟩
theorem dX8_now_111 : mJ cX8_now 111 .goto 114 115 := mJ.of (4) (by decide +kernel) rfl (by decide)
theorem dX8_now_114 : mD cX8_now 114 (.iconst 0) 1 115 := ⟨by decide +kernel, rfl⟩
theorem dX8_now_115 : mD cX8_now 115 .iadd 1 116 := ⟨by decide +kernel, rfl⟩
theorem dX8_now_116 : mD cX8_now 116 (.istore_n 2) 1 117 := ⟨by decide +kernel, rfl⟩
theorem dX8_now_117 : mD cX8_now 117 (.iinc 3 1) 3 120 := ⟨by decide +kernel, rfl⟩
theorem dX8_now_120 : mJ cX8_now 120 .goto 123 85 := mJ.of (-35) (by decide +kernel) rfl (by decide)
theorem dX8_now_123 : mD cX8_now 123 (.iload_n 2) 1 124 := ⟨by decide +kernel, rfl⟩
theorem dX8_now_124 : mD cX8_now 124 .ireturn 1 125 := ⟨by decide +kernel, rfl⟩
theorem dX8_now_125 : mD cX8_now 125 (.iconst 0) 1 126 := ⟨by decide +kernel, rfl⟩
theorem dX8_now_126 : mD cX8_now 126 (.istore_n 3) 1 127 := ⟨by decide +kernel, rfl⟩
theorem dX8_now_127 : mD cX8_now 127 (.iload_n 3) 1 128 := ⟨by decide +kernel, rfl⟩
theorem dX8_now_128 : mD cX8_now 128 (.aload_n 0) 1 129 := ⟨by decide +kernel, rfl⟩
theorem dX8_now_129 : mD cX8_now 129 (.getfield 13) 3 132 := ⟨by decide +kernel, rfl⟩
theorem dX8_now_132 : mD cX8_now 132 (.iconst 0) 1 133 := ⟨by decide +kernel, rfl⟩
theorem dX8_now_133 : mD cX8_now 133 .iaload 1 134 := ⟨by decide +kernel, rfl⟩
theorem dX8_now_134 : mD cX8_now 134 (.invokestatic 102) 3 137 := ⟨by decide +kernel, rfl⟩
theorem dX8_now_137 : mJ cX8_now 137 (.if_icmp .ge) 140 159 := mJ.of (22) (by decide +kernel) rfl (by decide)
theorem dX8_now_140 : mD cX8_now 140 (.aload_n 0) 1 141 := ⟨by decide +kernel, rfl⟩
theorem dX8_now_141 : mD cX8_now 141 (.iload_n 3) 1 142 := ⟨by decide +kernel, rfl⟩
theorem dX8_now_142 : mD cX8_now 142 (.iconst 0) 1 143 := ⟨by decide +kernel, rfl⟩
theorem dX8_now_143 : mD cX8_now 143 (.bipush 6) 2 145 := ⟨by decide +kernel, rfl⟩
theorem dX8_now_145 : mD cX8_now 145 (.invokevirtual 139) 3 148 := ⟨by decide +kernel, rfl⟩
theorem dX8_now_148 : mJ cX8_now 148 (.ifCond .ne) 151 153 := mJ.of (5) (by decide +kernel) rfl (by decide)
theorem dX8_now_151 : mD cX8_now 151 (.iload_n 3) 1 152 := ⟨by decide +kernel, rfl⟩
theorem dX8_now_152 : mD cX8_now 152 .ireturn 1 153 := ⟨by decide +kernel, rfl⟩
theorem dX8_now_153 : mD cX8_now 153 (.iinc 3 1) 3 156 := ⟨by decide +kernel, rfl⟩
theorem dX8_now_156 : mJ cX8_now 156 .goto 159 127 := mJ.of (-29) (by decide +kernel) rfl (by decide)
theorem dX8_now_159 : mD cX8_now 159 (.bipush (-9)) 2 161 := ⟨by decide +kernel, rfl⟩
theorem dX8_now_161 : mD cX8_now 161 .ireturn 1 162 := ⟨by decide +kernel, rfl⟩
theorem dX8_now_162 : mD cX8_now 162 (.aload_n 0) 1 163 := ⟨by decide +kernel, rfl⟩
theorem dX8_now_163 : mD cX8_now 163 (.invokevirtual 142) 3 166 := ⟨by decide +kernel, rfl⟩
theorem dX8_now_166 : mD cX8_now 166 .ireturn 1 167 := ⟨by decide +kernel, rfl⟩
theorem dX8_now_167 : mD cX8_now 167 (.iconst (-1)) 1 168 := ⟨by decide +kernel, rfl⟩
theorem dX8_now_168 : mD cX8_now 168 .ireturn 1 169 := ⟨by decide +kernel, rfl⟩
theorem dX8_isTold_0 : mD cX8_isTold 0 (.iconst 1) 1 1 := ⟨by decide +kernel, rfl⟩
theorem dX8_isTold_1 : mD cX8_isTold 1 (.istore_n 2) 1 2 := ⟨by decide +kernel, rfl⟩
theorem dX8_isTold_2 : mD cX8_isTold 2 (.iconst 0) 1 3 := ⟨by decide +kernel, rfl⟩
theorem dX8_isTold_3 : mD cX8_isTold 3 (.istore_n 3) 1 4 := ⟨by decide +kernel, rfl⟩
theorem dX8_isTold_4 : mD cX8_isTold 4 (.iload_n 3) 1 5 := ⟨by decide +kernel, rfl⟩
theorem dX8_isTold_5 : mD cX8_isTold 5 (.aload_n 0) 1 6 := ⟨by decide +kernel, rfl⟩
theorem dX8_isTold_6 : mD cX8_isTold 6 (.getfield 13) 3 9 := ⟨by decide +kernel, rfl⟩
theorem dX8_isTold_9 : mD cX8_isTold 9 (.iconst 0) 1 10 := ⟨by decide +kernel, rfl⟩
theorem dX8_isTold_10 : mD cX8_isTold 10 .iaload 1 11 := ⟨by decide +kernel, rfl⟩
theorem dX8_isTold_11 : mJ cX8_isTold 11 (.if_icmp .ge) 14 56 := mJ.of (45) (by decide +kernel) rfl (by decide)
theorem dX8_isTold_14 : mD cX8_isTold 14 (.iload_n 2) 1 15 := ⟨by decide +kernel, rfl⟩
theorem dX8_isTold_15 : mJ cX8_isTold 15 (.ifCond .eq) 18 48 := mJ.of (33) (by decide +kernel) rfl (by decide)
theorem dX8_isTold_18 : mD cX8_isTold 18 (.aload_n 0) 1 19 := ⟨by decide +kernel, rfl⟩
theorem dX8_isTold_19 : mD cX8_isTold 19 (.aload_n 0) 1 20 := ⟨by decide +kernel, rfl⟩
theorem dX8_isTold_20 : mD cX8_isTold 20 (.aload_n 0) 1 21 := ⟨by decide +kernel, rfl⟩
theorem dX8_isTold_21 : mD cX8_isTold 21 (.getfield 29) 3 24 := ⟨by decide +kernel, rfl⟩
theorem dX8_isTold_24 : mD cX8_isTold 24 (.bipush 24) 2 26 := ⟨by decide +kernel, rfl⟩
theorem dX8_isTold_26 : mD cX8_isTold 26 (.iload_n 3) 1 27 := ⟨by decide +kernel, rfl⟩
theorem dX8_isTold_27 : mD cX8_isTold 27 .iadd 1 28 := ⟨by decide +kernel, rfl⟩
theorem dX8_isTold_28 : mD cX8_isTold 28 .iaload 1 29 := ⟨by decide +kernel, rfl⟩
theorem dX8_isTold_29 : mD cX8_isTold 29 (.invokevirtual 172) 3 32 := ⟨by decide +kernel, rfl⟩
theorem dX8_isTold_32 : mD cX8_isTold 32 (.aload_n 0) 1 33 := ⟨by decide +kernel, rfl⟩
theorem dX8_isTold_33 : mD cX8_isTold 33 (.iload_n 1) 1 34 := ⟨by decide +kernel, rfl⟩
theorem dX8_isTold_34 : mD cX8_isTold 34 (.iload_n 3) 1 35 := ⟨by decide +kernel, rfl⟩
theorem dX8_isTold_35 : mD cX8_isTold 35 (.invokevirtual 133) 3 38 := ⟨by decide +kernel, rfl⟩
theorem dX8_isTold_38 : mD cX8_isTold 38 (.invokevirtual 123) 3 41 := ⟨by decide +kernel, rfl⟩
theorem dX8_isTold_41 : mJ cX8_isTold 41 (.ifCond .eq) 44 48 := mJ.of (7) (by decide +kernel) rfl (by decide)
theorem dX8_isTold_44 : mD cX8_isTold 44 (.iconst 1) 1 45 := ⟨by decide +kernel, rfl⟩
theorem dX8_isTold_45 : mJ cX8_isTold 45 .goto 48 49 := mJ.of (4) (by decide +kernel) rfl (by decide)
theorem dX8_isTold_48 : mD cX8_isTold 48 (.iconst 0) 1 49 := ⟨by decide +kernel, rfl⟩
theorem dX8_isTold_49 : mD cX8_isTold 49 (.istore_n 2) 1 50 := ⟨by decide +kernel, rfl⟩
theorem dX8_isTold_50 : mD cX8_isTold 50 (.iinc 3 1) 3 53 := ⟨by decide +kernel, rfl⟩
theorem dX8_isTold_53 : mJ cX8_isTold 53 .goto 56 4 := mJ.of (-49) (by decide +kernel) rfl (by decide)
theorem dX8_isTold_56 : mD cX8_isTold 56 (.iload_n 2) 1 57 := ⟨by decide +kernel, rfl⟩
theorem dX8_isTold_57 : mD cX8_isTold 57 .ireturn 1 58 := ⟨by decide +kernel, rfl⟩
theorem dX8_turnsFor_0 : mD cX8_turnsFor 0 (.ldc 175) 2 2 := ⟨by decide +kernel, rfl⟩
theorem dX8_turnsFor_2 : mD cX8_turnsFor 2 (.istore 6) 2 4 := ⟨by decide +kernel, rfl⟩
theorem dX8_turnsFor_4 : mD cX8_turnsFor 4 (.iconst 0) 1 5 := ⟨by decide +kernel, rfl⟩
theorem dX8_turnsFor_5 : mD cX8_turnsFor 5 (.istore 7) 2 7 := ⟨by decide +kernel, rfl⟩
theorem dX8_turnsFor_7 : mD cX8_turnsFor 7 (.iload 7) 2 9 := ⟨by decide +kernel, rfl⟩
theorem dX8_turnsFor_9 : mD cX8_turnsFor 9 (.bipush 6) 2 11 := ⟨by decide +kernel, rfl⟩
theorem dX8_turnsFor_11 : mJ cX8_turnsFor 11 (.if_icmp .ge) 14 225 := mJ.of (214) (by decide +kernel) rfl (by decide)
theorem dX8_turnsFor_14 : mD cX8_turnsFor 14 (.aload_n 0) 1 15 := ⟨by decide +kernel, rfl⟩
theorem dX8_turnsFor_15 : mD cX8_turnsFor 15 (.aload_n 0) 1 16 := ⟨by decide +kernel, rfl⟩
theorem dX8_turnsFor_16 : mD cX8_turnsFor 16 (.getfield 29) 3 19 := ⟨by decide +kernel, rfl⟩
theorem dX8_turnsFor_19 : mD cX8_turnsFor 19 (.bipush 6) 2 21 := ⟨by decide +kernel, rfl⟩
theorem dX8_turnsFor_21 : mD cX8_turnsFor 21 (.iload_n 1) 1 22 := ⟨by decide +kernel, rfl⟩
theorem dX8_turnsFor_22 : mD cX8_turnsFor 22 .imul 1 23 := ⟨by decide +kernel, rfl⟩
theorem dX8_turnsFor_23 : mD cX8_turnsFor 23 (.iload 7) 2 25 := ⟨by decide +kernel, rfl⟩
theorem dX8_turnsFor_25 : mD cX8_turnsFor 25 .iadd 1 26 := ⟨by decide +kernel, rfl⟩
theorem dX8_turnsFor_26 : mD cX8_turnsFor 26 .iaload 1 27 := ⟨by decide +kernel, rfl⟩
theorem dX8_turnsFor_27 : mD cX8_turnsFor 27 (.iload_n 2) 1 28 := ⟨by decide +kernel, rfl⟩
theorem dX8_turnsFor_28 : mD cX8_turnsFor 28 (.invokevirtual 123) 3 31 := ⟨by decide +kernel, rfl⟩
theorem dX8_turnsFor_31 : mJ cX8_turnsFor 31 (.ifCond .eq) 34 219 := mJ.of (188) (by decide +kernel) rfl (by decide)
theorem dX8_turnsFor_34 : mD cX8_turnsFor 34 (.aload_n 0) 1 35 := ⟨by decide +kernel, rfl⟩
theorem dX8_turnsFor_35 : mD cX8_turnsFor 35 (.getfield 29) 3 38 := ⟨by decide +kernel, rfl⟩
theorem dX8_turnsFor_38 : mD cX8_turnsFor 38 (.bipush 28) 2 40 := ⟨by decide +kernel, rfl⟩
theorem dX8_turnsFor_40 : mD cX8_turnsFor 40 (.iload_n 1) 1 41 := ⟨by decide +kernel, rfl⟩
theorem dX8_turnsFor_41 : mD cX8_turnsFor 41 .iadd 1 42 := ⟨by decide +kernel, rfl⟩
theorem dX8_turnsFor_42 : mD cX8_turnsFor 42 .iaload 1 43 := ⟨by decide +kernel, rfl⟩
theorem dX8_turnsFor_43 : mD cX8_turnsFor 43 (.iload 7) 2 45 := ⟨by decide +kernel, rfl⟩
theorem dX8_turnsFor_45 : mD cX8_turnsFor 45 (.invokestatic 166) 3 48 := ⟨by decide +kernel, rfl⟩
theorem dX8_turnsFor_48 : mD cX8_turnsFor 48 (.istore 8) 2 50 := ⟨by decide +kernel, rfl⟩
theorem dX8_turnsFor_50 : mD cX8_turnsFor 50 (.iload 5) 2 52 := ⟨by decide +kernel, rfl⟩
theorem dX8_turnsFor_52 : mD cX8_turnsFor 52 (.iconst 1) 1 53 := ⟨by decide +kernel, rfl⟩
theorem dX8_turnsFor_53 : mJ cX8_turnsFor 53 (.if_icmp .ne) 56 72 := mJ.of (19) (by decide +kernel) rfl (by decide)
theorem dX8_turnsFor_56 : mD cX8_turnsFor 56 (.iload 8) 2 58 := ⟨by decide +kernel, rfl⟩
theorem dX8_turnsFor_58 : mD cX8_turnsFor 58 (.iload 6) 2 60 := ⟨by decide +kernel, rfl⟩
theorem dX8_turnsFor_60 : mJ cX8_turnsFor 60 (.if_icmp .ge) 63 68 := mJ.of (8) (by decide +kernel) rfl (by decide)
theorem dX8_turnsFor_63 : mD cX8_turnsFor 63 (.iload 8) 2 65 := ⟨by decide +kernel, rfl⟩
theorem dX8_turnsFor_65 : mJ cX8_turnsFor 65 .goto 68 70 := mJ.of (5) (by decide +kernel) rfl (by decide)
theorem dX8_turnsFor_68 : mD cX8_turnsFor 68 (.iload 6) 2 70 := ⟨by decide +kernel, rfl⟩
theorem dX8_turnsFor_70 : mD cX8_turnsFor 70 (.istore 6) 2 72 := ⟨by decide +kernel, rfl⟩
theorem dX8_turnsFor_72 : mD cX8_turnsFor 72 (.iconst 0) 1 73 := ⟨by decide +kernel, rfl⟩
theorem dX8_turnsFor_73 : mD cX8_turnsFor 73 (.istore 9) 2 75 := ⟨by decide +kernel, rfl⟩
theorem dX8_turnsFor_75 : mD cX8_turnsFor 75 (.iload 9) 2 77 := ⟨by decide +kernel, rfl⟩
theorem dX8_turnsFor_77 : mD cX8_turnsFor 77 (.bipush 6) 2 79 := ⟨by decide +kernel, rfl⟩
theorem dX8_turnsFor_79 : mJ cX8_turnsFor 79 (.if_icmp .ge) 82 219 := mJ.of (140) (by decide +kernel) rfl (by decide)
theorem dX8_turnsFor_82 : mD cX8_turnsFor 82 (.iload 5) 2 84 := ⟨by decide +kernel, rfl⟩
theorem dX8_turnsFor_84 : mD cX8_turnsFor 84 (.iconst 1) 1 85 := ⟨by decide +kernel, rfl⟩
theorem dX8_turnsFor_85 : mJ cX8_turnsFor 85 (.if_icmp .le) 88 219 := mJ.of (134) (by decide +kernel) rfl (by decide)
theorem dX8_turnsFor_88 : mD cX8_turnsFor 88 (.aload_n 0) 1 89 := ⟨by decide +kernel, rfl⟩
theorem dX8_turnsFor_89 : mD cX8_turnsFor 89 (.aload_n 0) 1 90 := ⟨by decide +kernel, rfl⟩
theorem dX8_turnsFor_90 : mD cX8_turnsFor 90 (.getfield 29) 3 93 := ⟨by decide +kernel, rfl⟩
theorem dX8_turnsFor_93 : mD cX8_turnsFor 93 (.bipush 6) 2 95 := ⟨by decide +kernel, rfl⟩
theorem dX8_turnsFor_95 : mD cX8_turnsFor 95 (.iload_n 1) 1 96 := ⟨by decide +kernel, rfl⟩
theorem dX8_turnsFor_96 : mD cX8_turnsFor 96 .imul 1 97 := ⟨by decide +kernel, rfl⟩
theorem dX8_turnsFor_97 : mD cX8_turnsFor 97 (.iload 9) 2 99 := ⟨by decide +kernel, rfl⟩
theorem dX8_turnsFor_99 : mD cX8_turnsFor 99 .iadd 1 100 := ⟨by decide +kernel, rfl⟩
theorem dX8_turnsFor_100 : mD cX8_turnsFor 100 .iaload 1 101 := ⟨by decide +kernel, rfl⟩
theorem dX8_turnsFor_101 : mD cX8_turnsFor 101 (.iload_n 3) 1 102 := ⟨by decide +kernel, rfl⟩
theorem dX8_turnsFor_102 : mD cX8_turnsFor 102 (.invokevirtual 123) 3 105 := ⟨by decide +kernel, rfl⟩
theorem dX8_turnsFor_105 : mJ cX8_turnsFor 105 (.ifCond .eq) 108 213 := mJ.of (108) (by decide +kernel) rfl (by decide)
theorem dX8_turnsFor_108 : mD cX8_turnsFor 108 (.iload 8) 2 110 := ⟨by decide +kernel, rfl⟩
theorem dX8_turnsFor_110 : mD cX8_turnsFor 110 (.iload 7) 2 112 := ⟨by decide +kernel, rfl⟩
theorem dX8_turnsFor_112 : mD cX8_turnsFor 112 (.iload 9) 2 114 := ⟨by decide +kernel, rfl⟩
theorem dX8_turnsFor_114 : mD cX8_turnsFor 114 (.invokestatic 166) 3 117 := ⟨by decide +kernel, rfl⟩
theorem dX8_turnsFor_117 : mD cX8_turnsFor 117 .iadd 1 118 := ⟨by decide +kernel, rfl⟩
theorem dX8_turnsFor_118 : mD cX8_turnsFor 118 (.istore 10) 2 120 := ⟨by decide +kernel, rfl⟩
theorem dX8_turnsFor_120 : mD cX8_turnsFor 120 (.iload 5) 2 122 := ⟨by decide +kernel, rfl⟩
theorem dX8_turnsFor_122 : mD cX8_turnsFor 122 (.iconst 2) 1 123 := ⟨by decide +kernel, rfl⟩
theorem dX8_turnsFor_123 : mJ cX8_turnsFor 123 (.if_icmp .ne) 126 142 := mJ.of (19) (by decide +kernel) rfl (by decide)
theorem dX8_turnsFor_126 : mD cX8_turnsFor 126 (.iload 10) 2 128 := ⟨by decide +kernel, rfl⟩
theorem dX8_turnsFor_128 : mD cX8_turnsFor 128 (.iload 6) 2 130 := ⟨by decide +kernel, rfl⟩
theorem dX8_turnsFor_130 : mJ cX8_turnsFor 130 (.if_icmp .ge) 133 138 := mJ.of (8) (by decide +kernel) rfl (by decide)
theorem dX8_turnsFor_133 : mD cX8_turnsFor 133 (.iload 10) 2 135 := ⟨by decide +kernel, rfl⟩
theorem dX8_turnsFor_135 : mJ cX8_turnsFor 135 .goto 138 140 := mJ.of (5) (by decide +kernel) rfl (by decide)
theorem dX8_turnsFor_138 : mD cX8_turnsFor 138 (.iload 6) 2 140 := ⟨by decide +kernel, rfl⟩
theorem dX8_turnsFor_140 : mD cX8_turnsFor 140 (.istore 6) 2 142 := ⟨by decide +kernel, rfl⟩
theorem dX8_turnsFor_142 : mD cX8_turnsFor 142 (.iconst 0) 1 143 := ⟨by decide +kernel, rfl⟩
theorem dX8_turnsFor_143 : mD cX8_turnsFor 143 (.istore 11) 2 145 := ⟨by decide +kernel, rfl⟩
theorem dX8_turnsFor_145 : mD cX8_turnsFor 145 (.iload 11) 2 147 := ⟨by decide +kernel, rfl⟩
theorem dX8_turnsFor_147 : mD cX8_turnsFor 147 (.bipush 6) 2 149 := ⟨by decide +kernel, rfl⟩
theorem dX8_turnsFor_149 : mJ cX8_turnsFor 149 (.if_icmp .ge) 152 213 := mJ.of (64) (by decide +kernel) rfl (by decide)
theorem dX8_turnsFor_152 : mD cX8_turnsFor 152 (.iload 5) 2 154 := ⟨by decide +kernel, rfl⟩
theorem dX8_turnsFor_154 : mD cX8_turnsFor 154 (.iconst 2) 1 155 := ⟨by decide +kernel, rfl⟩
theorem dX8_turnsFor_155 : mJ cX8_turnsFor 155 (.if_icmp .le) 158 213 := mJ.of (58) (by decide +kernel) rfl (by decide)
theorem dX8_turnsFor_158 : mD cX8_turnsFor 158 (.aload_n 0) 1 159 := ⟨by decide +kernel, rfl⟩
theorem dX8_turnsFor_159 : mD cX8_turnsFor 159 (.aload_n 0) 1 160 := ⟨by decide +kernel, rfl⟩
theorem dX8_turnsFor_160 : mD cX8_turnsFor 160 (.getfield 29) 3 163 := ⟨by decide +kernel, rfl⟩
theorem dX8_turnsFor_163 : mD cX8_turnsFor 163 (.bipush 6) 2 165 := ⟨by decide +kernel, rfl⟩
theorem dX8_turnsFor_165 : mD cX8_turnsFor 165 (.iload_n 1) 1 166 := ⟨by decide +kernel, rfl⟩
theorem dX8_turnsFor_166 : mD cX8_turnsFor 166 .imul 1 167 := ⟨by decide +kernel, rfl⟩
theorem dX8_turnsFor_167 : mD cX8_turnsFor 167 (.iload 11) 2 169 := ⟨by decide +kernel, rfl⟩
theorem dX8_turnsFor_169 : mD cX8_turnsFor 169 .iadd 1 170 := ⟨by decide +kernel, rfl⟩
theorem dX8_turnsFor_170 : mD cX8_turnsFor 170 .iaload 1 171 := ⟨by decide +kernel, rfl⟩
theorem dX8_turnsFor_171 : mD cX8_turnsFor 171 (.iload 4) 2 173 := ⟨by decide +kernel, rfl⟩
theorem dX8_turnsFor_173 : mD cX8_turnsFor 173 (.invokevirtual 123) 3 176 := ⟨by decide +kernel, rfl⟩
theorem dX8_turnsFor_176 : mJ cX8_turnsFor 176 (.ifCond .eq) 179 207 := mJ.of (31) (by decide +kernel) rfl (by decide)
theorem dX8_turnsFor_179 : mD cX8_turnsFor 179 (.iload 10) 2 181 := ⟨by decide +kernel, rfl⟩
theorem dX8_turnsFor_181 : mD cX8_turnsFor 181 (.iload 9) 2 183 := ⟨by decide +kernel, rfl⟩
theorem dX8_turnsFor_183 : mD cX8_turnsFor 183 (.iload 11) 2 185 := ⟨by decide +kernel, rfl⟩
theorem dX8_turnsFor_185 : mD cX8_turnsFor 185 (.invokestatic 166) 3 188 := ⟨by decide +kernel, rfl⟩
theorem dX8_turnsFor_188 : mD cX8_turnsFor 188 .iadd 1 189 := ⟨by decide +kernel, rfl⟩
theorem dX8_turnsFor_189 : mD cX8_turnsFor 189 (.istore 12) 2 191 := ⟨by decide +kernel, rfl⟩
theorem dX8_turnsFor_191 : mD cX8_turnsFor 191 (.iload 12) 2 193 := ⟨by decide +kernel, rfl⟩
theorem dX8_turnsFor_193 : mD cX8_turnsFor 193 (.iload 6) 2 195 := ⟨by decide +kernel, rfl⟩
theorem dX8_turnsFor_195 : mJ cX8_turnsFor 195 (.if_icmp .ge) 198 203 := mJ.of (8) (by decide +kernel) rfl (by decide)
theorem dX8_turnsFor_198 : mD cX8_turnsFor 198 (.iload 12) 2 200 := ⟨by decide +kernel, rfl⟩
theorem dX8_turnsFor_200 : mJ cX8_turnsFor 200 .goto 203 205 := mJ.of (5) (by decide +kernel) rfl (by decide)
theorem dX8_turnsFor_203 : mD cX8_turnsFor 203 (.iload 6) 2 205 := ⟨by decide +kernel, rfl⟩
theorem dX8_turnsFor_205 : mD cX8_turnsFor 205 (.istore 6) 2 207 := ⟨by decide +kernel, rfl⟩
theorem dX8_turnsFor_207 : mD cX8_turnsFor 207 (.iinc 11 1) 3 210 := ⟨by decide +kernel, rfl⟩
theorem dX8_turnsFor_210 : mJ cX8_turnsFor 210 .goto 213 145 := mJ.of (-65) (by decide +kernel) rfl (by decide)
theorem dX8_turnsFor_213 : mD cX8_turnsFor 213 (.iinc 9 1) 3 216 := ⟨by decide +kernel, rfl⟩
theorem dX8_turnsFor_216 : mJ cX8_turnsFor 216 .goto 219 75 := mJ.of (-141) (by decide +kernel) rfl (by decide)
theorem dX8_turnsFor_219 : mD cX8_turnsFor 219 (.iinc 7 1) 3 222 := ⟨by decide +kernel, rfl⟩
theorem dX8_turnsFor_222 : mJ cX8_turnsFor 222 .goto 225 7 := mJ.of (-215) (by decide +kernel) rfl (by decide)
theorem dX8_turnsFor_225 : mD cX8_turnsFor 225 (.iload 6) 2 227 := ⟨by decide +kernel, rfl⟩
theorem dX8_turnsFor_227 : mD cX8_turnsFor 227 .ireturn 1 228 := ⟨by decide +kernel, rfl⟩
theorem dX8_tellTurns_0 : mD cX8_tellTurns 0 (.aload_n 0) 1 1 := ⟨by decide +kernel, rfl⟩
theorem dX8_tellTurns_1 : mD cX8_tellTurns 1 (.getfield 13) 3 4 := ⟨by decide +kernel, rfl⟩
theorem dX8_tellTurns_4 : mD cX8_tellTurns 4 (.iconst 0) 1 5 := ⟨by decide +kernel, rfl⟩
theorem dX8_tellTurns_5 : mD cX8_tellTurns 5 .iaload 1 6 := ⟨by decide +kernel, rfl⟩
theorem dX8_tellTurns_6 : mD cX8_tellTurns 6 (.istore_n 3) 1 7 := ⟨by decide +kernel, rfl⟩
theorem dX8_tellTurns_7 : mD cX8_tellTurns 7 (.iconst 0) 1 8 := ⟨by decide +kernel, rfl⟩
theorem dX8_tellTurns_8 : mD cX8_tellTurns 8 (.istore 4) 2 10 := ⟨by decide +kernel, rfl⟩
theorem dX8_tellTurns_10 : mD cX8_tellTurns 10 (.iload 4) 2 12 := ⟨by decide +kernel, rfl⟩
theorem dX8_tellTurns_12 : mD cX8_tellTurns 12 (.iload_n 3) 1 13 := ⟨by decide +kernel, rfl⟩
theorem dX8_tellTurns_13 : mJ cX8_tellTurns 13 (.if_icmp .ge) 16 149 := mJ.of (136) (by decide +kernel) rfl (by decide)
theorem dX8_tellTurns_16 : mD cX8_tellTurns 16 (.iconst 0) 1 17 := ⟨by decide +kernel, rfl⟩
theorem dX8_tellTurns_17 : mD cX8_tellTurns 17 (.istore 5) 2 19 := ⟨by decide +kernel, rfl⟩
theorem dX8_tellTurns_19 : mD cX8_tellTurns 19 (.iload 5) 2 21 := ⟨by decide +kernel, rfl⟩
theorem dX8_tellTurns_21 : mD cX8_tellTurns 21 (.iload_n 3) 1 22 := ⟨by decide +kernel, rfl⟩
theorem dX8_tellTurns_22 : mJ cX8_tellTurns 22 (.if_icmp .ge) 25 143 := mJ.of (121) (by decide +kernel) rfl (by decide)
theorem dX8_tellTurns_25 : mD cX8_tellTurns 25 (.iconst 0) 1 26 := ⟨by decide +kernel, rfl⟩
theorem dX8_tellTurns_26 : mD cX8_tellTurns 26 (.istore 6) 2 28 := ⟨by decide +kernel, rfl⟩
theorem dX8_tellTurns_28 : mD cX8_tellTurns 28 (.iload 6) 2 30 := ⟨by decide +kernel, rfl⟩
theorem dX8_tellTurns_30 : mD cX8_tellTurns 30 (.iload_n 3) 1 31 := ⟨by decide +kernel, rfl⟩
theorem dX8_tellTurns_31 : mJ cX8_tellTurns 31 (.if_icmp .ge) 34 137 := mJ.of (106) (by decide +kernel) rfl (by decide)
theorem dX8_tellTurns_34 : mD cX8_tellTurns 34 (.iconst 0) 1 35 := ⟨by decide +kernel, rfl⟩
theorem dX8_tellTurns_35 : mD cX8_tellTurns 35 (.istore 7) 2 37 := ⟨by decide +kernel, rfl⟩
theorem dX8_tellTurns_37 : mD cX8_tellTurns 37 (.iload 7) 2 39 := ⟨by decide +kernel, rfl⟩
theorem dX8_tellTurns_39 : mD cX8_tellTurns 39 (.iload_n 3) 1 40 := ⟨by decide +kernel, rfl⟩
theorem dX8_tellTurns_40 : mJ cX8_tellTurns 40 (.if_icmp .ge) 43 131 := mJ.of (91) (by decide +kernel) rfl (by decide)
theorem dX8_tellTurns_43 : mD cX8_tellTurns 43 (.iload_n 2) 1 44 := ⟨by decide +kernel, rfl⟩
theorem dX8_tellTurns_44 : mD cX8_tellTurns 44 (.iconst 1) 1 45 := ⟨by decide +kernel, rfl⟩
theorem dX8_tellTurns_45 : mJ cX8_tellTurns 45 (.if_icmp .le) 48 60 := mJ.of (15) (by decide +kernel) rfl (by decide)
theorem dX8_tellTurns_48 : mD cX8_tellTurns 48 (.aload_n 0) 1 49 := ⟨by decide +kernel, rfl⟩
theorem dX8_tellTurns_49 : mD cX8_tellTurns 49 (.iload_n 1) 1 50 := ⟨by decide +kernel, rfl⟩
theorem dX8_tellTurns_50 : mD cX8_tellTurns 50 (.iconst 1) 1 51 := ⟨by decide +kernel, rfl⟩
theorem dX8_tellTurns_51 : mD cX8_tellTurns 51 .iadd 1 52 := ⟨by decide +kernel, rfl⟩
theorem dX8_tellTurns_52 : mD cX8_tellTurns 52 (.iload 6) 2 54 := ⟨by decide +kernel, rfl⟩
theorem dX8_tellTurns_54 : mD cX8_tellTurns 54 (.invokevirtual 133) 3 57 := ⟨by decide +kernel, rfl⟩
theorem dX8_tellTurns_57 : mJ cX8_tellTurns 57 .goto 60 61 := mJ.of (4) (by decide +kernel) rfl (by decide)
theorem dX8_tellTurns_60 : mD cX8_tellTurns 60 (.iconst 0) 1 61 := ⟨by decide +kernel, rfl⟩
theorem dX8_tellTurns_61 : mD cX8_tellTurns 61 (.istore 8) 2 63 := ⟨by decide +kernel, rfl⟩
theorem dX8_tellTurns_63 : mD cX8_tellTurns 63 (.iload_n 2) 1 64 := ⟨by decide +kernel, rfl⟩
theorem dX8_tellTurns_64 : mD cX8_tellTurns 64 (.iconst 2) 1 65 := ⟨by decide +kernel, rfl⟩
theorem dX8_tellTurns_65 : mJ cX8_tellTurns 65 (.if_icmp .le) 68 80 := mJ.of (15) (by decide +kernel) rfl (by decide)
theorem dX8_tellTurns_68 : mD cX8_tellTurns 68 (.aload_n 0) 1 69 := ⟨by decide +kernel, rfl⟩
theorem dX8_tellTurns_69 : mD cX8_tellTurns 69 (.iload_n 1) 1 70 := ⟨by decide +kernel, rfl⟩
theorem dX8_tellTurns_70 : mD cX8_tellTurns 70 (.iconst 2) 1 71 := ⟨by decide +kernel, rfl⟩
theorem dX8_tellTurns_71 : mD cX8_tellTurns 71 .iadd 1 72 := ⟨by decide +kernel, rfl⟩
theorem dX8_tellTurns_72 : mD cX8_tellTurns 72 (.iload 7) 2 74 := ⟨by decide +kernel, rfl⟩
theorem dX8_tellTurns_74 : mD cX8_tellTurns 74 (.invokevirtual 133) 3 77 := ⟨by decide +kernel, rfl⟩
theorem dX8_tellTurns_77 : mJ cX8_tellTurns 77 .goto 80 81 := mJ.of (4) (by decide +kernel) rfl (by decide)
theorem dX8_tellTurns_80 : mD cX8_tellTurns 80 (.iconst 0) 1 81 := ⟨by decide +kernel, rfl⟩
theorem dX8_tellTurns_81 : mD cX8_tellTurns 81 (.istore 9) 2 83 := ⟨by decide +kernel, rfl⟩
theorem dX8_tellTurns_83 : mD cX8_tellTurns 83 (.aload_n 0) 1 84 := ⟨by decide +kernel, rfl⟩
theorem dX8_tellTurns_84 : mD cX8_tellTurns 84 (.getfield 45) 3 87 := ⟨by decide +kernel, rfl⟩
theorem dX8_tellTurns_87 : mD cX8_tellTurns 87 (.bipush 64) 2 89 := ⟨by decide +kernel, rfl⟩
theorem dX8_tellTurns_89 : mD cX8_tellTurns 89 (.iload 4) 2 91 := ⟨by decide +kernel, rfl⟩
theorem dX8_tellTurns_91 : mD cX8_tellTurns 91 .imul 1 92 := ⟨by decide +kernel, rfl⟩
theorem dX8_tellTurns_92 : mD cX8_tellTurns 92 (.bipush 16) 2 94 := ⟨by decide +kernel, rfl⟩
theorem dX8_tellTurns_94 : mD cX8_tellTurns 94 (.iload 5) 2 96 := ⟨by decide +kernel, rfl⟩
theorem dX8_tellTurns_96 : mD cX8_tellTurns 96 .imul 1 97 := ⟨by decide +kernel, rfl⟩
theorem dX8_tellTurns_97 : mD cX8_tellTurns 97 .iadd 1 98 := ⟨by decide +kernel, rfl⟩
theorem dX8_tellTurns_98 : mD cX8_tellTurns 98 (.iconst 4) 1 99 := ⟨by decide +kernel, rfl⟩
theorem dX8_tellTurns_99 : mD cX8_tellTurns 99 (.iload 6) 2 101 := ⟨by decide +kernel, rfl⟩
theorem dX8_tellTurns_101 : mD cX8_tellTurns 101 .imul 1 102 := ⟨by decide +kernel, rfl⟩
theorem dX8_tellTurns_102 : mD cX8_tellTurns 102 .iadd 1 103 := ⟨by decide +kernel, rfl⟩
theorem dX8_tellTurns_103 : mD cX8_tellTurns 103 (.iload 7) 2 105 := ⟨by decide +kernel, rfl⟩
theorem dX8_tellTurns_105 : mD cX8_tellTurns 105 .iadd 1 106 := ⟨by decide +kernel, rfl⟩
theorem dX8_tellTurns_106 : mD cX8_tellTurns 106 (.aload_n 0) 1 107 := ⟨by decide +kernel, rfl⟩
theorem dX8_tellTurns_107 : mD cX8_tellTurns 107 (.iload 4) 2 109 := ⟨by decide +kernel, rfl⟩
theorem dX8_tellTurns_109 : mD cX8_tellTurns 109 (.aload_n 0) 1 110 := ⟨by decide +kernel, rfl⟩
theorem dX8_tellTurns_110 : mD cX8_tellTurns 110 (.iload_n 1) 1 111 := ⟨by decide +kernel, rfl⟩
theorem dX8_tellTurns_111 : mD cX8_tellTurns 111 (.iload 5) 2 113 := ⟨by decide +kernel, rfl⟩
theorem dX8_tellTurns_113 : mD cX8_tellTurns 113 (.invokevirtual 133) 3 116 := ⟨by decide +kernel, rfl⟩
theorem dX8_tellTurns_116 : mD cX8_tellTurns 116 (.iload 8) 2 118 := ⟨by decide +kernel, rfl⟩
theorem dX8_tellTurns_118 : mD cX8_tellTurns 118 (.iload 9) 2 120 := ⟨by decide +kernel, rfl⟩
theorem dX8_tellTurns_120 : mD cX8_tellTurns 120 (.iload_n 2) 1 121 := ⟨by decide +kernel, rfl⟩
theorem dX8_tellTurns_121 : mD cX8_tellTurns 121 (.invokevirtual 176) 3 124 := ⟨by decide +kernel, rfl⟩
theorem dX8_tellTurns_124 : mD cX8_tellTurns 124 .iastore 1 125 := ⟨by decide +kernel, rfl⟩
theorem dX8_tellTurns_125 : mD cX8_tellTurns 125 (.iinc 7 1) 3 128 := ⟨by decide +kernel, rfl⟩
theorem dX8_tellTurns_128 : mJ cX8_tellTurns 128 .goto 131 37 := mJ.of (-91) (by decide +kernel) rfl (by decide)
theorem dX8_tellTurns_131 : mD cX8_tellTurns 131 (.iinc 6 1) 3 134 := ⟨by decide +kernel, rfl⟩
theorem dX8_tellTurns_134 : mJ cX8_tellTurns 134 .goto 137 28 := mJ.of (-106) (by decide +kernel) rfl (by decide)
theorem dX8_tellTurns_137 : mD cX8_tellTurns 137 (.iinc 5 1) 3 140 := ⟨by decide +kernel, rfl⟩
theorem dX8_tellTurns_140 : mJ cX8_tellTurns 140 .goto 143 19 := mJ.of (-121) (by decide +kernel) rfl (by decide)
theorem dX8_tellTurns_143 : mD cX8_tellTurns 143 (.iinc 4 1) 3 146 := ⟨by decide +kernel, rfl⟩
theorem dX8_tellTurns_146 : mJ cX8_tellTurns 146 .goto 149 10 := mJ.of (-136) (by decide +kernel) rfl (by decide)
theorem dX8_tellTurns_149 : mD cX8_tellTurns 149 .return_ 1 150 := ⟨by decide +kernel, rfl⟩
theorem dX8_tellOrders_0 : mD cX8_tellOrders 0 (.aload_n 0) 1 1 := ⟨by decide +kernel, rfl⟩
theorem dX8_tellOrders_1 : mD cX8_tellOrders 1 (.iconst 0) 1 2 := ⟨by decide +kernel, rfl⟩
theorem dX8_tellOrders_2 : mD cX8_tellOrders 2 (.putfield 130) 3 5 := ⟨by decide +kernel, rfl⟩
theorem dX8_tellOrders_5 : mD cX8_tellOrders 5 (.iconst 0) 1 6 := ⟨by decide +kernel, rfl⟩
theorem dX8_tellOrders_6 : mD cX8_tellOrders 6 (.istore_n 1) 1 7 := ⟨by decide +kernel, rfl⟩
theorem dX8_tellOrders_7 : mD cX8_tellOrders 7 (.iload_n 1) 1 8 := ⟨by decide +kernel, rfl⟩
theorem dX8_tellOrders_8 : mD cX8_tellOrders 8 (.aload_n 0) 1 9 := ⟨by decide +kernel, rfl⟩
theorem dX8_tellOrders_9 : mD cX8_tellOrders 9 (.invokevirtual 180) 3 12 := ⟨by decide +kernel, rfl⟩
theorem dX8_tellOrders_12 : mJ cX8_tellOrders 12 (.if_icmp .ge) 15 49 := mJ.of (37) (by decide +kernel) rfl (by decide)
theorem dX8_tellOrders_15 : mD cX8_tellOrders 15 (.aload_n 0) 1 16 := ⟨by decide +kernel, rfl⟩
theorem dX8_tellOrders_16 : mD cX8_tellOrders 16 (.iload_n 1) 1 17 := ⟨by decide +kernel, rfl⟩
theorem dX8_tellOrders_17 : mD cX8_tellOrders 17 (.invokevirtual 183) 3 20 := ⟨by decide +kernel, rfl⟩
theorem dX8_tellOrders_20 : mJ cX8_tellOrders 20 (.ifCond .eq) 23 43 := mJ.of (23) (by decide +kernel) rfl (by decide)
theorem dX8_tellOrders_23 : mD cX8_tellOrders 23 (.aload_n 0) 1 24 := ⟨by decide +kernel, rfl⟩
theorem dX8_tellOrders_24 : mD cX8_tellOrders 24 (.getfield 48) 3 27 := ⟨by decide +kernel, rfl⟩
theorem dX8_tellOrders_27 : mD cX8_tellOrders 27 (.aload_n 0) 1 28 := ⟨by decide +kernel, rfl⟩
theorem dX8_tellOrders_28 : mD cX8_tellOrders 28 (.getfield 130) 3 31 := ⟨by decide +kernel, rfl⟩
theorem dX8_tellOrders_31 : mD cX8_tellOrders 31 (.iload_n 1) 1 32 := ⟨by decide +kernel, rfl⟩
theorem dX8_tellOrders_32 : mD cX8_tellOrders 32 .iastore 1 33 := ⟨by decide +kernel, rfl⟩
theorem dX8_tellOrders_33 : mD cX8_tellOrders 33 (.aload_n 0) 1 34 := ⟨by decide +kernel, rfl⟩
theorem dX8_tellOrders_34 : mD cX8_tellOrders 34 .dup 1 35 := ⟨by decide +kernel, rfl⟩
theorem dX8_tellOrders_35 : mD cX8_tellOrders 35 (.getfield 130) 3 38 := ⟨by decide +kernel, rfl⟩
theorem dX8_tellOrders_38 : mD cX8_tellOrders 38 (.iconst 1) 1 39 := ⟨by decide +kernel, rfl⟩
theorem dX8_tellOrders_39 : mD cX8_tellOrders 39 .iadd 1 40 := ⟨by decide +kernel, rfl⟩
theorem dX8_tellOrders_40 : mD cX8_tellOrders 40 (.putfield 130) 3 43 := ⟨by decide +kernel, rfl⟩
theorem dX8_tellOrders_43 : mD cX8_tellOrders 43 (.iinc 1 1) 3 46 := ⟨by decide +kernel, rfl⟩
theorem dX8_tellOrders_46 : mJ cX8_tellOrders 46 .goto 49 7 := mJ.of (-39) (by decide +kernel) rfl (by decide)
theorem dX8_tellOrders_49 : mD cX8_tellOrders 49 .return_ 1 50 := ⟨by decide +kernel, rfl⟩
theorem dX8_placeIn_0 : mD cX8_placeIn 0 (.iconst 0) 1 1 := ⟨by decide +kernel, rfl⟩
theorem dX8_placeIn_1 : mD cX8_placeIn 1 (.istore_n 3) 1 2 := ⟨by decide +kernel, rfl⟩
theorem dX8_placeIn_2 : mD cX8_placeIn 2 (.iconst 0) 1 3 := ⟨by decide +kernel, rfl⟩
theorem dX8_placeIn_3 : mD cX8_placeIn 3 (.istore 4) 2 5 := ⟨by decide +kernel, rfl⟩
theorem dX8_placeIn_5 : mD cX8_placeIn 5 (.iload 4) 2 7 := ⟨by decide +kernel, rfl⟩
theorem dX8_placeIn_7 : mD cX8_placeIn 7 (.aload_n 0) 1 8 := ⟨by decide +kernel, rfl⟩
theorem dX8_placeIn_8 : mD cX8_placeIn 8 (.getfield 13) 3 11 := ⟨by decide +kernel, rfl⟩
theorem dX8_placeIn_11 : mD cX8_placeIn 11 (.iconst 0) 1 12 := ⟨by decide +kernel, rfl⟩
theorem dX8_placeIn_12 : mD cX8_placeIn 12 .iaload 1 13 := ⟨by decide +kernel, rfl⟩
theorem dX8_placeIn_13 : mJ cX8_placeIn 13 (.if_icmp .ge) 16 39 := mJ.of (26) (by decide +kernel) rfl (by decide)
theorem dX8_placeIn_16 : mD cX8_placeIn 16 (.iload_n 1) 1 17 := ⟨by decide +kernel, rfl⟩
theorem dX8_placeIn_17 : mD cX8_placeIn 17 (.iload 4) 2 19 := ⟨by decide +kernel, rfl⟩
theorem dX8_placeIn_19 : mD cX8_placeIn 19 (.invokestatic 127) 3 22 := ⟨by decide +kernel, rfl⟩
theorem dX8_placeIn_22 : mD cX8_placeIn 22 (.iload_n 2) 1 23 := ⟨by decide +kernel, rfl⟩
theorem dX8_placeIn_23 : mJ cX8_placeIn 23 (.if_icmp .ne) 26 31 := mJ.of (8) (by decide +kernel) rfl (by decide)
theorem dX8_placeIn_26 : mD cX8_placeIn 26 (.iload 4) 2 28 := ⟨by decide +kernel, rfl⟩
theorem dX8_placeIn_28 : mJ cX8_placeIn 28 .goto 31 32 := mJ.of (4) (by decide +kernel) rfl (by decide)
theorem dX8_placeIn_31 : mD cX8_placeIn 31 (.iload_n 3) 1 32 := ⟨by decide +kernel, rfl⟩
theorem dX8_placeIn_32 : mD cX8_placeIn 32 (.istore_n 3) 1 33 := ⟨by decide +kernel, rfl⟩
theorem dX8_placeIn_33 : mD cX8_placeIn 33 (.iinc 4 1) 3 36 := ⟨by decide +kernel, rfl⟩
theorem dX8_placeIn_36 : mJ cX8_placeIn 36 .goto 39 5 := mJ.of (-31) (by decide +kernel) rfl (by decide)
theorem dX8_placeIn_39 : mD cX8_placeIn 39 (.iload_n 3) 1 40 := ⟨by decide +kernel, rfl⟩
theorem dX8_placeIn_40 : mD cX8_placeIn 40 .ireturn 1 41 := ⟨by decide +kernel, rfl⟩
theorem dX8_workBy_0 : mD cX8_workBy 0 (.iconst 0) 1 1 := ⟨by decide +kernel, rfl⟩
theorem dX8_workBy_1 : mD cX8_workBy 1 (.istore 4) 2 3 := ⟨by decide +kernel, rfl⟩
theorem dX8_workBy_3 : mD cX8_workBy 3 (.iconst 0) 1 4 := ⟨by decide +kernel, rfl⟩
theorem dX8_workBy_4 : mD cX8_workBy 4 (.istore 5) 2 6 := ⟨by decide +kernel, rfl⟩
theorem dX8_workBy_6 : mD cX8_workBy 6 (.iload 5) 2 8 := ⟨by decide +kernel, rfl⟩
theorem dX8_workBy_8 : mD cX8_workBy 8 (.aload_n 0) 1 9 := ⟨by decide +kernel, rfl⟩
theorem dX8_workBy_9 : mD cX8_workBy 9 (.getfield 13) 3 12 := ⟨by decide +kernel, rfl⟩
theorem dX8_workBy_12 : mD cX8_workBy 12 (.iconst 0) 1 13 := ⟨by decide +kernel, rfl⟩
theorem dX8_workBy_13 : mD cX8_workBy 13 .iaload 1 14 := ⟨by decide +kernel, rfl⟩
theorem dX8_workBy_14 : mJ cX8_workBy 14 (.if_icmp .ge) 17 67 := mJ.of (53) (by decide +kernel) rfl (by decide)
theorem dX8_workBy_17 : mD cX8_workBy 17 (.iload 4) 2 19 := ⟨by decide +kernel, rfl⟩
theorem dX8_workBy_19 : mD cX8_workBy 19 (.aload_n 0) 1 20 := ⟨by decide +kernel, rfl⟩
theorem dX8_workBy_20 : mD cX8_workBy 20 (.getfield 45) 3 23 := ⟨by decide +kernel, rfl⟩
theorem dX8_workBy_23 : mD cX8_workBy 23 (.bipush 64) 2 25 := ⟨by decide +kernel, rfl⟩
theorem dX8_workBy_25 : mD cX8_workBy 25 (.iload 5) 2 27 := ⟨by decide +kernel, rfl⟩
theorem dX8_workBy_27 : mD cX8_workBy 27 .imul 1 28 := ⟨by decide +kernel, rfl⟩
theorem dX8_workBy_28 : mD cX8_workBy 28 (.bipush 16) 2 30 := ⟨by decide +kernel, rfl⟩
theorem dX8_workBy_30 : mD cX8_workBy 30 (.aload_n 0) 1 31 := ⟨by decide +kernel, rfl⟩
theorem dX8_workBy_31 : mD cX8_workBy 31 (.iload_n 1) 1 32 := ⟨by decide +kernel, rfl⟩
theorem dX8_workBy_32 : mD cX8_workBy 32 (.iload 5) 2 34 := ⟨by decide +kernel, rfl⟩
theorem dX8_workBy_34 : mD cX8_workBy 34 (.invokevirtual 186) 3 37 := ⟨by decide +kernel, rfl⟩
theorem dX8_workBy_37 : mD cX8_workBy 37 .imul 1 38 := ⟨by decide +kernel, rfl⟩
theorem dX8_workBy_38 : mD cX8_workBy 38 .iadd 1 39 := ⟨by decide +kernel, rfl⟩
theorem dX8_workBy_39 : mD cX8_workBy 39 (.iconst 4) 1 40 := ⟨by decide +kernel, rfl⟩
theorem dX8_workBy_40 : mD cX8_workBy 40 (.aload_n 0) 1 41 := ⟨by decide +kernel, rfl⟩
theorem dX8_workBy_41 : mD cX8_workBy 41 (.iload_n 2) 1 42 := ⟨by decide +kernel, rfl⟩
theorem dX8_workBy_42 : mD cX8_workBy 42 (.iload 5) 2 44 := ⟨by decide +kernel, rfl⟩
theorem dX8_workBy_44 : mD cX8_workBy 44 (.invokevirtual 186) 3 47 := ⟨by decide +kernel, rfl⟩
theorem dX8_workBy_47 : mD cX8_workBy 47 .imul 1 48 := ⟨by decide +kernel, rfl⟩
theorem dX8_workBy_48 : mD cX8_workBy 48 .iadd 1 49 := ⟨by decide +kernel, rfl⟩
theorem dX8_workBy_49 : mD cX8_workBy 49 (.aload_n 0) 1 50 := ⟨by decide +kernel, rfl⟩
theorem dX8_workBy_50 : mD cX8_workBy 50 (.iload_n 3) 1 51 := ⟨by decide +kernel, rfl⟩
theorem dX8_workBy_51 : mD cX8_workBy 51 (.iload 5) 2 53 := ⟨by decide +kernel, rfl⟩
theorem dX8_workBy_53 : mD cX8_workBy 53 (.invokevirtual 186) 3 56 := ⟨by decide +kernel, rfl⟩
theorem dX8_workBy_56 : mD cX8_workBy 56 .iadd 1 57 := ⟨by decide +kernel, rfl⟩
theorem dX8_workBy_57 : mD cX8_workBy 57 .iaload 1 58 := ⟨by decide +kernel, rfl⟩
theorem dX8_workBy_58 : mD cX8_workBy 58 .iadd 1 59 := ⟨by decide +kernel, rfl⟩
theorem dX8_workBy_59 : mD cX8_workBy 59 (.istore 4) 2 61 := ⟨by decide +kernel, rfl⟩
theorem dX8_workBy_61 : mD cX8_workBy 61 (.iinc 5 1) 3 64 := ⟨by decide +kernel, rfl⟩
theorem dX8_workBy_64 : mJ cX8_workBy 64 .goto 67 6 := mJ.of (-58) (by decide +kernel) rfl (by decide)
theorem dX8_workBy_67 : mD cX8_workBy 67 (.iload 4) 2 69 := ⟨by decide +kernel, rfl⟩
theorem dX8_workBy_69 : mD cX8_workBy 69 .ireturn 1 70 := ⟨by decide +kernel, rfl⟩
theorem dX8_workFor_0 : mD cX8_workFor 0 (.aload_n 0) 1 1 := ⟨by decide +kernel, rfl⟩
theorem dX8_workFor_1 : mD cX8_workFor 1 (.iload_n 1) 1 2 := ⟨by decide +kernel, rfl⟩
theorem dX8_workFor_2 : mD cX8_workFor 2 (.iload_n 2) 1 3 := ⟨by decide +kernel, rfl⟩
theorem dX8_workFor_3 : mD cX8_workFor 3 (.invokevirtual 189) 3 6 := ⟨by decide +kernel, rfl⟩
theorem dX8_workFor_6 : mD cX8_workFor 6 (.ldc 175) 2 8 := ⟨by decide +kernel, rfl⟩
theorem dX8_workFor_8 : mD cX8_workFor 8 (.istore_n 3) 1 9 := ⟨by decide +kernel, rfl⟩
theorem dX8_workFor_9 : mD cX8_workFor 9 (.aload_n 0) 1 10 := ⟨by decide +kernel, rfl⟩
theorem dX8_workFor_10 : mD cX8_workFor 10 (.invokevirtual 193) 3 13 := ⟨by decide +kernel, rfl⟩
theorem dX8_workFor_13 : mD cX8_workFor 13 (.istore 4) 2 15 := ⟨by decide +kernel, rfl⟩
theorem dX8_workFor_15 : mD cX8_workFor 15 (.iconst 0) 1 16 := ⟨by decide +kernel, rfl⟩
theorem dX8_workFor_16 : mD cX8_workFor 16 (.istore 5) 2 18 := ⟨by decide +kernel, rfl⟩
theorem dX8_workFor_18 : mD cX8_workFor 18 (.iload 5) 2 20 := ⟨by decide +kernel, rfl⟩
theorem dX8_workFor_20 : mD cX8_workFor 20 (.aload_n 0) 1 21 := ⟨by decide +kernel, rfl⟩
theorem dX8_workFor_21 : mD cX8_workFor 21 (.getfield 130) 3 24 := ⟨by decide +kernel, rfl⟩
theorem dX8_workFor_24 : mJ cX8_workFor 24 (.if_icmp .ge) 27 217 := mJ.of (193) (by decide +kernel) rfl (by decide)
theorem dX8_workFor_27 : mD cX8_workFor 27 (.aload_n 0) 1 28 := ⟨by decide +kernel, rfl⟩
theorem dX8_workFor_28 : mD cX8_workFor 28 (.iload 4) 2 30 := ⟨by decide +kernel, rfl⟩
theorem dX8_workFor_30 : mD cX8_workFor 30 (.aload_n 0) 1 31 := ⟨by decide +kernel, rfl⟩
theorem dX8_workFor_31 : mD cX8_workFor 31 (.getfield 48) 3 34 := ⟨by decide +kernel, rfl⟩
theorem dX8_workFor_34 : mD cX8_workFor 34 (.iload 5) 2 36 := ⟨by decide +kernel, rfl⟩
theorem dX8_workFor_36 : mD cX8_workFor 36 .iaload 1 37 := ⟨by decide +kernel, rfl⟩
theorem dX8_workFor_37 : mD cX8_workFor 37 (.invokevirtual 196) 3 40 := ⟨by decide +kernel, rfl⟩
theorem dX8_workFor_40 : mD cX8_workFor 40 (.istore 6) 2 42 := ⟨by decide +kernel, rfl⟩
theorem dX8_workFor_42 : mD cX8_workFor 42 (.iconst 0) 1 43 := ⟨by decide +kernel, rfl⟩
theorem dX8_workFor_43 : mD cX8_workFor 43 (.istore 7) 2 45 := ⟨by decide +kernel, rfl⟩
theorem dX8_workFor_45 : mD cX8_workFor 45 (.iload 7) 2 47 := ⟨by decide +kernel, rfl⟩
theorem dX8_workFor_47 : mD cX8_workFor 47 (.iload_n 2) 1 48 := ⟨by decide +kernel, rfl⟩
theorem dX8_workFor_48 : mD cX8_workFor 48 (.iconst 1) 1 49 := ⟨by decide +kernel, rfl⟩
theorem dX8_workFor_49 : mJ cX8_workFor 49 (.if_icmp .le) 52 59 := mJ.of (10) (by decide +kernel) rfl (by decide)
theorem dX8_workFor_52 : mD cX8_workFor 52 (.aload_n 0) 1 53 := ⟨by decide +kernel, rfl⟩
theorem dX8_workFor_53 : mD cX8_workFor 53 (.getfield 130) 3 56 := ⟨by decide +kernel, rfl⟩
theorem dX8_workFor_56 : mJ cX8_workFor 56 .goto 59 60 := mJ.of (4) (by decide +kernel) rfl (by decide)
theorem dX8_workFor_59 : mD cX8_workFor 59 (.iconst 1) 1 60 := ⟨by decide +kernel, rfl⟩
theorem dX8_workFor_60 : mJ cX8_workFor 60 (.if_icmp .ge) 63 211 := mJ.of (151) (by decide +kernel) rfl (by decide)
theorem dX8_workFor_63 : mD cX8_workFor 63 (.iload_n 2) 1 64 := ⟨by decide +kernel, rfl⟩
theorem dX8_workFor_64 : mD cX8_workFor 64 (.iconst 1) 1 65 := ⟨by decide +kernel, rfl⟩
theorem dX8_workFor_65 : mJ cX8_workFor 65 (.if_icmp .le) 68 92 := mJ.of (27) (by decide +kernel) rfl (by decide)
theorem dX8_workFor_68 : mD cX8_workFor 68 (.iload 6) 2 70 := ⟨by decide +kernel, rfl⟩
theorem dX8_workFor_70 : mD cX8_workFor 70 (.aload_n 0) 1 71 := ⟨by decide +kernel, rfl⟩
theorem dX8_workFor_71 : mD cX8_workFor 71 (.aload_n 0) 1 72 := ⟨by decide +kernel, rfl⟩
theorem dX8_workFor_72 : mD cX8_workFor 72 (.getfield 48) 3 75 := ⟨by decide +kernel, rfl⟩
theorem dX8_workFor_75 : mD cX8_workFor 75 (.iload 5) 2 77 := ⟨by decide +kernel, rfl⟩
theorem dX8_workFor_77 : mD cX8_workFor 77 .iaload 1 78 := ⟨by decide +kernel, rfl⟩
theorem dX8_workFor_78 : mD cX8_workFor 78 (.aload_n 0) 1 79 := ⟨by decide +kernel, rfl⟩
theorem dX8_workFor_79 : mD cX8_workFor 79 (.getfield 48) 3 82 := ⟨by decide +kernel, rfl⟩
theorem dX8_workFor_82 : mD cX8_workFor 82 (.iload 7) 2 84 := ⟨by decide +kernel, rfl⟩
theorem dX8_workFor_84 : mD cX8_workFor 84 .iaload 1 85 := ⟨by decide +kernel, rfl⟩
theorem dX8_workFor_85 : mD cX8_workFor 85 (.invokevirtual 196) 3 88 := ⟨by decide +kernel, rfl⟩
theorem dX8_workFor_88 : mD cX8_workFor 88 .iadd 1 89 := ⟨by decide +kernel, rfl⟩
theorem dX8_workFor_89 : mJ cX8_workFor 89 .goto 92 94 := mJ.of (5) (by decide +kernel) rfl (by decide)
theorem dX8_workFor_92 : mD cX8_workFor 92 (.iload 6) 2 94 := ⟨by decide +kernel, rfl⟩
theorem dX8_workFor_94 : mD cX8_workFor 94 (.istore 8) 2 96 := ⟨by decide +kernel, rfl⟩
theorem dX8_workFor_96 : mD cX8_workFor 96 (.iconst 0) 1 97 := ⟨by decide +kernel, rfl⟩
theorem dX8_workFor_97 : mD cX8_workFor 97 (.istore 9) 2 99 := ⟨by decide +kernel, rfl⟩
theorem dX8_workFor_99 : mD cX8_workFor 99 (.iload 9) 2 101 := ⟨by decide +kernel, rfl⟩
theorem dX8_workFor_101 : mD cX8_workFor 101 (.iload_n 2) 1 102 := ⟨by decide +kernel, rfl⟩
theorem dX8_workFor_102 : mD cX8_workFor 102 (.iconst 2) 1 103 := ⟨by decide +kernel, rfl⟩
theorem dX8_workFor_103 : mJ cX8_workFor 103 (.if_icmp .le) 106 113 := mJ.of (10) (by decide +kernel) rfl (by decide)
theorem dX8_workFor_106 : mD cX8_workFor 106 (.aload_n 0) 1 107 := ⟨by decide +kernel, rfl⟩
theorem dX8_workFor_107 : mD cX8_workFor 107 (.getfield 130) 3 110 := ⟨by decide +kernel, rfl⟩
theorem dX8_workFor_110 : mJ cX8_workFor 110 .goto 113 114 := mJ.of (4) (by decide +kernel) rfl (by decide)
theorem dX8_workFor_113 : mD cX8_workFor 113 (.iconst 1) 1 114 := ⟨by decide +kernel, rfl⟩
theorem dX8_workFor_114 : mJ cX8_workFor 114 (.if_icmp .ge) 117 205 := mJ.of (91) (by decide +kernel) rfl (by decide)
theorem dX8_workFor_117 : mD cX8_workFor 117 (.iload 8) 2 119 := ⟨by decide +kernel, rfl⟩
theorem dX8_workFor_119 : mD cX8_workFor 119 (.iload_n 3) 1 120 := ⟨by decide +kernel, rfl⟩
theorem dX8_workFor_120 : mJ cX8_workFor 120 (.if_icmp .ge) 123 205 := mJ.of (85) (by decide +kernel) rfl (by decide)
theorem dX8_workFor_123 : mD cX8_workFor 123 (.iload_n 2) 1 124 := ⟨by decide +kernel, rfl⟩
theorem dX8_workFor_124 : mD cX8_workFor 124 (.iconst 2) 1 125 := ⟨by decide +kernel, rfl⟩
theorem dX8_workFor_125 : mJ cX8_workFor 125 (.if_icmp .le) 128 152 := mJ.of (27) (by decide +kernel) rfl (by decide)
theorem dX8_workFor_128 : mD cX8_workFor 128 (.iload 8) 2 130 := ⟨by decide +kernel, rfl⟩
theorem dX8_workFor_130 : mD cX8_workFor 130 (.aload_n 0) 1 131 := ⟨by decide +kernel, rfl⟩
theorem dX8_workFor_131 : mD cX8_workFor 131 (.aload_n 0) 1 132 := ⟨by decide +kernel, rfl⟩
theorem dX8_workFor_132 : mD cX8_workFor 132 (.getfield 48) 3 135 := ⟨by decide +kernel, rfl⟩
theorem dX8_workFor_135 : mD cX8_workFor 135 (.iload 7) 2 137 := ⟨by decide +kernel, rfl⟩
theorem dX8_workFor_137 : mD cX8_workFor 137 .iaload 1 138 := ⟨by decide +kernel, rfl⟩
theorem dX8_workFor_138 : mD cX8_workFor 138 (.aload_n 0) 1 139 := ⟨by decide +kernel, rfl⟩
theorem dX8_workFor_139 : mD cX8_workFor 139 (.getfield 48) 3 142 := ⟨by decide +kernel, rfl⟩
theorem dX8_workFor_142 : mD cX8_workFor 142 (.iload 9) 2 144 := ⟨by decide +kernel, rfl⟩
theorem dX8_workFor_144 : mD cX8_workFor 144 .iaload 1 145 := ⟨by decide +kernel, rfl⟩
theorem dX8_workFor_145 : mD cX8_workFor 145 (.invokevirtual 196) 3 148 := ⟨by decide +kernel, rfl⟩
theorem dX8_workFor_148 : mD cX8_workFor 148 .iadd 1 149 := ⟨by decide +kernel, rfl⟩
theorem dX8_workFor_149 : mJ cX8_workFor 149 .goto 152 154 := mJ.of (5) (by decide +kernel) rfl (by decide)
theorem dX8_workFor_152 : mD cX8_workFor 152 (.iload 8) 2 154 := ⟨by decide +kernel, rfl⟩
theorem dX8_workFor_154 : mD cX8_workFor 154 (.istore 10) 2 156 := ⟨by decide +kernel, rfl⟩
theorem dX8_workFor_156 : mD cX8_workFor 156 (.iload 10) 2 158 := ⟨by decide +kernel, rfl⟩
theorem dX8_workFor_158 : mD cX8_workFor 158 (.aload_n 0) 1 159 := ⟨by decide +kernel, rfl⟩
theorem dX8_workFor_159 : mD cX8_workFor 159 (.aload_n 0) 1 160 := ⟨by decide +kernel, rfl⟩
theorem dX8_workFor_160 : mD cX8_workFor 160 (.getfield 48) 3 163 := ⟨by decide +kernel, rfl⟩
theorem dX8_workFor_163 : mD cX8_workFor 163 (.iload 5) 2 165 := ⟨by decide +kernel, rfl⟩
theorem dX8_workFor_165 : mD cX8_workFor 165 .iaload 1 166 := ⟨by decide +kernel, rfl⟩
theorem dX8_workFor_166 : mD cX8_workFor 166 (.aload_n 0) 1 167 := ⟨by decide +kernel, rfl⟩
theorem dX8_workFor_167 : mD cX8_workFor 167 (.getfield 48) 3 170 := ⟨by decide +kernel, rfl⟩
theorem dX8_workFor_170 : mD cX8_workFor 170 (.iload 7) 2 172 := ⟨by decide +kernel, rfl⟩
theorem dX8_workFor_172 : mD cX8_workFor 172 .iaload 1 173 := ⟨by decide +kernel, rfl⟩
theorem dX8_workFor_173 : mD cX8_workFor 173 (.aload_n 0) 1 174 := ⟨by decide +kernel, rfl⟩
theorem dX8_workFor_174 : mD cX8_workFor 174 (.getfield 48) 3 177 := ⟨by decide +kernel, rfl⟩
theorem dX8_workFor_177 : mD cX8_workFor 177 (.iload 9) 2 179 := ⟨by decide +kernel, rfl⟩
theorem dX8_workFor_179 : mD cX8_workFor 179 .iaload 1 180 := ⟨by decide +kernel, rfl⟩
theorem dX8_workFor_180 : mD cX8_workFor 180 (.invokevirtual 199) 3 183 := ⟨by decide +kernel, rfl⟩
theorem dX8_workFor_183 : mD cX8_workFor 183 .iadd 1 184 := ⟨by decide +kernel, rfl⟩
theorem dX8_workFor_184 : mD cX8_workFor 184 (.istore 11) 2 186 := ⟨by decide +kernel, rfl⟩
theorem dX8_workFor_186 : mD cX8_workFor 186 (.iload 11) 2 188 := ⟨by decide +kernel, rfl⟩
theorem dX8_workFor_188 : mD cX8_workFor 188 (.iload_n 3) 1 189 := ⟨by decide +kernel, rfl⟩
theorem dX8_workFor_189 : mJ cX8_workFor 189 (.if_icmp .ge) 192 197 := mJ.of (8) (by decide +kernel) rfl (by decide)
theorem dX8_workFor_192 : mD cX8_workFor 192 (.iload 11) 2 194 := ⟨by decide +kernel, rfl⟩
theorem dX8_workFor_194 : mJ cX8_workFor 194 .goto 197 198 := mJ.of (4) (by decide +kernel) rfl (by decide)
theorem dX8_workFor_197 : mD cX8_workFor 197 (.iload_n 3) 1 198 := ⟨by decide +kernel, rfl⟩
theorem dX8_workFor_198 : mD cX8_workFor 198 (.istore_n 3) 1 199 := ⟨by decide +kernel, rfl⟩
theorem dX8_workFor_199 : mD cX8_workFor 199 (.iinc 9 1) 3 202 := ⟨by decide +kernel, rfl⟩
theorem dX8_workFor_202 : mJ cX8_workFor 202 .goto 205 99 := mJ.of (-103) (by decide +kernel) rfl (by decide)
theorem dX8_workFor_205 : mD cX8_workFor 205 (.iinc 7 1) 3 208 := ⟨by decide +kernel, rfl⟩
theorem dX8_workFor_208 : mJ cX8_workFor 208 .goto 211 45 := mJ.of (-163) (by decide +kernel) rfl (by decide)
theorem dX8_workFor_211 : mD cX8_workFor 211 (.iinc 5 1) 3 214 := ⟨by decide +kernel, rfl⟩
theorem dX8_workFor_214 : mJ cX8_workFor 214 .goto 217 18 := mJ.of (-196) (by decide +kernel) rfl (by decide)
theorem dX8_workFor_217 : mD cX8_workFor 217 (.iload_n 3) 1 218 := ⟨by decide +kernel, rfl⟩
theorem dX8_workFor_218 : mD cX8_workFor 218 (.ldc 175) 2 220 := ⟨by decide +kernel, rfl⟩
theorem dX8_workFor_220 : mJ cX8_workFor 220 (.if_icmp .lt) 223 228 := mJ.of (8) (by decide +kernel) rfl (by decide)
theorem dX8_workFor_223 : mD cX8_workFor 223 (.bipush (-9)) 2 225 := ⟨by decide +kernel, rfl⟩
theorem dX8_workFor_225 : mJ cX8_workFor 225 .goto 228 229 := mJ.of (4) (by decide +kernel) rfl (by decide)
theorem dX8_workFor_228 : mD cX8_workFor 228 (.iload_n 3) 1 229 := ⟨by decide +kernel, rfl⟩
theorem dX8_workFor_229 : mD cX8_workFor 229 .ireturn 1 230 := ⟨by decide +kernel, rfl⟩
theorem dX8_pastesFor_0 : mD cX8_pastesFor 0 (.ldc 175) 2 2 := ⟨by decide +kernel, rfl⟩
theorem dX8_pastesFor_2 : mD cX8_pastesFor 2 (.istore_n 2) 1 3 := ⟨by decide +kernel, rfl⟩
theorem dX8_pastesFor_3 : mD cX8_pastesFor 3 (.iconst 0) 1 4 := ⟨by decide +kernel, rfl⟩
theorem dX8_pastesFor_4 : mD cX8_pastesFor 4 (.istore_n 3) 1 5 := ⟨by decide +kernel, rfl⟩
theorem dX8_pastesFor_5 : mD cX8_pastesFor 5 (.iload_n 3) 1 6 := ⟨by decide +kernel, rfl⟩
theorem dX8_pastesFor_6 : mD cX8_pastesFor 6 (.aload_n 0) 1 7 := ⟨by decide +kernel, rfl⟩
theorem dX8_pastesFor_7 : mD cX8_pastesFor 7 (.getfield 130) 3 10 := ⟨by decide +kernel, rfl⟩
theorem dX8_pastesFor_10 : mJ cX8_pastesFor 10 (.if_icmp .ge) 13 92 := mJ.of (82) (by decide +kernel) rfl (by decide)
theorem dX8_pastesFor_13 : mD cX8_pastesFor 13 (.iconst 0) 1 14 := ⟨by decide +kernel, rfl⟩
theorem dX8_pastesFor_14 : mD cX8_pastesFor 14 (.istore 4) 2 16 := ⟨by decide +kernel, rfl⟩
theorem dX8_pastesFor_16 : mD cX8_pastesFor 16 (.iconst 0) 1 17 := ⟨by decide +kernel, rfl⟩
theorem dX8_pastesFor_17 : mD cX8_pastesFor 17 (.istore 5) 2 19 := ⟨by decide +kernel, rfl⟩
theorem dX8_pastesFor_19 : mD cX8_pastesFor 19 (.iload 5) 2 21 := ⟨by decide +kernel, rfl⟩
theorem dX8_pastesFor_21 : mD cX8_pastesFor 21 (.aload_n 0) 1 22 := ⟨by decide +kernel, rfl⟩
theorem dX8_pastesFor_22 : mD cX8_pastesFor 22 (.getfield 13) 3 25 := ⟨by decide +kernel, rfl⟩
theorem dX8_pastesFor_25 : mD cX8_pastesFor 25 (.iconst 0) 1 26 := ⟨by decide +kernel, rfl⟩
theorem dX8_pastesFor_26 : mD cX8_pastesFor 26 .iaload 1 27 := ⟨by decide +kernel, rfl⟩
theorem dX8_pastesFor_27 : mJ cX8_pastesFor 27 (.if_icmp .ge) 30 73 := mJ.of (46) (by decide +kernel) rfl (by decide)
theorem dX8_pastesFor_30 : mD cX8_pastesFor 30 (.iload 4) 2 32 := ⟨by decide +kernel, rfl⟩
theorem dX8_pastesFor_32 : mD cX8_pastesFor 32 (.aload_n 0) 1 33 := ⟨by decide +kernel, rfl⟩
theorem dX8_pastesFor_33 : mD cX8_pastesFor 33 (.aload_n 0) 1 34 := ⟨by decide +kernel, rfl⟩
theorem dX8_pastesFor_34 : mD cX8_pastesFor 34 (.getfield 48) 3 37 := ⟨by decide +kernel, rfl⟩
theorem dX8_pastesFor_37 : mD cX8_pastesFor 37 (.iload_n 3) 1 38 := ⟨by decide +kernel, rfl⟩
theorem dX8_pastesFor_38 : mD cX8_pastesFor 38 .iaload 1 39 := ⟨by decide +kernel, rfl⟩
theorem dX8_pastesFor_39 : mD cX8_pastesFor 39 (.iload 5) 2 41 := ⟨by decide +kernel, rfl⟩
theorem dX8_pastesFor_41 : mD cX8_pastesFor 41 (.invokestatic 127) 3 44 := ⟨by decide +kernel, rfl⟩
theorem dX8_pastesFor_44 : mD cX8_pastesFor 44 (.aload_n 0) 1 45 := ⟨by decide +kernel, rfl⟩
theorem dX8_pastesFor_45 : mD cX8_pastesFor 45 (.iload_n 1) 1 46 := ⟨by decide +kernel, rfl⟩
theorem dX8_pastesFor_46 : mD cX8_pastesFor 46 (.iload 5) 2 48 := ⟨by decide +kernel, rfl⟩
theorem dX8_pastesFor_48 : mD cX8_pastesFor 48 (.invokevirtual 133) 3 51 := ⟨by decide +kernel, rfl⟩
theorem dX8_pastesFor_51 : mD cX8_pastesFor 51 (.bipush 6) 2 53 := ⟨by decide +kernel, rfl⟩
theorem dX8_pastesFor_53 : mD cX8_pastesFor 53 (.invokevirtual 136) 3 56 := ⟨by decide +kernel, rfl⟩
theorem dX8_pastesFor_56 : mJ cX8_pastesFor 56 (.ifCond .eq) 59 63 := mJ.of (7) (by decide +kernel) rfl (by decide)
theorem dX8_pastesFor_59 : mD cX8_pastesFor 59 (.iconst 0) 1 60 := ⟨by decide +kernel, rfl⟩
theorem dX8_pastesFor_60 : mJ cX8_pastesFor 60 .goto 63 64 := mJ.of (4) (by decide +kernel) rfl (by decide)
theorem dX8_pastesFor_63 : mD cX8_pastesFor 63 (.iconst 1) 1 64 := ⟨by decide +kernel, rfl⟩
theorem dX8_pastesFor_64 : mD cX8_pastesFor 64 .iadd 1 65 := ⟨by decide +kernel, rfl⟩
theorem dX8_pastesFor_65 : mD cX8_pastesFor 65 (.istore 4) 2 67 := ⟨by decide +kernel, rfl⟩
theorem dX8_pastesFor_67 : mD cX8_pastesFor 67 (.iinc 5 1) 3 70 := ⟨by decide +kernel, rfl⟩
theorem dX8_pastesFor_70 : mJ cX8_pastesFor 70 .goto 73 19 := mJ.of (-51) (by decide +kernel) rfl (by decide)
theorem dX8_pastesFor_73 : mD cX8_pastesFor 73 (.iload 4) 2 75 := ⟨by decide +kernel, rfl⟩
theorem dX8_pastesFor_75 : mD cX8_pastesFor 75 (.iload_n 2) 1 76 := ⟨by decide +kernel, rfl⟩
theorem dX8_pastesFor_76 : mJ cX8_pastesFor 76 (.if_icmp .ge) 79 84 := mJ.of (8) (by decide +kernel) rfl (by decide)
theorem dX8_pastesFor_79 : mD cX8_pastesFor 79 (.iload 4) 2 81 := ⟨by decide +kernel, rfl⟩
theorem dX8_pastesFor_81 : mJ cX8_pastesFor 81 .goto 84 85 := mJ.of (4) (by decide +kernel) rfl (by decide)
theorem dX8_pastesFor_84 : mD cX8_pastesFor 84 (.iload_n 2) 1 85 := ⟨by decide +kernel, rfl⟩
theorem dX8_pastesFor_85 : mD cX8_pastesFor 85 (.istore_n 2) 1 86 := ⟨by decide +kernel, rfl⟩
theorem dX8_pastesFor_86 : mD cX8_pastesFor 86 (.iinc 3 1) 3 89 := ⟨by decide +kernel, rfl⟩
theorem dX8_pastesFor_89 : mJ cX8_pastesFor 89 .goto 92 5 := mJ.of (-84) (by decide +kernel) rfl (by decide)
theorem dX8_pastesFor_92 : mD cX8_pastesFor 92 (.iload_n 2) 1 93 := ⟨by decide +kernel, rfl⟩
theorem dX8_pastesFor_93 : mD cX8_pastesFor 93 .ireturn 1 94 := ⟨by decide +kernel, rfl⟩
theorem dX8_number_0 : mD cX8_number 0 (.aload_n 0) 1 1 := ⟨by decide +kernel, rfl⟩
theorem dX8_number_1 : mD cX8_number 1 (.iload_n 1) 1 2 := ⟨by decide +kernel, rfl⟩
theorem dX8_number_2 : mD cX8_number 2 (.invokevirtual 203) 3 5 := ⟨by decide +kernel, rfl⟩
theorem dX8_number_5 : mJ cX8_number 5 (.ifCond .ne) 8 10 := mJ.of (5) (by decide +kernel) rfl (by decide)
theorem dX8_number_8 : mD cX8_number 8 (.iconst (-1)) 1 9 := ⟨by decide +kernel, rfl⟩
theorem dX8_number_9 : mD cX8_number 9 .ireturn 1 10 := ⟨by decide +kernel, rfl⟩
theorem dX8_number_10 : mD cX8_number 10 (.iload_n 2) 1 11 := ⟨by decide +kernel, rfl⟩
theorem dX8_number_11 : decode cX8_number 11 = .ok (.tableswitch 73 0 3 #[29, 43, 60, 67], 29) := by decide +kernel
theorem dX8_number_40 : mD cX8_number 40 (.aload_n 0) 1 41 := ⟨by decide +kernel, rfl⟩
theorem dX8_number_41 : mD cX8_number 41 (.iload_n 1) 1 42 := ⟨by decide +kernel, rfl⟩
theorem dX8_number_42 : mD cX8_number 42 (.invokevirtual 206) 3 45 := ⟨by decide +kernel, rfl⟩
theorem dX8_number_45 : mJ cX8_number 45 (.ifCond .eq) 48 52 := mJ.of (7) (by decide +kernel) rfl (by decide)
theorem dX8_number_48 : mD cX8_number 48 (.iconst 1) 1 49 := ⟨by decide +kernel, rfl⟩
theorem dX8_number_49 : mJ cX8_number 49 .goto 52 53 := mJ.of (4) (by decide +kernel) rfl (by decide)
theorem dX8_number_52 : mD cX8_number 52 (.iconst 0) 1 53 := ⟨by decide +kernel, rfl⟩
theorem dX8_number_53 : mD cX8_number 53 .ireturn 1 54 := ⟨by decide +kernel, rfl⟩
theorem dX8_number_54 : mD cX8_number 54 (.aload_n 0) 1 55 := ⟨by decide +kernel, rfl⟩
theorem dX8_number_55 : mD cX8_number 55 (.iload_n 1) 1 56 := ⟨by decide +kernel, rfl⟩
theorem dX8_number_56 : mD cX8_number 56 (.iconst 0) 1 57 := ⟨by decide +kernel, rfl⟩
theorem dX8_number_57 : mD cX8_number 57 (.bipush 6) 2 59 := ⟨by decide +kernel, rfl⟩
theorem dX8_number_59 : mD cX8_number 59 (.invokevirtual 139) 3 62 := ⟨by decide +kernel, rfl⟩
theorem dX8_number_62 : mJ cX8_number 62 (.ifCond .eq) 65 69 := mJ.of (7) (by decide +kernel) rfl (by decide)
theorem dX8_number_65 : mD cX8_number 65 (.iconst 1) 1 66 := ⟨by decide +kernel, rfl⟩
theorem dX8_number_66 : mJ cX8_number 66 .goto 69 70 := mJ.of (4) (by decide +kernel) rfl (by decide)
theorem dX8_number_69 : mD cX8_number 69 (.iconst 0) 1 70 := ⟨by decide +kernel, rfl⟩
theorem dX8_number_70 : mD cX8_number 70 .ireturn 1 71 := ⟨by decide +kernel, rfl⟩
theorem dX8_number_71 : mD cX8_number 71 (.aload_n 0) 1 72 := ⟨by decide +kernel, rfl⟩
theorem dX8_number_72 : mD cX8_number 72 (.iload_n 1) 1 73 := ⟨by decide +kernel, rfl⟩
theorem dX8_number_73 : mD cX8_number 73 (.iconst 1) 1 74 := ⟨by decide +kernel, rfl⟩
theorem dX8_number_74 : mD cX8_number 74 (.invokevirtual 209) 3 77 := ⟨by decide +kernel, rfl⟩
theorem dX8_number_77 : mD cX8_number 77 .ireturn 1 78 := ⟨by decide +kernel, rfl⟩
theorem dX8_number_78 : mD cX8_number 78 (.aload_n 0) 1 79 := ⟨by decide +kernel, rfl⟩
theorem dX8_number_79 : mD cX8_number 79 (.iload_n 1) 1 80 := ⟨by decide +kernel, rfl⟩
theorem dX8_number_80 : mD cX8_number 80 (.invokevirtual 212) 3 83 := ⟨by decide +kernel, rfl⟩
theorem dX8_number_83 : mD cX8_number 83 .ireturn 1 84 := ⟨by decide +kernel, rfl⟩
theorem dX8_number_84 : mD cX8_number 84 (.iconst (-1)) 1 85 := ⟨by decide +kernel, rfl⟩
theorem dX8_number_85 : mD cX8_number 85 .ireturn 1 86 := ⟨by decide +kernel, rfl⟩
theorem dX8_through_0 : mD cX8_through 0 (.aload_n 0) 1 1 := ⟨by decide +kernel, rfl⟩
theorem dX8_through_1 : mD cX8_through 1 (.iload_n 1) 1 2 := ⟨by decide +kernel, rfl⟩
theorem dX8_through_2 : mD cX8_through 2 (.invokevirtual 203) 3 5 := ⟨by decide +kernel, rfl⟩
theorem dX8_through_5 : mJ cX8_through 5 (.ifCond .eq) 8 17 := mJ.of (12) (by decide +kernel) rfl (by decide)
theorem dX8_through_8 : mD cX8_through 8 (.iload_n 2) 1 9 := ⟨by decide +kernel, rfl⟩
theorem dX8_through_9 : mD cX8_through 9 (.iconst 1) 1 10 := ⟨by decide +kernel, rfl⟩
theorem dX8_through_10 : mD cX8_through 10 (.iconst 3) 1 11 := ⟨by decide +kernel, rfl⟩
theorem dX8_through_11 : mD cX8_through 11 (.invokestatic 63) 3 14 := ⟨by decide +kernel, rfl⟩
theorem dX8_through_14 : mJ cX8_through 14 (.ifCond .ne) 17 19 := mJ.of (5) (by decide +kernel) rfl (by decide)
theorem dX8_through_17 : mD cX8_through 17 (.iconst (-1)) 1 18 := ⟨by decide +kernel, rfl⟩
theorem dX8_through_18 : mD cX8_through 18 .ireturn 1 19 := ⟨by decide +kernel, rfl⟩
theorem dX8_through_19 : mD cX8_through 19 (.aload_n 0) 1 20 := ⟨by decide +kernel, rfl⟩
theorem dX8_through_20 : mD cX8_through 20 (.iload_n 1) 1 21 := ⟨by decide +kernel, rfl⟩
theorem dX8_through_21 : mD cX8_through 21 (.iload_n 2) 1 22 := ⟨by decide +kernel, rfl⟩
theorem dX8_through_22 : mD cX8_through 22 .iadd 1 23 := ⟨by decide +kernel, rfl⟩
theorem dX8_through_23 : mD cX8_through 23 (.iconst 1) 1 24 := ⟨by decide +kernel, rfl⟩
theorem dX8_through_24 : mD cX8_through 24 .isub 1 25 := ⟨by decide +kernel, rfl⟩
theorem dX8_through_25 : mD cX8_through 25 (.invokevirtual 203) 3 28 := ⟨by decide +kernel, rfl⟩
theorem dX8_through_28 : mJ cX8_through 28 (.ifCond .eq) 31 40 := mJ.of (12) (by decide +kernel) rfl (by decide)
theorem dX8_through_31 : mD cX8_through 31 (.aload_n 0) 1 32 := ⟨by decide +kernel, rfl⟩
theorem dX8_through_32 : mD cX8_through 32 (.iload_n 1) 1 33 := ⟨by decide +kernel, rfl⟩
theorem dX8_through_33 : mD cX8_through 33 (.iload_n 2) 1 34 := ⟨by decide +kernel, rfl⟩
theorem dX8_through_34 : mD cX8_through 34 (.invokevirtual 209) 3 37 := ⟨by decide +kernel, rfl⟩
theorem dX8_through_37 : mJ cX8_through 37 .goto 40 42 := mJ.of (5) (by decide +kernel) rfl (by decide)
theorem dX8_through_40 : mD cX8_through 40 (.bipush (-9)) 2 42 := ⟨by decide +kernel, rfl⟩
theorem dX8_through_42 : mD cX8_through 42 .ireturn 1 43 := ⟨by decide +kernel, rfl⟩
theorem dX8_isBy_0 : mD cX8_isBy 0 (.iconst 0) 1 1 := ⟨by decide +kernel, rfl⟩
theorem dX8_isBy_1 : mD cX8_isBy 1 (.istore_n 3) 1 2 := ⟨by decide +kernel, rfl⟩
theorem dX8_isBy_2 : mD cX8_isBy 2 (.iload_n 3) 1 3 := ⟨by decide +kernel, rfl⟩
theorem dX8_isBy_3 : mD cX8_isBy 3 (.aload_n 0) 1 4 := ⟨by decide +kernel, rfl⟩
theorem dX8_isBy_4 : mD cX8_isBy 4 (.getfield 130) 3 7 := ⟨by decide +kernel, rfl⟩
theorem dX8_isBy_7 : mJ cX8_isBy 7 (.if_icmp .ge) 10 119 := mJ.of (112) (by decide +kernel) rfl (by decide)
theorem dX8_isBy_10 : mD cX8_isBy 10 (.iconst 1) 1 11 := ⟨by decide +kernel, rfl⟩
theorem dX8_isBy_11 : mD cX8_isBy 11 (.istore 4) 2 13 := ⟨by decide +kernel, rfl⟩
theorem dX8_isBy_13 : mD cX8_isBy 13 (.iconst 0) 1 14 := ⟨by decide +kernel, rfl⟩
theorem dX8_isBy_14 : mD cX8_isBy 14 (.istore 5) 2 16 := ⟨by decide +kernel, rfl⟩
theorem dX8_isBy_16 : mD cX8_isBy 16 (.iload 5) 2 18 := ⟨by decide +kernel, rfl⟩
theorem dX8_isBy_18 : mD cX8_isBy 18 (.aload_n 0) 1 19 := ⟨by decide +kernel, rfl⟩
theorem dX8_isBy_19 : mD cX8_isBy 19 (.getfield 13) 3 22 := ⟨by decide +kernel, rfl⟩
theorem dX8_isBy_22 : mD cX8_isBy 22 (.iconst 0) 1 23 := ⟨by decide +kernel, rfl⟩
theorem dX8_isBy_23 : mD cX8_isBy 23 .iaload 1 24 := ⟨by decide +kernel, rfl⟩
theorem dX8_isBy_24 : mJ cX8_isBy 24 (.if_icmp .ge) 27 106 := mJ.of (82) (by decide +kernel) rfl (by decide)
theorem dX8_isBy_27 : mD cX8_isBy 27 (.iload 4) 2 29 := ⟨by decide +kernel, rfl⟩
theorem dX8_isBy_29 : mJ cX8_isBy 29 (.ifCond .eq) 32 106 := mJ.of (77) (by decide +kernel) rfl (by decide)
theorem dX8_isBy_32 : mD cX8_isBy 32 (.aload_n 0) 1 33 := ⟨by decide +kernel, rfl⟩
theorem dX8_isBy_33 : mD cX8_isBy 33 (.getfield 48) 3 36 := ⟨by decide +kernel, rfl⟩
theorem dX8_isBy_36 : mD cX8_isBy 36 (.iload_n 3) 1 37 := ⟨by decide +kernel, rfl⟩
theorem dX8_isBy_37 : mD cX8_isBy 37 .iaload 1 38 := ⟨by decide +kernel, rfl⟩
theorem dX8_isBy_38 : mD cX8_isBy 38 (.iload 5) 2 40 := ⟨by decide +kernel, rfl⟩
theorem dX8_isBy_40 : mD cX8_isBy 40 (.invokestatic 127) 3 43 := ⟨by decide +kernel, rfl⟩
theorem dX8_isBy_43 : mD cX8_isBy 43 (.istore 6) 2 45 := ⟨by decide +kernel, rfl⟩
theorem dX8_isBy_45 : mD cX8_isBy 45 (.iload_n 1) 1 46 := ⟨by decide +kernel, rfl⟩
theorem dX8_isBy_46 : mD cX8_isBy 46 (.istore 7) 2 48 := ⟨by decide +kernel, rfl⟩
theorem dX8_isBy_48 : mD cX8_isBy 48 (.iconst 0) 1 49 := ⟨by decide +kernel, rfl⟩
theorem dX8_isBy_49 : mD cX8_isBy 49 (.istore 8) 2 51 := ⟨by decide +kernel, rfl⟩
theorem dX8_isBy_51 : mD cX8_isBy 51 (.iload 8) 2 53 := ⟨by decide +kernel, rfl⟩
theorem dX8_isBy_53 : mD cX8_isBy 53 (.iload 6) 2 55 := ⟨by decide +kernel, rfl⟩
theorem dX8_isBy_55 : mJ cX8_isBy 55 (.if_icmp .ge) 58 71 := mJ.of (16) (by decide +kernel) rfl (by decide)
theorem dX8_isBy_58 : mD cX8_isBy 58 (.iload 7) 2 60 := ⟨by decide +kernel, rfl⟩
theorem dX8_isBy_60 : mD cX8_isBy 60 (.bipush 6) 2 62 := ⟨by decide +kernel, rfl⟩
theorem dX8_isBy_62 : mD cX8_isBy 62 .idiv 1 63 := ⟨by decide +kernel, rfl⟩
theorem dX8_isBy_63 : mD cX8_isBy 63 (.istore 7) 2 65 := ⟨by decide +kernel, rfl⟩
theorem dX8_isBy_65 : mD cX8_isBy 65 (.iinc 8 1) 3 68 := ⟨by decide +kernel, rfl⟩
theorem dX8_isBy_68 : mJ cX8_isBy 68 .goto 71 51 := mJ.of (-17) (by decide +kernel) rfl (by decide)
theorem dX8_isBy_71 : mD cX8_isBy 71 (.aload_n 0) 1 72 := ⟨by decide +kernel, rfl⟩
theorem dX8_isBy_72 : mD cX8_isBy 72 (.aload_n 0) 1 73 := ⟨by decide +kernel, rfl⟩
theorem dX8_isBy_73 : mD cX8_isBy 73 (.getfield 29) 3 76 := ⟨by decide +kernel, rfl⟩
theorem dX8_isBy_76 : mD cX8_isBy 76 (.bipush 6) 2 78 := ⟨by decide +kernel, rfl⟩
theorem dX8_isBy_78 : mD cX8_isBy 78 (.iload 6) 2 80 := ⟨by decide +kernel, rfl⟩
theorem dX8_isBy_80 : mD cX8_isBy 80 .imul 1 81 := ⟨by decide +kernel, rfl⟩
theorem dX8_isBy_81 : mD cX8_isBy 81 (.iload 7) 2 83 := ⟨by decide +kernel, rfl⟩
theorem dX8_isBy_83 : mD cX8_isBy 83 (.bipush 6) 2 85 := ⟨by decide +kernel, rfl⟩
theorem dX8_isBy_85 : mD cX8_isBy 85 .irem 1 86 := ⟨by decide +kernel, rfl⟩
theorem dX8_isBy_86 : mD cX8_isBy 86 .iadd 1 87 := ⟨by decide +kernel, rfl⟩
theorem dX8_isBy_87 : mD cX8_isBy 87 .iaload 1 88 := ⟨by decide +kernel, rfl⟩
theorem dX8_isBy_88 : mD cX8_isBy 88 (.aload_n 0) 1 89 := ⟨by decide +kernel, rfl⟩
theorem dX8_isBy_89 : mD cX8_isBy 89 (.iload_n 2) 1 90 := ⟨by decide +kernel, rfl⟩
theorem dX8_isBy_90 : mD cX8_isBy 90 (.iload 5) 2 92 := ⟨by decide +kernel, rfl⟩
theorem dX8_isBy_92 : mD cX8_isBy 92 (.invokevirtual 133) 3 95 := ⟨by decide +kernel, rfl⟩
theorem dX8_isBy_95 : mD cX8_isBy 95 (.invokevirtual 123) 3 98 := ⟨by decide +kernel, rfl⟩
theorem dX8_isBy_98 : mD cX8_isBy 98 (.istore 4) 2 100 := ⟨by decide +kernel, rfl⟩
theorem dX8_isBy_100 : mD cX8_isBy 100 (.iinc 5 1) 3 103 := ⟨by decide +kernel, rfl⟩
theorem dX8_isBy_103 : mJ cX8_isBy 103 .goto 106 16 := mJ.of (-87) (by decide +kernel) rfl (by decide)
theorem dX8_isBy_106 : mD cX8_isBy 106 (.iload 4) 2 108 := ⟨by decide +kernel, rfl⟩
theorem dX8_isBy_108 : mJ cX8_isBy 108 (.ifCond .eq) 111 113 := mJ.of (5) (by decide +kernel) rfl (by decide)
theorem dX8_isBy_111 : mD cX8_isBy 111 (.iconst 1) 1 112 := ⟨by decide +kernel, rfl⟩
theorem dX8_isBy_112 : mD cX8_isBy 112 .ireturn 1 113 := ⟨by decide +kernel, rfl⟩
theorem dX8_isBy_113 : mD cX8_isBy 113 (.iinc 3 1) 3 116 := ⟨by decide +kernel, rfl⟩
theorem dX8_isBy_116 : mJ cX8_isBy 116 .goto 119 2 := mJ.of (-114) (by decide +kernel) rfl (by decide)
theorem dX8_isBy_119 : mD cX8_isBy 119 (.iconst 0) 1 120 := ⟨by decide +kernel, rfl⟩
theorem dX8_isBy_120 : mD cX8_isBy 120 .ireturn 1 121 := ⟨by decide +kernel, rfl⟩
theorem dX8_odds_0 : mD cX8_odds 0 (.aload_n 0) 1 1 := ⟨by decide +kernel, rfl⟩
theorem dX8_odds_1 : mD cX8_odds 1 (.iload_n 1) 1 2 := ⟨by decide +kernel, rfl⟩
theorem dX8_odds_2 : mD cX8_odds 2 (.invokevirtual 203) 3 5 := ⟨by decide +kernel, rfl⟩
theorem dX8_odds_5 : mJ cX8_odds 5 (.ifCond .eq) 8 17 := mJ.of (12) (by decide +kernel) rfl (by decide)
theorem dX8_odds_8 : mD cX8_odds 8 (.iload_n 2) 1 9 := ⟨by decide +kernel, rfl⟩
theorem dX8_odds_9 : mD cX8_odds 9 (.iconst 0) 1 10 := ⟨by decide +kernel, rfl⟩
theorem dX8_odds_10 : mD cX8_odds 10 (.iconst 1) 1 11 := ⟨by decide +kernel, rfl⟩
theorem dX8_odds_11 : mD cX8_odds 11 (.invokestatic 63) 3 14 := ⟨by decide +kernel, rfl⟩
theorem dX8_odds_14 : mJ cX8_odds 14 (.ifCond .ne) 17 19 := mJ.of (5) (by decide +kernel) rfl (by decide)
theorem dX8_odds_17 : mD cX8_odds 17 (.iconst (-1)) 1 18 := ⟨by decide +kernel, rfl⟩
theorem dX8_odds_18 : mD cX8_odds 18 .ireturn 1 19 := ⟨by decide +kernel, rfl⟩
theorem dX8_odds_19 : mD cX8_odds 19 (.iconst 1) 1 20 := ⟨by decide +kernel, rfl⟩
theorem dX8_odds_20 : mD cX8_odds 20 (.istore_n 3) 1 21 := ⟨by decide +kernel, rfl⟩
theorem dX8_odds_21 : mD cX8_odds 21 (.iconst 0) 1 22 := ⟨by decide +kernel, rfl⟩
theorem dX8_odds_22 : mD cX8_odds 22 (.istore 4) 2 24 := ⟨by decide +kernel, rfl⟩
theorem dX8_odds_24 : mD cX8_odds 24 (.iload 4) 2 26 := ⟨by decide +kernel, rfl⟩
theorem dX8_odds_26 : mD cX8_odds 26 (.aload_n 0) 1 27 := ⟨by decide +kernel, rfl⟩
theorem dX8_odds_27 : mD cX8_odds 27 (.getfield 13) 3 30 := ⟨by decide +kernel, rfl⟩
theorem dX8_odds_30 : mD cX8_odds 30 (.iconst 0) 1 31 := ⟨by decide +kernel, rfl⟩
theorem dX8_odds_31 : mD cX8_odds 31 .iaload 1 32 := ⟨by decide +kernel, rfl⟩
theorem dX8_odds_32 : mJ cX8_odds 32 (.if_icmp .ge) 35 46 := mJ.of (14) (by decide +kernel) rfl (by decide)
theorem dX8_odds_35 : mD cX8_odds 35 (.iload_n 3) 1 36 := ⟨by decide +kernel, rfl⟩
theorem dX8_odds_36 : mD cX8_odds 36 (.bipush 6) 2 38 := ⟨by decide +kernel, rfl⟩
theorem dX8_odds_38 : mD cX8_odds 38 .imul 1 39 := ⟨by decide +kernel, rfl⟩
theorem dX8_odds_39 : mD cX8_odds 39 (.istore_n 3) 1 40 := ⟨by decide +kernel, rfl⟩
theorem dX8_odds_40 : mD cX8_odds 40 (.iinc 4 1) 3 43 := ⟨by decide +kernel, rfl⟩
theorem dX8_odds_43 : mJ cX8_odds 43 .goto 46 24 := mJ.of (-19) (by decide +kernel) rfl (by decide)
theorem dX8_odds_46 : mD cX8_odds 46 (.iconst 0) 1 47 := ⟨by decide +kernel, rfl⟩
theorem dX8_odds_47 : mD cX8_odds 47 (.istore 4) 2 49 := ⟨by decide +kernel, rfl⟩
theorem dX8_odds_49 : mD cX8_odds 49 (.iconst 0) 1 50 := ⟨by decide +kernel, rfl⟩
theorem dX8_odds_50 : mD cX8_odds 50 (.istore 5) 2 52 := ⟨by decide +kernel, rfl⟩
theorem dX8_odds_52 : mD cX8_odds 52 (.iload 5) 2 54 := ⟨by decide +kernel, rfl⟩
theorem dX8_odds_54 : mD cX8_odds 54 (.iload_n 3) 1 55 := ⟨by decide +kernel, rfl⟩
theorem dX8_odds_55 : mJ cX8_odds 55 (.if_icmp .ge) 58 84 := mJ.of (29) (by decide +kernel) rfl (by decide)
theorem dX8_odds_58 : mD cX8_odds 58 (.iload 4) 2 60 := ⟨by decide +kernel, rfl⟩
theorem dX8_odds_60 : mD cX8_odds 60 (.aload_n 0) 1 61 := ⟨by decide +kernel, rfl⟩
theorem dX8_odds_61 : mD cX8_odds 61 (.iload 5) 2 63 := ⟨by decide +kernel, rfl⟩
theorem dX8_odds_63 : mD cX8_odds 63 (.iload_n 1) 1 64 := ⟨by decide +kernel, rfl⟩
theorem dX8_odds_64 : mD cX8_odds 64 (.invokevirtual 215) 3 67 := ⟨by decide +kernel, rfl⟩
theorem dX8_odds_67 : mJ cX8_odds 67 (.ifCond .eq) 70 74 := mJ.of (7) (by decide +kernel) rfl (by decide)
theorem dX8_odds_70 : mD cX8_odds 70 (.iconst 1) 1 71 := ⟨by decide +kernel, rfl⟩
theorem dX8_odds_71 : mJ cX8_odds 71 .goto 74 75 := mJ.of (4) (by decide +kernel) rfl (by decide)
theorem dX8_odds_74 : mD cX8_odds 74 (.iconst 0) 1 75 := ⟨by decide +kernel, rfl⟩
theorem dX8_odds_75 : mD cX8_odds 75 .iadd 1 76 := ⟨by decide +kernel, rfl⟩
theorem dX8_odds_76 : mD cX8_odds 76 (.istore 4) 2 78 := ⟨by decide +kernel, rfl⟩
theorem dX8_odds_78 : mD cX8_odds 78 (.iinc 5 1) 3 81 := ⟨by decide +kernel, rfl⟩
theorem dX8_odds_81 : mJ cX8_odds 81 .goto 84 52 := mJ.of (-29) (by decide +kernel) rfl (by decide)
theorem dX8_odds_84 : mD cX8_odds 84 (.iload 4) 2 86 := ⟨by decide +kernel, rfl⟩
theorem dX8_odds_86 : mD cX8_odds 86 (.istore 5) 2 88 := ⟨by decide +kernel, rfl⟩
theorem dX8_odds_88 : mD cX8_odds 88 (.iload_n 3) 1 89 := ⟨by decide +kernel, rfl⟩
theorem dX8_odds_89 : mD cX8_odds 89 (.istore 6) 2 91 := ⟨by decide +kernel, rfl⟩
theorem dX8_odds_91 : mD cX8_odds 91 (.iload 6) 2 93 := ⟨by decide +kernel, rfl⟩
theorem dX8_odds_93 : mJ cX8_odds 93 (.ifCond .eq) 96 114 := mJ.of (21) (by decide +kernel) rfl (by decide)
theorem dX8_odds_96 : mD cX8_odds 96 (.iload 5) 2 98 := ⟨by decide +kernel, rfl⟩
theorem dX8_odds_98 : mD cX8_odds 98 (.iload 6) 2 100 := ⟨by decide +kernel, rfl⟩
theorem dX8_odds_100 : mD cX8_odds 100 .irem 1 101 := ⟨by decide +kernel, rfl⟩
theorem dX8_odds_101 : mD cX8_odds 101 (.istore 7) 2 103 := ⟨by decide +kernel, rfl⟩
theorem dX8_odds_103 : mD cX8_odds 103 (.iload 6) 2 105 := ⟨by decide +kernel, rfl⟩
theorem dX8_odds_105 : mD cX8_odds 105 (.istore 5) 2 107 := ⟨by decide +kernel, rfl⟩
theorem dX8_odds_107 : mD cX8_odds 107 (.iload 7) 2 109 := ⟨by decide +kernel, rfl⟩
theorem dX8_odds_109 : mD cX8_odds 109 (.istore 6) 2 111 := ⟨by decide +kernel, rfl⟩
theorem dX8_odds_111 : mJ cX8_odds 111 .goto 114 91 := mJ.of (-20) (by decide +kernel) rfl (by decide)
theorem dX8_odds_114 : mD cX8_odds 114 (.iload_n 2) 1 115 := ⟨by decide +kernel, rfl⟩
theorem dX8_odds_115 : mJ cX8_odds 115 (.ifCond .ne) 118 126 := mJ.of (11) (by decide +kernel) rfl (by decide)
theorem dX8_odds_118 : mD cX8_odds 118 (.iload 4) 2 120 := ⟨by decide +kernel, rfl⟩
theorem dX8_odds_120 : mD cX8_odds 120 (.iload 5) 2 122 := ⟨by decide +kernel, rfl⟩
theorem dX8_odds_122 : mD cX8_odds 122 .idiv 1 123 := ⟨by decide +kernel, rfl⟩
theorem dX8_odds_123 : mJ cX8_odds 123 .goto 126 130 := mJ.of (7) (by decide +kernel) rfl (by decide)
theorem dX8_odds_126 : mD cX8_odds 126 (.iload_n 3) 1 127 := ⟨by decide +kernel, rfl⟩
theorem dX8_odds_127 : mD cX8_odds 127 (.iload 5) 2 129 := ⟨by decide +kernel, rfl⟩
theorem dX8_odds_129 : mD cX8_odds 129 .idiv 1 130 := ⟨by decide +kernel, rfl⟩
theorem dX8_odds_130 : mD cX8_odds 130 .ireturn 1 131 := ⟨by decide +kernel, rfl⟩
theorem dX8_sees_0 : mD cX8_sees 0 (.iload_n 1) 1 1 := ⟨by decide +kernel, rfl⟩
theorem dX8_sees_1 : mD cX8_sees 1 (.iconst 0) 1 2 := ⟨by decide +kernel, rfl⟩
theorem dX8_sees_2 : mD cX8_sees 2 (.bipush 9) 2 4 := ⟨by decide +kernel, rfl⟩
theorem dX8_sees_4 : mD cX8_sees 4 (.invokestatic 63) 3 7 := ⟨by decide +kernel, rfl⟩
theorem dX8_sees_7 : mJ cX8_sees 7 (.ifCond .eq) 10 19 := mJ.of (12) (by decide +kernel) rfl (by decide)
theorem dX8_sees_10 : mD cX8_sees 10 (.iload_n 2) 1 11 := ⟨by decide +kernel, rfl⟩
theorem dX8_sees_11 : mD cX8_sees 11 (.iconst 0) 1 12 := ⟨by decide +kernel, rfl⟩
theorem dX8_sees_12 : mD cX8_sees 12 (.iconst 1) 1 13 := ⟨by decide +kernel, rfl⟩
theorem dX8_sees_13 : mD cX8_sees 13 (.invokestatic 63) 3 16 := ⟨by decide +kernel, rfl⟩
theorem dX8_sees_16 : mJ cX8_sees 16 (.ifCond .ne) 19 21 := mJ.of (5) (by decide +kernel) rfl (by decide)
theorem dX8_sees_19 : mD cX8_sees 19 (.iconst (-1)) 1 20 := ⟨by decide +kernel, rfl⟩
theorem dX8_sees_20 : mD cX8_sees 20 .ireturn 1 21 := ⟨by decide +kernel, rfl⟩
theorem dX8_sees_21 : mD cX8_sees 21 (.aload_n 0) 1 22 := ⟨by decide +kernel, rfl⟩
theorem dX8_sees_22 : mD cX8_sees 22 (.getfield 120) 3 25 := ⟨by decide +kernel, rfl⟩
theorem dX8_sees_25 : mD cX8_sees 25 (.bipush 6) 2 27 := ⟨by decide +kernel, rfl⟩
theorem dX8_sees_27 : mJ cX8_sees 27 (.if_icmp .ne) 30 33 := mJ.of (6) (by decide +kernel) rfl (by decide)
theorem dX8_sees_30 : mD cX8_sees 30 (.bipush (-3)) 2 32 := ⟨by decide +kernel, rfl⟩
theorem dX8_sees_32 : mD cX8_sees 32 .ireturn 1 33 := ⟨by decide +kernel, rfl⟩
theorem dX8_sees_33 : mD cX8_sees 33 (.aload_n 0) 1 34 := ⟨by decide +kernel, rfl⟩
theorem dX8_sees_34 : mD cX8_sees 34 (.getfield 51) 3 37 := ⟨by decide +kernel, rfl⟩
theorem dX8_sees_37 : mD cX8_sees 37 (.aload_n 0) 1 38 := ⟨by decide +kernel, rfl⟩
theorem dX8_sees_38 : mD cX8_sees 38 (.getfield 120) 3 41 := ⟨by decide +kernel, rfl⟩
theorem dX8_sees_41 : mD cX8_sees 41 (.iload_n 1) 1 42 := ⟨by decide +kernel, rfl⟩
theorem dX8_sees_42 : mD cX8_sees 42 .iastore 1 43 := ⟨by decide +kernel, rfl⟩
theorem dX8_sees_43 : mD cX8_sees 43 (.aload_n 0) 1 44 := ⟨by decide +kernel, rfl⟩
theorem dX8_sees_44 : mD cX8_sees 44 (.getfield 54) 3 47 := ⟨by decide +kernel, rfl⟩
theorem dX8_sees_47 : mD cX8_sees 47 (.aload_n 0) 1 48 := ⟨by decide +kernel, rfl⟩
theorem dX8_sees_48 : mD cX8_sees 48 (.getfield 120) 3 51 := ⟨by decide +kernel, rfl⟩
theorem dX8_sees_51 : mD cX8_sees 51 (.iload_n 2) 1 52 := ⟨by decide +kernel, rfl⟩
theorem dX8_sees_52 : mD cX8_sees 52 .iastore 1 53 := ⟨by decide +kernel, rfl⟩
theorem dX8_sees_53 : mD cX8_sees 53 (.aload_n 0) 1 54 := ⟨by decide +kernel, rfl⟩
theorem dX8_sees_54 : mD cX8_sees 54 .dup 1 55 := ⟨by decide +kernel, rfl⟩
theorem dX8_sees_55 : mD cX8_sees 55 (.getfield 120) 3 58 := ⟨by decide +kernel, rfl⟩
theorem dX8_sees_58 : mD cX8_sees 58 (.iconst 1) 1 59 := ⟨by decide +kernel, rfl⟩
theorem dX8_sees_59 : mD cX8_sees 59 .iadd 1 60 := ⟨by decide +kernel, rfl⟩
theorem dX8_sees_60 : mD cX8_sees 60 (.putfield 120) 3 63 := ⟨by decide +kernel, rfl⟩
theorem dX8_sees_63 : mD cX8_sees 63 (.aload_n 0) 1 64 := ⟨by decide +kernel, rfl⟩
theorem dX8_sees_64 : mD cX8_sees 64 (.getfield 120) 3 67 := ⟨by decide +kernel, rfl⟩
theorem dX8_sees_67 : mD cX8_sees 67 .ireturn 1 68 := ⟨by decide +kernel, rfl⟩
theorem dX8_forget_0 : mD cX8_forget 0 (.aload_n 0) 1 1 := ⟨by decide +kernel, rfl⟩
theorem dX8_forget_1 : mD cX8_forget 1 (.getfield 120) 3 4 := ⟨by decide +kernel, rfl⟩
theorem dX8_forget_4 : mD cX8_forget 4 (.istore_n 1) 1 5 := ⟨by decide +kernel, rfl⟩
theorem dX8_forget_5 : mD cX8_forget 5 (.aload_n 0) 1 6 := ⟨by decide +kernel, rfl⟩
theorem dX8_forget_6 : mD cX8_forget 6 (.iconst 0) 1 7 := ⟨by decide +kernel, rfl⟩
theorem dX8_forget_7 : mD cX8_forget 7 (.putfield 120) 3 10 := ⟨by decide +kernel, rfl⟩
theorem dX8_forget_10 : mD cX8_forget 10 (.iload_n 1) 1 11 := ⟨by decide +kernel, rfl⟩
theorem dX8_forget_11 : mD cX8_forget 11 .ireturn 1 12 := ⟨by decide +kernel, rfl⟩
theorem dX8_which_0 : mD cX8_which 0 (.iconst 0) 1 1 := ⟨by decide +kernel, rfl⟩
theorem dX8_which_1 : mD cX8_which 1 (.istore_n 1) 1 2 := ⟨by decide +kernel, rfl⟩
theorem dX8_which_2 : mD cX8_which 2 (.iconst 0) 1 3 := ⟨by decide +kernel, rfl⟩
theorem dX8_which_3 : mD cX8_which 3 (.istore_n 2) 1 4 := ⟨by decide +kernel, rfl⟩
theorem dX8_which_4 : mD cX8_which 4 (.iload_n 2) 1 5 := ⟨by decide +kernel, rfl⟩
theorem dX8_which_5 : mD cX8_which 5 (.aload_n 0) 1 6 := ⟨by decide +kernel, rfl⟩
theorem dX8_which_6 : mD cX8_which 6 (.getfield 13) 3 9 := ⟨by decide +kernel, rfl⟩
theorem dX8_which_9 : mD cX8_which 9 (.iconst 0) 1 10 := ⟨by decide +kernel, rfl⟩
theorem dX8_which_10 : mD cX8_which 10 .iaload 1 11 := ⟨by decide +kernel, rfl⟩
theorem dX8_which_11 : mJ cX8_which 11 (.if_icmp .ge) 14 98 := mJ.of (87) (by decide +kernel) rfl (by decide)
theorem dX8_which_14 : mD cX8_which 14 (.iconst 1) 1 15 := ⟨by decide +kernel, rfl⟩
theorem dX8_which_15 : mD cX8_which 15 (.istore_n 3) 1 16 := ⟨by decide +kernel, rfl⟩
theorem dX8_which_16 : mD cX8_which 16 (.iconst 0) 1 17 := ⟨by decide +kernel, rfl⟩
theorem dX8_which_17 : mD cX8_which 17 (.istore 4) 2 19 := ⟨by decide +kernel, rfl⟩
theorem dX8_which_19 : mD cX8_which 19 (.iload 4) 2 21 := ⟨by decide +kernel, rfl⟩
theorem dX8_which_21 : mD cX8_which 21 (.aload_n 0) 1 22 := ⟨by decide +kernel, rfl⟩
theorem dX8_which_22 : mD cX8_which 22 (.getfield 120) 3 25 := ⟨by decide +kernel, rfl⟩
theorem dX8_which_25 : mJ cX8_which 25 (.if_icmp .ge) 28 78 := mJ.of (53) (by decide +kernel) rfl (by decide)
theorem dX8_which_28 : mD cX8_which 28 (.iload_n 3) 1 29 := ⟨by decide +kernel, rfl⟩
theorem dX8_which_29 : mJ cX8_which 29 (.ifCond .eq) 32 70 := mJ.of (41) (by decide +kernel) rfl (by decide)
theorem dX8_which_32 : mD cX8_which 32 (.aload_n 0) 1 33 := ⟨by decide +kernel, rfl⟩
theorem dX8_which_33 : mD cX8_which 33 (.iload_n 2) 1 34 := ⟨by decide +kernel, rfl⟩
theorem dX8_which_34 : mD cX8_which 34 (.invokevirtual 157) 3 37 := ⟨by decide +kernel, rfl⟩
theorem dX8_which_37 : mD cX8_which 37 (.aload_n 0) 1 38 := ⟨by decide +kernel, rfl⟩
theorem dX8_which_38 : mD cX8_which 38 (.getfield 51) 3 41 := ⟨by decide +kernel, rfl⟩
theorem dX8_which_41 : mD cX8_which 41 (.iload 4) 2 43 := ⟨by decide +kernel, rfl⟩
theorem dX8_which_43 : mD cX8_which 43 .iaload 1 44 := ⟨by decide +kernel, rfl⟩
theorem dX8_which_44 : mD cX8_which 44 (.invokestatic 145) 3 47 := ⟨by decide +kernel, rfl⟩
theorem dX8_which_47 : mD cX8_which 47 (.aload_n 0) 1 48 := ⟨by decide +kernel, rfl⟩
theorem dX8_which_48 : mD cX8_which 48 (.getfield 54) 3 51 := ⟨by decide +kernel, rfl⟩
theorem dX8_which_51 : mD cX8_which 51 (.iload 4) 2 53 := ⟨by decide +kernel, rfl⟩
theorem dX8_which_53 : mD cX8_which 53 .iaload 1 54 := ⟨by decide +kernel, rfl⟩
theorem dX8_which_54 : mD cX8_which 54 (.iconst 1) 1 55 := ⟨by decide +kernel, rfl⟩
theorem dX8_which_55 : mJ cX8_which 55 (.if_icmp .ne) 58 62 := mJ.of (7) (by decide +kernel) rfl (by decide)
theorem dX8_which_58 : mD cX8_which 58 (.iconst 1) 1 59 := ⟨by decide +kernel, rfl⟩
theorem dX8_which_59 : mJ cX8_which 59 .goto 62 63 := mJ.of (4) (by decide +kernel) rfl (by decide)
theorem dX8_which_62 : mD cX8_which 62 (.iconst 0) 1 63 := ⟨by decide +kernel, rfl⟩
theorem dX8_which_63 : mJ cX8_which 63 (.if_icmp .ne) 66 70 := mJ.of (7) (by decide +kernel) rfl (by decide)
theorem dX8_which_66 : mD cX8_which 66 (.iconst 1) 1 67 := ⟨by decide +kernel, rfl⟩
theorem dX8_which_67 : mJ cX8_which 67 .goto 70 71 := mJ.of (4) (by decide +kernel) rfl (by decide)
theorem dX8_which_70 : mD cX8_which 70 (.iconst 0) 1 71 := ⟨by decide +kernel, rfl⟩
theorem dX8_which_71 : mD cX8_which 71 (.istore_n 3) 1 72 := ⟨by decide +kernel, rfl⟩
theorem dX8_which_72 : mD cX8_which 72 (.iinc 4 1) 3 75 := ⟨by decide +kernel, rfl⟩
theorem dX8_which_75 : mJ cX8_which 75 .goto 78 19 := mJ.of (-56) (by decide +kernel) rfl (by decide)
theorem dX8_which_78 : mD cX8_which 78 (.iload_n 1) 1 79 := ⟨by decide +kernel, rfl⟩
theorem dX8_which_79 : mD cX8_which 79 (.iload_n 3) 1 80 := ⟨by decide +kernel, rfl⟩
theorem dX8_which_80 : mJ cX8_which 80 (.ifCond .eq) 83 89 := mJ.of (9) (by decide +kernel) rfl (by decide)
theorem dX8_which_83 : mD cX8_which 83 (.iconst 1) 1 84 := ⟨by decide +kernel, rfl⟩
theorem dX8_which_84 : mD cX8_which 84 (.iload_n 2) 1 85 := ⟨by decide +kernel, rfl⟩
theorem dX8_which_85 : mD cX8_which 85 .ishl 1 86 := ⟨by decide +kernel, rfl⟩
theorem dX8_which_86 : mJ cX8_which 86 .goto 89 90 := mJ.of (4) (by decide +kernel) rfl (by decide)
theorem dX8_which_89 : mD cX8_which 89 (.iconst 0) 1 90 := ⟨by decide +kernel, rfl⟩
theorem dX8_which_90 : mD cX8_which 90 .ior 1 91 := ⟨by decide +kernel, rfl⟩
theorem dX8_which_91 : mD cX8_which 91 (.istore_n 1) 1 92 := ⟨by decide +kernel, rfl⟩
theorem dX8_which_92 : mD cX8_which 92 (.iinc 2 1) 3 95 := ⟨by decide +kernel, rfl⟩
theorem dX8_which_95 : mJ cX8_which 95 .goto 98 4 := mJ.of (-91) (by decide +kernel) rfl (by decide)
theorem dX8_which_98 : mD cX8_which 98 (.iload_n 1) 1 99 := ⟨by decide +kernel, rfl⟩
theorem dX8_which_99 : mD cX8_which 99 .ireturn 1 100 := ⟨by decide +kernel, rfl⟩
theorem dX8_look_0 : mD cX8_look 0 (.aload_n 0) 1 1 := ⟨by decide +kernel, rfl⟩
theorem dX8_look_1 : mD cX8_look 1 (.invokevirtual 218) 3 4 := ⟨by decide +kernel, rfl⟩
theorem dX8_look_4 : mD cX8_look 4 (.istore_n 1) 1 5 := ⟨by decide +kernel, rfl⟩
theorem dX8_look_5 : mD cX8_look 5 (.iload_n 1) 1 6 := ⟨by decide +kernel, rfl⟩
theorem dX8_look_6 : mD cX8_look 6 (.invokestatic 221) 3 9 := ⟨by decide +kernel, rfl⟩
theorem dX8_look_9 : mD cX8_look 9 (.istore_n 2) 1 10 := ⟨by decide +kernel, rfl⟩
theorem dX8_look_10 : mD cX8_look 10 (.bipush (-9)) 2 12 := ⟨by decide +kernel, rfl⟩
theorem dX8_look_12 : mD cX8_look 12 (.istore_n 3) 1 13 := ⟨by decide +kernel, rfl⟩
theorem dX8_look_13 : mD cX8_look 13 (.iload_n 2) 1 14 := ⟨by decide +kernel, rfl⟩
theorem dX8_look_14 : mD cX8_look 14 (.istore 4) 2 16 := ⟨by decide +kernel, rfl⟩
theorem dX8_look_16 : mD cX8_look 16 (.iconst 0) 1 17 := ⟨by decide +kernel, rfl⟩
theorem dX8_look_17 : mD cX8_look 17 (.istore 5) 2 19 := ⟨by decide +kernel, rfl⟩
theorem dX8_look_19 : mD cX8_look 19 (.iload 5) 2 21 := ⟨by decide +kernel, rfl⟩
theorem dX8_look_21 : mD cX8_look 21 (.bipush 9) 2 23 := ⟨by decide +kernel, rfl⟩
theorem dX8_look_23 : mJ cX8_look 23 (.if_icmp .gt) 26 138 := mJ.of (115) (by decide +kernel) rfl (by decide)
theorem dX8_look_26 : mD cX8_look 26 (.iconst 0) 1 27 := ⟨by decide +kernel, rfl⟩
theorem dX8_look_27 : mD cX8_look 27 (.istore 6) 2 29 := ⟨by decide +kernel, rfl⟩
theorem dX8_look_29 : mD cX8_look 29 (.iconst 0) 1 30 := ⟨by decide +kernel, rfl⟩
theorem dX8_look_30 : mD cX8_look 30 (.istore 7) 2 32 := ⟨by decide +kernel, rfl⟩
theorem dX8_look_32 : mD cX8_look 32 (.iload 7) 2 34 := ⟨by decide +kernel, rfl⟩
theorem dX8_look_34 : mD cX8_look 34 (.aload_n 0) 1 35 := ⟨by decide +kernel, rfl⟩
theorem dX8_look_35 : mD cX8_look 35 (.getfield 13) 3 38 := ⟨by decide +kernel, rfl⟩
theorem dX8_look_38 : mD cX8_look 38 (.iconst 0) 1 39 := ⟨by decide +kernel, rfl⟩
theorem dX8_look_39 : mD cX8_look 39 .iaload 1 40 := ⟨by decide +kernel, rfl⟩
theorem dX8_look_40 : mJ cX8_look 40 (.if_icmp .ge) 43 82 := mJ.of (42) (by decide +kernel) rfl (by decide)
theorem dX8_look_43 : mD cX8_look 43 (.iload 6) 2 45 := ⟨by decide +kernel, rfl⟩
theorem dX8_look_45 : mD cX8_look 45 (.iload_n 1) 1 46 := ⟨by decide +kernel, rfl⟩
theorem dX8_look_46 : mD cX8_look 46 (.iload 7) 2 48 := ⟨by decide +kernel, rfl⟩
theorem dX8_look_48 : mD cX8_look 48 (.invokestatic 145) 3 51 := ⟨by decide +kernel, rfl⟩
theorem dX8_look_51 : mJ cX8_look 51 (.ifCond .eq) 54 72 := mJ.of (21) (by decide +kernel) rfl (by decide)
theorem dX8_look_54 : mD cX8_look 54 (.aload_n 0) 1 55 := ⟨by decide +kernel, rfl⟩
theorem dX8_look_55 : mD cX8_look 55 (.iload 7) 2 57 := ⟨by decide +kernel, rfl⟩
theorem dX8_look_57 : mD cX8_look 57 (.invokevirtual 157) 3 60 := ⟨by decide +kernel, rfl⟩
theorem dX8_look_60 : mD cX8_look 60 (.iload 5) 2 62 := ⟨by decide +kernel, rfl⟩
theorem dX8_look_62 : mD cX8_look 62 (.invokestatic 145) 3 65 := ⟨by decide +kernel, rfl⟩
theorem dX8_look_65 : mJ cX8_look 65 (.ifCond .eq) 68 72 := mJ.of (7) (by decide +kernel) rfl (by decide)
theorem dX8_look_68 : mD cX8_look 68 (.iconst 1) 1 69 := ⟨by decide +kernel, rfl⟩
theorem dX8_look_69 : mJ cX8_look 69 .goto 72 73 := mJ.of (4) (by decide +kernel) rfl (by decide)
theorem dX8_look_72 : mD cX8_look 72 (.iconst 0) 1 73 := ⟨by decide +kernel, rfl⟩
theorem dX8_look_73 : mD cX8_look 73 .iadd 1 74 := ⟨by decide +kernel, rfl⟩
theorem dX8_look_74 : mD cX8_look 74 (.istore 6) 2 76 := ⟨by decide +kernel, rfl⟩
theorem dX8_look_76 : mD cX8_look 76 (.iinc 7 1) 3 79 := ⟨by decide +kernel, rfl⟩
theorem dX8_look_79 : mJ cX8_look 79 .goto 82 32 := mJ.of (-47) (by decide +kernel) rfl (by decide)
theorem dX8_look_82 : mD cX8_look 82 (.iload 6) 2 84 := ⟨by decide +kernel, rfl⟩
theorem dX8_look_84 : mD cX8_look 84 (.iload_n 2) 1 85 := ⟨by decide +kernel, rfl⟩
theorem dX8_look_85 : mD cX8_look 85 (.iload 6) 2 87 := ⟨by decide +kernel, rfl⟩
theorem dX8_look_87 : mD cX8_look 87 .isub 1 88 := ⟨by decide +kernel, rfl⟩
theorem dX8_look_88 : mJ cX8_look 88 (.if_icmp .le) 91 96 := mJ.of (8) (by decide +kernel) rfl (by decide)
theorem dX8_look_91 : mD cX8_look 91 (.iload 6) 2 93 := ⟨by decide +kernel, rfl⟩
theorem dX8_look_93 : mJ cX8_look 93 .goto 96 100 := mJ.of (7) (by decide +kernel) rfl (by decide)
theorem dX8_look_96 : mD cX8_look 96 (.iload_n 2) 1 97 := ⟨by decide +kernel, rfl⟩
theorem dX8_look_97 : mD cX8_look 97 (.iload 6) 2 99 := ⟨by decide +kernel, rfl⟩
theorem dX8_look_99 : mD cX8_look 99 .isub 1 100 := ⟨by decide +kernel, rfl⟩
theorem dX8_look_100 : mD cX8_look 100 (.istore 7) 2 102 := ⟨by decide +kernel, rfl⟩
theorem dX8_look_102 : mD cX8_look 102 (.iload 7) 2 104 := ⟨by decide +kernel, rfl⟩
theorem dX8_look_104 : mD cX8_look 104 (.iload 4) 2 106 := ⟨by decide +kernel, rfl⟩
theorem dX8_look_106 : mJ cX8_look 106 (.if_icmp .ge) 109 114 := mJ.of (8) (by decide +kernel) rfl (by decide)
theorem dX8_look_109 : mD cX8_look 109 (.iload 5) 2 111 := ⟨by decide +kernel, rfl⟩
theorem dX8_look_111 : mJ cX8_look 111 .goto 114 115 := mJ.of (4) (by decide +kernel) rfl (by decide)
theorem dX8_look_114 : mD cX8_look 114 (.iload_n 3) 1 115 := ⟨by decide +kernel, rfl⟩
theorem dX8_look_115 : mD cX8_look 115 (.istore_n 3) 1 116 := ⟨by decide +kernel, rfl⟩
theorem dX8_look_116 : mD cX8_look 116 (.iload 7) 2 118 := ⟨by decide +kernel, rfl⟩
theorem dX8_look_118 : mD cX8_look 118 (.iload 4) 2 120 := ⟨by decide +kernel, rfl⟩
theorem dX8_look_120 : mJ cX8_look 120 (.if_icmp .ge) 123 128 := mJ.of (8) (by decide +kernel) rfl (by decide)
theorem dX8_look_123 : mD cX8_look 123 (.iload 7) 2 125 := ⟨by decide +kernel, rfl⟩
theorem dX8_look_125 : mJ cX8_look 125 .goto 128 130 := mJ.of (5) (by decide +kernel) rfl (by decide)
theorem dX8_look_128 : mD cX8_look 128 (.iload 4) 2 130 := ⟨by decide +kernel, rfl⟩
theorem dX8_look_130 : mD cX8_look 130 (.istore 4) 2 132 := ⟨by decide +kernel, rfl⟩
theorem dX8_look_132 : mD cX8_look 132 (.iinc 5 1) 3 135 := ⟨by decide +kernel, rfl⟩
theorem dX8_look_135 : mJ cX8_look 135 .goto 138 19 := mJ.of (-116) (by decide +kernel) rfl (by decide)
theorem dX8_look_138 : mD cX8_look 138 (.iload_n 3) 1 139 := ⟨by decide +kernel, rfl⟩
theorem dX8_look_139 : mD cX8_look 139 .ireturn 1 140 := ⟨by decide +kernel, rfl⟩
theorem dX8_bodiesOf_0 : mD cX8_bodiesOf 0 (.iload_n 0) 1 1 := ⟨by decide +kernel, rfl⟩
theorem dX8_bodiesOf_1 : decode cX8_bodiesOf 1 = .ok (.tableswitch 47 0 4 #[35, 37, 39, 41, 44], 35) := by decide +kernel
theorem dX8_bodiesOf_36 : mD cX8_bodiesOf 36 (.iconst 1) 1 37 := ⟨by decide +kernel, rfl⟩
theorem dX8_bodiesOf_37 : mD cX8_bodiesOf 37 .ireturn 1 38 := ⟨by decide +kernel, rfl⟩
theorem dX8_bodiesOf_38 : mD cX8_bodiesOf 38 (.iconst 3) 1 39 := ⟨by decide +kernel, rfl⟩
theorem dX8_bodiesOf_39 : mD cX8_bodiesOf 39 .ireturn 1 40 := ⟨by decide +kernel, rfl⟩
theorem dX8_bodiesOf_40 : mD cX8_bodiesOf 40 (.iconst 5) 1 41 := ⟨by decide +kernel, rfl⟩
theorem dX8_bodiesOf_41 : mD cX8_bodiesOf 41 .ireturn 1 42 := ⟨by decide +kernel, rfl⟩
theorem dX8_bodiesOf_42 : mD cX8_bodiesOf 42 (.bipush 11) 2 44 := ⟨by decide +kernel, rfl⟩
theorem dX8_bodiesOf_44 : mD cX8_bodiesOf 44 .ireturn 1 45 := ⟨by decide +kernel, rfl⟩
theorem dX8_bodiesOf_45 : mD cX8_bodiesOf 45 (.bipush 21) 2 47 := ⟨by decide +kernel, rfl⟩
theorem dX8_bodiesOf_47 : mD cX8_bodiesOf 47 .ireturn 1 48 := ⟨by decide +kernel, rfl⟩
theorem dX8_bodiesOf_48 : mD cX8_bodiesOf 48 (.bipush 33) 2 50 := ⟨by decide +kernel, rfl⟩
theorem dX8_bodiesOf_50 : mD cX8_bodiesOf 50 .ireturn 1 51 := ⟨by decide +kernel, rfl⟩
theorem dX8_mark_0 : mD cX8_mark 0 (.iload_n 1) 1 1 := ⟨by decide +kernel, rfl⟩
theorem dX8_mark_1 : mD cX8_mark 1 (.iconst 0) 1 2 := ⟨by decide +kernel, rfl⟩
theorem dX8_mark_2 : mD cX8_mark 2 (.iconst 5) 1 3 := ⟨by decide +kernel, rfl⟩
theorem dX8_mark_3 : mD cX8_mark 3 (.invokestatic 63) 3 6 := ⟨by decide +kernel, rfl⟩
theorem dX8_mark_6 : mJ cX8_mark 6 (.ifCond .eq) 9 17 := mJ.of (11) (by decide +kernel) rfl (by decide)
theorem dX8_mark_9 : mD cX8_mark 9 (.aload_n 0) 1 10 := ⟨by decide +kernel, rfl⟩
theorem dX8_mark_10 : mD cX8_mark 10 (.iload_n 2) 1 11 := ⟨by decide +kernel, rfl⟩
theorem dX8_mark_11 : mD cX8_mark 11 (.invokevirtual 148) 3 14 := ⟨by decide +kernel, rfl⟩
theorem dX8_mark_14 : mJ cX8_mark 14 (.ifCond .ne) 17 20 := mJ.of (6) (by decide +kernel) rfl (by decide)
theorem dX8_mark_17 : mD cX8_mark 17 (.ldc 224) 2 19 := ⟨by decide +kernel, rfl⟩
theorem dX8_mark_19 : mD cX8_mark 19 .ireturn 1 20 := ⟨by decide +kernel, rfl⟩
theorem dX8_mark_20 : mD cX8_mark 20 (.iload_n 1) 1 21 := ⟨by decide +kernel, rfl⟩
theorem dX8_mark_21 : mD cX8_mark 21 (.invokestatic 225) 3 24 := ⟨by decide +kernel, rfl⟩
theorem dX8_mark_24 : mD cX8_mark 24 (.istore_n 3) 1 25 := ⟨by decide +kernel, rfl⟩
theorem dX8_mark_25 : mD cX8_mark 25 (.lconst 1) 1 26 := ⟨by decide +kernel, rfl⟩
theorem dX8_mark_26 : mD cX8_mark 26 (.lstore 4) 2 28 := ⟨by decide +kernel, rfl⟩
theorem dX8_mark_28 : mD cX8_mark 28 (.iconst 0) 1 29 := ⟨by decide +kernel, rfl⟩
theorem dX8_mark_29 : mD cX8_mark 29 (.istore 6) 2 31 := ⟨by decide +kernel, rfl⟩
theorem dX8_mark_31 : mD cX8_mark 31 (.iload 6) 2 33 := ⟨by decide +kernel, rfl⟩
theorem dX8_mark_33 : mD cX8_mark 33 (.bipush 6) 2 35 := ⟨by decide +kernel, rfl⟩
theorem dX8_mark_35 : mJ cX8_mark 35 (.if_icmp .ge) 38 76 := mJ.of (41) (by decide +kernel) rfl (by decide)
theorem dX8_mark_38 : mD cX8_mark 38 (.aload_n 0) 1 39 := ⟨by decide +kernel, rfl⟩
theorem dX8_mark_39 : mD cX8_mark 39 .dup 1 40 := ⟨by decide +kernel, rfl⟩
theorem dX8_mark_40 : mD cX8_mark 40 (.getfield 228) 3 43 := ⟨by decide +kernel, rfl⟩
theorem dX8_mark_43 : mD cX8_mark 43 (.iload_n 3) 1 44 := ⟨by decide +kernel, rfl⟩
theorem dX8_mark_44 : mD cX8_mark 44 (.iload 6) 2 46 := ⟨by decide +kernel, rfl⟩
theorem dX8_mark_46 : mD cX8_mark 46 (.invokestatic 145) 3 49 := ⟨by decide +kernel, rfl⟩
theorem dX8_mark_49 : mJ cX8_mark 49 (.ifCond .eq) 52 57 := mJ.of (8) (by decide +kernel) rfl (by decide)
theorem dX8_mark_52 : mD cX8_mark 52 (.lload 4) 2 54 := ⟨by decide +kernel, rfl⟩
theorem dX8_mark_54 : mJ cX8_mark 54 .goto 57 58 := mJ.of (4) (by decide +kernel) rfl (by decide)
theorem dX8_mark_57 : mD cX8_mark 57 (.lconst 0) 1 58 := ⟨by decide +kernel, rfl⟩
theorem dX8_mark_58 : mD cX8_mark 58 .ladd 1 59 := ⟨by decide +kernel, rfl⟩
theorem dX8_mark_59 : mD cX8_mark 59 (.putfield 228) 3 62 := ⟨by decide +kernel, rfl⟩
theorem dX8_mark_62 : mD cX8_mark 62 (.lload 4) 2 64 := ⟨by decide +kernel, rfl⟩
theorem dX8_mark_64 : mD cX8_mark 64 (.ldc2_w 232) 3 67 := ⟨by decide +kernel, rfl⟩
theorem dX8_mark_67 : mD cX8_mark 67 .lmul 1 68 := ⟨by decide +kernel, rfl⟩
theorem dX8_mark_68 : mD cX8_mark 68 (.lstore 4) 2 70 := ⟨by decide +kernel, rfl⟩
theorem dX8_mark_70 : mD cX8_mark 70 (.iinc 6 1) 3 73 := ⟨by decide +kernel, rfl⟩
theorem dX8_mark_73 : mJ cX8_mark 73 .goto 76 31 := mJ.of (-42) (by decide +kernel) rfl (by decide)
theorem dX8_mark_76 : mD cX8_mark 76 (.aload_n 0) 1 77 := ⟨by decide +kernel, rfl⟩
theorem dX8_mark_77 : mD cX8_mark 77 (.iload_n 2) 1 78 := ⟨by decide +kernel, rfl⟩
theorem dX8_mark_78 : mD cX8_mark 78 (.invokevirtual 172) 3 81 := ⟨by decide +kernel, rfl⟩
theorem dX8_mark_81 : mD cX8_mark 81 (.istore 6) 2 83 := ⟨by decide +kernel, rfl⟩
theorem dX8_mark_83 : mD cX8_mark 83 (.iload 6) 2 85 := ⟨by decide +kernel, rfl⟩
theorem dX8_mark_85 : mD cX8_mark 85 (.iload_n 3) 1 86 := ⟨by decide +kernel, rfl⟩
theorem dX8_mark_86 : mD cX8_mark 86 (.iconst 1) 1 87 := ⟨by decide +kernel, rfl⟩
theorem dX8_mark_87 : mD cX8_mark 87 (.invokestatic 145) 3 90 := ⟨by decide +kernel, rfl⟩
theorem dX8_mark_90 : mJ cX8_mark 90 (.ifCond .eq) 93 101 := mJ.of (11) (by decide +kernel) rfl (by decide)
theorem dX8_mark_93 : mD cX8_mark 93 (.aload_n 0) 1 94 := ⟨by decide +kernel, rfl⟩
theorem dX8_mark_94 : mD cX8_mark 94 (.iload_n 2) 1 95 := ⟨by decide +kernel, rfl⟩
theorem dX8_mark_95 : mD cX8_mark 95 (.invokevirtual 154) 3 98 := ⟨by decide +kernel, rfl⟩
theorem dX8_mark_98 : mJ cX8_mark 98 .goto 101 102 := mJ.of (4) (by decide +kernel) rfl (by decide)
theorem dX8_mark_101 : mD cX8_mark 101 (.iconst 0) 1 102 := ⟨by decide +kernel, rfl⟩
theorem dX8_mark_102 : mD cX8_mark 102 .iadd 1 103 := ⟨by decide +kernel, rfl⟩
theorem dX8_mark_103 : mD cX8_mark 103 (.istore 6) 2 105 := ⟨by decide +kernel, rfl⟩
theorem dX8_mark_105 : mD cX8_mark 105 (.iload 6) 2 107 := ⟨by decide +kernel, rfl⟩
theorem dX8_mark_107 : mD cX8_mark 107 (.iload_n 3) 1 108 := ⟨by decide +kernel, rfl⟩
theorem dX8_mark_108 : mD cX8_mark 108 (.iconst 2) 1 109 := ⟨by decide +kernel, rfl⟩
theorem dX8_mark_109 : mD cX8_mark 109 (.invokestatic 145) 3 112 := ⟨by decide +kernel, rfl⟩
theorem dX8_mark_112 : mJ cX8_mark 112 (.ifCond .eq) 115 126 := mJ.of (14) (by decide +kernel) rfl (by decide)
theorem dX8_mark_115 : mD cX8_mark 115 (.aload_n 0) 1 116 := ⟨by decide +kernel, rfl⟩
theorem dX8_mark_116 : mD cX8_mark 116 (.iload_n 2) 1 117 := ⟨by decide +kernel, rfl⟩
theorem dX8_mark_117 : mD cX8_mark 117 (.invokevirtual 157) 3 120 := ⟨by decide +kernel, rfl⟩
theorem dX8_mark_120 : mD cX8_mark 120 (.invokestatic 221) 3 123 := ⟨by decide +kernel, rfl⟩
theorem dX8_mark_123 : mJ cX8_mark 123 .goto 126 127 := mJ.of (4) (by decide +kernel) rfl (by decide)
theorem dX8_mark_126 : mD cX8_mark 126 (.iconst 0) 1 127 := ⟨by decide +kernel, rfl⟩
theorem dX8_mark_127 : mD cX8_mark 127 .isub 1 128 := ⟨by decide +kernel, rfl⟩
theorem dX8_mark_128 : mD cX8_mark 128 (.istore 6) 2 130 := ⟨by decide +kernel, rfl⟩
theorem dX8_mark_130 : mD cX8_mark 130 (.iload_n 3) 1 131 := ⟨by decide +kernel, rfl⟩
theorem dX8_mark_131 : mD cX8_mark 131 (.iconst 3) 1 132 := ⟨by decide +kernel, rfl⟩
theorem dX8_mark_132 : mD cX8_mark 132 (.invokestatic 145) 3 135 := ⟨by decide +kernel, rfl⟩
theorem dX8_mark_135 : mJ cX8_mark 135 (.ifCond .eq) 138 145 := mJ.of (10) (by decide +kernel) rfl (by decide)
theorem dX8_mark_138 : mD cX8_mark 138 (.iconst 2) 1 139 := ⟨by decide +kernel, rfl⟩
theorem dX8_mark_139 : mD cX8_mark 139 (.iload 6) 2 141 := ⟨by decide +kernel, rfl⟩
theorem dX8_mark_141 : mD cX8_mark 141 .imul 1 142 := ⟨by decide +kernel, rfl⟩
theorem dX8_mark_142 : mJ cX8_mark 142 .goto 145 147 := mJ.of (5) (by decide +kernel) rfl (by decide)
theorem dX8_mark_145 : mD cX8_mark 145 (.iload 6) 2 147 := ⟨by decide +kernel, rfl⟩
theorem dX8_mark_147 : mD cX8_mark 147 (.istore 6) 2 149 := ⟨by decide +kernel, rfl⟩
theorem dX8_mark_149 : mD cX8_mark 149 (.iload 6) 2 151 := ⟨by decide +kernel, rfl⟩
theorem dX8_mark_151 : mD cX8_mark 151 (.iload_n 3) 1 152 := ⟨by decide +kernel, rfl⟩
theorem dX8_mark_152 : mD cX8_mark 152 (.iconst 4) 1 153 := ⟨by decide +kernel, rfl⟩
theorem dX8_mark_153 : mD cX8_mark 153 (.invokestatic 145) 3 156 := ⟨by decide +kernel, rfl⟩
theorem dX8_mark_156 : mJ cX8_mark 156 (.ifCond .eq) 159 163 := mJ.of (7) (by decide +kernel) rfl (by decide)
theorem dX8_mark_159 : mD cX8_mark 159 (.iload_n 2) 1 160 := ⟨by decide +kernel, rfl⟩
theorem dX8_mark_160 : mJ cX8_mark 160 .goto 163 164 := mJ.of (4) (by decide +kernel) rfl (by decide)
theorem dX8_mark_163 : mD cX8_mark 163 (.iconst 0) 1 164 := ⟨by decide +kernel, rfl⟩
theorem dX8_mark_164 : mD cX8_mark 164 .iadd 1 165 := ⟨by decide +kernel, rfl⟩
theorem dX8_mark_165 : mD cX8_mark 165 (.istore 6) 2 167 := ⟨by decide +kernel, rfl⟩
theorem dX8_mark_167 : mD cX8_mark 167 (.iload 6) 2 169 := ⟨by decide +kernel, rfl⟩
theorem dX8_mark_169 : mD cX8_mark 169 (.iload_n 3) 1 170 := ⟨by decide +kernel, rfl⟩
theorem dX8_mark_170 : mD cX8_mark 170 (.iconst 5) 1 171 := ⟨by decide +kernel, rfl⟩
theorem dX8_mark_171 : mD cX8_mark 171 (.invokestatic 145) 3 174 := ⟨by decide +kernel, rfl⟩
theorem dX8_mark_174 : mJ cX8_mark 174 (.ifCond .eq) 177 187 := mJ.of (13) (by decide +kernel) rfl (by decide)
theorem dX8_mark_177 : mD cX8_mark 177 (.aload_n 0) 1 178 := ⟨by decide +kernel, rfl⟩
theorem dX8_mark_178 : mD cX8_mark 178 (.getfield 29) 3 181 := ⟨by decide +kernel, rfl⟩
theorem dX8_mark_181 : mD cX8_mark 181 (.bipush 32) 2 183 := ⟨by decide +kernel, rfl⟩
theorem dX8_mark_183 : mD cX8_mark 183 .iaload 1 184 := ⟨by decide +kernel, rfl⟩
theorem dX8_mark_184 : mJ cX8_mark 184 .goto 187 188 := mJ.of (4) (by decide +kernel) rfl (by decide)
theorem dX8_mark_187 : mD cX8_mark 187 (.iconst 0) 1 188 := ⟨by decide +kernel, rfl⟩
theorem dX8_mark_188 : mD cX8_mark 188 .iadd 1 189 := ⟨by decide +kernel, rfl⟩
theorem dX8_mark_189 : mD cX8_mark 189 (.istore 6) 2 191 := ⟨by decide +kernel, rfl⟩
theorem dX8_mark_191 : mD cX8_mark 191 (.iload 6) 2 193 := ⟨by decide +kernel, rfl⟩
theorem dX8_mark_193 : mD cX8_mark 193 .ireturn 1 194 := ⟨by decide +kernel, rfl⟩
theorem dX8_trace_0 : mD cX8_trace 0 (.aload_n 0) 1 1 := ⟨by decide +kernel, rfl⟩
theorem dX8_trace_1 : mD cX8_trace 1 (.getfield 228) 3 4 := ⟨by decide +kernel, rfl⟩
theorem dX8_trace_4 : mD cX8_trace 4 .lreturn 1 5 := ⟨by decide +kernel, rfl⟩
theorem dX8_keep_0 : mD cX8_keep 0 (.iload_n 1) 1 1 := ⟨by decide +kernel, rfl⟩
theorem dX8_keep_1 : mD cX8_keep 1 (.iconst 0) 1 2 := ⟨by decide +kernel, rfl⟩
theorem dX8_keep_2 : mD cX8_keep 2 (.iconst 1) 1 3 := ⟨by decide +kernel, rfl⟩
theorem dX8_keep_3 : mD cX8_keep 3 (.invokestatic 63) 3 6 := ⟨by decide +kernel, rfl⟩
theorem dX8_keep_6 : mJ cX8_keep 6 (.ifCond .ne) 9 11 := mJ.of (5) (by decide +kernel) rfl (by decide)
theorem dX8_keep_9 : mD cX8_keep 9 (.iconst (-1)) 1 10 := ⟨by decide +kernel, rfl⟩
theorem dX8_keep_10 : mD cX8_keep 10 .ireturn 1 11 := ⟨by decide +kernel, rfl⟩
theorem dX8_keep_11 : mD cX8_keep 11 (.iconst 0) 1 12 := ⟨by decide +kernel, rfl⟩
theorem dX8_keep_12 : mD cX8_keep 12 (.istore_n 2) 1 13 := ⟨by decide +kernel, rfl⟩
theorem dX8_keep_13 : mD cX8_keep 13 (.iload_n 2) 1 14 := ⟨by decide +kernel, rfl⟩
theorem dX8_keep_14 : mD cX8_keep 14 (.bipush 33) 2 16 := ⟨by decide +kernel, rfl⟩
theorem dX8_keep_16 : mJ cX8_keep 16 (.if_icmp .ge) 19 42 := mJ.of (26) (by decide +kernel) rfl (by decide)
theorem dX8_keep_19 : mD cX8_keep 19 (.aload_n 0) 1 20 := ⟨by decide +kernel, rfl⟩
theorem dX8_keep_20 : mD cX8_keep 20 (.getfield 38) 3 23 := ⟨by decide +kernel, rfl⟩
theorem dX8_keep_23 : mD cX8_keep 23 (.bipush 33) 2 25 := ⟨by decide +kernel, rfl⟩
theorem dX8_keep_25 : mD cX8_keep 25 (.iload_n 1) 1 26 := ⟨by decide +kernel, rfl⟩
theorem dX8_keep_26 : mD cX8_keep 26 .imul 1 27 := ⟨by decide +kernel, rfl⟩
theorem dX8_keep_27 : mD cX8_keep 27 (.iload_n 2) 1 28 := ⟨by decide +kernel, rfl⟩
theorem dX8_keep_28 : mD cX8_keep 28 .iadd 1 29 := ⟨by decide +kernel, rfl⟩
theorem dX8_keep_29 : mD cX8_keep 29 (.aload_n 0) 1 30 := ⟨by decide +kernel, rfl⟩
theorem dX8_keep_30 : mD cX8_keep 30 (.getfield 29) 3 33 := ⟨by decide +kernel, rfl⟩
theorem dX8_keep_33 : mD cX8_keep 33 (.iload_n 2) 1 34 := ⟨by decide +kernel, rfl⟩
theorem dX8_keep_34 : mD cX8_keep 34 .iaload 1 35 := ⟨by decide +kernel, rfl⟩
theorem dX8_keep_35 : mD cX8_keep 35 .iastore 1 36 := ⟨by decide +kernel, rfl⟩
theorem dX8_keep_36 : mD cX8_keep 36 (.iinc 2 1) 3 39 := ⟨by decide +kernel, rfl⟩
theorem dX8_keep_39 : mJ cX8_keep 39 .goto 42 13 := mJ.of (-26) (by decide +kernel) rfl (by decide)
theorem dX8_keep_42 : mD cX8_keep 42 (.iconst 0) 1 43 := ⟨by decide +kernel, rfl⟩
theorem dX8_keep_43 : mD cX8_keep 43 (.istore_n 2) 1 44 := ⟨by decide +kernel, rfl⟩
theorem dX8_keep_44 : mD cX8_keep 44 (.iload_n 2) 1 45 := ⟨by decide +kernel, rfl⟩
theorem dX8_keep_45 : mD cX8_keep 45 (.sipush 330) 3 48 := ⟨by decide +kernel, rfl⟩
theorem dX8_keep_48 : mJ cX8_keep 48 (.if_icmp .ge) 51 77 := mJ.of (29) (by decide +kernel) rfl (by decide)
theorem dX8_keep_51 : mD cX8_keep 51 (.aload_n 0) 1 52 := ⟨by decide +kernel, rfl⟩
theorem dX8_keep_52 : mD cX8_keep 52 (.getfield 35) 3 55 := ⟨by decide +kernel, rfl⟩
theorem dX8_keep_55 : mD cX8_keep 55 (.sipush 330) 3 58 := ⟨by decide +kernel, rfl⟩
theorem dX8_keep_58 : mD cX8_keep 58 (.iconst 1) 1 59 := ⟨by decide +kernel, rfl⟩
theorem dX8_keep_59 : mD cX8_keep 59 (.iload_n 1) 1 60 := ⟨by decide +kernel, rfl⟩
theorem dX8_keep_60 : mD cX8_keep 60 .iadd 1 61 := ⟨by decide +kernel, rfl⟩
theorem dX8_keep_61 : mD cX8_keep 61 .imul 1 62 := ⟨by decide +kernel, rfl⟩
theorem dX8_keep_62 : mD cX8_keep 62 (.iload_n 2) 1 63 := ⟨by decide +kernel, rfl⟩
theorem dX8_keep_63 : mD cX8_keep 63 .iadd 1 64 := ⟨by decide +kernel, rfl⟩
theorem dX8_keep_64 : mD cX8_keep 64 (.aload_n 0) 1 65 := ⟨by decide +kernel, rfl⟩
theorem dX8_keep_65 : mD cX8_keep 65 (.getfield 35) 3 68 := ⟨by decide +kernel, rfl⟩
theorem dX8_keep_68 : mD cX8_keep 68 (.iload_n 2) 1 69 := ⟨by decide +kernel, rfl⟩
theorem dX8_keep_69 : mD cX8_keep 69 .iaload 1 70 := ⟨by decide +kernel, rfl⟩
theorem dX8_keep_70 : mD cX8_keep 70 .iastore 1 71 := ⟨by decide +kernel, rfl⟩
theorem dX8_keep_71 : mD cX8_keep 71 (.iinc 2 1) 3 74 := ⟨by decide +kernel, rfl⟩
theorem dX8_keep_74 : mJ cX8_keep 74 .goto 77 44 := mJ.of (-30) (by decide +kernel) rfl (by decide)
theorem dX8_keep_77 : mD cX8_keep 77 (.aload_n 0) 1 78 := ⟨by decide +kernel, rfl⟩
theorem dX8_keep_78 : mD cX8_keep 78 (.getfield 32) 3 81 := ⟨by decide +kernel, rfl⟩
theorem dX8_keep_81 : mD cX8_keep 81 (.iconst 1) 1 82 := ⟨by decide +kernel, rfl⟩
theorem dX8_keep_82 : mD cX8_keep 82 (.iload_n 1) 1 83 := ⟨by decide +kernel, rfl⟩
theorem dX8_keep_83 : mD cX8_keep 83 .iadd 1 84 := ⟨by decide +kernel, rfl⟩
theorem dX8_keep_84 : mD cX8_keep 84 (.aload_n 0) 1 85 := ⟨by decide +kernel, rfl⟩
theorem dX8_keep_85 : mD cX8_keep 85 (.getfield 32) 3 88 := ⟨by decide +kernel, rfl⟩
theorem dX8_keep_88 : mD cX8_keep 88 (.iconst 0) 1 89 := ⟨by decide +kernel, rfl⟩
theorem dX8_keep_89 : mD cX8_keep 89 .iaload 1 90 := ⟨by decide +kernel, rfl⟩
theorem dX8_keep_90 : mD cX8_keep 90 .iastore 1 91 := ⟨by decide +kernel, rfl⟩
theorem dX8_keep_91 : mD cX8_keep 91 (.aload_n 0) 1 92 := ⟨by decide +kernel, rfl⟩
theorem dX8_keep_92 : mD cX8_keep 92 (.getfield 41) 3 95 := ⟨by decide +kernel, rfl⟩
theorem dX8_keep_95 : mD cX8_keep 95 (.iload_n 1) 1 96 := ⟨by decide +kernel, rfl⟩
theorem dX8_keep_96 : mD cX8_keep 96 (.iconst 1) 1 97 := ⟨by decide +kernel, rfl⟩
theorem dX8_keep_97 : mD cX8_keep 97 .bastore 1 98 := ⟨by decide +kernel, rfl⟩
theorem dX8_keep_98 : mD cX8_keep 98 (.aload_n 0) 1 99 := ⟨by decide +kernel, rfl⟩
theorem dX8_keep_99 : mD cX8_keep 99 (.getfield 29) 3 102 := ⟨by decide +kernel, rfl⟩
theorem dX8_keep_102 : mD cX8_keep 102 (.bipush 32) 2 104 := ⟨by decide +kernel, rfl⟩
theorem dX8_keep_104 : mD cX8_keep 104 .iaload 1 105 := ⟨by decide +kernel, rfl⟩
theorem dX8_keep_105 : mD cX8_keep 105 .ireturn 1 106 := ⟨by decide +kernel, rfl⟩
theorem dX8_back_0 : mD cX8_back 0 (.iload_n 1) 1 1 := ⟨by decide +kernel, rfl⟩
theorem dX8_back_1 : mD cX8_back 1 (.iconst 0) 1 2 := ⟨by decide +kernel, rfl⟩
theorem dX8_back_2 : mD cX8_back 2 (.iconst 1) 1 3 := ⟨by decide +kernel, rfl⟩
theorem dX8_back_3 : mD cX8_back 3 (.invokestatic 63) 3 6 := ⟨by decide +kernel, rfl⟩
theorem dX8_back_6 : mJ cX8_back 6 (.ifCond .ne) 9 11 := mJ.of (5) (by decide +kernel) rfl (by decide)
theorem dX8_back_9 : mD cX8_back 9 (.iconst (-1)) 1 10 := ⟨by decide +kernel, rfl⟩
theorem dX8_back_10 : mD cX8_back 10 .ireturn 1 11 := ⟨by decide +kernel, rfl⟩
theorem dX8_back_11 : mD cX8_back 11 (.aload_n 0) 1 12 := ⟨by decide +kernel, rfl⟩
theorem dX8_back_12 : mD cX8_back 12 (.getfield 41) 3 15 := ⟨by decide +kernel, rfl⟩
theorem dX8_back_15 : mD cX8_back 15 (.iload_n 1) 1 16 := ⟨by decide +kernel, rfl⟩
theorem dX8_back_16 : mD cX8_back 16 .baload 1 17 := ⟨by decide +kernel, rfl⟩
theorem dX8_back_17 : mJ cX8_back 17 (.ifCond .ne) 20 23 := mJ.of (6) (by decide +kernel) rfl (by decide)
theorem dX8_back_20 : mD cX8_back 20 (.bipush (-2)) 2 22 := ⟨by decide +kernel, rfl⟩
theorem dX8_back_22 : mD cX8_back 22 .ireturn 1 23 := ⟨by decide +kernel, rfl⟩
theorem dX8_back_23 : mD cX8_back 23 (.iconst 0) 1 24 := ⟨by decide +kernel, rfl⟩
theorem dX8_back_24 : mD cX8_back 24 (.istore_n 2) 1 25 := ⟨by decide +kernel, rfl⟩
theorem dX8_back_25 : mD cX8_back 25 (.iload_n 2) 1 26 := ⟨by decide +kernel, rfl⟩
theorem dX8_back_26 : mD cX8_back 26 (.bipush 33) 2 28 := ⟨by decide +kernel, rfl⟩
theorem dX8_back_28 : mJ cX8_back 28 (.if_icmp .ge) 31 54 := mJ.of (26) (by decide +kernel) rfl (by decide)
theorem dX8_back_31 : mD cX8_back 31 (.aload_n 0) 1 32 := ⟨by decide +kernel, rfl⟩
theorem dX8_back_32 : mD cX8_back 32 (.getfield 29) 3 35 := ⟨by decide +kernel, rfl⟩
theorem dX8_back_35 : mD cX8_back 35 (.iload_n 2) 1 36 := ⟨by decide +kernel, rfl⟩
theorem dX8_back_36 : mD cX8_back 36 (.aload_n 0) 1 37 := ⟨by decide +kernel, rfl⟩
theorem dX8_back_37 : mD cX8_back 37 (.getfield 38) 3 40 := ⟨by decide +kernel, rfl⟩
theorem dX8_back_40 : mD cX8_back 40 (.bipush 33) 2 42 := ⟨by decide +kernel, rfl⟩
theorem dX8_back_42 : mD cX8_back 42 (.iload_n 1) 1 43 := ⟨by decide +kernel, rfl⟩
theorem dX8_back_43 : mD cX8_back 43 .imul 1 44 := ⟨by decide +kernel, rfl⟩
theorem dX8_back_44 : mD cX8_back 44 (.iload_n 2) 1 45 := ⟨by decide +kernel, rfl⟩
theorem dX8_back_45 : mD cX8_back 45 .iadd 1 46 := ⟨by decide +kernel, rfl⟩
theorem dX8_back_46 : mD cX8_back 46 .iaload 1 47 := ⟨by decide +kernel, rfl⟩
theorem dX8_back_47 : mD cX8_back 47 .iastore 1 48 := ⟨by decide +kernel, rfl⟩
theorem dX8_back_48 : mD cX8_back 48 (.iinc 2 1) 3 51 := ⟨by decide +kernel, rfl⟩
theorem dX8_back_51 : mJ cX8_back 51 .goto 54 25 := mJ.of (-26) (by decide +kernel) rfl (by decide)
theorem dX8_back_54 : mD cX8_back 54 (.iconst 0) 1 55 := ⟨by decide +kernel, rfl⟩
theorem dX8_back_55 : mD cX8_back 55 (.istore_n 2) 1 56 := ⟨by decide +kernel, rfl⟩
theorem dX8_back_56 : mD cX8_back 56 (.iload_n 2) 1 57 := ⟨by decide +kernel, rfl⟩
theorem dX8_back_57 : mD cX8_back 57 (.sipush 330) 3 60 := ⟨by decide +kernel, rfl⟩
theorem dX8_back_60 : mJ cX8_back 60 (.if_icmp .ge) 63 89 := mJ.of (29) (by decide +kernel) rfl (by decide)
theorem dX8_back_63 : mD cX8_back 63 (.aload_n 0) 1 64 := ⟨by decide +kernel, rfl⟩
theorem dX8_back_64 : mD cX8_back 64 (.getfield 35) 3 67 := ⟨by decide +kernel, rfl⟩
theorem dX8_back_67 : mD cX8_back 67 (.iload_n 2) 1 68 := ⟨by decide +kernel, rfl⟩
theorem dX8_back_68 : mD cX8_back 68 (.aload_n 0) 1 69 := ⟨by decide +kernel, rfl⟩
theorem dX8_back_69 : mD cX8_back 69 (.getfield 35) 3 72 := ⟨by decide +kernel, rfl⟩
theorem dX8_back_72 : mD cX8_back 72 (.sipush 330) 3 75 := ⟨by decide +kernel, rfl⟩
theorem dX8_back_75 : mD cX8_back 75 (.iconst 1) 1 76 := ⟨by decide +kernel, rfl⟩
theorem dX8_back_76 : mD cX8_back 76 (.iload_n 1) 1 77 := ⟨by decide +kernel, rfl⟩
theorem dX8_back_77 : mD cX8_back 77 .iadd 1 78 := ⟨by decide +kernel, rfl⟩
theorem dX8_back_78 : mD cX8_back 78 .imul 1 79 := ⟨by decide +kernel, rfl⟩
theorem dX8_back_79 : mD cX8_back 79 (.iload_n 2) 1 80 := ⟨by decide +kernel, rfl⟩
theorem dX8_back_80 : mD cX8_back 80 .iadd 1 81 := ⟨by decide +kernel, rfl⟩
theorem dX8_back_81 : mD cX8_back 81 .iaload 1 82 := ⟨by decide +kernel, rfl⟩
theorem dX8_back_82 : mD cX8_back 82 .iastore 1 83 := ⟨by decide +kernel, rfl⟩
theorem dX8_back_83 : mD cX8_back 83 (.iinc 2 1) 3 86 := ⟨by decide +kernel, rfl⟩
theorem dX8_back_86 : mJ cX8_back 86 .goto 89 56 := mJ.of (-30) (by decide +kernel) rfl (by decide)
theorem dX8_back_89 : mD cX8_back 89 (.aload_n 0) 1 90 := ⟨by decide +kernel, rfl⟩
theorem dX8_back_90 : mD cX8_back 90 (.getfield 32) 3 93 := ⟨by decide +kernel, rfl⟩
theorem dX8_back_93 : mD cX8_back 93 (.iconst 0) 1 94 := ⟨by decide +kernel, rfl⟩
theorem dX8_back_94 : mD cX8_back 94 (.aload_n 0) 1 95 := ⟨by decide +kernel, rfl⟩
theorem dX8_back_95 : mD cX8_back 95 (.getfield 32) 3 98 := ⟨by decide +kernel, rfl⟩
theorem dX8_back_98 : mD cX8_back 98 (.iconst 1) 1 99 := ⟨by decide +kernel, rfl⟩
theorem dX8_back_99 : mD cX8_back 99 (.iload_n 1) 1 100 := ⟨by decide +kernel, rfl⟩
theorem dX8_back_100 : mD cX8_back 100 .iadd 1 101 := ⟨by decide +kernel, rfl⟩
theorem dX8_back_101 : mD cX8_back 101 .iaload 1 102 := ⟨by decide +kernel, rfl⟩
theorem dX8_back_102 : mD cX8_back 102 .iastore 1 103 := ⟨by decide +kernel, rfl⟩
theorem dX8_back_103 : mD cX8_back 103 (.aload_n 0) 1 104 := ⟨by decide +kernel, rfl⟩
theorem dX8_back_104 : mD cX8_back 104 (.getfield 29) 3 107 := ⟨by decide +kernel, rfl⟩
theorem dX8_back_107 : mD cX8_back 107 (.bipush 32) 2 109 := ⟨by decide +kernel, rfl⟩
theorem dX8_back_109 : mD cX8_back 109 .iaload 1 110 := ⟨by decide +kernel, rfl⟩
theorem dX8_back_110 : mD cX8_back 110 .ireturn 1 111 := ⟨by decide +kernel, rfl⟩
theorem dX8_count_0 : mD cX8_count 0 (.iload_n 1) 1 1 := ⟨by decide +kernel, rfl⟩
theorem dX8_count_1 : decode cX8_count 1 = .ok (.tableswitch 77 0 5 #[39, 46, 53, 60, 65, 72], 39) := by decide +kernel
theorem dX8_count_40 : mD cX8_count 40 (.aload_n 0) 1 41 := ⟨by decide +kernel, rfl⟩
theorem dX8_count_41 : mD cX8_count 41 (.getfield 13) 3 44 := ⟨by decide +kernel, rfl⟩
theorem dX8_count_44 : mD cX8_count 44 (.iconst 0) 1 45 := ⟨by decide +kernel, rfl⟩
theorem dX8_count_45 : mD cX8_count 45 .iaload 1 46 := ⟨by decide +kernel, rfl⟩
theorem dX8_count_46 : mD cX8_count 46 .ireturn 1 47 := ⟨by decide +kernel, rfl⟩
theorem dX8_count_47 : mD cX8_count 47 (.aload_n 0) 1 48 := ⟨by decide +kernel, rfl⟩
theorem dX8_count_48 : mD cX8_count 48 (.getfield 17) 3 51 := ⟨by decide +kernel, rfl⟩
theorem dX8_count_51 : mD cX8_count 51 (.iconst 0) 1 52 := ⟨by decide +kernel, rfl⟩
theorem dX8_count_52 : mD cX8_count 52 .iaload 1 53 := ⟨by decide +kernel, rfl⟩
theorem dX8_count_53 : mD cX8_count 53 .ireturn 1 54 := ⟨by decide +kernel, rfl⟩
theorem dX8_count_54 : mD cX8_count 54 (.aload_n 0) 1 55 := ⟨by decide +kernel, rfl⟩
theorem dX8_count_55 : mD cX8_count 55 (.getfield 20) 3 58 := ⟨by decide +kernel, rfl⟩
theorem dX8_count_58 : mD cX8_count 58 (.iconst 0) 1 59 := ⟨by decide +kernel, rfl⟩
theorem dX8_count_59 : mD cX8_count 59 .iaload 1 60 := ⟨by decide +kernel, rfl⟩
theorem dX8_count_60 : mD cX8_count 60 .ireturn 1 61 := ⟨by decide +kernel, rfl⟩
theorem dX8_count_61 : mD cX8_count 61 (.aload_n 0) 1 62 := ⟨by decide +kernel, rfl⟩
theorem dX8_count_62 : mD cX8_count 62 (.getfield 120) 3 65 := ⟨by decide +kernel, rfl⟩
theorem dX8_count_65 : mD cX8_count 65 .ireturn 1 66 := ⟨by decide +kernel, rfl⟩
theorem dX8_count_66 : mD cX8_count 66 (.aload_n 0) 1 67 := ⟨by decide +kernel, rfl⟩
theorem dX8_count_67 : mD cX8_count 67 (.getfield 32) 3 70 := ⟨by decide +kernel, rfl⟩
theorem dX8_count_70 : mD cX8_count 70 (.iconst 0) 1 71 := ⟨by decide +kernel, rfl⟩
theorem dX8_count_71 : mD cX8_count 71 .iaload 1 72 := ⟨by decide +kernel, rfl⟩
theorem dX8_count_72 : mD cX8_count 72 .ireturn 1 73 := ⟨by decide +kernel, rfl⟩
theorem dX8_count_73 : mD cX8_count 73 (.aload_n 0) 1 74 := ⟨by decide +kernel, rfl⟩
theorem dX8_count_74 : mD cX8_count 74 (.getfield 67) 3 77 := ⟨by decide +kernel, rfl⟩
theorem dX8_count_77 : mD cX8_count 77 .ireturn 1 78 := ⟨by decide +kernel, rfl⟩
theorem dX8_count_78 : mD cX8_count 78 (.iconst (-1)) 1 79 := ⟨by decide +kernel, rfl⟩
theorem dX8_count_79 : mD cX8_count 79 .ireturn 1 80 := ⟨by decide +kernel, rfl⟩
end
section
theorem dX7_init_0 : mD cX7_init 0 (.aload_n 0) 1 1 := ⟨by decide +kernel, rfl⟩
theorem dX7_init_1 : mD cX7_init 1 (.invokespecial 1) 3 4 := ⟨by decide +kernel, rfl⟩
theorem dX7_init_4 : mD cX7_init 4 (.aload_n 0) 1 5 := ⟨by decide +kernel, rfl⟩
theorem dX7_init_5 : mD cX7_init 5 (.new 7) 3 8 := ⟨by decide +kernel, rfl⟩
theorem dX7_init_8 : mD cX7_init 8 .dup 1 9 := ⟨by decide +kernel, rfl⟩
theorem dX7_init_9 : mD cX7_init 9 (.invokespecial 9) 3 12 := ⟨by decide +kernel, rfl⟩
theorem dX7_init_12 : mD cX7_init 12 (.putfield 10) 3 15 := ⟨by decide +kernel, rfl⟩
theorem dX7_init_15 : mD cX7_init 15 (.aload_n 0) 1 16 := ⟨by decide +kernel, rfl⟩
theorem dX7_init_16 : mD cX7_init 16 (.new 16) 3 19 := ⟨by decide +kernel, rfl⟩
theorem dX7_init_19 : mD cX7_init 19 .dup 1 20 := ⟨by decide +kernel, rfl⟩
theorem dX7_init_20 : mD cX7_init 20 (.invokespecial 18) 3 23 := ⟨by decide +kernel, rfl⟩
theorem dX7_init_23 : mD cX7_init 23 (.putfield 19) 3 26 := ⟨by decide +kernel, rfl⟩
theorem dX7_init_26 : mD cX7_init 26 (.aload_n 0) 1 27 := ⟨by decide +kernel, rfl⟩
theorem dX7_init_27 : mD cX7_init 27 (.new 16) 3 30 := ⟨by decide +kernel, rfl⟩
theorem dX7_init_30 : mD cX7_init 30 .dup 1 31 := ⟨by decide +kernel, rfl⟩
theorem dX7_init_31 : mD cX7_init 31 (.invokespecial 18) 3 34 := ⟨by decide +kernel, rfl⟩
theorem dX7_init_34 : mD cX7_init 34 (.putfield 23) 3 37 := ⟨by decide +kernel, rfl⟩
theorem dX7_init_37 : mD cX7_init 37 (.aload_n 0) 1 38 := ⟨by decide +kernel, rfl⟩
theorem dX7_init_38 : mD cX7_init 38 (.new 26) 3 41 := ⟨by decide +kernel, rfl⟩
theorem dX7_init_41 : mD cX7_init 41 .dup 1 42 := ⟨by decide +kernel, rfl⟩
theorem dX7_init_42 : mD cX7_init 42 (.invokespecial 28) 3 45 := ⟨by decide +kernel, rfl⟩
theorem dX7_init_45 : mD cX7_init 45 (.putfield 29) 3 48 := ⟨by decide +kernel, rfl⟩
theorem dX7_init_48 : mD cX7_init 48 (.aload_n 0) 1 49 := ⟨by decide +kernel, rfl⟩
theorem dX7_init_49 : mD cX7_init 49 (.iconst 2) 1 50 := ⟨by decide +kernel, rfl⟩
theorem dX7_init_50 : mD cX7_init 50 (.anewarray 26) 3 53 := ⟨by decide +kernel, rfl⟩
theorem dX7_init_53 : mD cX7_init 53 (.putfield 33) 3 56 := ⟨by decide +kernel, rfl⟩
theorem dX7_init_56 : mD cX7_init 56 (.aload_n 0) 1 57 := ⟨by decide +kernel, rfl⟩
theorem dX7_init_57 : mD cX7_init 57 (.iconst 2) 1 58 := ⟨by decide +kernel, rfl⟩
theorem dX7_init_58 : mD cX7_init 58 (.newarray .boolean) 2 60 := ⟨by decide +kernel, rfl⟩
theorem dX7_init_60 : mD cX7_init 60 (.putfield 37) 3 63 := ⟨by decide +kernel, rfl⟩
theorem dX7_init_63 : mD cX7_init 63 (.aload_n 0) 1 64 := ⟨by decide +kernel, rfl⟩
theorem dX7_init_64 : mD cX7_init 64 (.new 41) 3 67 := ⟨by decide +kernel, rfl⟩
theorem dX7_init_67 : mD cX7_init 67 .dup 1 68 := ⟨by decide +kernel, rfl⟩
theorem dX7_init_68 : mD cX7_init 68 (.invokespecial 43) 3 71 := ⟨by decide +kernel, rfl⟩
theorem dX7_init_71 : mD cX7_init 71 (.putfield 44) 3 74 := ⟨by decide +kernel, rfl⟩
theorem dX7_init_74 : mD cX7_init 74 (.aload_n 0) 1 75 := ⟨by decide +kernel, rfl⟩
theorem dX7_init_75 : mD cX7_init 75 (.new 48) 3 78 := ⟨by decide +kernel, rfl⟩
theorem dX7_init_78 : mD cX7_init 78 .dup 1 79 := ⟨by decide +kernel, rfl⟩
theorem dX7_init_79 : mD cX7_init 79 (.invokespecial 50) 3 82 := ⟨by decide +kernel, rfl⟩
theorem dX7_init_82 : mD cX7_init 82 (.putfield 51) 3 85 := ⟨by decide +kernel, rfl⟩
theorem dX7_init_85 : mD cX7_init 85 (.aload_n 0) 1 86 := ⟨by decide +kernel, rfl⟩
theorem dX7_init_86 : mD cX7_init 86 (.new 55) 3 89 := ⟨by decide +kernel, rfl⟩
theorem dX7_init_89 : mD cX7_init 89 .dup 1 90 := ⟨by decide +kernel, rfl⟩
theorem dX7_init_90 : mD cX7_init 90 (.invokespecial 57) 3 93 := ⟨by decide +kernel, rfl⟩
theorem dX7_init_93 : mD cX7_init 93 (.putfield 58) 3 96 := ⟨by decide +kernel, rfl⟩
theorem dX7_init_96 : mD cX7_init 96 (.aload_n 0) 1 97 := ⟨by decide +kernel, rfl⟩
theorem dX7_init_97 : mD cX7_init 97 (.new 62) 3 100 := ⟨by decide +kernel, rfl⟩
theorem dX7_init_100 : mD cX7_init 100 .dup 1 101 := ⟨by decide +kernel, rfl⟩
theorem dX7_init_101 : mD cX7_init 101 (.invokespecial 64) 3 104 := ⟨by decide +kernel, rfl⟩
theorem dX7_init_104 : mD cX7_init 104 (.putfield 65) 3 107 := ⟨by decide +kernel, rfl⟩
theorem dX7_init_107 : mD cX7_init 107 (.iconst 0) 1 108 := ⟨by decide +kernel, rfl⟩
theorem dX7_init_108 : mD cX7_init 108 (.istore_n 1) 1 109 := ⟨by decide +kernel, rfl⟩
theorem dX7_init_109 : mD cX7_init 109 (.iload_n 1) 1 110 := ⟨by decide +kernel, rfl⟩
theorem dX7_init_110 : mD cX7_init 110 (.iconst 2) 1 111 := ⟨by decide +kernel, rfl⟩
theorem dX7_init_111 : mJ cX7_init 111 (.if_icmp .ge) 114 133 := mJ.of (22) (by decide +kernel) rfl (by decide)
theorem dX7_init_114 : mD cX7_init 114 (.aload_n 0) 1 115 := ⟨by decide +kernel, rfl⟩
theorem dX7_init_115 : mD cX7_init 115 (.getfield 33) 3 118 := ⟨by decide +kernel, rfl⟩
theorem dX7_init_118 : mD cX7_init 118 (.iload_n 1) 1 119 := ⟨by decide +kernel, rfl⟩
theorem dX7_init_119 : mD cX7_init 119 (.new 26) 3 122 := ⟨by decide +kernel, rfl⟩
theorem dX7_init_122 : mD cX7_init 122 .dup 1 123 := ⟨by decide +kernel, rfl⟩
theorem dX7_init_123 : mD cX7_init 123 (.invokespecial 28) 3 126 := ⟨by decide +kernel, rfl⟩
theorem dX7_init_126 : mD cX7_init 126 .aastore 1 127 := ⟨by decide +kernel, rfl⟩
theorem dX7_init_127 : mD cX7_init 127 (.iinc 1 1) 3 130 := ⟨by decide +kernel, rfl⟩
theorem dX7_init_130 : mJ cX7_init 130 .goto 133 109 := mJ.of (-21) (by decide +kernel) rfl (by decide)
theorem dX7_init_133 : mD cX7_init 133 .return_ 1 134 := ⟨by decide +kernel, rfl⟩
theorem dX7_type_0 : mD cX7_type 0 (.iload_n 1) 1 1 := ⟨by decide +kernel, rfl⟩
theorem dX7_type_1 : mJ cX7_type 1 (.ifCond .lt) 4 11 := mJ.of (10) (by decide +kernel) rfl (by decide)
theorem dX7_type_4 : mD cX7_type 4 (.iload_n 1) 1 5 := ⟨by decide +kernel, rfl⟩
theorem dX7_type_5 : mD cX7_type 5 (.sipush 255) 3 8 := ⟨by decide +kernel, rfl⟩
theorem dX7_type_8 : mJ cX7_type 8 (.if_icmp .le) 11 13 := mJ.of (5) (by decide +kernel) rfl (by decide)
theorem dX7_type_11 : mD cX7_type 11 (.iconst (-1)) 1 12 := ⟨by decide +kernel, rfl⟩
theorem dX7_type_12 : mD cX7_type 12 .ireturn 1 13 := ⟨by decide +kernel, rfl⟩
theorem dX7_type_13 : mD cX7_type 13 (.aload_n 0) 1 14 := ⟨by decide +kernel, rfl⟩
theorem dX7_type_14 : mD cX7_type 14 (.getfield 10) 3 17 := ⟨by decide +kernel, rfl⟩
theorem dX7_type_17 : mD cX7_type 17 (.getfield 69) 3 20 := ⟨by decide +kernel, rfl⟩
theorem dX7_type_20 : mD cX7_type 20 (.bipush 100) 2 22 := ⟨by decide +kernel, rfl⟩
theorem dX7_type_22 : mJ cX7_type 22 (.if_icmp .lt) 25 28 := mJ.of (6) (by decide +kernel) rfl (by decide)
theorem dX7_type_25 : mD cX7_type 25 (.bipush (-3)) 2 27 := ⟨by decide +kernel, rfl⟩
theorem dX7_type_27 : mD cX7_type 27 .ireturn 1 28 := ⟨by decide +kernel, rfl⟩
theorem dX7_type_28 : mD cX7_type 28 (.aload_n 0) 1 29 := ⟨by decide +kernel, rfl⟩
theorem dX7_type_29 : mD cX7_type 29 (.getfield 10) 3 32 := ⟨by decide +kernel, rfl⟩
theorem dX7_type_32 : mD cX7_type 32 (.iload_n 1) 1 33 := ⟨by decide +kernel, rfl⟩
theorem dX7_type_33 : mD cX7_type 33 (.invokevirtual 73) 3 36 := ⟨by decide +kernel, rfl⟩
theorem dX7_type_36 : mD cX7_type 36 (.aload_n 0) 1 37 := ⟨by decide +kernel, rfl⟩
theorem dX7_type_37 : mD cX7_type 37 (.getfield 10) 3 40 := ⟨by decide +kernel, rfl⟩
theorem dX7_type_40 : mD cX7_type 40 (.getfield 69) 3 43 := ⟨by decide +kernel, rfl⟩
theorem dX7_type_43 : mD cX7_type 43 .ireturn 1 44 := ⟨by decide +kernel, rfl⟩
theorem dX7_clear_0 : mD cX7_clear 0 (.aload_n 0) 1 1 := ⟨by decide +kernel, rfl⟩
theorem dX7_clear_1 : mD cX7_clear 1 (.getfield 10) 3 4 := ⟨by decide +kernel, rfl⟩
theorem dX7_clear_4 : mD cX7_clear 4 (.getfield 69) 3 7 := ⟨by decide +kernel, rfl⟩
theorem dX7_clear_7 : mD cX7_clear 7 (.istore_n 1) 1 8 := ⟨by decide +kernel, rfl⟩
theorem dX7_clear_8 : mD cX7_clear 8 (.aload_n 0) 1 9 := ⟨by decide +kernel, rfl⟩
theorem dX7_clear_9 : mD cX7_clear 9 (.getfield 10) 3 12 := ⟨by decide +kernel, rfl⟩
theorem dX7_clear_12 : mD cX7_clear 12 (.iconst 0) 1 13 := ⟨by decide +kernel, rfl⟩
theorem dX7_clear_13 : mD cX7_clear 13 (.putfield 69) 3 16 := ⟨by decide +kernel, rfl⟩
theorem dX7_clear_16 : mD cX7_clear 16 (.iload_n 1) 1 17 := ⟨by decide +kernel, rfl⟩
theorem dX7_clear_17 : mD cX7_clear 17 .ireturn 1 18 := ⟨by decide +kernel, rfl⟩
theorem dX7_desk_0 : mD cX7_desk 0 (.aload_n 0) 1 1 := ⟨by decide +kernel, rfl⟩
theorem dX7_desk_1 : mD cX7_desk 1 (.getfield 10) 3 4 := ⟨by decide +kernel, rfl⟩
theorem dX7_desk_4 : mD cX7_desk 4 (.aload_n 0) 1 5 := ⟨by decide +kernel, rfl⟩
theorem dX7_desk_5 : mD cX7_desk 5 (.getfield 23) 3 8 := ⟨by decide +kernel, rfl⟩
theorem dX7_desk_8 : mD cX7_desk 8 (.invokevirtual 77) 3 11 := ⟨by decide +kernel, rfl⟩
theorem dX7_desk_11 : mD cX7_desk 11 (.istore_n 1) 1 12 := ⟨by decide +kernel, rfl⟩
theorem dX7_desk_12 : mD cX7_desk 12 (.iload_n 1) 1 13 := ⟨by decide +kernel, rfl⟩
theorem dX7_desk_13 : mD cX7_desk 13 (.iconst (-1)) 1 14 := ⟨by decide +kernel, rfl⟩
theorem dX7_desk_14 : mJ cX7_desk 14 (.if_icmp .eq) 17 22 := mJ.of (8) (by decide +kernel) rfl (by decide)
theorem dX7_desk_17 : mD cX7_desk 17 (.bipush (-10)) 2 19 := ⟨by decide +kernel, rfl⟩
theorem dX7_desk_19 : mD cX7_desk 19 (.iload_n 1) 1 20 := ⟨by decide +kernel, rfl⟩
theorem dX7_desk_20 : mD cX7_desk 20 .isub 1 21 := ⟨by decide +kernel, rfl⟩
theorem dX7_desk_21 : mD cX7_desk 21 .ireturn 1 22 := ⟨by decide +kernel, rfl⟩
theorem dX7_desk_22 : mD cX7_desk 22 (.aload_n 0) 1 23 := ⟨by decide +kernel, rfl⟩
theorem dX7_desk_23 : mD cX7_desk 23 (.getfield 19) 3 26 := ⟨by decide +kernel, rfl⟩
theorem dX7_desk_26 : mD cX7_desk 26 (.astore_n 2) 1 27 := ⟨by decide +kernel, rfl⟩
theorem dX7_desk_27 : mD cX7_desk 27 (.aload_n 0) 1 28 := ⟨by decide +kernel, rfl⟩
theorem dX7_desk_28 : mD cX7_desk 28 (.aload_n 0) 1 29 := ⟨by decide +kernel, rfl⟩
theorem dX7_desk_29 : mD cX7_desk 29 (.getfield 23) 3 32 := ⟨by decide +kernel, rfl⟩
theorem dX7_desk_32 : mD cX7_desk 32 (.putfield 19) 3 35 := ⟨by decide +kernel, rfl⟩
theorem dX7_desk_35 : mD cX7_desk 35 (.aload_n 0) 1 36 := ⟨by decide +kernel, rfl⟩
theorem dX7_desk_36 : mD cX7_desk 36 (.aload_n 2) 1 37 := ⟨by decide +kernel, rfl⟩
theorem dX7_desk_37 : mD cX7_desk 37 (.putfield 23) 3 40 := ⟨by decide +kernel, rfl⟩
theorem dX7_desk_40 : mD cX7_desk 40 (.aload_n 0) 1 41 := ⟨by decide +kernel, rfl⟩
theorem dX7_desk_41 : mD cX7_desk 41 (.getfield 10) 3 44 := ⟨by decide +kernel, rfl⟩
theorem dX7_desk_44 : mD cX7_desk 44 (.iconst 0) 1 45 := ⟨by decide +kernel, rfl⟩
theorem dX7_desk_45 : mD cX7_desk 45 (.putfield 69) 3 48 := ⟨by decide +kernel, rfl⟩
theorem dX7_desk_48 : mD cX7_desk 48 (.aload_n 0) 1 49 := ⟨by decide +kernel, rfl⟩
theorem dX7_desk_49 : mD cX7_desk 49 (.getfield 29) 3 52 := ⟨by decide +kernel, rfl⟩
theorem dX7_desk_52 : mD cX7_desk 52 (.aload_n 0) 1 53 := ⟨by decide +kernel, rfl⟩
theorem dX7_desk_53 : mD cX7_desk 53 (.getfield 19) 3 56 := ⟨by decide +kernel, rfl⟩
theorem dX7_desk_56 : mD cX7_desk 56 (.invokevirtual 81) 3 59 := ⟨by decide +kernel, rfl⟩
theorem dX7_desk_59 : mD cX7_desk 59 (.aload_n 0) 1 60 := ⟨by decide +kernel, rfl⟩
theorem dX7_desk_60 : mD cX7_desk 60 (.getfield 44) 3 63 := ⟨by decide +kernel, rfl⟩
theorem dX7_desk_63 : mD cX7_desk 63 (.iconst 0) 1 64 := ⟨by decide +kernel, rfl⟩
theorem dX7_desk_64 : mD cX7_desk 64 (.putfield 85) 3 67 := ⟨by decide +kernel, rfl⟩
theorem dX7_desk_67 : mD cX7_desk 67 (.aload_n 0) 1 68 := ⟨by decide +kernel, rfl⟩
theorem dX7_desk_68 : mD cX7_desk 68 (.getfield 37) 3 71 := ⟨by decide +kernel, rfl⟩
theorem dX7_desk_71 : mD cX7_desk 71 (.iconst 0) 1 72 := ⟨by decide +kernel, rfl⟩
theorem dX7_desk_72 : mD cX7_desk 72 (.invokestatic 88) 3 75 := ⟨by decide +kernel, rfl⟩
theorem dX7_desk_75 : mD cX7_desk 75 (.aload_n 0) 1 76 := ⟨by decide +kernel, rfl⟩
theorem dX7_desk_76 : mD cX7_desk 76 (.getfield 19) 3 79 := ⟨by decide +kernel, rfl⟩
theorem dX7_desk_79 : mD cX7_desk 79 (.getfield 94) 3 82 := ⟨by decide +kernel, rfl⟩
theorem dX7_desk_82 : mD cX7_desk 82 .ireturn 1 83 := ⟨by decide +kernel, rfl⟩
theorem dX7_side_0 : mD cX7_side 0 (.aload_n 0) 1 1 := ⟨by decide +kernel, rfl⟩
theorem dX7_side_1 : mD cX7_side 1 (.iload_n 1) 1 2 := ⟨by decide +kernel, rfl⟩
theorem dX7_side_2 : mD cX7_side 2 (.invokevirtual 97) 3 5 := ⟨by decide +kernel, rfl⟩
theorem dX7_side_5 : mJ cX7_side 5 (.ifCond .eq) 8 32 := mJ.of (27) (by decide +kernel) rfl (by decide)
theorem dX7_side_8 : mD cX7_side 8 (.iload_n 2) 1 9 := ⟨by decide +kernel, rfl⟩
theorem dX7_side_9 : mD cX7_side 9 (.invokestatic 101) 3 12 := ⟨by decide +kernel, rfl⟩
theorem dX7_side_12 : mJ cX7_side 12 (.ifCond .eq) 15 32 := mJ.of (20) (by decide +kernel) rfl (by decide)
theorem dX7_side_15 : mD cX7_side 15 (.aload_n 0) 1 16 := ⟨by decide +kernel, rfl⟩
theorem dX7_side_16 : mD cX7_side 16 (.getfield 29) 3 19 := ⟨by decide +kernel, rfl⟩
theorem dX7_side_19 : mD cX7_side 19 (.getfield 104) 3 22 := ⟨by decide +kernel, rfl⟩
theorem dX7_side_22 : mD cX7_side 22 (.iload_n 1) 1 23 := ⟨by decide +kernel, rfl⟩
theorem dX7_side_23 : mD cX7_side 23 (.bipush 6) 2 25 := ⟨by decide +kernel, rfl⟩
theorem dX7_side_25 : mD cX7_side 25 .imul 1 26 := ⟨by decide +kernel, rfl⟩
theorem dX7_side_26 : mD cX7_side 26 (.iload_n 2) 1 27 := ⟨by decide +kernel, rfl⟩
theorem dX7_side_27 : mD cX7_side 27 .iadd 1 28 := ⟨by decide +kernel, rfl⟩
theorem dX7_side_28 : mD cX7_side 28 .iaload 1 29 := ⟨by decide +kernel, rfl⟩
theorem dX7_side_29 : mJ cX7_side 29 .goto 32 33 := mJ.of (4) (by decide +kernel) rfl (by decide)
theorem dX7_side_32 : mD cX7_side 32 (.iconst (-1)) 1 33 := ⟨by decide +kernel, rfl⟩
theorem dX7_side_33 : mD cX7_side 33 .ireturn 1 34 := ⟨by decide +kernel, rfl⟩
theorem dX7_cube_0 : mD cX7_cube 0 (.aload_n 0) 1 1 := ⟨by decide +kernel, rfl⟩
theorem dX7_cube_1 : mD cX7_cube 1 (.iload_n 1) 1 2 := ⟨by decide +kernel, rfl⟩
theorem dX7_cube_2 : mD cX7_cube 2 (.invokevirtual 97) 3 5 := ⟨by decide +kernel, rfl⟩
theorem dX7_cube_5 : mJ cX7_cube 5 (.ifCond .ne) 8 10 := mJ.of (5) (by decide +kernel) rfl (by decide)
theorem dX7_cube_8 : mD cX7_cube 8 (.iconst (-1)) 1 9 := ⟨by decide +kernel, rfl⟩
theorem dX7_cube_9 : mD cX7_cube 9 .ireturn 1 10 := ⟨by decide +kernel, rfl⟩
theorem dX7_cube_10 : mD cX7_cube 10 (.iload_n 2) 1 11 := ⟨by decide +kernel, rfl⟩
theorem dX7_cube_11 : decode cX7_cube 11 = .ok (.tableswitch 63 0 3 #[29, 38, 48, 57], 29) := by decide +kernel
theorem dX7_cube_40 : mD cX7_cube 40 (.aload_n 0) 1 41 := ⟨by decide +kernel, rfl⟩
theorem dX7_cube_41 : mD cX7_cube 41 (.getfield 29) 3 44 := ⟨by decide +kernel, rfl⟩
theorem dX7_cube_44 : mD cX7_cube 44 (.iload_n 1) 1 45 := ⟨by decide +kernel, rfl⟩
theorem dX7_cube_45 : mD cX7_cube 45 (.invokevirtual 108) 3 48 := ⟨by decide +kernel, rfl⟩
theorem dX7_cube_48 : mD cX7_cube 48 .ireturn 1 49 := ⟨by decide +kernel, rfl⟩
theorem dX7_cube_49 : mD cX7_cube 49 (.aload_n 0) 1 50 := ⟨by decide +kernel, rfl⟩
theorem dX7_cube_50 : mD cX7_cube 50 (.getfield 29) 3 53 := ⟨by decide +kernel, rfl⟩
theorem dX7_cube_53 : mD cX7_cube 53 (.getfield 112) 3 56 := ⟨by decide +kernel, rfl⟩
theorem dX7_cube_56 : mD cX7_cube 56 (.iload_n 1) 1 57 := ⟨by decide +kernel, rfl⟩
theorem dX7_cube_57 : mD cX7_cube 57 .iaload 1 58 := ⟨by decide +kernel, rfl⟩
theorem dX7_cube_58 : mD cX7_cube 58 .ireturn 1 59 := ⟨by decide +kernel, rfl⟩
theorem dX7_cube_59 : mD cX7_cube 59 (.aload_n 0) 1 60 := ⟨by decide +kernel, rfl⟩
theorem dX7_cube_60 : mD cX7_cube 60 (.getfield 29) 3 63 := ⟨by decide +kernel, rfl⟩
theorem dX7_cube_63 : mD cX7_cube 63 (.iload_n 1) 1 64 := ⟨by decide +kernel, rfl⟩
theorem dX7_cube_64 : mD cX7_cube 64 (.invokevirtual 115) 3 67 := ⟨by decide +kernel, rfl⟩
theorem dX7_cube_67 : mD cX7_cube 67 .ireturn 1 68 := ⟨by decide +kernel, rfl⟩
theorem dX7_cube_68 : mD cX7_cube 68 (.aload_n 0) 1 69 := ⟨by decide +kernel, rfl⟩
theorem dX7_cube_69 : mD cX7_cube 69 (.iload_n 1) 1 70 := ⟨by decide +kernel, rfl⟩
theorem dX7_cube_70 : mD cX7_cube 70 (.invokevirtual 118) 3 73 := ⟨by decide +kernel, rfl⟩
theorem dX7_cube_73 : mD cX7_cube 73 .ireturn 1 74 := ⟨by decide +kernel, rfl⟩
theorem dX7_cube_74 : mD cX7_cube 74 (.iconst (-1)) 1 75 := ⟨by decide +kernel, rfl⟩
theorem dX7_cube_75 : mD cX7_cube 75 .ireturn 1 76 := ⟨by decide +kernel, rfl⟩
theorem dX7_place_0 : mD cX7_place 0 (.aload_n 0) 1 1 := ⟨by decide +kernel, rfl⟩
theorem dX7_place_1 : mD cX7_place 1 (.iload_n 1) 1 2 := ⟨by decide +kernel, rfl⟩
theorem dX7_place_2 : mD cX7_place 2 (.invokevirtual 121) 3 5 := ⟨by decide +kernel, rfl⟩
theorem dX7_place_5 : mJ cX7_place 5 (.ifCond .eq) 8 20 := mJ.of (15) (by decide +kernel) rfl (by decide)
theorem dX7_place_8 : mD cX7_place 8 (.aload_n 0) 1 9 := ⟨by decide +kernel, rfl⟩
theorem dX7_place_9 : mD cX7_place 9 (.getfield 29) 3 12 := ⟨by decide +kernel, rfl⟩
theorem dX7_place_12 : mD cX7_place 12 (.getfield 124) 3 15 := ⟨by decide +kernel, rfl⟩
theorem dX7_place_15 : mD cX7_place 15 (.iload_n 1) 1 16 := ⟨by decide +kernel, rfl⟩
theorem dX7_place_16 : mD cX7_place 16 .iaload 1 17 := ⟨by decide +kernel, rfl⟩
theorem dX7_place_17 : mJ cX7_place 17 .goto 20 21 := mJ.of (4) (by decide +kernel) rfl (by decide)
theorem dX7_place_20 : mD cX7_place 20 (.iconst (-1)) 1 21 := ⟨by decide +kernel, rfl⟩
theorem dX7_place_21 : mD cX7_place 21 .ireturn 1 22 := ⟨by decide +kernel, rfl⟩
theorem dX7_day_0 : mD cX7_day 0 (.iload_n 1) 1 1 := ⟨by decide +kernel, rfl⟩
theorem dX7_day_1 : mJ cX7_day 1 (.ifCond .lt) 4 27 := mJ.of (26) (by decide +kernel) rfl (by decide)
theorem dX7_day_4 : mD cX7_day 4 (.iload_n 1) 1 5 := ⟨by decide +kernel, rfl⟩
theorem dX7_day_5 : mD cX7_day 5 (.aload_n 0) 1 6 := ⟨by decide +kernel, rfl⟩
theorem dX7_day_6 : mD cX7_day 6 (.getfield 19) 3 9 := ⟨by decide +kernel, rfl⟩
theorem dX7_day_9 : mD cX7_day 9 (.getfield 127) 3 12 := ⟨by decide +kernel, rfl⟩
theorem dX7_day_12 : mJ cX7_day 12 (.if_icmp .ge) 15 27 := mJ.of (15) (by decide +kernel) rfl (by decide)
theorem dX7_day_15 : mD cX7_day 15 (.aload_n 0) 1 16 := ⟨by decide +kernel, rfl⟩
theorem dX7_day_16 : mD cX7_day 16 (.getfield 19) 3 19 := ⟨by decide +kernel, rfl⟩
theorem dX7_day_19 : mD cX7_day 19 (.getfield 130) 3 22 := ⟨by decide +kernel, rfl⟩
theorem dX7_day_22 : mD cX7_day 22 (.iload_n 1) 1 23 := ⟨by decide +kernel, rfl⟩
theorem dX7_day_23 : mD cX7_day 23 .iaload 1 24 := ⟨by decide +kernel, rfl⟩
theorem dX7_day_24 : mJ cX7_day 24 .goto 27 28 := mJ.of (4) (by decide +kernel) rfl (by decide)
theorem dX7_day_27 : mD cX7_day 27 (.iconst (-1)) 1 28 := ⟨by decide +kernel, rfl⟩
theorem dX7_day_28 : mD cX7_day 28 .ireturn 1 29 := ⟨by decide +kernel, rfl⟩
theorem dX7_turn_0 : mD cX7_turn 0 (.aload_n 0) 1 1 := ⟨by decide +kernel, rfl⟩
theorem dX7_turn_1 : mD cX7_turn 1 (.iload_n 1) 1 2 := ⟨by decide +kernel, rfl⟩
theorem dX7_turn_2 : mD cX7_turn 2 (.invokevirtual 97) 3 5 := ⟨by decide +kernel, rfl⟩
theorem dX7_turn_5 : mJ cX7_turn 5 (.ifCond .eq) 8 15 := mJ.of (10) (by decide +kernel) rfl (by decide)
theorem dX7_turn_8 : mD cX7_turn 8 (.iload_n 2) 1 9 := ⟨by decide +kernel, rfl⟩
theorem dX7_turn_9 : mD cX7_turn 9 (.invokestatic 101) 3 12 := ⟨by decide +kernel, rfl⟩
theorem dX7_turn_12 : mJ cX7_turn 12 (.ifCond .ne) 15 17 := mJ.of (5) (by decide +kernel) rfl (by decide)
theorem dX7_turn_15 : mD cX7_turn 15 (.iconst (-1)) 1 16 := ⟨by decide +kernel, rfl⟩
theorem dX7_turn_16 : mD cX7_turn 16 .ireturn 1 17 := ⟨by decide +kernel, rfl⟩
theorem dX7_turn_17 : mD cX7_turn 17 (.aload_n 0) 1 18 := ⟨by decide +kernel, rfl⟩
theorem dX7_turn_18 : mD cX7_turn 18 (.getfield 29) 3 21 := ⟨by decide +kernel, rfl⟩
theorem dX7_turn_21 : mD cX7_turn 21 (.getfield 112) 3 24 := ⟨by decide +kernel, rfl⟩
theorem dX7_turn_24 : mD cX7_turn 24 (.iload_n 1) 1 25 := ⟨by decide +kernel, rfl⟩
theorem dX7_turn_25 : mD cX7_turn 25 .iaload 1 26 := ⟨by decide +kernel, rfl⟩
theorem dX7_turn_26 : mD cX7_turn 26 (.iload_n 2) 1 27 := ⟨by decide +kernel, rfl⟩
theorem dX7_turn_27 : mJ cX7_turn 27 (.if_icmp .ne) 30 33 := mJ.of (6) (by decide +kernel) rfl (by decide)
theorem dX7_turn_30 : mD cX7_turn 30 (.bipush (-2)) 2 32 := ⟨by decide +kernel, rfl⟩
theorem dX7_turn_32 : mD cX7_turn 32 .ireturn 1 33 := ⟨by decide +kernel, rfl⟩
theorem dX7_turn_33 : mD cX7_turn 33 (.aload_n 0) 1 34 := ⟨by decide +kernel, rfl⟩
theorem dX7_turn_34 : mD cX7_turn 34 (.getfield 29) 3 37 := ⟨by decide +kernel, rfl⟩
theorem dX7_turn_37 : mD cX7_turn 37 (.iload_n 1) 1 38 := ⟨by decide +kernel, rfl⟩
theorem dX7_turn_38 : mD cX7_turn 38 (.iload_n 2) 1 39 := ⟨by decide +kernel, rfl⟩
theorem dX7_turn_39 : mD cX7_turn 39 (.invokevirtual 133) 3 42 := ⟨by decide +kernel, rfl⟩
theorem dX7_turn_42 : mD cX7_turn 42 (.aload_n 0) 1 43 := ⟨by decide +kernel, rfl⟩
theorem dX7_turn_43 : mD cX7_turn 43 (.getfield 29) 3 46 := ⟨by decide +kernel, rfl⟩
theorem dX7_turn_46 : mD cX7_turn 46 (.getfield 137) 3 49 := ⟨by decide +kernel, rfl⟩
theorem dX7_turn_49 : mD cX7_turn 49 .ireturn 1 50 := ⟨by decide +kernel, rfl⟩
theorem dX7_changes_0 : mD cX7_changes 0 (.aload_n 0) 1 1 := ⟨by decide +kernel, rfl⟩
theorem dX7_changes_1 : mD cX7_changes 1 (.iload_n 1) 1 2 := ⟨by decide +kernel, rfl⟩
theorem dX7_changes_2 : mD cX7_changes 2 (.invokevirtual 121) 3 5 := ⟨by decide +kernel, rfl⟩
theorem dX7_changes_5 : mJ cX7_changes 5 (.ifCond .eq) 8 21 := mJ.of (16) (by decide +kernel) rfl (by decide)
theorem dX7_changes_8 : mD cX7_changes 8 (.aload_n 0) 1 9 := ⟨by decide +kernel, rfl⟩
theorem dX7_changes_9 : mD cX7_changes 9 (.iload_n 2) 1 10 := ⟨by decide +kernel, rfl⟩
theorem dX7_changes_10 : mD cX7_changes 10 (.invokevirtual 121) 3 13 := ⟨by decide +kernel, rfl⟩
theorem dX7_changes_13 : mJ cX7_changes 13 (.ifCond .eq) 16 21 := mJ.of (8) (by decide +kernel) rfl (by decide)
theorem dX7_changes_16 : mD cX7_changes 16 (.iload_n 1) 1 17 := ⟨by decide +kernel, rfl⟩
theorem dX7_changes_17 : mD cX7_changes 17 (.iload_n 2) 1 18 := ⟨by decide +kernel, rfl⟩
theorem dX7_changes_18 : mJ cX7_changes 18 (.if_icmp .ne) 21 23 := mJ.of (5) (by decide +kernel) rfl (by decide)
theorem dX7_changes_21 : mD cX7_changes 21 (.iconst (-1)) 1 22 := ⟨by decide +kernel, rfl⟩
theorem dX7_changes_22 : mD cX7_changes 22 .ireturn 1 23 := ⟨by decide +kernel, rfl⟩
theorem dX7_changes_23 : mD cX7_changes 23 (.aload_n 0) 1 24 := ⟨by decide +kernel, rfl⟩
theorem dX7_changes_24 : mD cX7_changes 24 (.getfield 29) 3 27 := ⟨by decide +kernel, rfl⟩
theorem dX7_changes_27 : mD cX7_changes 27 (.iload_n 1) 1 28 := ⟨by decide +kernel, rfl⟩
theorem dX7_changes_28 : mD cX7_changes 28 (.iload_n 2) 1 29 := ⟨by decide +kernel, rfl⟩
theorem dX7_changes_29 : mD cX7_changes 29 (.invokevirtual 140) 3 32 := ⟨by decide +kernel, rfl⟩
theorem dX7_changes_32 : mD cX7_changes 32 (.aload_n 0) 1 33 := ⟨by decide +kernel, rfl⟩
theorem dX7_changes_33 : mD cX7_changes 33 (.getfield 29) 3 36 := ⟨by decide +kernel, rfl⟩
theorem dX7_changes_36 : mD cX7_changes 36 (.getfield 137) 3 39 := ⟨by decide +kernel, rfl⟩
theorem dX7_changes_39 : mD cX7_changes 39 .ireturn 1 40 := ⟨by decide +kernel, rfl⟩
theorem dX7_pastes_0 : mD cX7_pastes 0 (.aload_n 0) 1 1 := ⟨by decide +kernel, rfl⟩
theorem dX7_pastes_1 : mD cX7_pastes 1 (.iload_n 1) 1 2 := ⟨by decide +kernel, rfl⟩
theorem dX7_pastes_2 : mD cX7_pastes 2 (.invokevirtual 97) 3 5 := ⟨by decide +kernel, rfl⟩
theorem dX7_pastes_5 : mJ cX7_pastes 5 (.ifCond .eq) 8 22 := mJ.of (17) (by decide +kernel) rfl (by decide)
theorem dX7_pastes_8 : mD cX7_pastes 8 (.iload_n 2) 1 9 := ⟨by decide +kernel, rfl⟩
theorem dX7_pastes_9 : mD cX7_pastes 9 (.invokestatic 101) 3 12 := ⟨by decide +kernel, rfl⟩
theorem dX7_pastes_12 : mJ cX7_pastes 12 (.ifCond .eq) 15 22 := mJ.of (10) (by decide +kernel) rfl (by decide)
theorem dX7_pastes_15 : mD cX7_pastes 15 (.iload_n 3) 1 16 := ⟨by decide +kernel, rfl⟩
theorem dX7_pastes_16 : mD cX7_pastes 16 (.invokestatic 143) 3 19 := ⟨by decide +kernel, rfl⟩
theorem dX7_pastes_19 : mJ cX7_pastes 19 (.ifCond .ne) 22 24 := mJ.of (5) (by decide +kernel) rfl (by decide)
theorem dX7_pastes_22 : mD cX7_pastes 22 (.iconst (-1)) 1 23 := ⟨by decide +kernel, rfl⟩
theorem dX7_pastes_23 : mD cX7_pastes 23 .ireturn 1 24 := ⟨by decide +kernel, rfl⟩
theorem dX7_pastes_24 : mD cX7_pastes 24 (.aload_n 0) 1 25 := ⟨by decide +kernel, rfl⟩
theorem dX7_pastes_25 : mD cX7_pastes 25 (.getfield 29) 3 28 := ⟨by decide +kernel, rfl⟩
theorem dX7_pastes_28 : mD cX7_pastes 28 (.getfield 104) 3 31 := ⟨by decide +kernel, rfl⟩
theorem dX7_pastes_31 : mD cX7_pastes 31 (.iload_n 1) 1 32 := ⟨by decide +kernel, rfl⟩
theorem dX7_pastes_32 : mD cX7_pastes 32 (.bipush 6) 2 34 := ⟨by decide +kernel, rfl⟩
theorem dX7_pastes_34 : mD cX7_pastes 34 .imul 1 35 := ⟨by decide +kernel, rfl⟩
theorem dX7_pastes_35 : mD cX7_pastes 35 (.iload_n 2) 1 36 := ⟨by decide +kernel, rfl⟩
theorem dX7_pastes_36 : mD cX7_pastes 36 .iadd 1 37 := ⟨by decide +kernel, rfl⟩
theorem dX7_pastes_37 : mD cX7_pastes 37 .iaload 1 38 := ⟨by decide +kernel, rfl⟩
theorem dX7_pastes_38 : mD cX7_pastes 38 (.istore 4) 2 40 := ⟨by decide +kernel, rfl⟩
theorem dX7_pastes_40 : mD cX7_pastes 40 (.iload 4) 2 42 := ⟨by decide +kernel, rfl⟩
theorem dX7_pastes_42 : mD cX7_pastes 42 (.iload_n 3) 1 43 := ⟨by decide +kernel, rfl⟩
theorem dX7_pastes_43 : mJ cX7_pastes 43 (.if_icmp .ne) 46 49 := mJ.of (6) (by decide +kernel) rfl (by decide)
theorem dX7_pastes_46 : mD cX7_pastes 46 (.bipush (-2)) 2 48 := ⟨by decide +kernel, rfl⟩
theorem dX7_pastes_48 : mD cX7_pastes 48 .ireturn 1 49 := ⟨by decide +kernel, rfl⟩
theorem dX7_pastes_49 : mD cX7_pastes 49 (.aload_n 0) 1 50 := ⟨by decide +kernel, rfl⟩
theorem dX7_pastes_50 : mD cX7_pastes 50 (.getfield 29) 3 53 := ⟨by decide +kernel, rfl⟩
theorem dX7_pastes_53 : mD cX7_pastes 53 (.iload_n 1) 1 54 := ⟨by decide +kernel, rfl⟩
theorem dX7_pastes_54 : mD cX7_pastes 54 (.bipush 6) 2 56 := ⟨by decide +kernel, rfl⟩
theorem dX7_pastes_56 : mD cX7_pastes 56 .imul 1 57 := ⟨by decide +kernel, rfl⟩
theorem dX7_pastes_57 : mD cX7_pastes 57 (.iload_n 2) 1 58 := ⟨by decide +kernel, rfl⟩
theorem dX7_pastes_58 : mD cX7_pastes 58 .iadd 1 59 := ⟨by decide +kernel, rfl⟩
theorem dX7_pastes_59 : mD cX7_pastes 59 (.iload_n 3) 1 60 := ⟨by decide +kernel, rfl⟩
theorem dX7_pastes_60 : mD cX7_pastes 60 (.invokevirtual 146) 3 63 := ⟨by decide +kernel, rfl⟩
theorem dX7_pastes_63 : mD cX7_pastes 63 (.iload 4) 2 65 := ⟨by decide +kernel, rfl⟩
theorem dX7_pastes_65 : mD cX7_pastes 65 .ireturn 1 66 := ⟨by decide +kernel, rfl⟩
theorem dX7_undo_0 : mD cX7_undo 0 (.aload_n 0) 1 1 := ⟨by decide +kernel, rfl⟩
theorem dX7_undo_1 : mD cX7_undo 1 (.getfield 29) 3 4 := ⟨by decide +kernel, rfl⟩
theorem dX7_undo_4 : mD cX7_undo 4 (.getfield 149) 3 7 := ⟨by decide +kernel, rfl⟩
theorem dX7_undo_7 : mJ cX7_undo 7 (.ifCond .ne) 10 13 := mJ.of (6) (by decide +kernel) rfl (by decide)
theorem dX7_undo_10 : mD cX7_undo 10 (.bipush (-2)) 2 12 := ⟨by decide +kernel, rfl⟩
theorem dX7_undo_12 : mD cX7_undo 12 .ireturn 1 13 := ⟨by decide +kernel, rfl⟩
theorem dX7_undo_13 : mD cX7_undo 13 (.aload_n 0) 1 14 := ⟨by decide +kernel, rfl⟩
theorem dX7_undo_14 : mD cX7_undo 14 (.getfield 29) 3 17 := ⟨by decide +kernel, rfl⟩
theorem dX7_undo_17 : mD cX7_undo 17 (.invokevirtual 152) 3 20 := ⟨by decide +kernel, rfl⟩
theorem dX7_undo_20 : mD cX7_undo 20 (.aload_n 0) 1 21 := ⟨by decide +kernel, rfl⟩
theorem dX7_undo_21 : mD cX7_undo 21 (.getfield 29) 3 24 := ⟨by decide +kernel, rfl⟩
theorem dX7_undo_24 : mD cX7_undo 24 (.getfield 149) 3 27 := ⟨by decide +kernel, rfl⟩
theorem dX7_undo_27 : mD cX7_undo 27 .ireturn 1 28 := ⟨by decide +kernel, rfl⟩
theorem dX7_now_0 : mD cX7_now 0 (.iload_n 1) 1 1 := ⟨by decide +kernel, rfl⟩
theorem dX7_now_1 : decode cX7_now 1 = .ok (.tableswitch 79 0 4 #[35, 43, 48, 57, 66], 35) := by decide +kernel
theorem dX7_now_36 : mD cX7_now 36 (.aload_n 0) 1 37 := ⟨by decide +kernel, rfl⟩
theorem dX7_now_37 : mD cX7_now 37 (.getfield 29) 3 40 := ⟨by decide +kernel, rfl⟩
theorem dX7_now_40 : mD cX7_now 40 (.getfield 137) 3 43 := ⟨by decide +kernel, rfl⟩
theorem dX7_now_43 : mD cX7_now 43 .ireturn 1 44 := ⟨by decide +kernel, rfl⟩
theorem dX7_now_44 : mD cX7_now 44 (.aload_n 0) 1 45 := ⟨by decide +kernel, rfl⟩
theorem dX7_now_45 : mD cX7_now 45 (.invokevirtual 155) 3 48 := ⟨by decide +kernel, rfl⟩
theorem dX7_now_48 : mD cX7_now 48 .ireturn 1 49 := ⟨by decide +kernel, rfl⟩
theorem dX7_now_49 : mD cX7_now 49 (.aload_n 0) 1 50 := ⟨by decide +kernel, rfl⟩
theorem dX7_now_50 : mD cX7_now 50 (.iconst (-1)) 1 51 := ⟨by decide +kernel, rfl⟩
theorem dX7_now_51 : mD cX7_now 51 (.invokevirtual 159) 3 54 := ⟨by decide +kernel, rfl⟩
theorem dX7_now_54 : mD cX7_now 54 (.invokevirtual 163) 3 57 := ⟨by decide +kernel, rfl⟩
theorem dX7_now_57 : mD cX7_now 57 .ireturn 1 58 := ⟨by decide +kernel, rfl⟩
theorem dX7_now_58 : mD cX7_now 58 (.aload_n 0) 1 59 := ⟨by decide +kernel, rfl⟩
theorem dX7_now_59 : mD cX7_now 59 (.iconst (-1)) 1 60 := ⟨by decide +kernel, rfl⟩
theorem dX7_now_60 : mD cX7_now 60 (.invokevirtual 159) 3 63 := ⟨by decide +kernel, rfl⟩
theorem dX7_now_63 : mD cX7_now 63 (.invokevirtual 166) 3 66 := ⟨by decide +kernel, rfl⟩
theorem dX7_now_66 : mD cX7_now 66 .ireturn 1 67 := ⟨by decide +kernel, rfl⟩
theorem dX7_now_67 : mD cX7_now 67 (.aload_n 0) 1 68 := ⟨by decide +kernel, rfl⟩
theorem dX7_now_68 : mD cX7_now 68 (.iconst (-1)) 1 69 := ⟨by decide +kernel, rfl⟩
theorem dX7_now_69 : mD cX7_now 69 (.invokevirtual 159) 3 72 := ⟨by decide +kernel, rfl⟩
theorem dX7_now_72 : mD cX7_now 72 (.aload_n 0) 1 73 := ⟨by decide +kernel, rfl⟩
theorem dX7_now_73 : mD cX7_now 73 (.getfield 19) 3 76 := ⟨by decide +kernel, rfl⟩
theorem dX7_now_76 : mD cX7_now 76 (.invokevirtual 169) 3 79 := ⟨by decide +kernel, rfl⟩
theorem dX7_now_79 : mD cX7_now 79 .ireturn 1 80 := ⟨by decide +kernel, rfl⟩
theorem dX7_now_80 : mD cX7_now 80 (.iconst (-1)) 1 81 := ⟨by decide +kernel, rfl⟩
theorem dX7_now_81 : mD cX7_now 81 .ireturn 1 82 := ⟨by decide +kernel, rfl⟩
theorem dX7_number_0 : mD cX7_number 0 (.aload_n 0) 1 1 := ⟨by decide +kernel, rfl⟩
theorem dX7_number_1 : mD cX7_number 1 (.iload_n 1) 1 2 := ⟨by decide +kernel, rfl⟩
theorem dX7_number_2 : mD cX7_number 2 (.invokevirtual 172) 3 5 := ⟨by decide +kernel, rfl⟩
theorem dX7_number_5 : mJ cX7_number 5 (.ifCond .ne) 8 10 := mJ.of (5) (by decide +kernel) rfl (by decide)
theorem dX7_number_8 : mD cX7_number 8 (.iconst (-1)) 1 9 := ⟨by decide +kernel, rfl⟩
theorem dX7_number_9 : mD cX7_number 9 .ireturn 1 10 := ⟨by decide +kernel, rfl⟩
theorem dX7_number_10 : mD cX7_number 10 (.iload_n 2) 1 11 := ⟨by decide +kernel, rfl⟩
theorem dX7_number_11 : decode cX7_number 11 = .ok (.tableswitch 78 0 3 #[29, 43, 61, 68], 29) := by decide +kernel
theorem dX7_number_40 : mD cX7_number 40 (.aload_n 0) 1 41 := ⟨by decide +kernel, rfl⟩
theorem dX7_number_41 : mD cX7_number 41 (.iload_n 1) 1 42 := ⟨by decide +kernel, rfl⟩
theorem dX7_number_42 : mD cX7_number 42 (.invokevirtual 175) 3 45 := ⟨by decide +kernel, rfl⟩
theorem dX7_number_45 : mJ cX7_number 45 (.ifCond .eq) 48 52 := mJ.of (7) (by decide +kernel) rfl (by decide)
theorem dX7_number_48 : mD cX7_number 48 (.iconst 1) 1 49 := ⟨by decide +kernel, rfl⟩
theorem dX7_number_49 : mJ cX7_number 49 .goto 52 53 := mJ.of (4) (by decide +kernel) rfl (by decide)
theorem dX7_number_52 : mD cX7_number 52 (.iconst 0) 1 53 := ⟨by decide +kernel, rfl⟩
theorem dX7_number_53 : mD cX7_number 53 .ireturn 1 54 := ⟨by decide +kernel, rfl⟩
theorem dX7_number_54 : mD cX7_number 54 (.aload_n 0) 1 55 := ⟨by decide +kernel, rfl⟩
theorem dX7_number_55 : mD cX7_number 55 (.iconst (-1)) 1 56 := ⟨by decide +kernel, rfl⟩
theorem dX7_number_56 : mD cX7_number 56 (.invokevirtual 159) 3 59 := ⟨by decide +kernel, rfl⟩
theorem dX7_number_59 : mD cX7_number 59 (.iload_n 1) 1 60 := ⟨by decide +kernel, rfl⟩
theorem dX7_number_60 : mD cX7_number 60 (.invokevirtual 178) 3 63 := ⟨by decide +kernel, rfl⟩
theorem dX7_number_63 : mJ cX7_number 63 (.ifCond .eq) 66 70 := mJ.of (7) (by decide +kernel) rfl (by decide)
theorem dX7_number_66 : mD cX7_number 66 (.iconst 1) 1 67 := ⟨by decide +kernel, rfl⟩
theorem dX7_number_67 : mJ cX7_number 67 .goto 70 71 := mJ.of (4) (by decide +kernel) rfl (by decide)
theorem dX7_number_70 : mD cX7_number 70 (.iconst 0) 1 71 := ⟨by decide +kernel, rfl⟩
theorem dX7_number_71 : mD cX7_number 71 .ireturn 1 72 := ⟨by decide +kernel, rfl⟩
theorem dX7_number_72 : mD cX7_number 72 (.aload_n 0) 1 73 := ⟨by decide +kernel, rfl⟩
theorem dX7_number_73 : mD cX7_number 73 (.iload_n 1) 1 74 := ⟨by decide +kernel, rfl⟩
theorem dX7_number_74 : mD cX7_number 74 (.iconst 1) 1 75 := ⟨by decide +kernel, rfl⟩
theorem dX7_number_75 : mD cX7_number 75 (.invokevirtual 181) 3 78 := ⟨by decide +kernel, rfl⟩
theorem dX7_number_78 : mD cX7_number 78 .ireturn 1 79 := ⟨by decide +kernel, rfl⟩
theorem dX7_number_79 : mD cX7_number 79 (.aload_n 0) 1 80 := ⟨by decide +kernel, rfl⟩
theorem dX7_number_80 : mD cX7_number 80 (.iconst (-1)) 1 81 := ⟨by decide +kernel, rfl⟩
theorem dX7_number_81 : mD cX7_number 81 (.invokevirtual 159) 3 84 := ⟨by decide +kernel, rfl⟩
theorem dX7_number_84 : mD cX7_number 84 (.iload_n 1) 1 85 := ⟨by decide +kernel, rfl⟩
theorem dX7_number_85 : mD cX7_number 85 (.invokevirtual 185) 3 88 := ⟨by decide +kernel, rfl⟩
theorem dX7_number_88 : mD cX7_number 88 .ireturn 1 89 := ⟨by decide +kernel, rfl⟩
theorem dX7_number_89 : mD cX7_number 89 (.iconst (-1)) 1 90 := ⟨by decide +kernel, rfl⟩
theorem dX7_number_90 : mD cX7_number 90 .ireturn 1 91 := ⟨by decide +kernel, rfl⟩
theorem dX7_through_0 : mD cX7_through 0 (.aload_n 0) 1 1 := ⟨by decide +kernel, rfl⟩
theorem dX7_through_1 : mD cX7_through 1 (.iload_n 1) 1 2 := ⟨by decide +kernel, rfl⟩
theorem dX7_through_2 : mD cX7_through 2 (.invokevirtual 172) 3 5 := ⟨by decide +kernel, rfl⟩
theorem dX7_through_5 : mJ cX7_through 5 (.ifCond .eq) 8 18 := mJ.of (13) (by decide +kernel) rfl (by decide)
theorem dX7_through_8 : mD cX7_through 8 (.iload_n 2) 1 9 := ⟨by decide +kernel, rfl⟩
theorem dX7_through_9 : mD cX7_through 9 (.iconst 1) 1 10 := ⟨by decide +kernel, rfl⟩
theorem dX7_through_10 : mJ cX7_through 10 (.if_icmp .lt) 13 18 := mJ.of (8) (by decide +kernel) rfl (by decide)
theorem dX7_through_13 : mD cX7_through 13 (.iload_n 2) 1 14 := ⟨by decide +kernel, rfl⟩
theorem dX7_through_14 : mD cX7_through 14 (.iconst 3) 1 15 := ⟨by decide +kernel, rfl⟩
theorem dX7_through_15 : mJ cX7_through 15 (.if_icmp .le) 18 20 := mJ.of (5) (by decide +kernel) rfl (by decide)
theorem dX7_through_18 : mD cX7_through 18 (.iconst (-1)) 1 19 := ⟨by decide +kernel, rfl⟩
theorem dX7_through_19 : mD cX7_through 19 .ireturn 1 20 := ⟨by decide +kernel, rfl⟩
theorem dX7_through_20 : mD cX7_through 20 (.aload_n 0) 1 21 := ⟨by decide +kernel, rfl⟩
theorem dX7_through_21 : mD cX7_through 21 (.iload_n 1) 1 22 := ⟨by decide +kernel, rfl⟩
theorem dX7_through_22 : mD cX7_through 22 (.iload_n 2) 1 23 := ⟨by decide +kernel, rfl⟩
theorem dX7_through_23 : mD cX7_through 23 .iadd 1 24 := ⟨by decide +kernel, rfl⟩
theorem dX7_through_24 : mD cX7_through 24 (.iconst 1) 1 25 := ⟨by decide +kernel, rfl⟩
theorem dX7_through_25 : mD cX7_through 25 .isub 1 26 := ⟨by decide +kernel, rfl⟩
theorem dX7_through_26 : mD cX7_through 26 (.invokevirtual 172) 3 29 := ⟨by decide +kernel, rfl⟩
theorem dX7_through_29 : mJ cX7_through 29 (.ifCond .eq) 32 41 := mJ.of (12) (by decide +kernel) rfl (by decide)
theorem dX7_through_32 : mD cX7_through 32 (.aload_n 0) 1 33 := ⟨by decide +kernel, rfl⟩
theorem dX7_through_33 : mD cX7_through 33 (.iload_n 1) 1 34 := ⟨by decide +kernel, rfl⟩
theorem dX7_through_34 : mD cX7_through 34 (.iload_n 2) 1 35 := ⟨by decide +kernel, rfl⟩
theorem dX7_through_35 : mD cX7_through 35 (.invokevirtual 181) 3 38 := ⟨by decide +kernel, rfl⟩
theorem dX7_through_38 : mJ cX7_through 38 .goto 41 43 := mJ.of (5) (by decide +kernel) rfl (by decide)
theorem dX7_through_41 : mD cX7_through 41 (.bipush (-9)) 2 43 := ⟨by decide +kernel, rfl⟩
theorem dX7_through_43 : mD cX7_through 43 .ireturn 1 44 := ⟨by decide +kernel, rfl⟩
theorem dX7_odds_0 : mD cX7_odds 0 (.aload_n 0) 1 1 := ⟨by decide +kernel, rfl⟩
theorem dX7_odds_1 : mD cX7_odds 1 (.iload_n 1) 1 2 := ⟨by decide +kernel, rfl⟩
theorem dX7_odds_2 : mD cX7_odds 2 (.invokevirtual 172) 3 5 := ⟨by decide +kernel, rfl⟩
theorem dX7_odds_5 : mJ cX7_odds 5 (.ifCond .eq) 8 17 := mJ.of (12) (by decide +kernel) rfl (by decide)
theorem dX7_odds_8 : mD cX7_odds 8 (.iload_n 2) 1 9 := ⟨by decide +kernel, rfl⟩
theorem dX7_odds_9 : mJ cX7_odds 9 (.ifCond .lt) 12 17 := mJ.of (8) (by decide +kernel) rfl (by decide)
theorem dX7_odds_12 : mD cX7_odds 12 (.iload_n 2) 1 13 := ⟨by decide +kernel, rfl⟩
theorem dX7_odds_13 : mD cX7_odds 13 (.iconst 1) 1 14 := ⟨by decide +kernel, rfl⟩
theorem dX7_odds_14 : mJ cX7_odds 14 (.if_icmp .le) 17 19 := mJ.of (5) (by decide +kernel) rfl (by decide)
theorem dX7_odds_17 : mD cX7_odds 17 (.iconst (-1)) 1 18 := ⟨by decide +kernel, rfl⟩
theorem dX7_odds_18 : mD cX7_odds 18 .ireturn 1 19 := ⟨by decide +kernel, rfl⟩
theorem dX7_odds_19 : mD cX7_odds 19 (.aload_n 0) 1 20 := ⟨by decide +kernel, rfl⟩
theorem dX7_odds_20 : mD cX7_odds 20 (.getfield 65) 3 23 := ⟨by decide +kernel, rfl⟩
theorem dX7_odds_23 : mD cX7_odds 23 (.aload_n 0) 1 24 := ⟨by decide +kernel, rfl⟩
theorem dX7_odds_24 : mD cX7_odds 24 (.getfield 19) 3 27 := ⟨by decide +kernel, rfl⟩
theorem dX7_odds_27 : mD cX7_odds 27 (.aload_n 0) 1 28 := ⟨by decide +kernel, rfl⟩
theorem dX7_odds_28 : mD cX7_odds 28 (.getfield 29) 3 31 := ⟨by decide +kernel, rfl⟩
theorem dX7_odds_31 : mD cX7_odds 31 (.iload_n 1) 1 32 := ⟨by decide +kernel, rfl⟩
theorem dX7_odds_32 : mD cX7_odds 32 (.invokevirtual 188) 3 35 := ⟨by decide +kernel, rfl⟩
theorem dX7_odds_35 : mD cX7_odds 35 (.iload_n 2) 1 36 := ⟨by decide +kernel, rfl⟩
theorem dX7_odds_36 : mJ cX7_odds 36 (.ifCond .ne) 39 49 := mJ.of (13) (by decide +kernel) rfl (by decide)
theorem dX7_odds_39 : mD cX7_odds 39 (.aload_n 0) 1 40 := ⟨by decide +kernel, rfl⟩
theorem dX7_odds_40 : mD cX7_odds 40 (.getfield 65) 3 43 := ⟨by decide +kernel, rfl⟩
theorem dX7_odds_43 : mD cX7_odds 43 (.getfield 192) 3 46 := ⟨by decide +kernel, rfl⟩
theorem dX7_odds_46 : mJ cX7_odds 46 .goto 49 56 := mJ.of (10) (by decide +kernel) rfl (by decide)
theorem dX7_odds_49 : mD cX7_odds 49 (.aload_n 0) 1 50 := ⟨by decide +kernel, rfl⟩
theorem dX7_odds_50 : mD cX7_odds 50 (.getfield 65) 3 53 := ⟨by decide +kernel, rfl⟩
theorem dX7_odds_53 : mD cX7_odds 53 (.getfield 195) 3 56 := ⟨by decide +kernel, rfl⟩
theorem dX7_odds_56 : mD cX7_odds 56 .ireturn 1 57 := ⟨by decide +kernel, rfl⟩
theorem dX7_sees_0 : mD cX7_sees 0 (.iload_n 1) 1 1 := ⟨by decide +kernel, rfl⟩
theorem dX7_sees_1 : mD cX7_sees 1 (.invokestatic 143) 3 4 := ⟨by decide +kernel, rfl⟩
theorem dX7_sees_4 : mJ cX7_sees 4 (.ifCond .eq) 7 16 := mJ.of (12) (by decide +kernel) rfl (by decide)
theorem dX7_sees_7 : mD cX7_sees 7 (.iload_n 2) 1 8 := ⟨by decide +kernel, rfl⟩
theorem dX7_sees_8 : mJ cX7_sees 8 (.ifCond .lt) 11 16 := mJ.of (8) (by decide +kernel) rfl (by decide)
theorem dX7_sees_11 : mD cX7_sees 11 (.iload_n 2) 1 12 := ⟨by decide +kernel, rfl⟩
theorem dX7_sees_12 : mD cX7_sees 12 (.iconst 1) 1 13 := ⟨by decide +kernel, rfl⟩
theorem dX7_sees_13 : mJ cX7_sees 13 (.if_icmp .le) 16 18 := mJ.of (5) (by decide +kernel) rfl (by decide)
theorem dX7_sees_16 : mD cX7_sees 16 (.iconst (-1)) 1 17 := ⟨by decide +kernel, rfl⟩
theorem dX7_sees_17 : mD cX7_sees 17 .ireturn 1 18 := ⟨by decide +kernel, rfl⟩
theorem dX7_sees_18 : mD cX7_sees 18 (.aload_n 0) 1 19 := ⟨by decide +kernel, rfl⟩
theorem dX7_sees_19 : mD cX7_sees 19 (.getfield 44) 3 22 := ⟨by decide +kernel, rfl⟩
theorem dX7_sees_22 : mD cX7_sees 22 (.getfield 85) 3 25 := ⟨by decide +kernel, rfl⟩
theorem dX7_sees_25 : mD cX7_sees 25 (.bipush 6) 2 27 := ⟨by decide +kernel, rfl⟩
theorem dX7_sees_27 : mJ cX7_sees 27 (.if_icmp .lt) 30 33 := mJ.of (6) (by decide +kernel) rfl (by decide)
theorem dX7_sees_30 : mD cX7_sees 30 (.bipush (-3)) 2 32 := ⟨by decide +kernel, rfl⟩
theorem dX7_sees_32 : mD cX7_sees 32 .ireturn 1 33 := ⟨by decide +kernel, rfl⟩
theorem dX7_sees_33 : mD cX7_sees 33 (.aload_n 0) 1 34 := ⟨by decide +kernel, rfl⟩
theorem dX7_sees_34 : mD cX7_sees 34 (.getfield 44) 3 37 := ⟨by decide +kernel, rfl⟩
theorem dX7_sees_37 : mD cX7_sees 37 (.iload_n 1) 1 38 := ⟨by decide +kernel, rfl⟩
theorem dX7_sees_38 : mD cX7_sees 38 (.iload_n 2) 1 39 := ⟨by decide +kernel, rfl⟩
theorem dX7_sees_39 : mD cX7_sees 39 (.invokevirtual 198) 3 42 := ⟨by decide +kernel, rfl⟩
theorem dX7_sees_42 : mD cX7_sees 42 (.aload_n 0) 1 43 := ⟨by decide +kernel, rfl⟩
theorem dX7_sees_43 : mD cX7_sees 43 (.getfield 44) 3 46 := ⟨by decide +kernel, rfl⟩
theorem dX7_sees_46 : mD cX7_sees 46 (.getfield 85) 3 49 := ⟨by decide +kernel, rfl⟩
theorem dX7_sees_49 : mD cX7_sees 49 .ireturn 1 50 := ⟨by decide +kernel, rfl⟩
theorem dX7_forget_0 : mD cX7_forget 0 (.aload_n 0) 1 1 := ⟨by decide +kernel, rfl⟩
theorem dX7_forget_1 : mD cX7_forget 1 (.getfield 44) 3 4 := ⟨by decide +kernel, rfl⟩
theorem dX7_forget_4 : mD cX7_forget 4 (.getfield 85) 3 7 := ⟨by decide +kernel, rfl⟩
theorem dX7_forget_7 : mD cX7_forget 7 (.istore_n 1) 1 8 := ⟨by decide +kernel, rfl⟩
theorem dX7_forget_8 : mD cX7_forget 8 (.aload_n 0) 1 9 := ⟨by decide +kernel, rfl⟩
theorem dX7_forget_9 : mD cX7_forget 9 (.getfield 44) 3 12 := ⟨by decide +kernel, rfl⟩
theorem dX7_forget_12 : mD cX7_forget 12 (.iconst 0) 1 13 := ⟨by decide +kernel, rfl⟩
theorem dX7_forget_13 : mD cX7_forget 13 (.putfield 85) 3 16 := ⟨by decide +kernel, rfl⟩
theorem dX7_forget_16 : mD cX7_forget 16 (.iload_n 1) 1 17 := ⟨by decide +kernel, rfl⟩
theorem dX7_forget_17 : mD cX7_forget 17 .ireturn 1 18 := ⟨by decide +kernel, rfl⟩
theorem dX7_which_0 : mD cX7_which 0 (.aload_n 0) 1 1 := ⟨by decide +kernel, rfl⟩
theorem dX7_which_1 : mD cX7_which 1 (.getfield 44) 3 4 := ⟨by decide +kernel, rfl⟩
theorem dX7_which_4 : mD cX7_which 4 (.aload_n 0) 1 5 := ⟨by decide +kernel, rfl⟩
theorem dX7_which_5 : mD cX7_which 5 (.getfield 19) 3 8 := ⟨by decide +kernel, rfl⟩
theorem dX7_which_8 : mD cX7_which 8 (.getfield 200) 3 11 := ⟨by decide +kernel, rfl⟩
theorem dX7_which_11 : mD cX7_which 11 (.aload_n 0) 1 12 := ⟨by decide +kernel, rfl⟩
theorem dX7_which_12 : mD cX7_which 12 (.getfield 29) 3 15 := ⟨by decide +kernel, rfl⟩
theorem dX7_which_15 : mD cX7_which 15 (.invokevirtual 203) 3 18 := ⟨by decide +kernel, rfl⟩
theorem dX7_which_18 : mD cX7_which 18 .ireturn 1 19 := ⟨by decide +kernel, rfl⟩
theorem dX7_look_0 : mD cX7_look 0 (.aload_n 0) 1 1 := ⟨by decide +kernel, rfl⟩
theorem dX7_look_1 : mD cX7_look 1 (.getfield 44) 3 4 := ⟨by decide +kernel, rfl⟩
theorem dX7_look_4 : mD cX7_look 4 (.aload_n 0) 1 5 := ⟨by decide +kernel, rfl⟩
theorem dX7_look_5 : mD cX7_look 5 (.getfield 19) 3 8 := ⟨by decide +kernel, rfl⟩
theorem dX7_look_8 : mD cX7_look 8 (.getfield 200) 3 11 := ⟨by decide +kernel, rfl⟩
theorem dX7_look_11 : mD cX7_look 11 (.aload_n 0) 1 12 := ⟨by decide +kernel, rfl⟩
theorem dX7_look_12 : mD cX7_look 12 (.getfield 29) 3 15 := ⟨by decide +kernel, rfl⟩
theorem dX7_look_15 : mD cX7_look 15 (.invokevirtual 207) 3 18 := ⟨by decide +kernel, rfl⟩
theorem dX7_look_18 : mD cX7_look 18 .ireturn 1 19 := ⟨by decide +kernel, rfl⟩
theorem dX7_mark_0 : mD cX7_mark 0 (.iload_n 1) 1 1 := ⟨by decide +kernel, rfl⟩
theorem dX7_mark_1 : mJ cX7_mark 1 (.ifCond .lt) 4 17 := mJ.of (16) (by decide +kernel) rfl (by decide)
theorem dX7_mark_4 : mD cX7_mark 4 (.iload_n 1) 1 5 := ⟨by decide +kernel, rfl⟩
theorem dX7_mark_5 : mD cX7_mark 5 (.iconst 5) 1 6 := ⟨by decide +kernel, rfl⟩
theorem dX7_mark_6 : mJ cX7_mark 6 (.if_icmp .gt) 9 17 := mJ.of (11) (by decide +kernel) rfl (by decide)
theorem dX7_mark_9 : mD cX7_mark 9 (.aload_n 0) 1 10 := ⟨by decide +kernel, rfl⟩
theorem dX7_mark_10 : mD cX7_mark 10 (.iload_n 2) 1 11 := ⟨by decide +kernel, rfl⟩
theorem dX7_mark_11 : mD cX7_mark 11 (.invokevirtual 97) 3 14 := ⟨by decide +kernel, rfl⟩
theorem dX7_mark_14 : mJ cX7_mark 14 (.ifCond .ne) 17 20 := mJ.of (6) (by decide +kernel) rfl (by decide)
theorem dX7_mark_17 : mD cX7_mark 17 (.ldc 210) 2 19 := ⟨by decide +kernel, rfl⟩
theorem dX7_mark_19 : mD cX7_mark 19 .ireturn 1 20 := ⟨by decide +kernel, rfl⟩
theorem dX7_mark_20 : mD cX7_mark 20 (.aload_n 0) 1 21 := ⟨by decide +kernel, rfl⟩
theorem dX7_mark_21 : mD cX7_mark 21 (.iload_n 1) 1 22 := ⟨by decide +kernel, rfl⟩
theorem dX7_mark_22 : mD cX7_mark 22 (.iload_n 2) 1 23 := ⟨by decide +kernel, rfl⟩
theorem dX7_mark_23 : mD cX7_mark 23 (.invokevirtual 211) 3 26 := ⟨by decide +kernel, rfl⟩
theorem dX7_mark_26 : mD cX7_mark 26 .ireturn 1 27 := ⟨by decide +kernel, rfl⟩
theorem dX7_keep_0 : mD cX7_keep 0 (.iload_n 1) 1 1 := ⟨by decide +kernel, rfl⟩
theorem dX7_keep_1 : mD cX7_keep 1 (.invokestatic 214) 3 4 := ⟨by decide +kernel, rfl⟩
theorem dX7_keep_4 : mJ cX7_keep 4 (.ifCond .ne) 7 9 := mJ.of (5) (by decide +kernel) rfl (by decide)
theorem dX7_keep_7 : mD cX7_keep 7 (.iconst (-1)) 1 8 := ⟨by decide +kernel, rfl⟩
theorem dX7_keep_8 : mD cX7_keep 8 .ireturn 1 9 := ⟨by decide +kernel, rfl⟩
theorem dX7_keep_9 : mD cX7_keep 9 (.aload_n 0) 1 10 := ⟨by decide +kernel, rfl⟩
theorem dX7_keep_10 : mD cX7_keep 10 (.getfield 33) 3 13 := ⟨by decide +kernel, rfl⟩
theorem dX7_keep_13 : mD cX7_keep 13 (.iload_n 1) 1 14 := ⟨by decide +kernel, rfl⟩
theorem dX7_keep_14 : mD cX7_keep 14 .aaload 1 15 := ⟨by decide +kernel, rfl⟩
theorem dX7_keep_15 : mD cX7_keep 15 (.aload_n 0) 1 16 := ⟨by decide +kernel, rfl⟩
theorem dX7_keep_16 : mD cX7_keep 16 (.getfield 29) 3 19 := ⟨by decide +kernel, rfl⟩
theorem dX7_keep_19 : mD cX7_keep 19 (.invokevirtual 217) 3 22 := ⟨by decide +kernel, rfl⟩
theorem dX7_keep_22 : mD cX7_keep 22 (.aload_n 0) 1 23 := ⟨by decide +kernel, rfl⟩
theorem dX7_keep_23 : mD cX7_keep 23 (.getfield 37) 3 26 := ⟨by decide +kernel, rfl⟩
theorem dX7_keep_26 : mD cX7_keep 26 (.iload_n 1) 1 27 := ⟨by decide +kernel, rfl⟩
theorem dX7_keep_27 : mD cX7_keep 27 (.iconst 1) 1 28 := ⟨by decide +kernel, rfl⟩
theorem dX7_keep_28 : mD cX7_keep 28 .bastore 1 29 := ⟨by decide +kernel, rfl⟩
theorem dX7_keep_29 : mD cX7_keep 29 (.aload_n 0) 1 30 := ⟨by decide +kernel, rfl⟩
theorem dX7_keep_30 : mD cX7_keep 30 (.getfield 29) 3 33 := ⟨by decide +kernel, rfl⟩
theorem dX7_keep_33 : mD cX7_keep 33 (.getfield 137) 3 36 := ⟨by decide +kernel, rfl⟩
theorem dX7_keep_36 : mD cX7_keep 36 .ireturn 1 37 := ⟨by decide +kernel, rfl⟩
theorem dX7_back_0 : mD cX7_back 0 (.iload_n 1) 1 1 := ⟨by decide +kernel, rfl⟩
theorem dX7_back_1 : mD cX7_back 1 (.invokestatic 214) 3 4 := ⟨by decide +kernel, rfl⟩
theorem dX7_back_4 : mJ cX7_back 4 (.ifCond .ne) 7 9 := mJ.of (5) (by decide +kernel) rfl (by decide)
theorem dX7_back_7 : mD cX7_back 7 (.iconst (-1)) 1 8 := ⟨by decide +kernel, rfl⟩
theorem dX7_back_8 : mD cX7_back 8 .ireturn 1 9 := ⟨by decide +kernel, rfl⟩
theorem dX7_back_9 : mD cX7_back 9 (.aload_n 0) 1 10 := ⟨by decide +kernel, rfl⟩
theorem dX7_back_10 : mD cX7_back 10 (.getfield 37) 3 13 := ⟨by decide +kernel, rfl⟩
theorem dX7_back_13 : mD cX7_back 13 (.iload_n 1) 1 14 := ⟨by decide +kernel, rfl⟩
theorem dX7_back_14 : mD cX7_back 14 .baload 1 15 := ⟨by decide +kernel, rfl⟩
theorem dX7_back_15 : mJ cX7_back 15 (.ifCond .ne) 18 21 := mJ.of (6) (by decide +kernel) rfl (by decide)
theorem dX7_back_18 : mD cX7_back 18 (.bipush (-2)) 2 20 := ⟨by decide +kernel, rfl⟩
theorem dX7_back_20 : mD cX7_back 20 .ireturn 1 21 := ⟨by decide +kernel, rfl⟩
theorem dX7_back_21 : mD cX7_back 21 (.aload_n 0) 1 22 := ⟨by decide +kernel, rfl⟩
theorem dX7_back_22 : mD cX7_back 22 (.getfield 29) 3 25 := ⟨by decide +kernel, rfl⟩
theorem dX7_back_25 : mD cX7_back 25 (.aload_n 0) 1 26 := ⟨by decide +kernel, rfl⟩
theorem dX7_back_26 : mD cX7_back 26 (.getfield 33) 3 29 := ⟨by decide +kernel, rfl⟩
theorem dX7_back_29 : mD cX7_back 29 (.iload_n 1) 1 30 := ⟨by decide +kernel, rfl⟩
theorem dX7_back_30 : mD cX7_back 30 .aaload 1 31 := ⟨by decide +kernel, rfl⟩
theorem dX7_back_31 : mD cX7_back 31 (.invokevirtual 217) 3 34 := ⟨by decide +kernel, rfl⟩
theorem dX7_back_34 : mD cX7_back 34 (.aload_n 0) 1 35 := ⟨by decide +kernel, rfl⟩
theorem dX7_back_35 : mD cX7_back 35 (.getfield 29) 3 38 := ⟨by decide +kernel, rfl⟩
theorem dX7_back_38 : mD cX7_back 38 (.getfield 137) 3 41 := ⟨by decide +kernel, rfl⟩
theorem dX7_back_41 : mD cX7_back 41 .ireturn 1 42 := ⟨by decide +kernel, rfl⟩
theorem dX7_count_0 : mD cX7_count 0 (.iload_n 1) 1 1 := ⟨by decide +kernel, rfl⟩
theorem dX7_count_1 : decode cX7_count 1 = .ok (.tableswitch 95 0 5 #[39, 47, 55, 71, 79, 87], 39) := by decide +kernel
theorem dX7_count_40 : mD cX7_count 40 (.aload_n 0) 1 41 := ⟨by decide +kernel, rfl⟩
theorem dX7_count_41 : mD cX7_count 41 (.getfield 19) 3 44 := ⟨by decide +kernel, rfl⟩
theorem dX7_count_44 : mD cX7_count 44 (.getfield 200) 3 47 := ⟨by decide +kernel, rfl⟩
theorem dX7_count_47 : mD cX7_count 47 .ireturn 1 48 := ⟨by decide +kernel, rfl⟩
theorem dX7_count_48 : mD cX7_count 48 (.aload_n 0) 1 49 := ⟨by decide +kernel, rfl⟩
theorem dX7_count_49 : mD cX7_count 49 (.getfield 19) 3 52 := ⟨by decide +kernel, rfl⟩
theorem dX7_count_52 : mD cX7_count 52 (.getfield 127) 3 55 := ⟨by decide +kernel, rfl⟩
theorem dX7_count_55 : mD cX7_count 55 .ireturn 1 56 := ⟨by decide +kernel, rfl⟩
theorem dX7_count_56 : mD cX7_count 56 (.aload_n 0) 1 57 := ⟨by decide +kernel, rfl⟩
theorem dX7_count_57 : mD cX7_count 57 (.getfield 19) 3 60 := ⟨by decide +kernel, rfl⟩
theorem dX7_count_60 : mD cX7_count 60 (.getfield 221) 3 63 := ⟨by decide +kernel, rfl⟩
theorem dX7_count_63 : mJ cX7_count 63 (.ifCond .eq) 66 70 := mJ.of (7) (by decide +kernel) rfl (by decide)
theorem dX7_count_66 : mD cX7_count 66 (.iconst 1) 1 67 := ⟨by decide +kernel, rfl⟩
theorem dX7_count_67 : mJ cX7_count 67 .goto 70 71 := mJ.of (4) (by decide +kernel) rfl (by decide)
theorem dX7_count_70 : mD cX7_count 70 (.iconst 0) 1 71 := ⟨by decide +kernel, rfl⟩
theorem dX7_count_71 : mD cX7_count 71 .ireturn 1 72 := ⟨by decide +kernel, rfl⟩
theorem dX7_count_72 : mD cX7_count 72 (.aload_n 0) 1 73 := ⟨by decide +kernel, rfl⟩
theorem dX7_count_73 : mD cX7_count 73 (.getfield 44) 3 76 := ⟨by decide +kernel, rfl⟩
theorem dX7_count_76 : mD cX7_count 76 (.getfield 85) 3 79 := ⟨by decide +kernel, rfl⟩
theorem dX7_count_79 : mD cX7_count 79 .ireturn 1 80 := ⟨by decide +kernel, rfl⟩
theorem dX7_count_80 : mD cX7_count 80 (.aload_n 0) 1 81 := ⟨by decide +kernel, rfl⟩
theorem dX7_count_81 : mD cX7_count 81 (.getfield 29) 3 84 := ⟨by decide +kernel, rfl⟩
theorem dX7_count_84 : mD cX7_count 84 (.getfield 149) 3 87 := ⟨by decide +kernel, rfl⟩
theorem dX7_count_87 : mD cX7_count 87 .ireturn 1 88 := ⟨by decide +kernel, rfl⟩
theorem dX7_count_88 : mD cX7_count 88 (.aload_n 0) 1 89 := ⟨by decide +kernel, rfl⟩
theorem dX7_count_89 : mD cX7_count 89 (.getfield 10) 3 92 := ⟨by decide +kernel, rfl⟩
theorem dX7_count_92 : mD cX7_count 92 (.getfield 69) 3 95 := ⟨by decide +kernel, rfl⟩
theorem dX7_count_95 : mD cX7_count 95 .ireturn 1 96 := ⟨by decide +kernel, rfl⟩
theorem dX7_count_96 : mD cX7_count 96 (.iconst (-1)) 1 97 := ⟨by decide +kernel, rfl⟩
theorem dX7_count_97 : mD cX7_count 97 .ireturn 1 98 := ⟨by decide +kernel, rfl⟩
theorem dX7_trace_0 : mD cX7_trace 0 (.aload_n 0) 1 1 := ⟨by decide +kernel, rfl⟩
theorem dX7_trace_1 : mD cX7_trace 1 (.getfield 225) 3 4 := ⟨by decide +kernel, rfl⟩
theorem dX7_trace_4 : mD cX7_trace 4 .lreturn 1 5 := ⟨by decide +kernel, rfl⟩
theorem dX7_isCube_0 : mD cX7_isCube 0 (.iload_n 1) 1 1 := ⟨by decide +kernel, rfl⟩
theorem dX7_isCube_1 : mJ cX7_isCube 1 (.ifCond .lt) 4 19 := mJ.of (18) (by decide +kernel) rfl (by decide)
theorem dX7_isCube_4 : mD cX7_isCube 4 (.iload_n 1) 1 5 := ⟨by decide +kernel, rfl⟩
theorem dX7_isCube_5 : mD cX7_isCube 5 (.aload_n 0) 1 6 := ⟨by decide +kernel, rfl⟩
theorem dX7_isCube_6 : mD cX7_isCube 6 (.getfield 19) 3 9 := ⟨by decide +kernel, rfl⟩
theorem dX7_isCube_9 : mD cX7_isCube 9 (.getfield 200) 3 12 := ⟨by decide +kernel, rfl⟩
theorem dX7_isCube_12 : mJ cX7_isCube 12 (.if_icmp .ge) 15 19 := mJ.of (7) (by decide +kernel) rfl (by decide)
theorem dX7_isCube_15 : mD cX7_isCube 15 (.iconst 1) 1 16 := ⟨by decide +kernel, rfl⟩
theorem dX7_isCube_16 : mJ cX7_isCube 16 .goto 19 20 := mJ.of (4) (by decide +kernel) rfl (by decide)
theorem dX7_isCube_19 : mD cX7_isCube 19 (.iconst 0) 1 20 := ⟨by decide +kernel, rfl⟩
theorem dX7_isCube_20 : mD cX7_isCube 20 .ireturn 1 21 := ⟨by decide +kernel, rfl⟩
theorem dX7_isPlace_0 : mD cX7_isPlace 0 (.iload_n 1) 1 1 := ⟨by decide +kernel, rfl⟩
theorem dX7_isPlace_1 : mJ cX7_isPlace 1 (.ifCond .lt) 4 19 := mJ.of (18) (by decide +kernel) rfl (by decide)
theorem dX7_isPlace_4 : mD cX7_isPlace 4 (.iload_n 1) 1 5 := ⟨by decide +kernel, rfl⟩
theorem dX7_isPlace_5 : mD cX7_isPlace 5 (.aload_n 0) 1 6 := ⟨by decide +kernel, rfl⟩
theorem dX7_isPlace_6 : mD cX7_isPlace 6 (.getfield 19) 3 9 := ⟨by decide +kernel, rfl⟩
theorem dX7_isPlace_9 : mD cX7_isPlace 9 (.getfield 200) 3 12 := ⟨by decide +kernel, rfl⟩
theorem dX7_isPlace_12 : mJ cX7_isPlace 12 (.if_icmp .ge) 15 19 := mJ.of (7) (by decide +kernel) rfl (by decide)
theorem dX7_isPlace_15 : mD cX7_isPlace 15 (.iconst 1) 1 16 := ⟨by decide +kernel, rfl⟩
theorem dX7_isPlace_16 : mJ cX7_isPlace 16 .goto 19 20 := mJ.of (4) (by decide +kernel) rfl (by decide)
theorem dX7_isPlace_19 : mD cX7_isPlace 19 (.iconst 0) 1 20 := ⟨by decide +kernel, rfl⟩
theorem dX7_isPlace_20 : mD cX7_isPlace 20 .ireturn 1 21 := ⟨by decide +kernel, rfl⟩
theorem dX7_isNumber_0 : mD cX7_isNumber 0 (.iload_n 1) 1 1 := ⟨by decide +kernel, rfl⟩
theorem dX7_isNumber_1 : mJ cX7_isNumber 1 (.ifCond .lt) 4 19 := mJ.of (18) (by decide +kernel) rfl (by decide)
theorem dX7_isNumber_4 : mD cX7_isNumber 4 (.iload_n 1) 1 5 := ⟨by decide +kernel, rfl⟩
theorem dX7_isNumber_5 : mD cX7_isNumber 5 (.aload_n 0) 1 6 := ⟨by decide +kernel, rfl⟩
theorem dX7_isNumber_6 : mD cX7_isNumber 6 (.getfield 19) 3 9 := ⟨by decide +kernel, rfl⟩
theorem dX7_isNumber_9 : mD cX7_isNumber 9 (.invokevirtual 229) 3 12 := ⟨by decide +kernel, rfl⟩
theorem dX7_isNumber_12 : mJ cX7_isNumber 12 (.if_icmp .ge) 15 19 := mJ.of (7) (by decide +kernel) rfl (by decide)
theorem dX7_isNumber_15 : mD cX7_isNumber 15 (.iconst 1) 1 16 := ⟨by decide +kernel, rfl⟩
theorem dX7_isNumber_16 : mJ cX7_isNumber 16 .goto 19 20 := mJ.of (4) (by decide +kernel) rfl (by decide)
theorem dX7_isNumber_19 : mD cX7_isNumber 19 (.iconst 0) 1 20 := ⟨by decide +kernel, rfl⟩
theorem dX7_isNumber_20 : mD cX7_isNumber 20 .ireturn 1 21 := ⟨by decide +kernel, rfl⟩
theorem dX7_isSide_0 : mD cX7_isSide 0 (.iload_n 0) 1 1 := ⟨by decide +kernel, rfl⟩
theorem dX7_isSide_1 : mJ cX7_isSide 1 (.ifCond .lt) 4 14 := mJ.of (13) (by decide +kernel) rfl (by decide)
theorem dX7_isSide_4 : mD cX7_isSide 4 (.iload_n 0) 1 5 := ⟨by decide +kernel, rfl⟩
theorem dX7_isSide_5 : mD cX7_isSide 5 (.bipush 6) 2 7 := ⟨by decide +kernel, rfl⟩
theorem dX7_isSide_7 : mJ cX7_isSide 7 (.if_icmp .ge) 10 14 := mJ.of (7) (by decide +kernel) rfl (by decide)
theorem dX7_isSide_10 : mD cX7_isSide 10 (.iconst 1) 1 11 := ⟨by decide +kernel, rfl⟩
theorem dX7_isSide_11 : mJ cX7_isSide 11 .goto 14 15 := mJ.of (4) (by decide +kernel) rfl (by decide)
theorem dX7_isSide_14 : mD cX7_isSide 14 (.iconst 0) 1 15 := ⟨by decide +kernel, rfl⟩
theorem dX7_isSide_15 : mD cX7_isSide 15 .ireturn 1 16 := ⟨by decide +kernel, rfl⟩
theorem dX7_isFigure_0 : mD cX7_isFigure 0 (.iload_n 0) 1 1 := ⟨by decide +kernel, rfl⟩
theorem dX7_isFigure_1 : mJ cX7_isFigure 1 (.ifCond .lt) 4 14 := mJ.of (13) (by decide +kernel) rfl (by decide)
theorem dX7_isFigure_4 : mD cX7_isFigure 4 (.iload_n 0) 1 5 := ⟨by decide +kernel, rfl⟩
theorem dX7_isFigure_5 : mD cX7_isFigure 5 (.bipush 10) 2 7 := ⟨by decide +kernel, rfl⟩
theorem dX7_isFigure_7 : mJ cX7_isFigure 7 (.if_icmp .ge) 10 14 := mJ.of (7) (by decide +kernel) rfl (by decide)
theorem dX7_isFigure_10 : mD cX7_isFigure 10 (.iconst 1) 1 11 := ⟨by decide +kernel, rfl⟩
theorem dX7_isFigure_11 : mJ cX7_isFigure 11 .goto 14 15 := mJ.of (4) (by decide +kernel) rfl (by decide)
theorem dX7_isFigure_14 : mD cX7_isFigure 14 (.iconst 0) 1 15 := ⟨by decide +kernel, rfl⟩
theorem dX7_isFigure_15 : mD cX7_isFigure 15 .ireturn 1 16 := ⟨by decide +kernel, rfl⟩
theorem dX7_isImage_0 : mD cX7_isImage 0 (.iload_n 0) 1 1 := ⟨by decide +kernel, rfl⟩
theorem dX7_isImage_1 : mJ cX7_isImage 1 (.ifCond .lt) 4 13 := mJ.of (12) (by decide +kernel) rfl (by decide)
theorem dX7_isImage_4 : mD cX7_isImage 4 (.iload_n 0) 1 5 := ⟨by decide +kernel, rfl⟩
theorem dX7_isImage_5 : mD cX7_isImage 5 (.iconst 2) 1 6 := ⟨by decide +kernel, rfl⟩
theorem dX7_isImage_6 : mJ cX7_isImage 6 (.if_icmp .ge) 9 13 := mJ.of (7) (by decide +kernel) rfl (by decide)
theorem dX7_isImage_9 : mD cX7_isImage 9 (.iconst 1) 1 10 := ⟨by decide +kernel, rfl⟩
theorem dX7_isImage_10 : mJ cX7_isImage 10 .goto 13 14 := mJ.of (4) (by decide +kernel) rfl (by decide)
theorem dX7_isImage_13 : mD cX7_isImage 13 (.iconst 0) 1 14 := ⟨by decide +kernel, rfl⟩
theorem dX7_isImage_14 : mD cX7_isImage 14 .ireturn 1 15 := ⟨by decide +kernel, rfl⟩
theorem dX7_tellersBut_0 : mD cX7_tellersBut 0 (.aload_n 0) 1 1 := ⟨by decide +kernel, rfl⟩
theorem dX7_tellersBut_1 : mD cX7_tellersBut 1 (.getfield 51) 3 4 := ⟨by decide +kernel, rfl⟩
theorem dX7_tellersBut_4 : mD cX7_tellersBut 4 (.aload_n 0) 1 5 := ⟨by decide +kernel, rfl⟩
theorem dX7_tellersBut_5 : mD cX7_tellersBut 5 (.getfield 19) 3 8 := ⟨by decide +kernel, rfl⟩
theorem dX7_tellersBut_8 : mD cX7_tellersBut 8 (.aload_n 0) 1 9 := ⟨by decide +kernel, rfl⟩
theorem dX7_tellersBut_9 : mD cX7_tellersBut 9 (.getfield 29) 3 12 := ⟨by decide +kernel, rfl⟩
theorem dX7_tellersBut_12 : mD cX7_tellersBut 12 (.iload_n 1) 1 13 := ⟨by decide +kernel, rfl⟩
theorem dX7_tellersBut_13 : mD cX7_tellersBut 13 (.invokevirtual 232) 3 16 := ⟨by decide +kernel, rfl⟩
theorem dX7_tellersBut_16 : mD cX7_tellersBut 16 (.aload_n 0) 1 17 := ⟨by decide +kernel, rfl⟩
theorem dX7_tellersBut_17 : mD cX7_tellersBut 17 (.getfield 51) 3 20 := ⟨by decide +kernel, rfl⟩
theorem dX7_tellersBut_20 : mD cX7_tellersBut 20 .areturn 1 21 := ⟨by decide +kernel, rfl⟩
theorem dX7_numberInFront_0 : mD cX7_numberInFront 0 (.iconst 0) 1 1 := ⟨by decide +kernel, rfl⟩
theorem dX7_numberInFront_1 : mD cX7_numberInFront 1 (.istore_n 1) 1 2 := ⟨by decide +kernel, rfl⟩
theorem dX7_numberInFront_2 : mD cX7_numberInFront 2 (.iconst 0) 1 3 := ⟨by decide +kernel, rfl⟩
theorem dX7_numberInFront_3 : mD cX7_numberInFront 3 (.istore_n 2) 1 4 := ⟨by decide +kernel, rfl⟩
theorem dX7_numberInFront_4 : mD cX7_numberInFront 4 (.iload_n 2) 1 5 := ⟨by decide +kernel, rfl⟩
theorem dX7_numberInFront_5 : mD cX7_numberInFront 5 (.aload_n 0) 1 6 := ⟨by decide +kernel, rfl⟩
theorem dX7_numberInFront_6 : mD cX7_numberInFront 6 (.getfield 19) 3 9 := ⟨by decide +kernel, rfl⟩
theorem dX7_numberInFront_9 : mD cX7_numberInFront 9 (.getfield 200) 3 12 := ⟨by decide +kernel, rfl⟩
theorem dX7_numberInFront_12 : mJ cX7_numberInFront 12 (.if_icmp .ge) 15 43 := mJ.of (31) (by decide +kernel) rfl (by decide)
theorem dX7_numberInFront_15 : mD cX7_numberInFront 15 (.iload_n 1) 1 16 := ⟨by decide +kernel, rfl⟩
theorem dX7_numberInFront_16 : mD cX7_numberInFront 16 (.bipush 10) 2 18 := ⟨by decide +kernel, rfl⟩
theorem dX7_numberInFront_18 : mD cX7_numberInFront 18 .imul 1 19 := ⟨by decide +kernel, rfl⟩
theorem dX7_numberInFront_19 : mD cX7_numberInFront 19 (.aload_n 0) 1 20 := ⟨by decide +kernel, rfl⟩
theorem dX7_numberInFront_20 : mD cX7_numberInFront 20 (.getfield 29) 3 23 := ⟨by decide +kernel, rfl⟩
theorem dX7_numberInFront_23 : mD cX7_numberInFront 23 (.aload_n 0) 1 24 := ⟨by decide +kernel, rfl⟩
theorem dX7_numberInFront_24 : mD cX7_numberInFront 24 (.getfield 29) 3 27 := ⟨by decide +kernel, rfl⟩
theorem dX7_numberInFront_27 : mD cX7_numberInFront 27 (.getfield 124) 3 30 := ⟨by decide +kernel, rfl⟩
theorem dX7_numberInFront_30 : mD cX7_numberInFront 30 (.iload_n 2) 1 31 := ⟨by decide +kernel, rfl⟩
theorem dX7_numberInFront_31 : mD cX7_numberInFront 31 .iaload 1 32 := ⟨by decide +kernel, rfl⟩
theorem dX7_numberInFront_32 : mD cX7_numberInFront 32 (.invokevirtual 235) 3 35 := ⟨by decide +kernel, rfl⟩
theorem dX7_numberInFront_35 : mD cX7_numberInFront 35 .iadd 1 36 := ⟨by decide +kernel, rfl⟩
theorem dX7_numberInFront_36 : mD cX7_numberInFront 36 (.istore_n 1) 1 37 := ⟨by decide +kernel, rfl⟩
theorem dX7_numberInFront_37 : mD cX7_numberInFront 37 (.iinc 2 1) 3 40 := ⟨by decide +kernel, rfl⟩
theorem dX7_numberInFront_40 : mJ cX7_numberInFront 40 .goto 43 4 := mJ.of (-36) (by decide +kernel) rfl (by decide)
theorem dX7_numberInFront_43 : mD cX7_numberInFront 43 (.iload_n 1) 1 44 := ⟨by decide +kernel, rfl⟩
theorem dX7_numberInFront_44 : mD cX7_numberInFront 44 .ireturn 1 45 := ⟨by decide +kernel, rfl⟩
theorem dX7_isTold_0 : mD cX7_isTold 0 (.iload_n 1) 1 1 := ⟨by decide +kernel, rfl⟩
theorem dX7_isTold_1 : mD cX7_isTold 1 (.istore_n 2) 1 2 := ⟨by decide +kernel, rfl⟩
theorem dX7_isTold_2 : mD cX7_isTold 2 (.aload_n 0) 1 3 := ⟨by decide +kernel, rfl⟩
theorem dX7_isTold_3 : mD cX7_isTold 3 (.getfield 19) 3 6 := ⟨by decide +kernel, rfl⟩
theorem dX7_isTold_6 : mD cX7_isTold 6 (.getfield 200) 3 9 := ⟨by decide +kernel, rfl⟩
theorem dX7_isTold_9 : mD cX7_isTold 9 (.iconst 1) 1 10 := ⟨by decide +kernel, rfl⟩
theorem dX7_isTold_10 : mD cX7_isTold 10 .isub 1 11 := ⟨by decide +kernel, rfl⟩
theorem dX7_isTold_11 : mD cX7_isTold 11 (.istore_n 3) 1 12 := ⟨by decide +kernel, rfl⟩
theorem dX7_isTold_12 : mD cX7_isTold 12 (.iload_n 3) 1 13 := ⟨by decide +kernel, rfl⟩
theorem dX7_isTold_13 : mJ cX7_isTold 13 (.ifCond .lt) 16 59 := mJ.of (46) (by decide +kernel) rfl (by decide)
theorem dX7_isTold_16 : mD cX7_isTold 16 (.aload_n 0) 1 17 := ⟨by decide +kernel, rfl⟩
theorem dX7_isTold_17 : mD cX7_isTold 17 (.getfield 19) 3 20 := ⟨by decide +kernel, rfl⟩
theorem dX7_isTold_20 : mD cX7_isTold 20 (.aload_n 0) 1 21 := ⟨by decide +kernel, rfl⟩
theorem dX7_isTold_21 : mD cX7_isTold 21 (.getfield 29) 3 24 := ⟨by decide +kernel, rfl⟩
theorem dX7_isTold_24 : mD cX7_isTold 24 (.aload_n 0) 1 25 := ⟨by decide +kernel, rfl⟩
theorem dX7_isTold_25 : mD cX7_isTold 25 (.getfield 29) 3 28 := ⟨by decide +kernel, rfl⟩
theorem dX7_isTold_28 : mD cX7_isTold 28 (.getfield 124) 3 31 := ⟨by decide +kernel, rfl⟩
theorem dX7_isTold_31 : mD cX7_isTold 31 (.iload_n 3) 1 32 := ⟨by decide +kernel, rfl⟩
theorem dX7_isTold_32 : mD cX7_isTold 32 .iaload 1 33 := ⟨by decide +kernel, rfl⟩
theorem dX7_isTold_33 : mD cX7_isTold 33 (.invokevirtual 235) 3 36 := ⟨by decide +kernel, rfl⟩
theorem dX7_isTold_36 : mD cX7_isTold 36 (.iload_n 2) 1 37 := ⟨by decide +kernel, rfl⟩
theorem dX7_isTold_37 : mD cX7_isTold 37 (.bipush 10) 2 39 := ⟨by decide +kernel, rfl⟩
theorem dX7_isTold_39 : mD cX7_isTold 39 .irem 1 40 := ⟨by decide +kernel, rfl⟩
theorem dX7_isTold_40 : mD cX7_isTold 40 (.invokevirtual 238) 3 43 := ⟨by decide +kernel, rfl⟩
theorem dX7_isTold_43 : mJ cX7_isTold 43 (.ifCond .ne) 46 48 := mJ.of (5) (by decide +kernel) rfl (by decide)
theorem dX7_isTold_46 : mD cX7_isTold 46 (.iconst 0) 1 47 := ⟨by decide +kernel, rfl⟩
theorem dX7_isTold_47 : mD cX7_isTold 47 .ireturn 1 48 := ⟨by decide +kernel, rfl⟩
theorem dX7_isTold_48 : mD cX7_isTold 48 (.iload_n 2) 1 49 := ⟨by decide +kernel, rfl⟩
theorem dX7_isTold_49 : mD cX7_isTold 49 (.bipush 10) 2 51 := ⟨by decide +kernel, rfl⟩
theorem dX7_isTold_51 : mD cX7_isTold 51 .idiv 1 52 := ⟨by decide +kernel, rfl⟩
theorem dX7_isTold_52 : mD cX7_isTold 52 (.istore_n 2) 1 53 := ⟨by decide +kernel, rfl⟩
theorem dX7_isTold_53 : mD cX7_isTold 53 (.iinc 3 (-1)) 3 56 := ⟨by decide +kernel, rfl⟩
theorem dX7_isTold_56 : mJ cX7_isTold 56 .goto 59 12 := mJ.of (-44) (by decide +kernel) rfl (by decide)
theorem dX7_isTold_59 : mD cX7_isTold 59 (.iconst 1) 1 60 := ⟨by decide +kernel, rfl⟩
theorem dX7_isTold_60 : mD cX7_isTold 60 .ireturn 1 61 := ⟨by decide +kernel, rfl⟩
theorem dX7_leastWork_0 : mD cX7_leastWork 0 (.aload_n 0) 1 1 := ⟨by decide +kernel, rfl⟩
theorem dX7_leastWork_1 : mD cX7_leastWork 1 (.iconst (-1)) 1 2 := ⟨by decide +kernel, rfl⟩
theorem dX7_leastWork_2 : mD cX7_leastWork 2 (.invokevirtual 159) 3 5 := ⟨by decide +kernel, rfl⟩
theorem dX7_leastWork_5 : mD cX7_leastWork 5 .pop 1 6 := ⟨by decide +kernel, rfl⟩
theorem dX7_leastWork_6 : mD cX7_leastWork 6 (.iconst 0) 1 7 := ⟨by decide +kernel, rfl⟩
theorem dX7_leastWork_7 : mD cX7_leastWork 7 (.istore_n 3) 1 8 := ⟨by decide +kernel, rfl⟩
theorem dX7_leastWork_8 : mD cX7_leastWork 8 (.iload_n 3) 1 9 := ⟨by decide +kernel, rfl⟩
theorem dX7_leastWork_9 : mD cX7_leastWork 9 (.iload_n 2) 1 10 := ⟨by decide +kernel, rfl⟩
theorem dX7_leastWork_10 : mJ cX7_leastWork 10 (.if_icmp .ge) 13 35 := mJ.of (25) (by decide +kernel) rfl (by decide)
theorem dX7_leastWork_13 : mD cX7_leastWork 13 (.aload_n 0) 1 14 := ⟨by decide +kernel, rfl⟩
theorem dX7_leastWork_14 : mD cX7_leastWork 14 (.getfield 51) 3 17 := ⟨by decide +kernel, rfl⟩
theorem dX7_leastWork_17 : mD cX7_leastWork 17 (.iload_n 1) 1 18 := ⟨by decide +kernel, rfl⟩
theorem dX7_leastWork_18 : mD cX7_leastWork 18 (.iload_n 3) 1 19 := ⟨by decide +kernel, rfl⟩
theorem dX7_leastWork_19 : mD cX7_leastWork 19 .iadd 1 20 := ⟨by decide +kernel, rfl⟩
theorem dX7_leastWork_20 : mD cX7_leastWork 20 (.invokevirtual 178) 3 23 := ⟨by decide +kernel, rfl⟩
theorem dX7_leastWork_23 : mJ cX7_leastWork 23 (.ifCond .ne) 26 29 := mJ.of (6) (by decide +kernel) rfl (by decide)
theorem dX7_leastWork_26 : mD cX7_leastWork 26 (.bipush (-9)) 2 28 := ⟨by decide +kernel, rfl⟩
theorem dX7_leastWork_28 : mD cX7_leastWork 28 .ireturn 1 29 := ⟨by decide +kernel, rfl⟩
theorem dX7_leastWork_29 : mD cX7_leastWork 29 (.iinc 3 1) 3 32 := ⟨by decide +kernel, rfl⟩
theorem dX7_leastWork_32 : mJ cX7_leastWork 32 .goto 35 8 := mJ.of (-24) (by decide +kernel) rfl (by decide)
theorem dX7_leastWork_35 : mD cX7_leastWork 35 (.aload_n 0) 1 36 := ⟨by decide +kernel, rfl⟩
theorem dX7_leastWork_36 : mD cX7_leastWork 36 (.getfield 58) 3 39 := ⟨by decide +kernel, rfl⟩
theorem dX7_leastWork_39 : mD cX7_leastWork 39 (.aload_n 0) 1 40 := ⟨by decide +kernel, rfl⟩
theorem dX7_leastWork_40 : mD cX7_leastWork 40 (.getfield 19) 3 43 := ⟨by decide +kernel, rfl⟩
theorem dX7_leastWork_43 : mD cX7_leastWork 43 (.aload_n 0) 1 44 := ⟨by decide +kernel, rfl⟩
theorem dX7_leastWork_44 : mD cX7_leastWork 44 (.getfield 29) 3 47 := ⟨by decide +kernel, rfl⟩
theorem dX7_leastWork_47 : mD cX7_leastWork 47 (.iload_n 1) 1 48 := ⟨by decide +kernel, rfl⟩
theorem dX7_leastWork_48 : mD cX7_leastWork 48 (.iload_n 2) 1 49 := ⟨by decide +kernel, rfl⟩
theorem dX7_leastWork_49 : mD cX7_leastWork 49 (.invokevirtual 242) 3 52 := ⟨by decide +kernel, rfl⟩
theorem dX7_leastWork_52 : mD cX7_leastWork 52 .ireturn 1 53 := ⟨by decide +kernel, rfl⟩
theorem dX7_sidesNeeded_0 : mD cX7_sidesNeeded 0 (.aload_n 0) 1 1 := ⟨by decide +kernel, rfl⟩
theorem dX7_sidesNeeded_1 : mD cX7_sidesNeeded 1 (.iconst (-1)) 1 2 := ⟨by decide +kernel, rfl⟩
theorem dX7_sidesNeeded_2 : mD cX7_sidesNeeded 2 (.invokevirtual 159) 3 5 := ⟨by decide +kernel, rfl⟩
theorem dX7_sidesNeeded_5 : mD cX7_sidesNeeded 5 (.aload_n 0) 1 6 := ⟨by decide +kernel, rfl⟩
theorem dX7_sidesNeeded_6 : mD cX7_sidesNeeded 6 (.getfield 19) 3 9 := ⟨by decide +kernel, rfl⟩
theorem dX7_sidesNeeded_9 : mD cX7_sidesNeeded 9 (.invokevirtual 169) 3 12 := ⟨by decide +kernel, rfl⟩
theorem dX7_sidesNeeded_12 : mD cX7_sidesNeeded 12 (.istore_n 2) 1 13 := ⟨by decide +kernel, rfl⟩
theorem dX7_sidesNeeded_13 : mD cX7_sidesNeeded 13 (.iconst 0) 1 14 := ⟨by decide +kernel, rfl⟩
theorem dX7_sidesNeeded_14 : mD cX7_sidesNeeded 14 (.istore_n 3) 1 15 := ⟨by decide +kernel, rfl⟩
theorem dX7_sidesNeeded_15 : mD cX7_sidesNeeded 15 (.iconst 0) 1 16 := ⟨by decide +kernel, rfl⟩
theorem dX7_sidesNeeded_16 : mD cX7_sidesNeeded 16 (.istore 4) 2 18 := ⟨by decide +kernel, rfl⟩
theorem dX7_sidesNeeded_18 : mD cX7_sidesNeeded 18 (.iload 4) 2 20 := ⟨by decide +kernel, rfl⟩
theorem dX7_sidesNeeded_20 : mD cX7_sidesNeeded 20 (.bipush 6) 2 22 := ⟨by decide +kernel, rfl⟩
theorem dX7_sidesNeeded_22 : mJ cX7_sidesNeeded 22 (.if_icmp .ge) 25 60 := mJ.of (38) (by decide +kernel) rfl (by decide)
theorem dX7_sidesNeeded_25 : mD cX7_sidesNeeded 25 (.aload_n 0) 1 26 := ⟨by decide +kernel, rfl⟩
theorem dX7_sidesNeeded_26 : mD cX7_sidesNeeded 26 (.iload_n 1) 1 27 := ⟨by decide +kernel, rfl⟩
theorem dX7_sidesNeeded_27 : mD cX7_sidesNeeded 27 (.bipush 6) 2 29 := ⟨by decide +kernel, rfl⟩
theorem dX7_sidesNeeded_29 : mD cX7_sidesNeeded 29 .imul 1 30 := ⟨by decide +kernel, rfl⟩
theorem dX7_sidesNeeded_30 : mD cX7_sidesNeeded 30 (.iload 4) 2 32 := ⟨by decide +kernel, rfl⟩
theorem dX7_sidesNeeded_32 : mD cX7_sidesNeeded 32 .iadd 1 33 := ⟨by decide +kernel, rfl⟩
theorem dX7_sidesNeeded_33 : mD cX7_sidesNeeded 33 (.invokevirtual 159) 3 36 := ⟨by decide +kernel, rfl⟩
theorem dX7_sidesNeeded_36 : mD cX7_sidesNeeded 36 (.aload_n 0) 1 37 := ⟨by decide +kernel, rfl⟩
theorem dX7_sidesNeeded_37 : mD cX7_sidesNeeded 37 (.getfield 19) 3 40 := ⟨by decide +kernel, rfl⟩
theorem dX7_sidesNeeded_40 : mD cX7_sidesNeeded 40 (.invokevirtual 169) 3 43 := ⟨by decide +kernel, rfl⟩
theorem dX7_sidesNeeded_43 : mD cX7_sidesNeeded 43 (.iload_n 2) 1 44 := ⟨by decide +kernel, rfl⟩
theorem dX7_sidesNeeded_44 : mJ cX7_sidesNeeded 44 (.if_icmp .eq) 47 54 := mJ.of (10) (by decide +kernel) rfl (by decide)
theorem dX7_sidesNeeded_47 : mD cX7_sidesNeeded 47 (.iload_n 3) 1 48 := ⟨by decide +kernel, rfl⟩
theorem dX7_sidesNeeded_48 : mD cX7_sidesNeeded 48 (.iconst 1) 1 49 := ⟨by decide +kernel, rfl⟩
theorem dX7_sidesNeeded_49 : mD cX7_sidesNeeded 49 (.iload 4) 2 51 := ⟨by decide +kernel, rfl⟩
theorem dX7_sidesNeeded_51 : mD cX7_sidesNeeded 51 .ishl 1 52 := ⟨by decide +kernel, rfl⟩
theorem dX7_sidesNeeded_52 : mD cX7_sidesNeeded 52 .ior 1 53 := ⟨by decide +kernel, rfl⟩
theorem dX7_sidesNeeded_53 : mD cX7_sidesNeeded 53 (.istore_n 3) 1 54 := ⟨by decide +kernel, rfl⟩
theorem dX7_sidesNeeded_54 : mD cX7_sidesNeeded 54 (.iinc 4 1) 3 57 := ⟨by decide +kernel, rfl⟩
theorem dX7_sidesNeeded_57 : mJ cX7_sidesNeeded 57 .goto 60 18 := mJ.of (-39) (by decide +kernel) rfl (by decide)
theorem dX7_sidesNeeded_60 : mD cX7_sidesNeeded 60 (.iload_n 3) 1 61 := ⟨by decide +kernel, rfl⟩
theorem dX7_sidesNeeded_61 : mD cX7_sidesNeeded 61 .ireturn 1 62 := ⟨by decide +kernel, rfl⟩
theorem dX7_markAs_0 : mD cX7_markAs 0 (.aload_n 0) 1 1 := ⟨by decide +kernel, rfl⟩
theorem dX7_markAs_1 : mD cX7_markAs 1 .dup 1 2 := ⟨by decide +kernel, rfl⟩
theorem dX7_markAs_2 : mD cX7_markAs 2 (.getfield 225) 3 5 := ⟨by decide +kernel, rfl⟩
theorem dX7_markAs_5 : mD cX7_markAs 5 (.getstatic 246) 3 8 := ⟨by decide +kernel, rfl⟩
theorem dX7_markAs_8 : mD cX7_markAs 8 (.iload_n 1) 1 9 := ⟨by decide +kernel, rfl⟩
theorem dX7_markAs_9 : mD cX7_markAs 9 .iaload 1 10 := ⟨by decide +kernel, rfl⟩
theorem dX7_markAs_10 : mD cX7_markAs 10 .i2l 1 11 := ⟨by decide +kernel, rfl⟩
theorem dX7_markAs_11 : mD cX7_markAs 11 .ladd 1 12 := ⟨by decide +kernel, rfl⟩
theorem dX7_markAs_12 : mD cX7_markAs 12 (.putfield 225) 3 15 := ⟨by decide +kernel, rfl⟩
theorem dX7_markAs_15 : mD cX7_markAs 15 (.iload_n 1) 1 16 := ⟨by decide +kernel, rfl⟩
theorem dX7_markAs_16 : mJ cX7_markAs 16 (.ifCond .ne) 19 28 := mJ.of (12) (by decide +kernel) rfl (by decide)
theorem dX7_markAs_19 : mD cX7_markAs 19 (.aload_n 0) 1 20 := ⟨by decide +kernel, rfl⟩
theorem dX7_markAs_20 : mD cX7_markAs 20 (.getfield 29) 3 23 := ⟨by decide +kernel, rfl⟩
theorem dX7_markAs_23 : mD cX7_markAs 23 (.iload_n 2) 1 24 := ⟨by decide +kernel, rfl⟩
theorem dX7_markAs_24 : mD cX7_markAs 24 (.invokevirtual 235) 3 27 := ⟨by decide +kernel, rfl⟩
theorem dX7_markAs_27 : mD cX7_markAs 27 .ireturn 1 28 := ⟨by decide +kernel, rfl⟩
theorem dX7_markAs_28 : mD cX7_markAs 28 (.aload_n 0) 1 29 := ⟨by decide +kernel, rfl⟩
theorem dX7_markAs_29 : mD cX7_markAs 29 (.getstatic 249) 3 32 := ⟨by decide +kernel, rfl⟩
theorem dX7_markAs_32 : mD cX7_markAs 32 (.iload_n 1) 1 33 := ⟨by decide +kernel, rfl⟩
theorem dX7_markAs_33 : mD cX7_markAs 33 .iaload 1 34 := ⟨by decide +kernel, rfl⟩
theorem dX7_markAs_34 : mD cX7_markAs 34 (.iload_n 2) 1 35 := ⟨by decide +kernel, rfl⟩
theorem dX7_markAs_35 : mD cX7_markAs 35 (.invokevirtual 211) 3 38 := ⟨by decide +kernel, rfl⟩
theorem dX7_markAs_38 : mD cX7_markAs 38 (.istore_n 3) 1 39 := ⟨by decide +kernel, rfl⟩
theorem dX7_markAs_39 : mD cX7_markAs 39 (.iload_n 1) 1 40 := ⟨by decide +kernel, rfl⟩
theorem dX7_markAs_40 : decode cX7_markAs 40 = .ok (.tableswitch 65 1 4 #[32, 43, 57, 61], 32) := by decide +kernel
theorem dX7_markAs_72 : mD cX7_markAs 72 (.iload_n 3) 1 73 := ⟨by decide +kernel, rfl⟩
theorem dX7_markAs_73 : mD cX7_markAs 73 (.aload_n 0) 1 74 := ⟨by decide +kernel, rfl⟩
theorem dX7_markAs_74 : mD cX7_markAs 74 (.getfield 29) 3 77 := ⟨by decide +kernel, rfl⟩
theorem dX7_markAs_77 : mD cX7_markAs 77 (.iload_n 2) 1 78 := ⟨by decide +kernel, rfl⟩
theorem dX7_markAs_78 : mD cX7_markAs 78 (.invokevirtual 108) 3 81 := ⟨by decide +kernel, rfl⟩
theorem dX7_markAs_81 : mD cX7_markAs 81 .iadd 1 82 := ⟨by decide +kernel, rfl⟩
theorem dX7_markAs_82 : mD cX7_markAs 82 .ireturn 1 83 := ⟨by decide +kernel, rfl⟩
theorem dX7_markAs_83 : mD cX7_markAs 83 (.iload_n 3) 1 84 := ⟨by decide +kernel, rfl⟩
theorem dX7_markAs_84 : mD cX7_markAs 84 (.aload_n 0) 1 85 := ⟨by decide +kernel, rfl⟩
theorem dX7_markAs_85 : mD cX7_markAs 85 (.getfield 29) 3 88 := ⟨by decide +kernel, rfl⟩
theorem dX7_markAs_88 : mD cX7_markAs 88 (.iload_n 2) 1 89 := ⟨by decide +kernel, rfl⟩
theorem dX7_markAs_89 : mD cX7_markAs 89 (.invokevirtual 115) 3 92 := ⟨by decide +kernel, rfl⟩
theorem dX7_markAs_92 : mD cX7_markAs 92 (.invokestatic 252) 3 95 := ⟨by decide +kernel, rfl⟩
theorem dX7_markAs_95 : mD cX7_markAs 95 .isub 1 96 := ⟨by decide +kernel, rfl⟩
theorem dX7_markAs_96 : mD cX7_markAs 96 .ireturn 1 97 := ⟨by decide +kernel, rfl⟩
theorem dX7_markAs_97 : mD cX7_markAs 97 (.iload_n 3) 1 98 := ⟨by decide +kernel, rfl⟩
theorem dX7_markAs_98 : mD cX7_markAs 98 (.iconst 2) 1 99 := ⟨by decide +kernel, rfl⟩
theorem dX7_markAs_99 : mD cX7_markAs 99 .imul 1 100 := ⟨by decide +kernel, rfl⟩
theorem dX7_markAs_100 : mD cX7_markAs 100 .ireturn 1 101 := ⟨by decide +kernel, rfl⟩
theorem dX7_markAs_101 : mD cX7_markAs 101 (.iload_n 3) 1 102 := ⟨by decide +kernel, rfl⟩
theorem dX7_markAs_102 : mD cX7_markAs 102 (.iload_n 2) 1 103 := ⟨by decide +kernel, rfl⟩
theorem dX7_markAs_103 : mD cX7_markAs 103 .iadd 1 104 := ⟨by decide +kernel, rfl⟩
theorem dX7_markAs_104 : mD cX7_markAs 104 .ireturn 1 105 := ⟨by decide +kernel, rfl⟩
theorem dX7_markAs_105 : mD cX7_markAs 105 (.iload_n 3) 1 106 := ⟨by decide +kernel, rfl⟩
theorem dX7_markAs_106 : mD cX7_markAs 106 (.aload_n 0) 1 107 := ⟨by decide +kernel, rfl⟩
theorem dX7_markAs_107 : mD cX7_markAs 107 (.getfield 29) 3 110 := ⟨by decide +kernel, rfl⟩
theorem dX7_markAs_110 : mD cX7_markAs 110 (.getfield 137) 3 113 := ⟨by decide +kernel, rfl⟩
theorem dX7_markAs_113 : mD cX7_markAs 113 .iadd 1 114 := ⟨by decide +kernel, rfl⟩
theorem dX7_markAs_114 : mD cX7_markAs 114 .ireturn 1 115 := ⟨by decide +kernel, rfl⟩
theorem dL_law_0 : mD cL_law 0 (.new 7) 3 3 := ⟨by decide +kernel, rfl⟩
theorem dL_law_3 : mD cL_law 3 .dup 1 4 := ⟨by decide +kernel, rfl⟩
theorem dL_law_4 : mD cL_law 4 (.invokespecial 9) 3 7 := ⟨by decide +kernel, rfl⟩
theorem dL_law_7 : mD cL_law 7 (.astore_n 1) 1 8 := ⟨by decide +kernel, rfl⟩
theorem dL_law_8 : mD cL_law 8 (.new 10) 3 11 := ⟨by decide +kernel, rfl⟩
theorem dL_law_11 : mD cL_law 11 .dup 1 12 := ⟨by decide +kernel, rfl⟩
theorem dL_law_12 : mD cL_law 12 (.invokespecial 12) 3 15 := ⟨by decide +kernel, rfl⟩
theorem dL_law_15 : mD cL_law 15 (.astore_n 2) 1 16 := ⟨by decide +kernel, rfl⟩
theorem dL_law_16 : mD cL_law 16 (.iconst 0) 1 17 := ⟨by decide +kernel, rfl⟩
theorem dL_law_17 : mD cL_law 17 (.istore_n 3) 1 18 := ⟨by decide +kernel, rfl⟩
theorem dL_law_18 : mD cL_law 18 (.iload_n 3) 1 19 := ⟨by decide +kernel, rfl⟩
theorem dL_law_19 : mD cL_law 19 (.aload_n 0) 1 20 := ⟨by decide +kernel, rfl⟩
theorem dL_law_20 : mD cL_law 20 .arraylength 1 21 := ⟨by decide +kernel, rfl⟩
theorem dL_law_21 : mD cL_law 21 (.iconst 4) 1 22 := ⟨by decide +kernel, rfl⟩
theorem dL_law_22 : mD cL_law 22 .isub 1 23 := ⟨by decide +kernel, rfl⟩
theorem dL_law_23 : mJ cL_law 23 (.if_icmp .gt) 26 743 := mJ.of (720) (by decide +kernel) rfl (by decide)
theorem dL_law_26 : mD cL_law 26 (.aload_n 0) 1 27 := ⟨by decide +kernel, rfl⟩
theorem dL_law_27 : mD cL_law 27 (.iload_n 3) 1 28 := ⟨by decide +kernel, rfl⟩
theorem dL_law_28 : mD cL_law 28 .iaload 1 29 := ⟨by decide +kernel, rfl⟩
theorem dL_law_29 : mD cL_law 29 (.bipush 31) 2 31 := ⟨by decide +kernel, rfl⟩
theorem dL_law_31 : mD cL_law 31 .iand 1 32 := ⟨by decide +kernel, rfl⟩
theorem dL_law_32 : decode cL_law 32 = .ok (.tableswitch 705 0 23 #[112, 135, 148, 161, 194, 227, 250, 273, 306, 339, 382, 395, 418, 451, 484, 517, 550, 563, 576, 589, 622, 645, 668, 691], 112) := by decide +kernel
theorem dL_law_144 : mD cL_law 144 (.aload_n 1) 1 145 := ⟨by decide +kernel, rfl⟩
theorem dL_law_145 : mD cL_law 145 (.aload_n 0) 1 146 := ⟨by decide +kernel, rfl⟩
theorem dL_law_146 : mD cL_law 146 (.iload_n 3) 1 147 := ⟨by decide +kernel, rfl⟩
theorem dL_law_147 : mD cL_law 147 (.iconst 1) 1 148 := ⟨by decide +kernel, rfl⟩
theorem dL_law_148 : mD cL_law 148 .iadd 1 149 := ⟨by decide +kernel, rfl⟩
theorem dL_law_149 : mD cL_law 149 .iaload 1 150 := ⟨by decide +kernel, rfl⟩
theorem dL_law_150 : mD cL_law 150 (.invokevirtual 13) 3 153 := ⟨by decide +kernel, rfl⟩
theorem dL_law_153 : mD cL_law 153 (.aload_n 2) 1 154 := ⟨by decide +kernel, rfl⟩
theorem dL_law_154 : mD cL_law 154 (.aload_n 0) 1 155 := ⟨by decide +kernel, rfl⟩
theorem dL_law_155 : mD cL_law 155 (.iload_n 3) 1 156 := ⟨by decide +kernel, rfl⟩
theorem dL_law_156 : mD cL_law 156 (.iconst 1) 1 157 := ⟨by decide +kernel, rfl⟩
theorem dL_law_157 : mD cL_law 157 .iadd 1 158 := ⟨by decide +kernel, rfl⟩
theorem dL_law_158 : mD cL_law 158 .iaload 1 159 := ⟨by decide +kernel, rfl⟩
theorem dL_law_159 : mD cL_law 159 (.invokevirtual 17) 3 162 := ⟨by decide +kernel, rfl⟩
theorem dL_law_162 : mJ cL_law 162 (.if_icmp .eq) 165 737 := mJ.of (575) (by decide +kernel) rfl (by decide)
theorem dL_law_165 : mD cL_law 165 (.iconst 0) 1 166 := ⟨by decide +kernel, rfl⟩
theorem dL_law_166 : mD cL_law 166 .ireturn 1 167 := ⟨by decide +kernel, rfl⟩
theorem dL_law_167 : mD cL_law 167 (.aload_n 1) 1 168 := ⟨by decide +kernel, rfl⟩
theorem dL_law_168 : mD cL_law 168 (.invokevirtual 18) 3 171 := ⟨by decide +kernel, rfl⟩
theorem dL_law_171 : mD cL_law 171 (.aload_n 2) 1 172 := ⟨by decide +kernel, rfl⟩
theorem dL_law_172 : mD cL_law 172 (.invokevirtual 22) 3 175 := ⟨by decide +kernel, rfl⟩
theorem dL_law_175 : mJ cL_law 175 (.if_icmp .eq) 178 737 := mJ.of (562) (by decide +kernel) rfl (by decide)
theorem dL_law_178 : mD cL_law 178 (.iconst 0) 1 179 := ⟨by decide +kernel, rfl⟩
theorem dL_law_179 : mD cL_law 179 .ireturn 1 180 := ⟨by decide +kernel, rfl⟩
theorem dL_law_180 : mD cL_law 180 (.aload_n 1) 1 181 := ⟨by decide +kernel, rfl⟩
theorem dL_law_181 : mD cL_law 181 (.invokevirtual 23) 3 184 := ⟨by decide +kernel, rfl⟩
theorem dL_law_184 : mD cL_law 184 (.aload_n 2) 1 185 := ⟨by decide +kernel, rfl⟩
theorem dL_law_185 : mD cL_law 185 (.invokevirtual 26) 3 188 := ⟨by decide +kernel, rfl⟩
theorem dL_law_188 : mJ cL_law 188 (.if_icmp .eq) 191 737 := mJ.of (549) (by decide +kernel) rfl (by decide)
theorem dL_law_191 : mD cL_law 191 (.iconst 0) 1 192 := ⟨by decide +kernel, rfl⟩
theorem dL_law_192 : mD cL_law 192 .ireturn 1 193 := ⟨by decide +kernel, rfl⟩
theorem dL_law_193 : mD cL_law 193 (.aload_n 1) 1 194 := ⟨by decide +kernel, rfl⟩
theorem dL_law_194 : mD cL_law 194 (.aload_n 0) 1 195 := ⟨by decide +kernel, rfl⟩
theorem dL_law_195 : mD cL_law 195 (.iload_n 3) 1 196 := ⟨by decide +kernel, rfl⟩
theorem dL_law_196 : mD cL_law 196 (.iconst 1) 1 197 := ⟨by decide +kernel, rfl⟩
theorem dL_law_197 : mD cL_law 197 .iadd 1 198 := ⟨by decide +kernel, rfl⟩
theorem dL_law_198 : mD cL_law 198 .iaload 1 199 := ⟨by decide +kernel, rfl⟩
theorem dL_law_199 : mD cL_law 199 (.aload_n 0) 1 200 := ⟨by decide +kernel, rfl⟩
theorem dL_law_200 : mD cL_law 200 (.iload_n 3) 1 201 := ⟨by decide +kernel, rfl⟩
theorem dL_law_201 : mD cL_law 201 (.iconst 2) 1 202 := ⟨by decide +kernel, rfl⟩
theorem dL_law_202 : mD cL_law 202 .iadd 1 203 := ⟨by decide +kernel, rfl⟩
theorem dL_law_203 : mD cL_law 203 .iaload 1 204 := ⟨by decide +kernel, rfl⟩
theorem dL_law_204 : mD cL_law 204 (.invokevirtual 27) 3 207 := ⟨by decide +kernel, rfl⟩
theorem dL_law_207 : mD cL_law 207 (.aload_n 2) 1 208 := ⟨by decide +kernel, rfl⟩
theorem dL_law_208 : mD cL_law 208 (.aload_n 0) 1 209 := ⟨by decide +kernel, rfl⟩
theorem dL_law_209 : mD cL_law 209 (.iload_n 3) 1 210 := ⟨by decide +kernel, rfl⟩
theorem dL_law_210 : mD cL_law 210 (.iconst 1) 1 211 := ⟨by decide +kernel, rfl⟩
theorem dL_law_211 : mD cL_law 211 .iadd 1 212 := ⟨by decide +kernel, rfl⟩
theorem dL_law_212 : mD cL_law 212 .iaload 1 213 := ⟨by decide +kernel, rfl⟩
theorem dL_law_213 : mD cL_law 213 (.aload_n 0) 1 214 := ⟨by decide +kernel, rfl⟩
theorem dL_law_214 : mD cL_law 214 (.iload_n 3) 1 215 := ⟨by decide +kernel, rfl⟩
theorem dL_law_215 : mD cL_law 215 (.iconst 2) 1 216 := ⟨by decide +kernel, rfl⟩
theorem dL_law_216 : mD cL_law 216 .iadd 1 217 := ⟨by decide +kernel, rfl⟩
theorem dL_law_217 : mD cL_law 217 .iaload 1 218 := ⟨by decide +kernel, rfl⟩
theorem dL_law_218 : mD cL_law 218 (.invokevirtual 31) 3 221 := ⟨by decide +kernel, rfl⟩
theorem dL_law_221 : mJ cL_law 221 (.if_icmp .eq) 224 737 := mJ.of (516) (by decide +kernel) rfl (by decide)
theorem dL_law_224 : mD cL_law 224 (.iconst 0) 1 225 := ⟨by decide +kernel, rfl⟩
theorem dL_law_225 : mD cL_law 225 .ireturn 1 226 := ⟨by decide +kernel, rfl⟩
theorem dL_law_226 : mD cL_law 226 (.aload_n 1) 1 227 := ⟨by decide +kernel, rfl⟩
theorem dL_law_227 : mD cL_law 227 (.aload_n 0) 1 228 := ⟨by decide +kernel, rfl⟩
theorem dL_law_228 : mD cL_law 228 (.iload_n 3) 1 229 := ⟨by decide +kernel, rfl⟩
theorem dL_law_229 : mD cL_law 229 (.iconst 1) 1 230 := ⟨by decide +kernel, rfl⟩
theorem dL_law_230 : mD cL_law 230 .iadd 1 231 := ⟨by decide +kernel, rfl⟩
theorem dL_law_231 : mD cL_law 231 .iaload 1 232 := ⟨by decide +kernel, rfl⟩
theorem dL_law_232 : mD cL_law 232 (.aload_n 0) 1 233 := ⟨by decide +kernel, rfl⟩
theorem dL_law_233 : mD cL_law 233 (.iload_n 3) 1 234 := ⟨by decide +kernel, rfl⟩
theorem dL_law_234 : mD cL_law 234 (.iconst 2) 1 235 := ⟨by decide +kernel, rfl⟩
theorem dL_law_235 : mD cL_law 235 .iadd 1 236 := ⟨by decide +kernel, rfl⟩
theorem dL_law_236 : mD cL_law 236 .iaload 1 237 := ⟨by decide +kernel, rfl⟩
theorem dL_law_237 : mD cL_law 237 (.invokevirtual 32) 3 240 := ⟨by decide +kernel, rfl⟩
theorem dL_law_240 : mD cL_law 240 (.aload_n 2) 1 241 := ⟨by decide +kernel, rfl⟩
theorem dL_law_241 : mD cL_law 241 (.aload_n 0) 1 242 := ⟨by decide +kernel, rfl⟩
theorem dL_law_242 : mD cL_law 242 (.iload_n 3) 1 243 := ⟨by decide +kernel, rfl⟩
theorem dL_law_243 : mD cL_law 243 (.iconst 1) 1 244 := ⟨by decide +kernel, rfl⟩
theorem dL_law_244 : mD cL_law 244 .iadd 1 245 := ⟨by decide +kernel, rfl⟩
theorem dL_law_245 : mD cL_law 245 .iaload 1 246 := ⟨by decide +kernel, rfl⟩
theorem dL_law_246 : mD cL_law 246 (.aload_n 0) 1 247 := ⟨by decide +kernel, rfl⟩
theorem dL_law_247 : mD cL_law 247 (.iload_n 3) 1 248 := ⟨by decide +kernel, rfl⟩
theorem dL_law_248 : mD cL_law 248 (.iconst 2) 1 249 := ⟨by decide +kernel, rfl⟩
theorem dL_law_249 : mD cL_law 249 .iadd 1 250 := ⟨by decide +kernel, rfl⟩
theorem dL_law_250 : mD cL_law 250 .iaload 1 251 := ⟨by decide +kernel, rfl⟩
theorem dL_law_251 : mD cL_law 251 (.invokevirtual 35) 3 254 := ⟨by decide +kernel, rfl⟩
theorem dL_law_254 : mJ cL_law 254 (.if_icmp .eq) 257 737 := mJ.of (483) (by decide +kernel) rfl (by decide)
theorem dL_law_257 : mD cL_law 257 (.iconst 0) 1 258 := ⟨by decide +kernel, rfl⟩
theorem dL_law_258 : mD cL_law 258 .ireturn 1 259 := ⟨by decide +kernel, rfl⟩
theorem dL_law_259 : mD cL_law 259 (.aload_n 1) 1 260 := ⟨by decide +kernel, rfl⟩
theorem dL_law_260 : mD cL_law 260 (.aload_n 0) 1 261 := ⟨by decide +kernel, rfl⟩
theorem dL_law_261 : mD cL_law 261 (.iload_n 3) 1 262 := ⟨by decide +kernel, rfl⟩
theorem dL_law_262 : mD cL_law 262 (.iconst 1) 1 263 := ⟨by decide +kernel, rfl⟩
theorem dL_law_263 : mD cL_law 263 .iadd 1 264 := ⟨by decide +kernel, rfl⟩
theorem dL_law_264 : mD cL_law 264 .iaload 1 265 := ⟨by decide +kernel, rfl⟩
theorem dL_law_265 : mD cL_law 265 (.invokevirtual 36) 3 268 := ⟨by decide +kernel, rfl⟩
theorem dL_law_268 : mD cL_law 268 (.aload_n 2) 1 269 := ⟨by decide +kernel, rfl⟩
theorem dL_law_269 : mD cL_law 269 (.aload_n 0) 1 270 := ⟨by decide +kernel, rfl⟩
theorem dL_law_270 : mD cL_law 270 (.iload_n 3) 1 271 := ⟨by decide +kernel, rfl⟩
theorem dL_law_271 : mD cL_law 271 (.iconst 1) 1 272 := ⟨by decide +kernel, rfl⟩
theorem dL_law_272 : mD cL_law 272 .iadd 1 273 := ⟨by decide +kernel, rfl⟩
theorem dL_law_273 : mD cL_law 273 .iaload 1 274 := ⟨by decide +kernel, rfl⟩
theorem dL_law_274 : mD cL_law 274 (.invokevirtual 39) 3 277 := ⟨by decide +kernel, rfl⟩
theorem dL_law_277 : mJ cL_law 277 (.if_icmp .eq) 280 737 := mJ.of (460) (by decide +kernel) rfl (by decide)
theorem dL_law_280 : mD cL_law 280 (.iconst 0) 1 281 := ⟨by decide +kernel, rfl⟩
theorem dL_law_281 : mD cL_law 281 .ireturn 1 282 := ⟨by decide +kernel, rfl⟩
theorem dL_law_282 : mD cL_law 282 (.aload_n 1) 1 283 := ⟨by decide +kernel, rfl⟩
theorem dL_law_283 : mD cL_law 283 (.aload_n 0) 1 284 := ⟨by decide +kernel, rfl⟩
theorem dL_law_284 : mD cL_law 284 (.iload_n 3) 1 285 := ⟨by decide +kernel, rfl⟩
theorem dL_law_285 : mD cL_law 285 (.iconst 1) 1 286 := ⟨by decide +kernel, rfl⟩
theorem dL_law_286 : mD cL_law 286 .iadd 1 287 := ⟨by decide +kernel, rfl⟩
theorem dL_law_287 : mD cL_law 287 .iaload 1 288 := ⟨by decide +kernel, rfl⟩
theorem dL_law_288 : mD cL_law 288 (.invokevirtual 40) 3 291 := ⟨by decide +kernel, rfl⟩
theorem dL_law_291 : mD cL_law 291 (.aload_n 2) 1 292 := ⟨by decide +kernel, rfl⟩
theorem dL_law_292 : mD cL_law 292 (.aload_n 0) 1 293 := ⟨by decide +kernel, rfl⟩
theorem dL_law_293 : mD cL_law 293 (.iload_n 3) 1 294 := ⟨by decide +kernel, rfl⟩
theorem dL_law_294 : mD cL_law 294 (.iconst 1) 1 295 := ⟨by decide +kernel, rfl⟩
theorem dL_law_295 : mD cL_law 295 .iadd 1 296 := ⟨by decide +kernel, rfl⟩
theorem dL_law_296 : mD cL_law 296 .iaload 1 297 := ⟨by decide +kernel, rfl⟩
theorem dL_law_297 : mD cL_law 297 (.invokevirtual 43) 3 300 := ⟨by decide +kernel, rfl⟩
theorem dL_law_300 : mJ cL_law 300 (.if_icmp .eq) 303 737 := mJ.of (437) (by decide +kernel) rfl (by decide)
theorem dL_law_303 : mD cL_law 303 (.iconst 0) 1 304 := ⟨by decide +kernel, rfl⟩
theorem dL_law_304 : mD cL_law 304 .ireturn 1 305 := ⟨by decide +kernel, rfl⟩
theorem dL_law_305 : mD cL_law 305 (.aload_n 1) 1 306 := ⟨by decide +kernel, rfl⟩
theorem dL_law_306 : mD cL_law 306 (.aload_n 0) 1 307 := ⟨by decide +kernel, rfl⟩
theorem dL_law_307 : mD cL_law 307 (.iload_n 3) 1 308 := ⟨by decide +kernel, rfl⟩
theorem dL_law_308 : mD cL_law 308 (.iconst 1) 1 309 := ⟨by decide +kernel, rfl⟩
theorem dL_law_309 : mD cL_law 309 .iadd 1 310 := ⟨by decide +kernel, rfl⟩
theorem dL_law_310 : mD cL_law 310 .iaload 1 311 := ⟨by decide +kernel, rfl⟩
theorem dL_law_311 : mD cL_law 311 (.aload_n 0) 1 312 := ⟨by decide +kernel, rfl⟩
theorem dL_law_312 : mD cL_law 312 (.iload_n 3) 1 313 := ⟨by decide +kernel, rfl⟩
theorem dL_law_313 : mD cL_law 313 (.iconst 2) 1 314 := ⟨by decide +kernel, rfl⟩
theorem dL_law_314 : mD cL_law 314 .iadd 1 315 := ⟨by decide +kernel, rfl⟩
theorem dL_law_315 : mD cL_law 315 .iaload 1 316 := ⟨by decide +kernel, rfl⟩
theorem dL_law_316 : mD cL_law 316 (.invokevirtual 44) 3 319 := ⟨by decide +kernel, rfl⟩
theorem dL_law_319 : mD cL_law 319 (.aload_n 2) 1 320 := ⟨by decide +kernel, rfl⟩
theorem dL_law_320 : mD cL_law 320 (.aload_n 0) 1 321 := ⟨by decide +kernel, rfl⟩
theorem dL_law_321 : mD cL_law 321 (.iload_n 3) 1 322 := ⟨by decide +kernel, rfl⟩
theorem dL_law_322 : mD cL_law 322 (.iconst 1) 1 323 := ⟨by decide +kernel, rfl⟩
theorem dL_law_323 : mD cL_law 323 .iadd 1 324 := ⟨by decide +kernel, rfl⟩
theorem dL_law_324 : mD cL_law 324 .iaload 1 325 := ⟨by decide +kernel, rfl⟩
theorem dL_law_325 : mD cL_law 325 (.aload_n 0) 1 326 := ⟨by decide +kernel, rfl⟩
theorem dL_law_326 : mD cL_law 326 (.iload_n 3) 1 327 := ⟨by decide +kernel, rfl⟩
theorem dL_law_327 : mD cL_law 327 (.iconst 2) 1 328 := ⟨by decide +kernel, rfl⟩
theorem dL_law_328 : mD cL_law 328 .iadd 1 329 := ⟨by decide +kernel, rfl⟩
theorem dL_law_329 : mD cL_law 329 .iaload 1 330 := ⟨by decide +kernel, rfl⟩
theorem dL_law_330 : mD cL_law 330 (.invokevirtual 47) 3 333 := ⟨by decide +kernel, rfl⟩
theorem dL_law_333 : mJ cL_law 333 (.if_icmp .eq) 336 737 := mJ.of (404) (by decide +kernel) rfl (by decide)
theorem dL_law_336 : mD cL_law 336 (.iconst 0) 1 337 := ⟨by decide +kernel, rfl⟩
theorem dL_law_337 : mD cL_law 337 .ireturn 1 338 := ⟨by decide +kernel, rfl⟩
theorem dL_law_338 : mD cL_law 338 (.aload_n 1) 1 339 := ⟨by decide +kernel, rfl⟩
theorem dL_law_339 : mD cL_law 339 (.aload_n 0) 1 340 := ⟨by decide +kernel, rfl⟩
theorem dL_law_340 : mD cL_law 340 (.iload_n 3) 1 341 := ⟨by decide +kernel, rfl⟩
theorem dL_law_341 : mD cL_law 341 (.iconst 1) 1 342 := ⟨by decide +kernel, rfl⟩
theorem dL_law_342 : mD cL_law 342 .iadd 1 343 := ⟨by decide +kernel, rfl⟩
theorem dL_law_343 : mD cL_law 343 .iaload 1 344 := ⟨by decide +kernel, rfl⟩
theorem dL_law_344 : mD cL_law 344 (.aload_n 0) 1 345 := ⟨by decide +kernel, rfl⟩
theorem dL_law_345 : mD cL_law 345 (.iload_n 3) 1 346 := ⟨by decide +kernel, rfl⟩
theorem dL_law_346 : mD cL_law 346 (.iconst 2) 1 347 := ⟨by decide +kernel, rfl⟩
theorem dL_law_347 : mD cL_law 347 .iadd 1 348 := ⟨by decide +kernel, rfl⟩
theorem dL_law_348 : mD cL_law 348 .iaload 1 349 := ⟨by decide +kernel, rfl⟩
theorem dL_law_349 : mD cL_law 349 (.invokevirtual 48) 3 352 := ⟨by decide +kernel, rfl⟩
theorem dL_law_352 : mD cL_law 352 (.aload_n 2) 1 353 := ⟨by decide +kernel, rfl⟩
theorem dL_law_353 : mD cL_law 353 (.aload_n 0) 1 354 := ⟨by decide +kernel, rfl⟩
theorem dL_law_354 : mD cL_law 354 (.iload_n 3) 1 355 := ⟨by decide +kernel, rfl⟩
theorem dL_law_355 : mD cL_law 355 (.iconst 1) 1 356 := ⟨by decide +kernel, rfl⟩
theorem dL_law_356 : mD cL_law 356 .iadd 1 357 := ⟨by decide +kernel, rfl⟩
theorem dL_law_357 : mD cL_law 357 .iaload 1 358 := ⟨by decide +kernel, rfl⟩
theorem dL_law_358 : mD cL_law 358 (.aload_n 0) 1 359 := ⟨by decide +kernel, rfl⟩
theorem dL_law_359 : mD cL_law 359 (.iload_n 3) 1 360 := ⟨by decide +kernel, rfl⟩
theorem dL_law_360 : mD cL_law 360 (.iconst 2) 1 361 := ⟨by decide +kernel, rfl⟩
theorem dL_law_361 : mD cL_law 361 .iadd 1 362 := ⟨by decide +kernel, rfl⟩
theorem dL_law_362 : mD cL_law 362 .iaload 1 363 := ⟨by decide +kernel, rfl⟩
theorem dL_law_363 : mD cL_law 363 (.invokevirtual 51) 3 366 := ⟨by decide +kernel, rfl⟩
theorem dL_law_366 : mJ cL_law 366 (.if_icmp .eq) 369 737 := mJ.of (371) (by decide +kernel) rfl (by decide)
theorem dL_law_369 : mD cL_law 369 (.iconst 0) 1 370 := ⟨by decide +kernel, rfl⟩
theorem dL_law_370 : mD cL_law 370 .ireturn 1 371 := ⟨by decide +kernel, rfl⟩
theorem dL_law_371 : mD cL_law 371 (.aload_n 1) 1 372 := ⟨by decide +kernel, rfl⟩
theorem dL_law_372 : mD cL_law 372 (.aload_n 0) 1 373 := ⟨by decide +kernel, rfl⟩
theorem dL_law_373 : mD cL_law 373 (.iload_n 3) 1 374 := ⟨by decide +kernel, rfl⟩
theorem dL_law_374 : mD cL_law 374 (.iconst 1) 1 375 := ⟨by decide +kernel, rfl⟩
theorem dL_law_375 : mD cL_law 375 .iadd 1 376 := ⟨by decide +kernel, rfl⟩
theorem dL_law_376 : mD cL_law 376 .iaload 1 377 := ⟨by decide +kernel, rfl⟩
theorem dL_law_377 : mD cL_law 377 (.aload_n 0) 1 378 := ⟨by decide +kernel, rfl⟩
theorem dL_law_378 : mD cL_law 378 (.iload_n 3) 1 379 := ⟨by decide +kernel, rfl⟩
theorem dL_law_379 : mD cL_law 379 (.iconst 2) 1 380 := ⟨by decide +kernel, rfl⟩
theorem dL_law_380 : mD cL_law 380 .iadd 1 381 := ⟨by decide +kernel, rfl⟩
theorem dL_law_381 : mD cL_law 381 .iaload 1 382 := ⟨by decide +kernel, rfl⟩
theorem dL_law_382 : mD cL_law 382 (.aload_n 0) 1 383 := ⟨by decide +kernel, rfl⟩
theorem dL_law_383 : mD cL_law 383 (.iload_n 3) 1 384 := ⟨by decide +kernel, rfl⟩
theorem dL_law_384 : mD cL_law 384 (.iconst 3) 1 385 := ⟨by decide +kernel, rfl⟩
theorem dL_law_385 : mD cL_law 385 .iadd 1 386 := ⟨by decide +kernel, rfl⟩
theorem dL_law_386 : mD cL_law 386 .iaload 1 387 := ⟨by decide +kernel, rfl⟩
theorem dL_law_387 : mD cL_law 387 (.invokevirtual 52) 3 390 := ⟨by decide +kernel, rfl⟩
theorem dL_law_390 : mD cL_law 390 (.aload_n 2) 1 391 := ⟨by decide +kernel, rfl⟩
theorem dL_law_391 : mD cL_law 391 (.aload_n 0) 1 392 := ⟨by decide +kernel, rfl⟩
theorem dL_law_392 : mD cL_law 392 (.iload_n 3) 1 393 := ⟨by decide +kernel, rfl⟩
theorem dL_law_393 : mD cL_law 393 (.iconst 1) 1 394 := ⟨by decide +kernel, rfl⟩
theorem dL_law_394 : mD cL_law 394 .iadd 1 395 := ⟨by decide +kernel, rfl⟩
theorem dL_law_395 : mD cL_law 395 .iaload 1 396 := ⟨by decide +kernel, rfl⟩
theorem dL_law_396 : mD cL_law 396 (.aload_n 0) 1 397 := ⟨by decide +kernel, rfl⟩
theorem dL_law_397 : mD cL_law 397 (.iload_n 3) 1 398 := ⟨by decide +kernel, rfl⟩
theorem dL_law_398 : mD cL_law 398 (.iconst 2) 1 399 := ⟨by decide +kernel, rfl⟩
theorem dL_law_399 : mD cL_law 399 .iadd 1 400 := ⟨by decide +kernel, rfl⟩
theorem dL_law_400 : mD cL_law 400 .iaload 1 401 := ⟨by decide +kernel, rfl⟩
theorem dL_law_401 : mD cL_law 401 (.aload_n 0) 1 402 := ⟨by decide +kernel, rfl⟩
theorem dL_law_402 : mD cL_law 402 (.iload_n 3) 1 403 := ⟨by decide +kernel, rfl⟩
theorem dL_law_403 : mD cL_law 403 (.iconst 3) 1 404 := ⟨by decide +kernel, rfl⟩
theorem dL_law_404 : mD cL_law 404 .iadd 1 405 := ⟨by decide +kernel, rfl⟩
theorem dL_law_405 : mD cL_law 405 .iaload 1 406 := ⟨by decide +kernel, rfl⟩
theorem dL_law_406 : mD cL_law 406 (.invokevirtual 56) 3 409 := ⟨by decide +kernel, rfl⟩
theorem dL_law_409 : mJ cL_law 409 (.if_icmp .eq) 412 737 := mJ.of (328) (by decide +kernel) rfl (by decide)
theorem dL_law_412 : mD cL_law 412 (.iconst 0) 1 413 := ⟨by decide +kernel, rfl⟩
theorem dL_law_413 : mD cL_law 413 .ireturn 1 414 := ⟨by decide +kernel, rfl⟩
theorem dL_law_414 : mD cL_law 414 (.aload_n 1) 1 415 := ⟨by decide +kernel, rfl⟩
theorem dL_law_415 : mD cL_law 415 (.invokevirtual 57) 3 418 := ⟨by decide +kernel, rfl⟩
theorem dL_law_418 : mD cL_law 418 (.aload_n 2) 1 419 := ⟨by decide +kernel, rfl⟩
theorem dL_law_419 : mD cL_law 419 (.invokevirtual 60) 3 422 := ⟨by decide +kernel, rfl⟩
theorem dL_law_422 : mJ cL_law 422 (.if_icmp .eq) 425 737 := mJ.of (315) (by decide +kernel) rfl (by decide)
theorem dL_law_425 : mD cL_law 425 (.iconst 0) 1 426 := ⟨by decide +kernel, rfl⟩
theorem dL_law_426 : mD cL_law 426 .ireturn 1 427 := ⟨by decide +kernel, rfl⟩
theorem dL_law_427 : mD cL_law 427 (.aload_n 1) 1 428 := ⟨by decide +kernel, rfl⟩
theorem dL_law_428 : mD cL_law 428 (.aload_n 0) 1 429 := ⟨by decide +kernel, rfl⟩
theorem dL_law_429 : mD cL_law 429 (.iload_n 3) 1 430 := ⟨by decide +kernel, rfl⟩
theorem dL_law_430 : mD cL_law 430 (.iconst 1) 1 431 := ⟨by decide +kernel, rfl⟩
theorem dL_law_431 : mD cL_law 431 .iadd 1 432 := ⟨by decide +kernel, rfl⟩
theorem dL_law_432 : mD cL_law 432 .iaload 1 433 := ⟨by decide +kernel, rfl⟩
theorem dL_law_433 : mD cL_law 433 (.invokevirtual 61) 3 436 := ⟨by decide +kernel, rfl⟩
theorem dL_law_436 : mD cL_law 436 (.aload_n 2) 1 437 := ⟨by decide +kernel, rfl⟩
theorem dL_law_437 : mD cL_law 437 (.aload_n 0) 1 438 := ⟨by decide +kernel, rfl⟩
theorem dL_law_438 : mD cL_law 438 (.iload_n 3) 1 439 := ⟨by decide +kernel, rfl⟩
theorem dL_law_439 : mD cL_law 439 (.iconst 1) 1 440 := ⟨by decide +kernel, rfl⟩
theorem dL_law_440 : mD cL_law 440 .iadd 1 441 := ⟨by decide +kernel, rfl⟩
theorem dL_law_441 : mD cL_law 441 .iaload 1 442 := ⟨by decide +kernel, rfl⟩
theorem dL_law_442 : mD cL_law 442 (.invokevirtual 64) 3 445 := ⟨by decide +kernel, rfl⟩
theorem dL_law_445 : mJ cL_law 445 (.if_icmp .eq) 448 737 := mJ.of (292) (by decide +kernel) rfl (by decide)
theorem dL_law_448 : mD cL_law 448 (.iconst 0) 1 449 := ⟨by decide +kernel, rfl⟩
theorem dL_law_449 : mD cL_law 449 .ireturn 1 450 := ⟨by decide +kernel, rfl⟩
theorem dL_law_450 : mD cL_law 450 (.aload_n 1) 1 451 := ⟨by decide +kernel, rfl⟩
theorem dL_law_451 : mD cL_law 451 (.aload_n 0) 1 452 := ⟨by decide +kernel, rfl⟩
theorem dL_law_452 : mD cL_law 452 (.iload_n 3) 1 453 := ⟨by decide +kernel, rfl⟩
theorem dL_law_453 : mD cL_law 453 (.iconst 1) 1 454 := ⟨by decide +kernel, rfl⟩
theorem dL_law_454 : mD cL_law 454 .iadd 1 455 := ⟨by decide +kernel, rfl⟩
theorem dL_law_455 : mD cL_law 455 .iaload 1 456 := ⟨by decide +kernel, rfl⟩
theorem dL_law_456 : mD cL_law 456 (.aload_n 0) 1 457 := ⟨by decide +kernel, rfl⟩
theorem dL_law_457 : mD cL_law 457 (.iload_n 3) 1 458 := ⟨by decide +kernel, rfl⟩
theorem dL_law_458 : mD cL_law 458 (.iconst 2) 1 459 := ⟨by decide +kernel, rfl⟩
theorem dL_law_459 : mD cL_law 459 .iadd 1 460 := ⟨by decide +kernel, rfl⟩
theorem dL_law_460 : mD cL_law 460 .iaload 1 461 := ⟨by decide +kernel, rfl⟩
theorem dL_law_461 : mD cL_law 461 (.invokevirtual 65) 3 464 := ⟨by decide +kernel, rfl⟩
theorem dL_law_464 : mD cL_law 464 (.aload_n 2) 1 465 := ⟨by decide +kernel, rfl⟩
theorem dL_law_465 : mD cL_law 465 (.aload_n 0) 1 466 := ⟨by decide +kernel, rfl⟩
theorem dL_law_466 : mD cL_law 466 (.iload_n 3) 1 467 := ⟨by decide +kernel, rfl⟩
theorem dL_law_467 : mD cL_law 467 (.iconst 1) 1 468 := ⟨by decide +kernel, rfl⟩
theorem dL_law_468 : mD cL_law 468 .iadd 1 469 := ⟨by decide +kernel, rfl⟩
theorem dL_law_469 : mD cL_law 469 .iaload 1 470 := ⟨by decide +kernel, rfl⟩
theorem dL_law_470 : mD cL_law 470 (.aload_n 0) 1 471 := ⟨by decide +kernel, rfl⟩
theorem dL_law_471 : mD cL_law 471 (.iload_n 3) 1 472 := ⟨by decide +kernel, rfl⟩
theorem dL_law_472 : mD cL_law 472 (.iconst 2) 1 473 := ⟨by decide +kernel, rfl⟩
theorem dL_law_473 : mD cL_law 473 .iadd 1 474 := ⟨by decide +kernel, rfl⟩
theorem dL_law_474 : mD cL_law 474 .iaload 1 475 := ⟨by decide +kernel, rfl⟩
theorem dL_law_475 : mD cL_law 475 (.invokevirtual 68) 3 478 := ⟨by decide +kernel, rfl⟩
theorem dL_law_478 : mJ cL_law 478 (.if_icmp .eq) 481 737 := mJ.of (259) (by decide +kernel) rfl (by decide)
theorem dL_law_481 : mD cL_law 481 (.iconst 0) 1 482 := ⟨by decide +kernel, rfl⟩
theorem dL_law_482 : mD cL_law 482 .ireturn 1 483 := ⟨by decide +kernel, rfl⟩
theorem dL_law_483 : mD cL_law 483 (.aload_n 1) 1 484 := ⟨by decide +kernel, rfl⟩
theorem dL_law_484 : mD cL_law 484 (.aload_n 0) 1 485 := ⟨by decide +kernel, rfl⟩
theorem dL_law_485 : mD cL_law 485 (.iload_n 3) 1 486 := ⟨by decide +kernel, rfl⟩
theorem dL_law_486 : mD cL_law 486 (.iconst 1) 1 487 := ⟨by decide +kernel, rfl⟩
theorem dL_law_487 : mD cL_law 487 .iadd 1 488 := ⟨by decide +kernel, rfl⟩
theorem dL_law_488 : mD cL_law 488 .iaload 1 489 := ⟨by decide +kernel, rfl⟩
theorem dL_law_489 : mD cL_law 489 (.aload_n 0) 1 490 := ⟨by decide +kernel, rfl⟩
theorem dL_law_490 : mD cL_law 490 (.iload_n 3) 1 491 := ⟨by decide +kernel, rfl⟩
theorem dL_law_491 : mD cL_law 491 (.iconst 2) 1 492 := ⟨by decide +kernel, rfl⟩
theorem dL_law_492 : mD cL_law 492 .iadd 1 493 := ⟨by decide +kernel, rfl⟩
theorem dL_law_493 : mD cL_law 493 .iaload 1 494 := ⟨by decide +kernel, rfl⟩
theorem dL_law_494 : mD cL_law 494 (.invokevirtual 69) 3 497 := ⟨by decide +kernel, rfl⟩
theorem dL_law_497 : mD cL_law 497 (.aload_n 2) 1 498 := ⟨by decide +kernel, rfl⟩
theorem dL_law_498 : mD cL_law 498 (.aload_n 0) 1 499 := ⟨by decide +kernel, rfl⟩
theorem dL_law_499 : mD cL_law 499 (.iload_n 3) 1 500 := ⟨by decide +kernel, rfl⟩
theorem dL_law_500 : mD cL_law 500 (.iconst 1) 1 501 := ⟨by decide +kernel, rfl⟩
theorem dL_law_501 : mD cL_law 501 .iadd 1 502 := ⟨by decide +kernel, rfl⟩
theorem dL_law_502 : mD cL_law 502 .iaload 1 503 := ⟨by decide +kernel, rfl⟩
theorem dL_law_503 : mD cL_law 503 (.aload_n 0) 1 504 := ⟨by decide +kernel, rfl⟩
theorem dL_law_504 : mD cL_law 504 (.iload_n 3) 1 505 := ⟨by decide +kernel, rfl⟩
theorem dL_law_505 : mD cL_law 505 (.iconst 2) 1 506 := ⟨by decide +kernel, rfl⟩
theorem dL_law_506 : mD cL_law 506 .iadd 1 507 := ⟨by decide +kernel, rfl⟩
theorem dL_law_507 : mD cL_law 507 .iaload 1 508 := ⟨by decide +kernel, rfl⟩
theorem dL_law_508 : mD cL_law 508 (.invokevirtual 72) 3 511 := ⟨by decide +kernel, rfl⟩
theorem dL_law_511 : mJ cL_law 511 (.if_icmp .eq) 514 737 := mJ.of (226) (by decide +kernel) rfl (by decide)
theorem dL_law_514 : mD cL_law 514 (.iconst 0) 1 515 := ⟨by decide +kernel, rfl⟩
theorem dL_law_515 : mD cL_law 515 .ireturn 1 516 := ⟨by decide +kernel, rfl⟩
theorem dL_law_516 : mD cL_law 516 (.aload_n 1) 1 517 := ⟨by decide +kernel, rfl⟩
theorem dL_law_517 : mD cL_law 517 (.aload_n 0) 1 518 := ⟨by decide +kernel, rfl⟩
theorem dL_law_518 : mD cL_law 518 (.iload_n 3) 1 519 := ⟨by decide +kernel, rfl⟩
theorem dL_law_519 : mD cL_law 519 (.iconst 1) 1 520 := ⟨by decide +kernel, rfl⟩
theorem dL_law_520 : mD cL_law 520 .iadd 1 521 := ⟨by decide +kernel, rfl⟩
theorem dL_law_521 : mD cL_law 521 .iaload 1 522 := ⟨by decide +kernel, rfl⟩
theorem dL_law_522 : mD cL_law 522 (.aload_n 0) 1 523 := ⟨by decide +kernel, rfl⟩
theorem dL_law_523 : mD cL_law 523 (.iload_n 3) 1 524 := ⟨by decide +kernel, rfl⟩
theorem dL_law_524 : mD cL_law 524 (.iconst 2) 1 525 := ⟨by decide +kernel, rfl⟩
theorem dL_law_525 : mD cL_law 525 .iadd 1 526 := ⟨by decide +kernel, rfl⟩
theorem dL_law_526 : mD cL_law 526 .iaload 1 527 := ⟨by decide +kernel, rfl⟩
theorem dL_law_527 : mD cL_law 527 (.invokevirtual 73) 3 530 := ⟨by decide +kernel, rfl⟩
theorem dL_law_530 : mD cL_law 530 (.aload_n 2) 1 531 := ⟨by decide +kernel, rfl⟩
theorem dL_law_531 : mD cL_law 531 (.aload_n 0) 1 532 := ⟨by decide +kernel, rfl⟩
theorem dL_law_532 : mD cL_law 532 (.iload_n 3) 1 533 := ⟨by decide +kernel, rfl⟩
theorem dL_law_533 : mD cL_law 533 (.iconst 1) 1 534 := ⟨by decide +kernel, rfl⟩
theorem dL_law_534 : mD cL_law 534 .iadd 1 535 := ⟨by decide +kernel, rfl⟩
theorem dL_law_535 : mD cL_law 535 .iaload 1 536 := ⟨by decide +kernel, rfl⟩
theorem dL_law_536 : mD cL_law 536 (.aload_n 0) 1 537 := ⟨by decide +kernel, rfl⟩
theorem dL_law_537 : mD cL_law 537 (.iload_n 3) 1 538 := ⟨by decide +kernel, rfl⟩
theorem dL_law_538 : mD cL_law 538 (.iconst 2) 1 539 := ⟨by decide +kernel, rfl⟩
theorem dL_law_539 : mD cL_law 539 .iadd 1 540 := ⟨by decide +kernel, rfl⟩
theorem dL_law_540 : mD cL_law 540 .iaload 1 541 := ⟨by decide +kernel, rfl⟩
theorem dL_law_541 : mD cL_law 541 (.invokevirtual 76) 3 544 := ⟨by decide +kernel, rfl⟩
theorem dL_law_544 : mJ cL_law 544 (.if_icmp .eq) 547 737 := mJ.of (193) (by decide +kernel) rfl (by decide)
theorem dL_law_547 : mD cL_law 547 (.iconst 0) 1 548 := ⟨by decide +kernel, rfl⟩
theorem dL_law_548 : mD cL_law 548 .ireturn 1 549 := ⟨by decide +kernel, rfl⟩
theorem dL_law_549 : mD cL_law 549 (.aload_n 1) 1 550 := ⟨by decide +kernel, rfl⟩
theorem dL_law_550 : mD cL_law 550 (.aload_n 0) 1 551 := ⟨by decide +kernel, rfl⟩
theorem dL_law_551 : mD cL_law 551 (.iload_n 3) 1 552 := ⟨by decide +kernel, rfl⟩
theorem dL_law_552 : mD cL_law 552 (.iconst 1) 1 553 := ⟨by decide +kernel, rfl⟩
theorem dL_law_553 : mD cL_law 553 .iadd 1 554 := ⟨by decide +kernel, rfl⟩
theorem dL_law_554 : mD cL_law 554 .iaload 1 555 := ⟨by decide +kernel, rfl⟩
theorem dL_law_555 : mD cL_law 555 (.aload_n 0) 1 556 := ⟨by decide +kernel, rfl⟩
theorem dL_law_556 : mD cL_law 556 (.iload_n 3) 1 557 := ⟨by decide +kernel, rfl⟩
theorem dL_law_557 : mD cL_law 557 (.iconst 2) 1 558 := ⟨by decide +kernel, rfl⟩
theorem dL_law_558 : mD cL_law 558 .iadd 1 559 := ⟨by decide +kernel, rfl⟩
theorem dL_law_559 : mD cL_law 559 .iaload 1 560 := ⟨by decide +kernel, rfl⟩
theorem dL_law_560 : mD cL_law 560 (.invokevirtual 77) 3 563 := ⟨by decide +kernel, rfl⟩
theorem dL_law_563 : mD cL_law 563 (.aload_n 2) 1 564 := ⟨by decide +kernel, rfl⟩
theorem dL_law_564 : mD cL_law 564 (.aload_n 0) 1 565 := ⟨by decide +kernel, rfl⟩
theorem dL_law_565 : mD cL_law 565 (.iload_n 3) 1 566 := ⟨by decide +kernel, rfl⟩
theorem dL_law_566 : mD cL_law 566 (.iconst 1) 1 567 := ⟨by decide +kernel, rfl⟩
theorem dL_law_567 : mD cL_law 567 .iadd 1 568 := ⟨by decide +kernel, rfl⟩
theorem dL_law_568 : mD cL_law 568 .iaload 1 569 := ⟨by decide +kernel, rfl⟩
theorem dL_law_569 : mD cL_law 569 (.aload_n 0) 1 570 := ⟨by decide +kernel, rfl⟩
theorem dL_law_570 : mD cL_law 570 (.iload_n 3) 1 571 := ⟨by decide +kernel, rfl⟩
theorem dL_law_571 : mD cL_law 571 (.iconst 2) 1 572 := ⟨by decide +kernel, rfl⟩
theorem dL_law_572 : mD cL_law 572 .iadd 1 573 := ⟨by decide +kernel, rfl⟩
theorem dL_law_573 : mD cL_law 573 .iaload 1 574 := ⟨by decide +kernel, rfl⟩
theorem dL_law_574 : mD cL_law 574 (.invokevirtual 80) 3 577 := ⟨by decide +kernel, rfl⟩
theorem dL_law_577 : mJ cL_law 577 (.if_icmp .eq) 580 737 := mJ.of (160) (by decide +kernel) rfl (by decide)
theorem dL_law_580 : mD cL_law 580 (.iconst 0) 1 581 := ⟨by decide +kernel, rfl⟩
theorem dL_law_581 : mD cL_law 581 .ireturn 1 582 := ⟨by decide +kernel, rfl⟩
theorem dL_law_582 : mD cL_law 582 (.aload_n 1) 1 583 := ⟨by decide +kernel, rfl⟩
theorem dL_law_583 : mD cL_law 583 (.invokevirtual 81) 3 586 := ⟨by decide +kernel, rfl⟩
theorem dL_law_586 : mD cL_law 586 (.aload_n 2) 1 587 := ⟨by decide +kernel, rfl⟩
theorem dL_law_587 : mD cL_law 587 (.invokevirtual 84) 3 590 := ⟨by decide +kernel, rfl⟩
theorem dL_law_590 : mJ cL_law 590 (.if_icmp .eq) 593 737 := mJ.of (147) (by decide +kernel) rfl (by decide)
theorem dL_law_593 : mD cL_law 593 (.iconst 0) 1 594 := ⟨by decide +kernel, rfl⟩
theorem dL_law_594 : mD cL_law 594 .ireturn 1 595 := ⟨by decide +kernel, rfl⟩
theorem dL_law_595 : mD cL_law 595 (.aload_n 1) 1 596 := ⟨by decide +kernel, rfl⟩
theorem dL_law_596 : mD cL_law 596 (.invokevirtual 85) 3 599 := ⟨by decide +kernel, rfl⟩
theorem dL_law_599 : mD cL_law 599 (.aload_n 2) 1 600 := ⟨by decide +kernel, rfl⟩
theorem dL_law_600 : mD cL_law 600 (.invokevirtual 88) 3 603 := ⟨by decide +kernel, rfl⟩
theorem dL_law_603 : mJ cL_law 603 (.if_icmp .eq) 606 737 := mJ.of (134) (by decide +kernel) rfl (by decide)
theorem dL_law_606 : mD cL_law 606 (.iconst 0) 1 607 := ⟨by decide +kernel, rfl⟩
theorem dL_law_607 : mD cL_law 607 .ireturn 1 608 := ⟨by decide +kernel, rfl⟩
theorem dL_law_608 : mD cL_law 608 (.aload_n 1) 1 609 := ⟨by decide +kernel, rfl⟩
theorem dL_law_609 : mD cL_law 609 (.invokevirtual 89) 3 612 := ⟨by decide +kernel, rfl⟩
theorem dL_law_612 : mD cL_law 612 (.aload_n 2) 1 613 := ⟨by decide +kernel, rfl⟩
theorem dL_law_613 : mD cL_law 613 (.invokevirtual 92) 3 616 := ⟨by decide +kernel, rfl⟩
theorem dL_law_616 : mJ cL_law 616 (.if_icmp .eq) 619 737 := mJ.of (121) (by decide +kernel) rfl (by decide)
theorem dL_law_619 : mD cL_law 619 (.iconst 0) 1 620 := ⟨by decide +kernel, rfl⟩
theorem dL_law_620 : mD cL_law 620 .ireturn 1 621 := ⟨by decide +kernel, rfl⟩
theorem dL_law_621 : mD cL_law 621 (.aload_n 1) 1 622 := ⟨by decide +kernel, rfl⟩
theorem dL_law_622 : mD cL_law 622 (.aload_n 0) 1 623 := ⟨by decide +kernel, rfl⟩
theorem dL_law_623 : mD cL_law 623 (.iload_n 3) 1 624 := ⟨by decide +kernel, rfl⟩
theorem dL_law_624 : mD cL_law 624 (.iconst 1) 1 625 := ⟨by decide +kernel, rfl⟩
theorem dL_law_625 : mD cL_law 625 .iadd 1 626 := ⟨by decide +kernel, rfl⟩
theorem dL_law_626 : mD cL_law 626 .iaload 1 627 := ⟨by decide +kernel, rfl⟩
theorem dL_law_627 : mD cL_law 627 (.aload_n 0) 1 628 := ⟨by decide +kernel, rfl⟩
theorem dL_law_628 : mD cL_law 628 (.iload_n 3) 1 629 := ⟨by decide +kernel, rfl⟩
theorem dL_law_629 : mD cL_law 629 (.iconst 2) 1 630 := ⟨by decide +kernel, rfl⟩
theorem dL_law_630 : mD cL_law 630 .iadd 1 631 := ⟨by decide +kernel, rfl⟩
theorem dL_law_631 : mD cL_law 631 .iaload 1 632 := ⟨by decide +kernel, rfl⟩
theorem dL_law_632 : mD cL_law 632 (.invokevirtual 93) 3 635 := ⟨by decide +kernel, rfl⟩
theorem dL_law_635 : mD cL_law 635 (.aload_n 2) 1 636 := ⟨by decide +kernel, rfl⟩
theorem dL_law_636 : mD cL_law 636 (.aload_n 0) 1 637 := ⟨by decide +kernel, rfl⟩
theorem dL_law_637 : mD cL_law 637 (.iload_n 3) 1 638 := ⟨by decide +kernel, rfl⟩
theorem dL_law_638 : mD cL_law 638 (.iconst 1) 1 639 := ⟨by decide +kernel, rfl⟩
theorem dL_law_639 : mD cL_law 639 .iadd 1 640 := ⟨by decide +kernel, rfl⟩
theorem dL_law_640 : mD cL_law 640 .iaload 1 641 := ⟨by decide +kernel, rfl⟩
theorem dL_law_641 : mD cL_law 641 (.aload_n 0) 1 642 := ⟨by decide +kernel, rfl⟩
theorem dL_law_642 : mD cL_law 642 (.iload_n 3) 1 643 := ⟨by decide +kernel, rfl⟩
theorem dL_law_643 : mD cL_law 643 (.iconst 2) 1 644 := ⟨by decide +kernel, rfl⟩
theorem dL_law_644 : mD cL_law 644 .iadd 1 645 := ⟨by decide +kernel, rfl⟩
theorem dL_law_645 : mD cL_law 645 .iaload 1 646 := ⟨by decide +kernel, rfl⟩
theorem dL_law_646 : mD cL_law 646 (.invokevirtual 96) 3 649 := ⟨by decide +kernel, rfl⟩
theorem dL_law_649 : mJ cL_law 649 (.if_icmp .eq) 652 737 := mJ.of (88) (by decide +kernel) rfl (by decide)
theorem dL_law_652 : mD cL_law 652 (.iconst 0) 1 653 := ⟨by decide +kernel, rfl⟩
theorem dL_law_653 : mD cL_law 653 .ireturn 1 654 := ⟨by decide +kernel, rfl⟩
theorem dL_law_654 : mD cL_law 654 (.aload_n 1) 1 655 := ⟨by decide +kernel, rfl⟩
theorem dL_law_655 : mD cL_law 655 (.aload_n 0) 1 656 := ⟨by decide +kernel, rfl⟩
theorem dL_law_656 : mD cL_law 656 (.iload_n 3) 1 657 := ⟨by decide +kernel, rfl⟩
theorem dL_law_657 : mD cL_law 657 (.iconst 1) 1 658 := ⟨by decide +kernel, rfl⟩
theorem dL_law_658 : mD cL_law 658 .iadd 1 659 := ⟨by decide +kernel, rfl⟩
theorem dL_law_659 : mD cL_law 659 .iaload 1 660 := ⟨by decide +kernel, rfl⟩
theorem dL_law_660 : mD cL_law 660 (.invokevirtual 97) 3 663 := ⟨by decide +kernel, rfl⟩
theorem dL_law_663 : mD cL_law 663 (.aload_n 2) 1 664 := ⟨by decide +kernel, rfl⟩
theorem dL_law_664 : mD cL_law 664 (.aload_n 0) 1 665 := ⟨by decide +kernel, rfl⟩
theorem dL_law_665 : mD cL_law 665 (.iload_n 3) 1 666 := ⟨by decide +kernel, rfl⟩
theorem dL_law_666 : mD cL_law 666 (.iconst 1) 1 667 := ⟨by decide +kernel, rfl⟩
theorem dL_law_667 : mD cL_law 667 .iadd 1 668 := ⟨by decide +kernel, rfl⟩
theorem dL_law_668 : mD cL_law 668 .iaload 1 669 := ⟨by decide +kernel, rfl⟩
theorem dL_law_669 : mD cL_law 669 (.invokevirtual 100) 3 672 := ⟨by decide +kernel, rfl⟩
theorem dL_law_672 : mJ cL_law 672 (.if_icmp .eq) 675 737 := mJ.of (65) (by decide +kernel) rfl (by decide)
theorem dL_law_675 : mD cL_law 675 (.iconst 0) 1 676 := ⟨by decide +kernel, rfl⟩
theorem dL_law_676 : mD cL_law 676 .ireturn 1 677 := ⟨by decide +kernel, rfl⟩
theorem dL_law_677 : mD cL_law 677 (.aload_n 1) 1 678 := ⟨by decide +kernel, rfl⟩
theorem dL_law_678 : mD cL_law 678 (.aload_n 0) 1 679 := ⟨by decide +kernel, rfl⟩
theorem dL_law_679 : mD cL_law 679 (.iload_n 3) 1 680 := ⟨by decide +kernel, rfl⟩
theorem dL_law_680 : mD cL_law 680 (.iconst 1) 1 681 := ⟨by decide +kernel, rfl⟩
theorem dL_law_681 : mD cL_law 681 .iadd 1 682 := ⟨by decide +kernel, rfl⟩
theorem dL_law_682 : mD cL_law 682 .iaload 1 683 := ⟨by decide +kernel, rfl⟩
theorem dL_law_683 : mD cL_law 683 (.invokevirtual 101) 3 686 := ⟨by decide +kernel, rfl⟩
theorem dL_law_686 : mD cL_law 686 (.aload_n 2) 1 687 := ⟨by decide +kernel, rfl⟩
theorem dL_law_687 : mD cL_law 687 (.aload_n 0) 1 688 := ⟨by decide +kernel, rfl⟩
theorem dL_law_688 : mD cL_law 688 (.iload_n 3) 1 689 := ⟨by decide +kernel, rfl⟩
theorem dL_law_689 : mD cL_law 689 (.iconst 1) 1 690 := ⟨by decide +kernel, rfl⟩
theorem dL_law_690 : mD cL_law 690 .iadd 1 691 := ⟨by decide +kernel, rfl⟩
theorem dL_law_691 : mD cL_law 691 .iaload 1 692 := ⟨by decide +kernel, rfl⟩
theorem dL_law_692 : mD cL_law 692 (.invokevirtual 104) 3 695 := ⟨by decide +kernel, rfl⟩
theorem dL_law_695 : mJ cL_law 695 (.if_icmp .eq) 698 737 := mJ.of (42) (by decide +kernel) rfl (by decide)
theorem dL_law_698 : mD cL_law 698 (.iconst 0) 1 699 := ⟨by decide +kernel, rfl⟩
theorem dL_law_699 : mD cL_law 699 .ireturn 1 700 := ⟨by decide +kernel, rfl⟩
theorem dL_law_700 : mD cL_law 700 (.aload_n 1) 1 701 := ⟨by decide +kernel, rfl⟩
theorem dL_law_701 : mD cL_law 701 (.aload_n 0) 1 702 := ⟨by decide +kernel, rfl⟩
theorem dL_law_702 : mD cL_law 702 (.iload_n 3) 1 703 := ⟨by decide +kernel, rfl⟩
theorem dL_law_703 : mD cL_law 703 (.iconst 1) 1 704 := ⟨by decide +kernel, rfl⟩
theorem dL_law_704 : mD cL_law 704 .iadd 1 705 := ⟨by decide +kernel, rfl⟩
theorem dL_law_705 : mD cL_law 705 .iaload 1 706 := ⟨by decide +kernel, rfl⟩
theorem dL_law_706 : mD cL_law 706 (.invokevirtual 105) 3 709 := ⟨by decide +kernel, rfl⟩
theorem dL_law_709 : mD cL_law 709 (.aload_n 2) 1 710 := ⟨by decide +kernel, rfl⟩
theorem dL_law_710 : mD cL_law 710 (.aload_n 0) 1 711 := ⟨by decide +kernel, rfl⟩
theorem dL_law_711 : mD cL_law 711 (.iload_n 3) 1 712 := ⟨by decide +kernel, rfl⟩
theorem dL_law_712 : mD cL_law 712 (.iconst 1) 1 713 := ⟨by decide +kernel, rfl⟩
theorem dL_law_713 : mD cL_law 713 .iadd 1 714 := ⟨by decide +kernel, rfl⟩
theorem dL_law_714 : mD cL_law 714 .iaload 1 715 := ⟨by decide +kernel, rfl⟩
theorem dL_law_715 : mD cL_law 715 (.invokevirtual 108) 3 718 := ⟨by decide +kernel, rfl⟩
theorem dL_law_718 : mJ cL_law 718 (.if_icmp .eq) 721 737 := mJ.of (19) (by decide +kernel) rfl (by decide)
theorem dL_law_721 : mD cL_law 721 (.iconst 0) 1 722 := ⟨by decide +kernel, rfl⟩
theorem dL_law_722 : mD cL_law 722 .ireturn 1 723 := ⟨by decide +kernel, rfl⟩
theorem dL_law_723 : mD cL_law 723 (.aload_n 1) 1 724 := ⟨by decide +kernel, rfl⟩
theorem dL_law_724 : mD cL_law 724 (.invokevirtual 109) 3 727 := ⟨by decide +kernel, rfl⟩
theorem dL_law_727 : mD cL_law 727 (.aload_n 2) 1 728 := ⟨by decide +kernel, rfl⟩
theorem dL_law_728 : mD cL_law 728 (.invokevirtual 113) 3 731 := ⟨by decide +kernel, rfl⟩
theorem dL_law_731 : mD cL_law 731 .lcmp 1 732 := ⟨by decide +kernel, rfl⟩
theorem dL_law_732 : mJ cL_law 732 (.ifCond .eq) 735 737 := mJ.of (5) (by decide +kernel) rfl (by decide)
theorem dL_law_735 : mD cL_law 735 (.iconst 0) 1 736 := ⟨by decide +kernel, rfl⟩
theorem dL_law_736 : mD cL_law 736 .ireturn 1 737 := ⟨by decide +kernel, rfl⟩
theorem dL_law_737 : mD cL_law 737 (.iinc 3 4) 3 740 := ⟨by decide +kernel, rfl⟩
theorem dL_law_740 : mJ cL_law 740 .goto 743 18 := mJ.of (-722) (by decide +kernel) rfl (by decide)
theorem dL_law_743 : mD cL_law 743 (.iconst 1) 1 744 := ⟨by decide +kernel, rfl⟩
theorem dL_law_744 : mD cL_law 744 .ireturn 1 745 := ⟨by decide +kernel, rfl⟩
end
section
theorem mw_tab {w : Cond} (i : Nat) (h : tables_1[i]? = some w) (g : goodWord w = true) : w ∈ mw := List.mem_filter.mpr ⟨List.mem_append_right _ (List.mem_of_getElem? h), g⟩
theorem mw_sel {w : Cond} (i : Nat) (h : (k2_sels lw_privs)[i]? = some w) (g : goodWord w = true) : w ∈ mw := List.mem_filter.mpr ⟨List.mem_append_left _ (List.mem_of_getElem? h), g⟩
theorem w_init_L : Cond.initialized RL ∈ mw := mw_tab 0 (by decide +kernel) rfl
theorem w_init_X7 : Cond.initialized RX7 ∈ mw := mw_tab 1 (by decide +kernel) rfl
theorem w_init_X1 : Cond.initialized RX1 ∈ mw := mw_tab 2 (by decide +kernel) rfl
theorem w_init_X5 : Cond.initialized RX5 ∈ mw := mw_tab 3 (by decide +kernel) rfl
theorem w_init_X3 : Cond.initialized RX3 ∈ mw := mw_tab 4 (by decide +kernel) rfl
theorem w_init_X2 : Cond.initialized RX2 ∈ mw := mw_tab 5 (by decide +kernel) rfl
theorem w_init_X4 : Cond.initialized RX4 ∈ mw := mw_tab 6 (by decide +kernel) rfl
theorem w_init_X6 : Cond.initialized RX6 ∈ mw := mw_tab 7 (by decide +kernel) rfl
theorem w_init_X0 : Cond.initialized RX0 ∈ mw := mw_tab 8 (by decide +kernel) rfl
theorem w_init_X8 : Cond.initialized RX8 ∈ mw := mw_tab 9 (by decide +kernel) rfl
theorem w_init_J9 : Cond.initialized RJ9 ∈ mw := mw_tab 10 (by decide +kernel) rfl
theorem w_init_J10 : Cond.initialized RJ10 ∈ mw := mw_tab 11 (by decide +kernel) rfl
theorem w_init_J7 : Cond.initialized RJ7 ∈ mw := mw_tab 12 (by decide +kernel) rfl
theorem w_init_J6 : Cond.initialized RJ6 ∈ mw := mw_tab 13 (by decide +kernel) rfl
abbrev zX7_init : mY := (yX7_init, cX7_init, 2, none)
set_option maxRecDepth 100000 in
theorem wc_X7_init : Cond.code yX7_init cX7_init 2 none ∈ mw := mw_tab 18 rfl rfl
theorem wy_X7_init : mCy zX7_init 0 := ⟨wc_X7_init, w_init_X7, by decide +kernel, by decide +kernel, by decide +kernel⟩
abbrev zX1_init : mY := (yX1_init, cX1_init, 1, none)
set_option maxRecDepth 100000 in
theorem wc_X1_init : Cond.code yX1_init cX1_init 1 none ∈ mw := mw_tab 26 rfl rfl
theorem wy_X1_init : mCy zX1_init 0 := ⟨wc_X1_init, w_init_X1, by decide +kernel, by decide +kernel, by decide +kernel⟩
abbrev zX5_init : mY := (yX5_init, cX5_init, 1, none)
set_option maxRecDepth 100000 in
theorem wc_X5_init : Cond.code yX5_init cX5_init 1 none ∈ mw := mw_tab 53 rfl rfl
theorem wy_X5_init : mCy zX5_init 0 := ⟨wc_X5_init, w_init_X5, by decide +kernel, by decide +kernel, by decide +kernel⟩
abbrev zX3_init : mY := (yX3_init, cX3_init, 1, none)
set_option maxRecDepth 100000 in
theorem wc_X3_init : Cond.code yX3_init cX3_init 1 none ∈ mw := mw_tab 96 rfl rfl
theorem wy_X3_init : mCy zX3_init 0 := ⟨wc_X3_init, w_init_X3, by decide +kernel, by decide +kernel, by decide +kernel⟩
abbrev zX2_init : mY := (yX2_init, cX2_init, 1, none)
set_option maxRecDepth 100000 in
theorem wc_X2_init : Cond.code yX2_init cX2_init 1 none ∈ mw := mw_tab 132 rfl rfl
theorem wy_X2_init : mCy zX2_init 0 := ⟨wc_X2_init, w_init_X2, by decide +kernel, by decide +kernel, by decide +kernel⟩
abbrev zX4_init : mY := (yX4_init, cX4_init, 1, none)
set_option maxRecDepth 100000 in
theorem wc_X4_init : Cond.code yX4_init cX4_init 1 none ∈ mw := mw_tab 150 rfl rfl
theorem wy_X4_init : mCy zX4_init 0 := ⟨wc_X4_init, w_init_X4, by decide +kernel, by decide +kernel, by decide +kernel⟩
abbrev zX6_init : mY := (yX6_init, cX6_init, 1, none)
set_option maxRecDepth 100000 in
theorem wc_X6_init : Cond.code yX6_init cX6_init 1 none ∈ mw := mw_tab 163 rfl rfl
theorem wy_X6_init : mCy zX6_init 0 := ⟨wc_X6_init, w_init_X6, by decide +kernel, by decide +kernel, by decide +kernel⟩
abbrev zX0_init : mY := (yX0_init, cX0_init, 1, none)
set_option maxRecDepth 100000 in
theorem wc_X0_init : Cond.code yX0_init cX0_init 1 none ∈ mw := mw_tab 203 rfl rfl
theorem wy_X0_init : mCy zX0_init 0 := ⟨wc_X0_init, w_init_X0, by decide +kernel, by decide +kernel, by decide +kernel⟩
abbrev zX7_type : mY := (yX7_type, cX7_type, 2, (some .int))
set_option maxRecDepth 100000 in
theorem wc_X7_type : Cond.code yX7_type cX7_type 2 (some .int) ∈ mw := mw_tab 260 rfl rfl
theorem wy_X7_type : mCy zX7_type 1 := ⟨wc_X7_type, w_init_X7, by decide +kernel, by decide +kernel, by decide +kernel⟩
abbrev zX1_append : mY := (yX1_append, cX1_append, 2, none)
set_option maxRecDepth 100000 in
theorem wc_X1_append : Cond.code yX1_append cX1_append 2 none ∈ mw := mw_tab 264 rfl rfl
theorem wy_X1_append : mCy zX1_append 1 := ⟨wc_X1_append, w_init_X1, by decide +kernel, by decide +kernel, by decide +kernel⟩
abbrev zX7_clear : mY := (yX7_clear, cX7_clear, 2, (some .int))
set_option maxRecDepth 100000 in
theorem wc_X7_clear : Cond.code yX7_clear cX7_clear 2 (some .int) ∈ mw := mw_tab 268 rfl rfl
theorem wy_X7_clear : mCy zX7_clear 0 := ⟨wc_X7_clear, w_init_X7, by decide +kernel, by decide +kernel, by decide +kernel⟩
abbrev zX7_desk : mY := (yX7_desk, cX7_desk, 3, (some .int))
set_option maxRecDepth 100000 in
theorem wc_X7_desk : Cond.code yX7_desk cX7_desk 3 (some .int) ∈ mw := mw_tab 272 rfl rfl
theorem wy_X7_desk : mCy zX7_desk 0 := ⟨wc_X7_desk, w_init_X7, by decide +kernel, by decide +kernel, by decide +kernel⟩
abbrev zX1_read : mY := (yX1_read, cX1_read, 3, (some .int))
set_option maxRecDepth 100000 in
theorem wc_X1_read : Cond.code yX1_read cX1_read 3 (some .int) ∈ mw := mw_tab 276 rfl rfl
theorem wy_X1_read : mCy zX1_read 1 := ⟨wc_X1_read, w_init_X1, by decide +kernel, by decide +kernel, by decide +kernel⟩
abbrev zX5_empty : mY := (yX5_empty, cX5_empty, 1, none)
set_option maxRecDepth 100000 in
theorem wc_X5_empty : Cond.code yX5_empty cX5_empty 1 none ∈ mw := mw_tab 280 rfl rfl
theorem wy_X5_empty : mCy zX5_empty 0 := ⟨wc_X5_empty, w_init_X5, by decide +kernel, by decide +kernel, by decide +kernel⟩
abbrev zX1_nextToken : mY := (yX1_nextToken, cX1_nextToken, 1, none)
set_option maxRecDepth 100000 in
theorem wc_X1_nextToken : Cond.code yX1_nextToken cX1_nextToken 1 none ∈ mw := mw_tab 284 rfl rfl
theorem wy_X1_nextToken : mCy zX1_nextToken 0 := ⟨wc_X1_nextToken, w_init_X1, by decide +kernel, by decide +kernel, by decide +kernel⟩
abbrev zX1_isLetter : mY := (yX1_isLetter, cX1_isLetter, 1, (some .boolean))
set_option maxRecDepth 100000 in
theorem wc_X1_isLetter : Cond.code yX1_isLetter cX1_isLetter 1 (some .boolean) ∈ mw := mw_tab 287 rfl rfl
theorem wy_X1_isLetter : mCy zX1_isLetter 1 := ⟨wc_X1_isLetter, w_init_X1, by decide +kernel, by decide +kernel, by decide +kernel⟩
abbrev zX1_takeLetters : mY := (yX1_takeLetters, cX1_takeLetters, 1, none)
set_option maxRecDepth 100000 in
theorem wc_X1_takeLetters : Cond.code yX1_takeLetters cX1_takeLetters 1 none ∈ mw := mw_tab 291 rfl rfl
theorem wy_X1_takeLetters : mCy zX1_takeLetters 0 := ⟨wc_X1_takeLetters, w_init_X1, by decide +kernel, by decide +kernel, by decide +kernel⟩
abbrev zX1_isDigit : mY := (yX1_isDigit, cX1_isDigit, 1, (some .boolean))
set_option maxRecDepth 100000 in
theorem wc_X1_isDigit : Cond.code yX1_isDigit cX1_isDigit 1 (some .boolean) ∈ mw := mw_tab 294 rfl rfl
theorem wy_X1_isDigit : mCy zX1_isDigit 1 := ⟨wc_X1_isDigit, w_init_X1, by decide +kernel, by decide +kernel, by decide +kernel⟩
abbrev zX1_takeDigits : mY := (yX1_takeDigits, cX1_takeDigits, 3, none)
set_option maxRecDepth 100000 in
theorem wc_X1_takeDigits : Cond.code yX1_takeDigits cX1_takeDigits 3 none ∈ mw := mw_tab 298 rfl rfl
theorem wy_X1_takeDigits : mCy zX1_takeDigits 0 := ⟨wc_X1_takeDigits, w_init_X1, by decide +kernel, by decide +kernel, by decide +kernel⟩
abbrev zJ9_min_7cf53 : mY := (yJ9_min_7cf53, cJ9_min_7cf53, 2, (some .int))
set_option maxRecDepth 100000 in
theorem wc_J9_min_7cf53 : Cond.code yJ9_min_7cf53 cJ9_min_7cf53 2 (some .int) ∈ mw := mw_tab 301 rfl rfl
theorem wy_J9_min_7cf53 : mCy zJ9_min_7cf53 2 := ⟨wc_J9_min_7cf53, w_init_J9, by decide +kernel, by decide +kernel, by decide +kernel⟩
abbrev zX1_readItem : mY := (yX1_readItem, cX1_readItem, 3, (some .boolean))
set_option maxRecDepth 100000 in
theorem wc_X1_readItem : Cond.code yX1_readItem cX1_readItem 3 (some .boolean) ∈ mw := mw_tab 305 rfl rfl
theorem wy_X1_readItem : mCy zX1_readItem 1 := ⟨wc_X1_readItem, w_init_X1, by decide +kernel, by decide +kernel, by decide +kernel⟩
abbrev zX1_readBoth : mY := (yX1_readBoth, cX1_readBoth, 2, (some .boolean))
set_option maxRecDepth 100000 in
theorem wc_X1_readBoth : Cond.code yX1_readBoth cX1_readBoth 2 (some .boolean) ∈ mw := mw_tab 309 rfl rfl
theorem wy_X1_readBoth : mCy zX1_readBoth 1 := ⟨wc_X1_readBoth, w_init_X1, by decide +kernel, by decide +kernel, by decide +kernel⟩
abbrev zX1_readCube : mY := (yX1_readCube, cX1_readCube, 3, (some .boolean))
set_option maxRecDepth 100000 in
theorem wc_X1_readCube : Cond.code yX1_readCube cX1_readCube 3 (some .boolean) ∈ mw := mw_tab 313 rfl rfl
theorem wy_X1_readCube : mCy zX1_readCube 1 := ⟨wc_X1_readCube, w_init_X1, by decide +kernel, by decide +kernel, by decide +kernel⟩
abbrev zX1_isNumberBelow : mY := (yX1_isNumberBelow, cX1_isNumberBelow, 2, (some .boolean))
set_option maxRecDepth 100000 in
theorem wc_X1_isNumberBelow : Cond.code yX1_isNumberBelow cX1_isNumberBelow 2 (some .boolean) ∈ mw := mw_tab 317 rfl rfl
theorem wy_X1_isNumberBelow : mCy zX1_isNumberBelow 1 := ⟨wc_X1_isNumberBelow, w_init_X1, by decide +kernel, by decide +kernel, by decide +kernel⟩
abbrev zX1_readDay : mY := (yX1_readDay, cX1_readDay, 2, (some .boolean))
set_option maxRecDepth 100000 in
theorem wc_X1_readDay : Cond.code yX1_readDay cX1_readDay 2 (some .boolean) ∈ mw := mw_tab 321 rfl rfl
theorem wy_X1_readDay : mCy zX1_readDay 1 := ⟨wc_X1_readDay, w_init_X1, by decide +kernel, by decide +kernel, by decide +kernel⟩
abbrev zX5_howManyNumbers : mY := (yX5_howManyNumbers, cX5_howManyNumbers, 1, (some .int))
set_option maxRecDepth 100000 in
theorem wc_X5_howManyNumbers : Cond.code yX5_howManyNumbers cX5_howManyNumbers 1 (some .int) ∈ mw := mw_tab 325 rfl rfl
theorem wy_X5_howManyNumbers : mCy zX5_howManyNumbers 0 := ⟨wc_X5_howManyNumbers, w_init_X5, by decide +kernel, by decide +kernel, by decide +kernel⟩
abbrev zX3_begin : mY := (yX3_begin, cX3_begin, 3, none)
set_option maxRecDepth 100000 in
theorem wc_X3_begin : Cond.code yX3_begin cX3_begin 3 none ∈ mw := mw_tab 331 rfl rfl
theorem wy_X3_begin : mCy zX3_begin 1 := ⟨wc_X3_begin, w_init_X3, by decide +kernel, by decide +kernel, by decide +kernel⟩
abbrev zJ7_fill_49daa : mY := (yJ7_fill_49daa, cJ7_fill_49daa, 4, none)
set_option maxRecDepth 100000 in
theorem wc_J7_fill_49daa : Cond.code yJ7_fill_49daa cJ7_fill_49daa 4 none ∈ mw := mw_tab 337 rfl rfl
theorem wy_J7_fill_49daa : mCy zJ7_fill_49daa 2 := ⟨wc_J7_fill_49daa, w_init_J7, by decide +kernel, by decide +kernel, by decide +kernel⟩
abbrev zX7_side : mY := (yX7_side, cX7_side, 3, (some .int))
set_option maxRecDepth 100000 in
theorem wc_X7_side : Cond.code yX7_side cX7_side 3 (some .int) ∈ mw := mw_tab 341 rfl rfl
theorem wy_X7_side : mCy zX7_side 2 := ⟨wc_X7_side, w_init_X7, by decide +kernel, by decide +kernel, by decide +kernel⟩
abbrev zX7_isCube : mY := (yX7_isCube, cX7_isCube, 2, (some .boolean))
set_option maxRecDepth 100000 in
theorem wc_X7_isCube : Cond.code yX7_isCube cX7_isCube 2 (some .boolean) ∈ mw := mw_tab 345 rfl rfl
theorem wy_X7_isCube : mCy zX7_isCube 1 := ⟨wc_X7_isCube, w_init_X7, by decide +kernel, by decide +kernel, by decide +kernel⟩
abbrev zX7_isSide : mY := (yX7_isSide, cX7_isSide, 1, (some .boolean))
set_option maxRecDepth 100000 in
theorem wc_X7_isSide : Cond.code yX7_isSide cX7_isSide 1 (some .boolean) ∈ mw := mw_tab 348 rfl rfl
theorem wy_X7_isSide : mCy zX7_isSide 1 := ⟨wc_X7_isSide, w_init_X7, by decide +kernel, by decide +kernel, by decide +kernel⟩
abbrev zX7_cube : mY := (yX7_cube, cX7_cube, 3, (some .int))
set_option maxRecDepth 100000 in
theorem wc_X7_cube : Cond.code yX7_cube cX7_cube 3 (some .int) ∈ mw := mw_tab 352 rfl rfl
theorem wy_X7_cube : mCy zX7_cube 2 := ⟨wc_X7_cube, w_init_X7, by decide +kernel, by decide +kernel, by decide +kernel⟩
abbrev zX3_placeOf : mY := (yX3_placeOf, cX3_placeOf, 3, (some .int))
set_option maxRecDepth 100000 in
theorem wc_X3_placeOf : Cond.code yX3_placeOf cX3_placeOf 3 (some .int) ∈ mw := mw_tab 356 rfl rfl
theorem wy_X3_placeOf : mCy zX3_placeOf 1 := ⟨wc_X3_placeOf, w_init_X3, by decide +kernel, by decide +kernel, by decide +kernel⟩
abbrev zX3_figuresOf : mY := (yX3_figuresOf, cX3_figuresOf, 4, (some .int))
set_option maxRecDepth 100000 in
theorem wc_X3_figuresOf : Cond.code yX3_figuresOf cX3_figuresOf 4 (some .int) ∈ mw := mw_tab 360 rfl rfl
theorem wy_X3_figuresOf : mCy zX3_figuresOf 1 := ⟨wc_X3_figuresOf, w_init_X3, by decide +kernel, by decide +kernel, by decide +kernel⟩
abbrev zX7_sidesNeeded : mY := (yX7_sidesNeeded, cX7_sidesNeeded, 5, (some .int))
set_option maxRecDepth 100000 in
theorem wc_X7_sidesNeeded : Cond.code yX7_sidesNeeded cX7_sidesNeeded 5 (some .int) ∈ mw := mw_tab 364 rfl rfl
theorem wy_X7_sidesNeeded : mCy zX7_sidesNeeded 1 := ⟨wc_X7_sidesNeeded, w_init_X7, by decide +kernel, by decide +kernel, by decide +kernel⟩
abbrev zX7_tellersBut : mY := (yX7_tellersBut, cX7_tellersBut, 2, (some (.object "DayCubes$Tellers")))
set_option maxRecDepth 100000 in
theorem wc_X7_tellersBut : Cond.code yX7_tellersBut cX7_tellersBut 2 (some (.object "DayCubes$Tellers")) ∈ mw := mw_tab 368 rfl rfl
theorem wy_X7_tellersBut : mCy zX7_tellersBut 1 := ⟨wc_X7_tellersBut, w_init_X7, by decide +kernel, by decide +kernel, by decide +kernel⟩
abbrev zX4_take : mY := (yX4_take, cX4_take, 5, none)
set_option maxRecDepth 100000 in
theorem wc_X4_take : Cond.code yX4_take cX4_take 5 none ∈ mw := mw_tab 372 rfl rfl
theorem wy_X4_take : mCy zX4_take 3 := ⟨wc_X4_take, w_init_X4, by decide +kernel, by decide +kernel, by decide +kernel⟩
abbrev zJ7_fill_53178 : mY := (yJ7_fill_53178, cJ7_fill_53178, 4, none)
set_option maxRecDepth 100000 in
theorem wc_J7_fill_53178 : Cond.code yJ7_fill_53178 cJ7_fill_53178 4 none ∈ mw := mw_tab 375 rfl rfl
theorem wy_J7_fill_53178 : mCy zJ7_fill_53178 2 := ⟨wc_J7_fill_53178, w_init_J7, by decide +kernel, by decide +kernel, by decide +kernel⟩
abbrev zX4_daysDone : mY := (yX4_daysDone, cX4_daysDone, 4, (some .int))
set_option maxRecDepth 100000 in
theorem wc_X4_daysDone : Cond.code yX4_daysDone cX4_daysDone 4 (some .int) ∈ mw := mw_tab 379 rfl rfl
theorem wy_X4_daysDone : mCy zX4_daysDone 1 := ⟨wc_X4_daysDone, w_init_X4, by decide +kernel, by decide +kernel, by decide +kernel⟩
abbrev zX4_canTell : mY := (yX4_canTell, cX4_canTell, 5, (some .boolean))
set_option maxRecDepth 100000 in
theorem wc_X4_canTell : Cond.code yX4_canTell cX4_canTell 5 (some .boolean) ∈ mw := mw_tab 383 rfl rfl
theorem wy_X4_canTell : mCy zX4_canTell 1 := ⟨wc_X4_canTell, w_init_X4, by decide +kernel, by decide +kernel, by decide +kernel⟩
abbrev zX4_withOneMore : mY := (yX4_withOneMore, cX4_withOneMore, 5, (some .int))
set_option maxRecDepth 100000 in
theorem wc_X4_withOneMore : Cond.code yX4_withOneMore cX4_withOneMore 5 (some .int) ∈ mw := mw_tab 387 rfl rfl
theorem wy_X4_withOneMore : mCy zX4_withOneMore 2 := ⟨wc_X4_withOneMore, w_init_X4, by decide +kernel, by decide +kernel, by decide +kernel⟩
abbrev zX7_place : mY := (yX7_place, cX7_place, 2, (some .int))
set_option maxRecDepth 100000 in
theorem wc_X7_place : Cond.code yX7_place cX7_place 2 (some .int) ∈ mw := mw_tab 393 rfl rfl
theorem wy_X7_place : mCy zX7_place 1 := ⟨wc_X7_place, w_init_X7, by decide +kernel, by decide +kernel, by decide +kernel⟩
abbrev zX7_isPlace : mY := (yX7_isPlace, cX7_isPlace, 2, (some .boolean))
set_option maxRecDepth 100000 in
theorem wc_X7_isPlace : Cond.code yX7_isPlace cX7_isPlace 2 (some .boolean) ∈ mw := mw_tab 397 rfl rfl
theorem wy_X7_isPlace : mCy zX7_isPlace 1 := ⟨wc_X7_isPlace, w_init_X7, by decide +kernel, by decide +kernel, by decide +kernel⟩
abbrev zX7_day : mY := (yX7_day, cX7_day, 2, (some .int))
set_option maxRecDepth 100000 in
theorem wc_X7_day : Cond.code yX7_day cX7_day 2 (some .int) ∈ mw := mw_tab 401 rfl rfl
theorem wy_X7_day : mCy zX7_day 1 := ⟨wc_X7_day, w_init_X7, by decide +kernel, by decide +kernel, by decide +kernel⟩
abbrev zX7_turn : mY := (yX7_turn, cX7_turn, 3, (some .int))
set_option maxRecDepth 100000 in
theorem wc_X7_turn : Cond.code yX7_turn cX7_turn 3 (some .int) ∈ mw := mw_tab 405 rfl rfl
theorem wy_X7_turn : mCy zX7_turn 2 := ⟨wc_X7_turn, w_init_X7, by decide +kernel, by decide +kernel, by decide +kernel⟩
abbrev zX3_turnCube : mY := (yX3_turnCube, cX3_turnCube, 3, none)
set_option maxRecDepth 100000 in
theorem wc_X3_turnCube : Cond.code yX3_turnCube cX3_turnCube 3 none ∈ mw := mw_tab 409 rfl rfl
theorem wy_X3_turnCube : mCy zX3_turnCube 2 := ⟨wc_X3_turnCube, w_init_X3, by decide +kernel, by decide +kernel, by decide +kernel⟩
abbrev zX3_remember : mY := (yX3_remember, cX3_remember, 5, none)
set_option maxRecDepth 100000 in
theorem wc_X3_remember : Cond.code yX3_remember cX3_remember 5 none ∈ mw := mw_tab 413 rfl rfl
theorem wy_X3_remember : mCy zX3_remember 3 := ⟨wc_X3_remember, w_init_X3, by decide +kernel, by decide +kernel, by decide +kernel⟩
abbrev zX3_turnWork : mY := (yX3_turnWork, cX3_turnWork, 2, (some .int))
set_option maxRecDepth 100000 in
theorem wc_X3_turnWork : Cond.code yX3_turnWork cX3_turnWork 2 (some .int) ∈ mw := mw_tab 416 rfl rfl
theorem wy_X3_turnWork : mCy zX3_turnWork 2 := ⟨wc_X3_turnWork, w_init_X3, by decide +kernel, by decide +kernel, by decide +kernel⟩
abbrev zX3_addWork : mY := (yX3_addWork, cX3_addWork, 2, none)
set_option maxRecDepth 100000 in
theorem wc_X3_addWork : Cond.code yX3_addWork cX3_addWork 2 none ∈ mw := mw_tab 420 rfl rfl
theorem wy_X3_addWork : mCy zX3_addWork 1 := ⟨wc_X3_addWork, w_init_X3, by decide +kernel, by decide +kernel, by decide +kernel⟩
abbrev zX7_changes : mY := (yX7_changes, cX7_changes, 3, (some .int))
set_option maxRecDepth 100000 in
theorem wc_X7_changes : Cond.code yX7_changes cX7_changes 3 (some .int) ∈ mw := mw_tab 425 rfl rfl
theorem wy_X7_changes : mCy zX7_changes 2 := ⟨wc_X7_changes, w_init_X7, by decide +kernel, by decide +kernel, by decide +kernel⟩
abbrev zX3_changePlaces : mY := (yX3_changePlaces, cX3_changePlaces, 3, none)
set_option maxRecDepth 100000 in
theorem wc_X3_changePlaces : Cond.code yX3_changePlaces cX3_changePlaces 3 none ∈ mw := mw_tab 429 rfl rfl
theorem wy_X3_changePlaces : mCy zX3_changePlaces 2 := ⟨wc_X3_changePlaces, w_init_X3, by decide +kernel, by decide +kernel, by decide +kernel⟩
abbrev zX3_exchange : mY := (yX3_exchange, cX3_exchange, 4, none)
set_option maxRecDepth 100000 in
theorem wc_X3_exchange : Cond.code yX3_exchange cX3_exchange 4 none ∈ mw := mw_tab 433 rfl rfl
theorem wy_X3_exchange : mCy zX3_exchange 2 := ⟨wc_X3_exchange, w_init_X3, by decide +kernel, by decide +kernel, by decide +kernel⟩
abbrev zX7_pastes : mY := (yX7_pastes, cX7_pastes, 5, (some .int))
set_option maxRecDepth 100000 in
theorem wc_X7_pastes : Cond.code yX7_pastes cX7_pastes 5 (some .int) ∈ mw := mw_tab 437 rfl rfl
theorem wy_X7_pastes : mCy zX7_pastes 3 := ⟨wc_X7_pastes, w_init_X7, by decide +kernel, by decide +kernel, by decide +kernel⟩
abbrev zX7_isFigure : mY := (yX7_isFigure, cX7_isFigure, 1, (some .boolean))
set_option maxRecDepth 100000 in
theorem wc_X7_isFigure : Cond.code yX7_isFigure cX7_isFigure 1 (some .boolean) ∈ mw := mw_tab 440 rfl rfl
theorem wy_X7_isFigure : mCy zX7_isFigure 1 := ⟨wc_X7_isFigure, w_init_X7, by decide +kernel, by decide +kernel, by decide +kernel⟩
abbrev zX3_pasteFigure : mY := (yX3_pasteFigure, cX3_pasteFigure, 3, none)
set_option maxRecDepth 100000 in
theorem wc_X3_pasteFigure : Cond.code yX3_pasteFigure cX3_pasteFigure 3 none ∈ mw := mw_tab 444 rfl rfl
theorem wy_X3_pasteFigure : mCy zX3_pasteFigure 2 := ⟨wc_X3_pasteFigure, w_init_X3, by decide +kernel, by decide +kernel, by decide +kernel⟩
abbrev zX7_undo : mY := (yX7_undo, cX7_undo, 1, (some .int))
set_option maxRecDepth 100000 in
theorem wc_X7_undo : Cond.code yX7_undo cX7_undo 1 (some .int) ∈ mw := mw_tab 448 rfl rfl
theorem wy_X7_undo : mCy zX7_undo 0 := ⟨wc_X7_undo, w_init_X7, by decide +kernel, by decide +kernel, by decide +kernel⟩
abbrev zX3_takeBack : mY := (yX3_takeBack, cX3_takeBack, 4, none)
set_option maxRecDepth 100000 in
theorem wc_X3_takeBack : Cond.code yX3_takeBack cX3_takeBack 4 none ∈ mw := mw_tab 452 rfl rfl
theorem wy_X3_takeBack : mCy zX3_takeBack 0 := ⟨wc_X3_takeBack, w_init_X3, by decide +kernel, by decide +kernel, by decide +kernel⟩
abbrev zX7_now : mY := (yX7_now, cX7_now, 2, (some .int))
set_option maxRecDepth 100000 in
theorem wc_X7_now : Cond.code yX7_now cX7_now 2 (some .int) ∈ mw := mw_tab 456 rfl rfl
theorem wy_X7_now : mCy zX7_now 1 := ⟨wc_X7_now, w_init_X7, by decide +kernel, by decide +kernel, by decide +kernel⟩
abbrev zX7_numberInFront : mY := (yX7_numberInFront, cX7_numberInFront, 3, (some .int))
set_option maxRecDepth 100000 in
theorem wc_X7_numberInFront : Cond.code yX7_numberInFront cX7_numberInFront 3 (some .int) ∈ mw := mw_tab 460 rfl rfl
theorem wy_X7_numberInFront : mCy zX7_numberInFront 0 := ⟨wc_X7_numberInFront, w_init_X7, by decide +kernel, by decide +kernel, by decide +kernel⟩
abbrev zX3_figureInFront : mY := (yX3_figureInFront, cX3_figureInFront, 2, (some .int))
set_option maxRecDepth 100000 in
theorem wc_X3_figureInFront : Cond.code yX3_figureInFront cX3_figureInFront 2 (some .int) ∈ mw := mw_tab 464 rfl rfl
theorem wy_X3_figureInFront : mCy zX3_figureInFront 1 := ⟨wc_X3_figureInFront, w_init_X3, by decide +kernel, by decide +kernel, by decide +kernel⟩
abbrev zX4_many : mY := (yX4_many, cX4_many, 1, (some .int))
set_option maxRecDepth 100000 in
theorem wc_X4_many : Cond.code yX4_many cX4_many 1 (some .int) ∈ mw := mw_tab 468 rfl rfl
theorem wy_X4_many : mCy zX4_many 0 := ⟨wc_X4_many, w_init_X4, by decide +kernel, by decide +kernel, by decide +kernel⟩
abbrev zX4_manyFrom : mY := (yX4_manyFrom, cX4_manyFrom, 10, (some .int))
set_option maxRecDepth 100000 in
theorem wc_X4_manyFrom : Cond.code yX4_manyFrom cX4_manyFrom 10 (some .int) ∈ mw := mw_tab 472 rfl rfl
theorem wy_X4_manyFrom : mCy zX4_manyFrom 5 := ⟨wc_X4_manyFrom, w_init_X4, by decide +kernel, by decide +kernel, by decide +kernel⟩
abbrev zX4_leastUntold : mY := (yX4_leastUntold, cX4_leastUntold, 2, (some .int))
set_option maxRecDepth 100000 in
theorem wc_X4_leastUntold : Cond.code yX4_leastUntold cX4_leastUntold 2 (some .int) ∈ mw := mw_tab 476 rfl rfl
theorem wy_X4_leastUntold : mCy zX4_leastUntold 0 := ⟨wc_X4_leastUntold, w_init_X4, by decide +kernel, by decide +kernel, by decide +kernel⟩
abbrev zX7_number : mY := (yX7_number, cX7_number, 3, (some .int))
set_option maxRecDepth 100000 in
theorem wc_X7_number : Cond.code yX7_number cX7_number 3 (some .int) ∈ mw := mw_tab 481 rfl rfl
theorem wy_X7_number : mCy zX7_number 2 := ⟨wc_X7_number, w_init_X7, by decide +kernel, by decide +kernel, by decide +kernel⟩
abbrev zX7_isNumber : mY := (yX7_isNumber, cX7_isNumber, 2, (some .boolean))
set_option maxRecDepth 100000 in
theorem wc_X7_isNumber : Cond.code yX7_isNumber cX7_isNumber 2 (some .boolean) ∈ mw := mw_tab 485 rfl rfl
theorem wy_X7_isNumber : mCy zX7_isNumber 1 := ⟨wc_X7_isNumber, w_init_X7, by decide +kernel, by decide +kernel, by decide +kernel⟩
abbrev zX7_isTold : mY := (yX7_isTold, cX7_isTold, 4, (some .boolean))
set_option maxRecDepth 100000 in
theorem wc_X7_isTold : Cond.code yX7_isTold cX7_isTold 4 (some .boolean) ∈ mw := mw_tab 490 rfl rfl
theorem wy_X7_isTold : mCy zX7_isTold 1 := ⟨wc_X7_isTold, w_init_X7, by decide +kernel, by decide +kernel, by decide +kernel⟩
abbrev zX5_fits : mY := (yX5_fits, cX5_fits, 3, (some .boolean))
set_option maxRecDepth 100000 in
theorem wc_X5_fits : Cond.code yX5_fits cX5_fits 3 (some .boolean) ∈ mw := mw_tab 494 rfl rfl
theorem wy_X5_fits : mCy zX5_fits 2 := ⟨wc_X5_fits, w_init_X5, by decide +kernel, by decide +kernel, by decide +kernel⟩
abbrev zX5_upright : mY := (yX5_upright, cX5_upright, 2, (some .int))
set_option maxRecDepth 100000 in
theorem wc_X5_upright : Cond.code yX5_upright cX5_upright 2 (some .int) ∈ mw := mw_tab 498 rfl rfl
theorem wy_X5_upright : mCy zX5_upright 1 := ⟨wc_X5_upright, w_init_X5, by decide +kernel, by decide +kernel, by decide +kernel⟩
abbrev zX7_leastWork : mY := (yX7_leastWork, cX7_leastWork, 4, (some .int))
set_option maxRecDepth 100000 in
theorem wc_X7_leastWork : Cond.code yX7_leastWork cX7_leastWork 4 (some .int) ∈ mw := mw_tab 503 rfl rfl
theorem wy_X7_leastWork : mCy zX7_leastWork 2 := ⟨wc_X7_leastWork, w_init_X7, by decide +kernel, by decide +kernel, by decide +kernel⟩
abbrev zX6_leastThrough : mY := (yX6_leastThrough, cX6_leastThrough, 6, (some .int))
set_option maxRecDepth 100000 in
theorem wc_X6_leastThrough : Cond.code yX6_leastThrough cX6_leastThrough 6 (some .int) ∈ mw := mw_tab 507 rfl rfl
theorem wy_X6_leastThrough : mCy zX6_leastThrough 4 := ⟨wc_X6_leastThrough, w_init_X6, by decide +kernel, by decide +kernel, by decide +kernel⟩
abbrev zX6_takeWanted : mY := (yX6_takeWanted, cX6_takeWanted, 5, none)
set_option maxRecDepth 100000 in
theorem wc_X6_takeWanted : Cond.code yX6_takeWanted cX6_takeWanted 5 none ∈ mw := mw_tab 511 rfl rfl
theorem wy_X6_takeWanted : mCy zX6_takeWanted 2 := ⟨wc_X6_takeWanted, w_init_X6, by decide +kernel, by decide +kernel, by decide +kernel⟩
abbrev zX6_reckonTurns : mY := (yX6_reckonTurns, cX6_reckonTurns, 3, none)
set_option maxRecDepth 100000 in
theorem wc_X6_reckonTurns : Cond.code yX6_reckonTurns cX6_reckonTurns 3 none ∈ mw := mw_tab 515 rfl rfl
theorem wy_X6_reckonTurns : mCy zX6_reckonTurns 1 := ⟨wc_X6_reckonTurns, w_init_X6, by decide +kernel, by decide +kernel, by decide +kernel⟩
abbrev zX6_reckonPathsFrom : mY := (yX6_reckonPathsFrom, cX6_reckonPathsFrom, 7, none)
set_option maxRecDepth 100000 in
theorem wc_X6_reckonPathsFrom : Cond.code yX6_reckonPathsFrom cX6_reckonPathsFrom 7 none ∈ mw := mw_tab 519 rfl rfl
theorem wy_X6_reckonPathsFrom : mCy zX6_reckonPathsFrom 3 := ⟨wc_X6_reckonPathsFrom, w_init_X6, by decide +kernel, by decide +kernel, by decide +kernel⟩
abbrev zX6_longerPath : mY := (yX6_longerPath, cX6_longerPath, 2, (some .int))
set_option maxRecDepth 100000 in
theorem wc_X6_longerPath : Cond.code yX6_longerPath cX6_longerPath 2 (some .int) ∈ mw := mw_tab 522 rfl rfl
theorem wy_X6_longerPath : mCy zX6_longerPath 2 := ⟨wc_X6_longerPath, w_init_X6, by decide +kernel, by decide +kernel, by decide +kernel⟩
abbrev zX6_reckonSides : mY := (yX6_reckonSides, cX6_reckonSides, 9, (some .int))
set_option maxRecDepth 100000 in
theorem wc_X6_reckonSides : Cond.code yX6_reckonSides cX6_reckonSides 9 (some .int) ∈ mw := mw_tab 526 rfl rfl
theorem wy_X6_reckonSides : mCy zX6_reckonSides 3 := ⟨wc_X6_reckonSides, w_init_X6, by decide +kernel, by decide +kernel, by decide +kernel⟩
abbrev zX6_choose : mY := (yX6_choose, cX6_choose, 9, none)
set_option maxRecDepth 100000 in
theorem wc_X6_choose : Cond.code yX6_choose cX6_choose 9 none ∈ mw := mw_tab 533 rfl rfl
theorem wy_X6_choose : mCy zX6_choose 4 := ⟨wc_X6_choose, w_init_X6, by decide +kernel, by decide +kernel, by decide +kernel⟩
abbrev zX6_changesTo : mY := (yX6_changesTo, cX6_changesTo, 7, (some .int))
set_option maxRecDepth 100000 in
theorem wc_X6_changesTo : Cond.code yX6_changesTo cX6_changesTo 7 (some .int) ∈ mw := mw_tab 537 rfl rfl
theorem wy_X6_changesTo : mCy zX6_changesTo 1 := ⟨wc_X6_changesTo, w_init_X6, by decide +kernel, by decide +kernel, by decide +kernel⟩
abbrev zX6_goOn : mY := (yX6_goOn, cX6_goOn, 3, none)
set_option maxRecDepth 100000 in
theorem wc_X6_goOn : Cond.code yX6_goOn cX6_goOn 3 none ∈ mw := mw_tab 541 rfl rfl
theorem wy_X6_goOn : mCy zX6_goOn 2 := ⟨wc_X6_goOn, w_init_X6, by decide +kernel, by decide +kernel, by decide +kernel⟩
abbrev zX4_fewestPastes : mY := (yX4_fewestPastes, cX4_fewestPastes, 6, (some .int))
set_option maxRecDepth 100000 in
theorem wc_X4_fewestPastes : Cond.code yX4_fewestPastes cX4_fewestPastes 6 (some .int) ∈ mw := mw_tab 545 rfl rfl
theorem wy_X4_fewestPastes : mCy zX4_fewestPastes 1 := ⟨wc_X4_fewestPastes, w_init_X4, by decide +kernel, by decide +kernel, by decide +kernel⟩
abbrev zJ6_bitCount_0f7a4 : mY := (yJ6_bitCount_0f7a4, cJ6_bitCount_0f7a4, 1, (some .int))
set_option maxRecDepth 100000 in
theorem wc_J6_bitCount_0f7a4 : Cond.code yJ6_bitCount_0f7a4 cJ6_bitCount_0f7a4 1 (some .int) ∈ mw := mw_tab 548 rfl rfl
theorem wy_J6_bitCount_0f7a4 : mCy zJ6_bitCount_0f7a4 1 := ⟨wc_J6_bitCount_0f7a4, w_init_J6, by decide +kernel, by decide +kernel, by decide +kernel⟩
abbrev zJ9_max_7cf53 : mY := (yJ9_max_7cf53, cJ9_max_7cf53, 2, (some .int))
set_option maxRecDepth 100000 in
theorem wc_J9_max_7cf53 : Cond.code yJ9_max_7cf53 cJ9_max_7cf53 2 (some .int) ∈ mw := mw_tab 554 rfl rfl
theorem wy_J9_max_7cf53 : mCy zJ9_max_7cf53 2 := ⟨wc_J9_max_7cf53, w_init_J9, by decide +kernel, by decide +kernel, by decide +kernel⟩
abbrev zX7_through : mY := (yX7_through, cX7_through, 3, (some .int))
set_option maxRecDepth 100000 in
theorem wc_X7_through : Cond.code yX7_through cX7_through 3 (some .int) ∈ mw := mw_tab 558 rfl rfl
theorem wy_X7_through : mCy zX7_through 2 := ⟨wc_X7_through, w_init_X7, by decide +kernel, by decide +kernel, by decide +kernel⟩
abbrev zX7_odds : mY := (yX7_odds, cX7_odds, 3, (some .int))
set_option maxRecDepth 100000 in
theorem wc_X7_odds : Cond.code yX7_odds cX7_odds 3 (some .int) ∈ mw := mw_tab 562 rfl rfl
theorem wy_X7_odds : mCy zX7_odds 2 := ⟨wc_X7_odds, w_init_X7, by decide +kernel, by decide +kernel, by decide +kernel⟩
abbrev zX0_reckon : mY := (yX0_reckon, cX0_reckon, 6, none)
set_option maxRecDepth 100000 in
theorem wc_X0_reckon : Cond.code yX0_reckon cX0_reckon 6 none ∈ mw := mw_tab 566 rfl rfl
theorem wy_X0_reckon : mCy zX0_reckon 3 := ⟨wc_X0_reckon, w_init_X0, by decide +kernel, by decide +kernel, by decide +kernel⟩
abbrev zX0_fallsFrom : mY := (yX0_fallsFrom, cX0_fallsFrom, 5, (some .int))
set_option maxRecDepth 100000 in
theorem wc_X0_fallsFrom : Cond.code yX0_fallsFrom cX0_fallsFrom 5 (some .int) ∈ mw := mw_tab 572 rfl rfl
theorem wy_X0_fallsFrom : mCy zX0_fallsFrom 1 := ⟨wc_X0_fallsFrom, w_init_X0, by decide +kernel, by decide +kernel, by decide +kernel⟩
abbrev zX0_reduce : mY := (yX0_reduce, cX0_reduce, 2, none)
set_option maxRecDepth 100000 in
theorem wc_X0_reduce : Cond.code yX0_reduce cX0_reduce 2 none ∈ mw := mw_tab 578 rfl rfl
theorem wy_X0_reduce : mCy zX0_reduce 0 := ⟨wc_X0_reduce, w_init_X0, by decide +kernel, by decide +kernel, by decide +kernel⟩
abbrev zX0_reduceBy : mY := (yX0_reduceBy, cX0_reduceBy, 2, none)
set_option maxRecDepth 100000 in
theorem wc_X0_reduceBy : Cond.code yX0_reduceBy cX0_reduceBy 2 none ∈ mw := mw_tab 582 rfl rfl
theorem wy_X0_reduceBy : mCy zX0_reduceBy 1 := ⟨wc_X0_reduceBy, w_init_X0, by decide +kernel, by decide +kernel, by decide +kernel⟩
abbrev zX7_sees : mY := (yX7_sees, cX7_sees, 3, (some .int))
set_option maxRecDepth 100000 in
theorem wc_X7_sees : Cond.code yX7_sees cX7_sees 3 (some .int) ∈ mw := mw_tab 586 rfl rfl
theorem wy_X7_sees : mCy zX7_sees 2 := ⟨wc_X7_sees, w_init_X7, by decide +kernel, by decide +kernel, by decide +kernel⟩
abbrev zX2_append : mY := (yX2_append, cX2_append, 3, none)
set_option maxRecDepth 100000 in
theorem wc_X2_append : Cond.code yX2_append cX2_append 3 none ∈ mw := mw_tab 590 rfl rfl
theorem wy_X2_append : mCy zX2_append 2 := ⟨wc_X2_append, w_init_X2, by decide +kernel, by decide +kernel, by decide +kernel⟩
abbrev zX7_forget : mY := (yX7_forget, cX7_forget, 2, (some .int))
set_option maxRecDepth 100000 in
theorem wc_X7_forget : Cond.code yX7_forget cX7_forget 2 (some .int) ∈ mw := mw_tab 594 rfl rfl
theorem wy_X7_forget : mCy zX7_forget 0 := ⟨wc_X7_forget, w_init_X7, by decide +kernel, by decide +kernel, by decide +kernel⟩
abbrev zX7_which : mY := (yX7_which, cX7_which, 1, (some .int))
set_option maxRecDepth 100000 in
theorem wc_X7_which : Cond.code yX7_which cX7_which 1 (some .int) ∈ mw := mw_tab 598 rfl rfl
theorem wy_X7_which : mCy zX7_which 0 := ⟨wc_X7_which, w_init_X7, by decide +kernel, by decide +kernel, by decide +kernel⟩
abbrev zX2_cubesThatMayBe : mY := (yX2_cubesThatMayBe, cX2_cubesThatMayBe, 5, (some .int))
set_option maxRecDepth 100000 in
theorem wc_X2_cubesThatMayBe : Cond.code yX2_cubesThatMayBe cX2_cubesThatMayBe 5 (some .int) ∈ mw := mw_tab 602 rfl rfl
theorem wy_X2_cubesThatMayBe : mCy zX2_cubesThatMayBe 2 := ⟨wc_X2_cubesThatMayBe, w_init_X2, by decide +kernel, by decide +kernel, by decide +kernel⟩
abbrev zX2_mayBe : mY := (yX2_mayBe, cX2_mayBe, 3, (some .boolean))
set_option maxRecDepth 100000 in
theorem wc_X2_mayBe : Cond.code yX2_mayBe cX2_mayBe 3 (some .boolean) ∈ mw := mw_tab 607 rfl rfl
theorem wy_X2_mayBe : mCy zX2_mayBe 1 := ⟨wc_X2_mayBe, w_init_X2, by decide +kernel, by decide +kernel, by decide +kernel⟩
abbrev zX7_look : mY := (yX7_look, cX7_look, 1, (some .int))
set_option maxRecDepth 100000 in
theorem wc_X7_look : Cond.code yX7_look cX7_look 1 (some .int) ∈ mw := mw_tab 611 rfl rfl
theorem wy_X7_look : mCy zX7_look 0 := ⟨wc_X7_look, w_init_X7, by decide +kernel, by decide +kernel, by decide +kernel⟩
abbrev zX2_bestToLookFor : mY := (yX2_bestToLookFor, cX2_bestToLookFor, 10, (some .int))
set_option maxRecDepth 100000 in
theorem wc_X2_bestToLookFor : Cond.code yX2_bestToLookFor cX2_bestToLookFor 10 (some .int) ∈ mw := mw_tab 615 rfl rfl
theorem wy_X2_bestToLookFor : mCy zX2_bestToLookFor 2 := ⟨wc_X2_bestToLookFor, w_init_X2, by decide +kernel, by decide +kernel, by decide +kernel⟩
abbrev zX2_howManyHave : mY := (yX2_howManyHave, cX2_howManyHave, 6, (some .int))
set_option maxRecDepth 100000 in
theorem wc_X2_howManyHave : Cond.code yX2_howManyHave cX2_howManyHave 6 (some .int) ∈ mw := mw_tab 620 rfl rfl
theorem wy_X2_howManyHave : mCy zX2_howManyHave 4 := ⟨wc_X2_howManyHave, w_init_X2, by decide +kernel, by decide +kernel, by decide +kernel⟩
abbrev zX7_mark : mY := (yX7_mark, cX7_mark, 3, (some .int))
set_option maxRecDepth 100000 in
theorem wc_X7_mark : Cond.code yX7_mark cX7_mark 3 (some .int) ∈ mw := mw_tab 625 rfl rfl
theorem wy_X7_mark : mCy zX7_mark 2 := ⟨wc_X7_mark, w_init_X7, by decide +kernel, by decide +kernel, by decide +kernel⟩
abbrev zX7_markAs : mY := (yX7_markAs, cX7_markAs, 4, (some .int))
set_option maxRecDepth 100000 in
theorem wc_X7_markAs : Cond.code yX7_markAs cX7_markAs 4 (some .int) ∈ mw := mw_tab 630 rfl rfl
theorem wy_X7_markAs : mCy zX7_markAs 2 := ⟨wc_X7_markAs, w_init_X7, by decide +kernel, by decide +kernel, by decide +kernel⟩
abbrev zX7_keep : mY := (yX7_keep, cX7_keep, 2, (some .int))
set_option maxRecDepth 100000 in
theorem wc_X7_keep : Cond.code yX7_keep cX7_keep 2 (some .int) ∈ mw := mw_tab 639 rfl rfl
theorem wy_X7_keep : mCy zX7_keep 1 := ⟨wc_X7_keep, w_init_X7, by decide +kernel, by decide +kernel, by decide +kernel⟩
abbrev zX7_isImage : mY := (yX7_isImage, cX7_isImage, 1, (some .boolean))
set_option maxRecDepth 100000 in
theorem wc_X7_isImage : Cond.code yX7_isImage cX7_isImage 1 (some .boolean) ∈ mw := mw_tab 642 rfl rfl
theorem wy_X7_isImage : mCy zX7_isImage 1 := ⟨wc_X7_isImage, w_init_X7, by decide +kernel, by decide +kernel, by decide +kernel⟩
abbrev zX3_copy : mY := (yX3_copy, cX3_copy, 2, none)
set_option maxRecDepth 100000 in
theorem wc_X3_copy : Cond.code yX3_copy cX3_copy 2 none ∈ mw := mw_tab 646 rfl rfl
theorem wy_X3_copy : mCy zX3_copy 1 := ⟨wc_X3_copy, w_init_X3, by decide +kernel, by decide +kernel, by decide +kernel⟩
abbrev zX7_back : mY := (yX7_back, cX7_back, 2, (some .int))
set_option maxRecDepth 100000 in
theorem wc_X7_back : Cond.code yX7_back cX7_back 2 (some .int) ∈ mw := mw_tab 650 rfl rfl
theorem wy_X7_back : mCy zX7_back 1 := ⟨wc_X7_back, w_init_X7, by decide +kernel, by decide +kernel, by decide +kernel⟩
abbrev zX7_count : mY := (yX7_count, cX7_count, 2, (some .int))
set_option maxRecDepth 100000 in
theorem wc_X7_count : Cond.code yX7_count cX7_count 2 (some .int) ∈ mw := mw_tab 654 rfl rfl
theorem wy_X7_count : mCy zX7_count 1 := ⟨wc_X7_count, w_init_X7, by decide +kernel, by decide +kernel, by decide +kernel⟩
abbrev zX7_trace : mY := (yX7_trace, cX7_trace, 1, (some .long))
set_option maxRecDepth 100000 in
theorem wc_X7_trace : Cond.code yX7_trace cX7_trace 1 (some .long) ∈ mw := mw_tab 658 rfl rfl
theorem wy_X7_trace : mCy zX7_trace 0 := ⟨wc_X7_trace, w_init_X7, by decide +kernel, by decide +kernel, by decide +kernel⟩
abbrev zX8_init : mY := (yX8_init, cX8_init, 1, none)
set_option maxRecDepth 100000 in
theorem wc_X8_init : Cond.code yX8_init cX8_init 1 none ∈ mw := mw_tab 663 rfl rfl
theorem wy_X8_init : mCy zX8_init 0 := ⟨wc_X8_init, w_init_X8, by decide +kernel, by decide +kernel, by decide +kernel⟩
abbrev zX8_begin : mY := (yX8_begin, cX8_begin, 2, none)
set_option maxRecDepth 100000 in
theorem wc_X8_begin : Cond.code yX8_begin cX8_begin 2 none ∈ mw := mw_tab 668 rfl rfl
theorem wy_X8_begin : mCy zX8_begin 0 := ⟨wc_X8_begin, w_init_X8, by decide +kernel, by decide +kernel, by decide +kernel⟩
abbrev zX8_tellOrders : mY := (yX8_tellOrders, cX8_tellOrders, 2, none)
set_option maxRecDepth 100000 in
theorem wc_X8_tellOrders : Cond.code yX8_tellOrders cX8_tellOrders 2 none ∈ mw := mw_tab 672 rfl rfl
theorem wy_X8_tellOrders : mCy zX8_tellOrders 0 := ⟨wc_X8_tellOrders, w_init_X8, by decide +kernel, by decide +kernel, by decide +kernel⟩
abbrev zX8_codes : mY := (yX8_codes, cX8_codes, 1, (some .int))
set_option maxRecDepth 100000 in
theorem wc_X8_codes : Cond.code yX8_codes cX8_codes 1 (some .int) ∈ mw := mw_tab 676 rfl rfl
theorem wy_X8_codes : mCy zX8_codes 0 := ⟨wc_X8_codes, w_init_X8, by decide +kernel, by decide +kernel, by decide +kernel⟩
abbrev zX8_isOrder : mY := (yX8_isOrder, cX8_isOrder, 4, (some .boolean))
set_option maxRecDepth 100000 in
theorem wc_X8_isOrder : Cond.code yX8_isOrder cX8_isOrder 4 (some .boolean) ∈ mw := mw_tab 680 rfl rfl
theorem wy_X8_isOrder : mCy zX8_isOrder 1 := ⟨wc_X8_isOrder, w_init_X8, by decide +kernel, by decide +kernel, by decide +kernel⟩
abbrev zX8_cubeIn : mY := (yX8_cubeIn, cX8_cubeIn, 2, (some .int))
set_option maxRecDepth 100000 in
theorem wc_X8_cubeIn : Cond.code yX8_cubeIn cX8_cubeIn 2 (some .int) ∈ mw := mw_tab 683 rfl rfl
theorem wy_X8_cubeIn : mCy zX8_cubeIn 2 := ⟨wc_X8_cubeIn, w_init_X8, by decide +kernel, by decide +kernel, by decide +kernel⟩
abbrev zX8_type : mY := (yX8_type, cX8_type, 2, (some .int))
set_option maxRecDepth 100000 in
theorem wc_X8_type : Cond.code yX8_type cX8_type 2 (some .int) ∈ mw := mw_tab 764 rfl rfl
theorem wy_X8_type : mCy zX8_type 1 := ⟨wc_X8_type, w_init_X8, by decide +kernel, by decide +kernel, by decide +kernel⟩
abbrev zX8_in : mY := (yX8_in, cX8_in, 3, (some .boolean))
set_option maxRecDepth 100000 in
theorem wc_X8_in : Cond.code yX8_in cX8_in 3 (some .boolean) ∈ mw := mw_tab 767 rfl rfl
theorem wy_X8_in : mCy zX8_in 3 := ⟨wc_X8_in, w_init_X8, by decide +kernel, by decide +kernel, by decide +kernel⟩
abbrev zX8_clear : mY := (yX8_clear, cX8_clear, 2, (some .int))
set_option maxRecDepth 100000 in
theorem wc_X8_clear : Cond.code yX8_clear cX8_clear 2 (some .int) ∈ mw := mw_tab 771 rfl rfl
theorem wy_X8_clear : mCy zX8_clear 0 := ⟨wc_X8_clear, w_init_X8, by decide +kernel, by decide +kernel, by decide +kernel⟩
abbrev zX8_desk : mY := (yX8_desk, cX8_desk, 2, (some .int))
set_option maxRecDepth 100000 in
theorem wc_X8_desk : Cond.code yX8_desk cX8_desk 2 (some .int) ∈ mw := mw_tab 775 rfl rfl
theorem wy_X8_desk : mCy zX8_desk 0 := ⟨wc_X8_desk, w_init_X8, by decide +kernel, by decide +kernel, by decide +kernel⟩
abbrev zX8_read : mY := (yX8_read, cX8_read, 2, none)
set_option maxRecDepth 100000 in
theorem wc_X8_read : Cond.code yX8_read cX8_read 2 none ∈ mw := mw_tab 779 rfl rfl
theorem wy_X8_read : mCy zX8_read 0 := ⟨wc_X8_read, w_init_X8, by decide +kernel, by decide +kernel, by decide +kernel⟩
abbrev zX8_step : mY := (yX8_step, cX8_step, 2, none)
set_option maxRecDepth 100000 in
theorem wc_X8_step : Cond.code yX8_step cX8_step 2 none ∈ mw := mw_tab 783 rfl rfl
theorem wy_X8_step : mCy zX8_step 0 := ⟨wc_X8_step, w_init_X8, by decide +kernel, by decide +kernel, by decide +kernel⟩
abbrev zX8_here : mY := (yX8_here, cX8_here, 1, (some .int))
set_option maxRecDepth 100000 in
theorem wc_X8_here : Cond.code yX8_here cX8_here 1 (some .int) ∈ mw := mw_tab 787 rfl rfl
theorem wy_X8_here : mCy zX8_here 0 := ⟨wc_X8_here, w_init_X8, by decide +kernel, by decide +kernel, by decide +kernel⟩
abbrev zX8_may : mY := (yX8_may, cX8_may, 2, (some .boolean))
set_option maxRecDepth 100000 in
theorem wc_X8_may : Cond.code yX8_may cX8_may 2 (some .boolean) ∈ mw := mw_tab 791 rfl rfl
theorem wy_X8_may : mCy zX8_may 1 := ⟨wc_X8_may, w_init_X8, by decide +kernel, by decide +kernel, by decide +kernel⟩
abbrev zX8_due : mY := (yX8_due, cX8_due, 2, none)
set_option maxRecDepth 100000 in
theorem wc_X8_due : Cond.code yX8_due cX8_due 2 none ∈ mw := mw_tab 795 rfl rfl
theorem wy_X8_due : mCy zX8_due 1 := ⟨wc_X8_due, w_init_X8, by decide +kernel, by decide +kernel, by decide +kernel⟩
abbrev zX8_item : mY := (yX8_item, cX8_item, 3, none)
set_option maxRecDepth 100000 in
theorem wc_X8_item : Cond.code yX8_item cX8_item 3 none ∈ mw := mw_tab 799 rfl rfl
theorem wy_X8_item : mCy zX8_item 1 := ⟨wc_X8_item, w_init_X8, by decide +kernel, by decide +kernel, by decide +kernel⟩
abbrev zX8_amount : mY := (yX8_amount, cX8_amount, 4, (some .int))
set_option maxRecDepth 100000 in
theorem wc_X8_amount : Cond.code yX8_amount cX8_amount 4 (some .int) ∈ mw := mw_tab 803 rfl rfl
theorem wy_X8_amount : mCy zX8_amount 2 := ⟨wc_X8_amount, w_init_X8, by decide +kernel, by decide +kernel, by decide +kernel⟩
abbrev zX8_power : mY := (yX8_power, cX8_power, 3, (some .int))
set_option maxRecDepth 100000 in
theorem wc_X8_power : Cond.code yX8_power cX8_power 3 (some .int) ∈ mw := mw_tab 806 rfl rfl
theorem wy_X8_power : mCy zX8_power 1 := ⟨wc_X8_power, w_init_X8, by decide +kernel, by decide +kernel, by decide +kernel⟩
abbrev zX8_side : mY := (yX8_side, cX8_side, 3, (some .int))
set_option maxRecDepth 100000 in
theorem wc_X8_side : Cond.code yX8_side cX8_side 3 (some .int) ∈ mw := mw_tab 810 rfl rfl
theorem wy_X8_side : mCy zX8_side 2 := ⟨wc_X8_side, w_init_X8, by decide +kernel, by decide +kernel, by decide +kernel⟩
abbrev zX8_isCube : mY := (yX8_isCube, cX8_isCube, 2, (some .boolean))
set_option maxRecDepth 100000 in
theorem wc_X8_isCube : Cond.code yX8_isCube cX8_isCube 2 (some .boolean) ∈ mw := mw_tab 814 rfl rfl
theorem wy_X8_isCube : mCy zX8_isCube 1 := ⟨wc_X8_isCube, w_init_X8, by decide +kernel, by decide +kernel, by decide +kernel⟩
abbrev zX8_isSide : mY := (yX8_isSide, cX8_isSide, 1, (some .boolean))
set_option maxRecDepth 100000 in
theorem wc_X8_isSide : Cond.code yX8_isSide cX8_isSide 1 (some .boolean) ∈ mw := mw_tab 817 rfl rfl
theorem wy_X8_isSide : mCy zX8_isSide 1 := ⟨wc_X8_isSide, w_init_X8, by decide +kernel, by decide +kernel, by decide +kernel⟩
abbrev zX8_cube : mY := (yX8_cube, cX8_cube, 3, (some .int))
set_option maxRecDepth 100000 in
theorem wc_X8_cube : Cond.code yX8_cube cX8_cube 3 (some .int) ∈ mw := mw_tab 821 rfl rfl
theorem wy_X8_cube : mCy zX8_cube 2 := ⟨wc_X8_cube, w_init_X8, by decide +kernel, by decide +kernel, by decide +kernel⟩
abbrev zX8_placeOf : mY := (yX8_placeOf, cX8_placeOf, 4, (some .int))
set_option maxRecDepth 100000 in
theorem wc_X8_placeOf : Cond.code yX8_placeOf cX8_placeOf 4 (some .int) ∈ mw := mw_tab 825 rfl rfl
theorem wy_X8_placeOf : mCy zX8_placeOf 1 := ⟨wc_X8_placeOf, w_init_X8, by decide +kernel, by decide +kernel, by decide +kernel⟩
abbrev zX8_figuresOf : mY := (yX8_figuresOf, cX8_figuresOf, 4, (some .int))
set_option maxRecDepth 100000 in
theorem wc_X8_figuresOf : Cond.code yX8_figuresOf cX8_figuresOf 4 (some .int) ∈ mw := mw_tab 829 rfl rfl
theorem wy_X8_figuresOf : mCy zX8_figuresOf 1 := ⟨wc_X8_figuresOf, w_init_X8, by decide +kernel, by decide +kernel, by decide +kernel⟩
abbrev zX8_neededOf : mY := (yX8_neededOf, cX8_neededOf, 7, (some .int))
set_option maxRecDepth 100000 in
theorem wc_X8_neededOf : Cond.code yX8_neededOf cX8_neededOf 7 (some .int) ∈ mw := mw_tab 833 rfl rfl
theorem wy_X8_neededOf : mCy zX8_neededOf 1 := ⟨wc_X8_neededOf, w_init_X8, by decide +kernel, by decide +kernel, by decide +kernel⟩
abbrev zX8_doneNow : mY := (yX8_doneNow, cX8_doneNow, 3, (some .int))
set_option maxRecDepth 100000 in
theorem wc_X8_doneNow : Cond.code yX8_doneNow cX8_doneNow 3 (some .int) ∈ mw := mw_tab 837 rfl rfl
theorem wy_X8_doneNow : mCy zX8_doneNow 0 := ⟨wc_X8_doneNow, w_init_X8, by decide +kernel, by decide +kernel, by decide +kernel⟩
abbrev zX8_can : mY := (yX8_can, cX8_can, 8, (some .boolean))
set_option maxRecDepth 100000 in
theorem wc_X8_can : Cond.code yX8_can cX8_can 8 (some .boolean) ∈ mw := mw_tab 841 rfl rfl
theorem wy_X8_can : mCy zX8_can 3 := ⟨wc_X8_can, w_init_X8, by decide +kernel, by decide +kernel, by decide +kernel⟩
abbrev zX8_figureOf : mY := (yX8_figureOf, cX8_figureOf, 3, (some .int))
set_option maxRecDepth 100000 in
theorem wc_X8_figureOf : Cond.code yX8_figureOf cX8_figureOf 3 (some .int) ∈ mw := mw_tab 845 rfl rfl
theorem wy_X8_figureOf : mCy zX8_figureOf 2 := ⟨wc_X8_figureOf, w_init_X8, by decide +kernel, by decide +kernel, by decide +kernel⟩
abbrev zX8_hasFit : mY := (yX8_hasFit, cX8_hasFit, 6, (some .boolean))
set_option maxRecDepth 100000 in
theorem wc_X8_hasFit : Cond.code yX8_hasFit cX8_hasFit 6 (some .boolean) ∈ mw := mw_tab 849 rfl rfl
theorem wy_X8_hasFit : mCy zX8_hasFit 3 := ⟨wc_X8_hasFit, w_init_X8, by decide +kernel, by decide +kernel, by decide +kernel⟩
abbrev zX8_fits : mY := (yX8_fits, cX8_fits, 3, (some .boolean))
set_option maxRecDepth 100000 in
theorem wc_X8_fits : Cond.code yX8_fits cX8_fits 3 (some .boolean) ∈ mw := mw_tab 853 rfl rfl
theorem wy_X8_fits : mCy zX8_fits 2 := ⟨wc_X8_fits, w_init_X8, by decide +kernel, by decide +kernel, by decide +kernel⟩
abbrev zX8_has : mY := (yX8_has, cX8_has, 2, (some .boolean))
set_option maxRecDepth 100000 in
theorem wc_X8_has : Cond.code yX8_has cX8_has 2 (some .boolean) ∈ mw := mw_tab 856 rfl rfl
theorem wy_X8_has : mCy zX8_has 2 := ⟨wc_X8_has, w_init_X8, by decide +kernel, by decide +kernel, by decide +kernel⟩
abbrev zX8_place : mY := (yX8_place, cX8_place, 2, (some .int))
set_option maxRecDepth 100000 in
theorem wc_X8_place : Cond.code yX8_place cX8_place 2 (some .int) ∈ mw := mw_tab 860 rfl rfl
theorem wy_X8_place : mCy zX8_place 1 := ⟨wc_X8_place, w_init_X8, by decide +kernel, by decide +kernel, by decide +kernel⟩
abbrev zX8_day : mY := (yX8_day, cX8_day, 2, (some .int))
set_option maxRecDepth 100000 in
theorem wc_X8_day : Cond.code yX8_day cX8_day 2 (some .int) ∈ mw := mw_tab 864 rfl rfl
theorem wy_X8_day : mCy zX8_day 1 := ⟨wc_X8_day, w_init_X8, by decide +kernel, by decide +kernel, by decide +kernel⟩
abbrev zX8_turn : mY := (yX8_turn, cX8_turn, 4, (some .int))
set_option maxRecDepth 100000 in
theorem wc_X8_turn : Cond.code yX8_turn cX8_turn 4 (some .int) ∈ mw := mw_tab 868 rfl rfl
theorem wy_X8_turn : mCy zX8_turn 2 := ⟨wc_X8_turn, w_init_X8, by decide +kernel, by decide +kernel, by decide +kernel⟩
abbrev zX8_know : mY := (yX8_know, cX8_know, 2, none)
set_option maxRecDepth 100000 in
theorem wc_X8_know : Cond.code yX8_know cX8_know 2 none ∈ mw := mw_tab 872 rfl rfl
theorem wy_X8_know : mCy zX8_know 0 := ⟨wc_X8_know, w_init_X8, by decide +kernel, by decide +kernel, by decide +kernel⟩
abbrev zX8_turnsTo : mY := (yX8_turnsTo, cX8_turnsTo, 2, (some .int))
set_option maxRecDepth 100000 in
theorem wc_X8_turnsTo : Cond.code yX8_turnsTo cX8_turnsTo 2 (some .int) ∈ mw := mw_tab 875 rfl rfl
theorem wy_X8_turnsTo : mCy zX8_turnsTo 2 := ⟨wc_X8_turnsTo, w_init_X8, by decide +kernel, by decide +kernel, by decide +kernel⟩
abbrev zX8_worked : mY := (yX8_worked, cX8_worked, 2, (some .int))
set_option maxRecDepth 100000 in
theorem wc_X8_worked : Cond.code yX8_worked cX8_worked 2 (some .int) ∈ mw := mw_tab 879 rfl rfl
theorem wy_X8_worked : mCy zX8_worked 1 := ⟨wc_X8_worked, w_init_X8, by decide +kernel, by decide +kernel, by decide +kernel⟩
abbrev zX8_changes : mY := (yX8_changes, cX8_changes, 4, (some .int))
set_option maxRecDepth 100000 in
theorem wc_X8_changes : Cond.code yX8_changes cX8_changes 4 (some .int) ∈ mw := mw_tab 883 rfl rfl
theorem wy_X8_changes : mCy zX8_changes 2 := ⟨wc_X8_changes, w_init_X8, by decide +kernel, by decide +kernel, by decide +kernel⟩
abbrev zX8_pastes : mY := (yX8_pastes, cX8_pastes, 5, (some .int))
set_option maxRecDepth 100000 in
theorem wc_X8_pastes : Cond.code yX8_pastes cX8_pastes 5 (some .int) ∈ mw := mw_tab 887 rfl rfl
theorem wy_X8_pastes : mCy zX8_pastes 3 := ⟨wc_X8_pastes, w_init_X8, by decide +kernel, by decide +kernel, by decide +kernel⟩
abbrev zX8_undo : mY := (yX8_undo, cX8_undo, 2, (some .int))
set_option maxRecDepth 100000 in
theorem wc_X8_undo : Cond.code yX8_undo cX8_undo 2 (some .int) ∈ mw := mw_tab 891 rfl rfl
theorem wy_X8_undo : mCy zX8_undo 0 := ⟨wc_X8_undo, w_init_X8, by decide +kernel, by decide +kernel, by decide +kernel⟩
abbrev zX8_now : mY := (yX8_now, cX8_now, 4, (some .int))
set_option maxRecDepth 100000 in
theorem wc_X8_now : Cond.code yX8_now cX8_now 4 (some .int) ∈ mw := mw_tab 895 rfl rfl
theorem wy_X8_now : mCy zX8_now 1 := ⟨wc_X8_now, w_init_X8, by decide +kernel, by decide +kernel, by decide +kernel⟩
abbrev zX8_inFront : mY := (yX8_inFront, cX8_inFront, 2, (some .int))
set_option maxRecDepth 100000 in
theorem wc_X8_inFront : Cond.code yX8_inFront cX8_inFront 2 (some .int) ∈ mw := mw_tab 899 rfl rfl
theorem wy_X8_inFront : mCy zX8_inFront 1 := ⟨wc_X8_inFront, w_init_X8, by decide +kernel, by decide +kernel, by decide +kernel⟩
abbrev zX8_number : mY := (yX8_number, cX8_number, 3, (some .int))
set_option maxRecDepth 100000 in
theorem wc_X8_number : Cond.code yX8_number cX8_number 3 (some .int) ∈ mw := mw_tab 903 rfl rfl
theorem wy_X8_number : mCy zX8_number 2 := ⟨wc_X8_number, w_init_X8, by decide +kernel, by decide +kernel, by decide +kernel⟩
abbrev zX8_isNumber : mY := (yX8_isNumber, cX8_isNumber, 2, (some .boolean))
set_option maxRecDepth 100000 in
theorem wc_X8_isNumber : Cond.code yX8_isNumber cX8_isNumber 2 (some .boolean) ∈ mw := mw_tab 907 rfl rfl
theorem wy_X8_isNumber : mCy zX8_isNumber 1 := ⟨wc_X8_isNumber, w_init_X8, by decide +kernel, by decide +kernel, by decide +kernel⟩
abbrev zX8_isTold : mY := (yX8_isTold, cX8_isTold, 4, (some .boolean))
set_option maxRecDepth 100000 in
theorem wc_X8_isTold : Cond.code yX8_isTold cX8_isTold 4 (some .boolean) ∈ mw := mw_tab 911 rfl rfl
theorem wy_X8_isTold : mCy zX8_isTold 1 := ⟨wc_X8_isTold, w_init_X8, by decide +kernel, by decide +kernel, by decide +kernel⟩
abbrev zX8_workFor : mY := (yX8_workFor, cX8_workFor, 12, (some .int))
set_option maxRecDepth 100000 in
theorem wc_X8_workFor : Cond.code yX8_workFor cX8_workFor 12 (some .int) ∈ mw := mw_tab 915 rfl rfl
theorem wy_X8_workFor : mCy zX8_workFor 2 := ⟨wc_X8_workFor, w_init_X8, by decide +kernel, by decide +kernel, by decide +kernel⟩
abbrev zX8_tellTurns : mY := (yX8_tellTurns, cX8_tellTurns, 10, none)
set_option maxRecDepth 100000 in
theorem wc_X8_tellTurns : Cond.code yX8_tellTurns cX8_tellTurns 10 none ∈ mw := mw_tab 919 rfl rfl
theorem wy_X8_tellTurns : mCy zX8_tellTurns 2 := ⟨wc_X8_tellTurns, w_init_X8, by decide +kernel, by decide +kernel, by decide +kernel⟩
abbrev zX8_turnsFor : mY := (yX8_turnsFor, cX8_turnsFor, 13, (some .int))
set_option maxRecDepth 100000 in
theorem wc_X8_turnsFor : Cond.code yX8_turnsFor cX8_turnsFor 13 (some .int) ∈ mw := mw_tab 923 rfl rfl
theorem wy_X8_turnsFor : mCy zX8_turnsFor 5 := ⟨wc_X8_turnsFor, w_init_X8, by decide +kernel, by decide +kernel, by decide +kernel⟩
abbrev zX8_orderNow : mY := (yX8_orderNow, cX8_orderNow, 3, (some .int))
set_option maxRecDepth 100000 in
theorem wc_X8_orderNow : Cond.code yX8_orderNow cX8_orderNow 3 (some .int) ∈ mw := mw_tab 928 rfl rfl
theorem wy_X8_orderNow : mCy zX8_orderNow 0 := ⟨wc_X8_orderNow, w_init_X8, by decide +kernel, by decide +kernel, by decide +kernel⟩
abbrev zX8_changesTo : mY := (yX8_changesTo, cX8_changesTo, 10, (some .int))
set_option maxRecDepth 100000 in
theorem wc_X8_changesTo : Cond.code yX8_changesTo cX8_changesTo 10 (some .int) ∈ mw := mw_tab 932 rfl rfl
theorem wy_X8_changesTo : mCy zX8_changesTo 2 := ⟨wc_X8_changesTo, w_init_X8, by decide +kernel, by decide +kernel, by decide +kernel⟩
abbrev zX8_workBy : mY := (yX8_workBy, cX8_workBy, 6, (some .int))
set_option maxRecDepth 100000 in
theorem wc_X8_workBy : Cond.code yX8_workBy cX8_workBy 6 (some .int) ∈ mw := mw_tab 936 rfl rfl
theorem wy_X8_workBy : mCy zX8_workBy 3 := ⟨wc_X8_workBy, w_init_X8, by decide +kernel, by decide +kernel, by decide +kernel⟩
abbrev zX8_placeIn : mY := (yX8_placeIn, cX8_placeIn, 5, (some .int))
set_option maxRecDepth 100000 in
theorem wc_X8_placeIn : Cond.code yX8_placeIn cX8_placeIn 5 (some .int) ∈ mw := mw_tab 940 rfl rfl
theorem wy_X8_placeIn : mCy zX8_placeIn 2 := ⟨wc_X8_placeIn, w_init_X8, by decide +kernel, by decide +kernel, by decide +kernel⟩
abbrev zX8_pastesFor : mY := (yX8_pastesFor, cX8_pastesFor, 6, (some .int))
set_option maxRecDepth 100000 in
theorem wc_X8_pastesFor : Cond.code yX8_pastesFor cX8_pastesFor 6 (some .int) ∈ mw := mw_tab 944 rfl rfl
theorem wy_X8_pastesFor : mCy zX8_pastesFor 1 := ⟨wc_X8_pastesFor, w_init_X8, by decide +kernel, by decide +kernel, by decide +kernel⟩
abbrev zX8_through : mY := (yX8_through, cX8_through, 3, (some .int))
set_option maxRecDepth 100000 in
theorem wc_X8_through : Cond.code yX8_through cX8_through 3 (some .int) ∈ mw := mw_tab 948 rfl rfl
theorem wy_X8_through : mCy zX8_through 2 := ⟨wc_X8_through, w_init_X8, by decide +kernel, by decide +kernel, by decide +kernel⟩
abbrev zX8_odds : mY := (yX8_odds, cX8_odds, 8, (some .int))
set_option maxRecDepth 100000 in
theorem wc_X8_odds : Cond.code yX8_odds cX8_odds 8 (some .int) ∈ mw := mw_tab 952 rfl rfl
theorem wy_X8_odds : mCy zX8_odds 2 := ⟨wc_X8_odds, w_init_X8, by decide +kernel, by decide +kernel, by decide +kernel⟩
abbrev zX8_isBy : mY := (yX8_isBy, cX8_isBy, 9, (some .boolean))
set_option maxRecDepth 100000 in
theorem wc_X8_isBy : Cond.code yX8_isBy cX8_isBy 9 (some .boolean) ∈ mw := mw_tab 956 rfl rfl
theorem wy_X8_isBy : mCy zX8_isBy 2 := ⟨wc_X8_isBy, w_init_X8, by decide +kernel, by decide +kernel, by decide +kernel⟩
abbrev zX8_sees : mY := (yX8_sees, cX8_sees, 3, (some .int))
set_option maxRecDepth 100000 in
theorem wc_X8_sees : Cond.code yX8_sees cX8_sees 3 (some .int) ∈ mw := mw_tab 960 rfl rfl
theorem wy_X8_sees : mCy zX8_sees 2 := ⟨wc_X8_sees, w_init_X8, by decide +kernel, by decide +kernel, by decide +kernel⟩
abbrev zX8_forget : mY := (yX8_forget, cX8_forget, 2, (some .int))
set_option maxRecDepth 100000 in
theorem wc_X8_forget : Cond.code yX8_forget cX8_forget 2 (some .int) ∈ mw := mw_tab 964 rfl rfl
theorem wy_X8_forget : mCy zX8_forget 0 := ⟨wc_X8_forget, w_init_X8, by decide +kernel, by decide +kernel, by decide +kernel⟩
abbrev zX8_which : mY := (yX8_which, cX8_which, 5, (some .int))
set_option maxRecDepth 100000 in
theorem wc_X8_which : Cond.code yX8_which cX8_which 5 (some .int) ∈ mw := mw_tab 968 rfl rfl
theorem wy_X8_which : mCy zX8_which 0 := ⟨wc_X8_which, w_init_X8, by decide +kernel, by decide +kernel, by decide +kernel⟩
abbrev zX8_look : mY := (yX8_look, cX8_look, 8, (some .int))
set_option maxRecDepth 100000 in
theorem wc_X8_look : Cond.code yX8_look cX8_look 8 (some .int) ∈ mw := mw_tab 972 rfl rfl
theorem wy_X8_look : mCy zX8_look 0 := ⟨wc_X8_look, w_init_X8, by decide +kernel, by decide +kernel, by decide +kernel⟩
abbrev zX8_bitsOf : mY := (yX8_bitsOf, cX8_bitsOf, 3, (some .int))
set_option maxRecDepth 100000 in
theorem wc_X8_bitsOf : Cond.code yX8_bitsOf cX8_bitsOf 3 (some .int) ∈ mw := mw_tab 976 rfl rfl
theorem wy_X8_bitsOf : mCy zX8_bitsOf 1 := ⟨wc_X8_bitsOf, w_init_X8, by decide +kernel, by decide +kernel, by decide +kernel⟩
abbrev zX8_mark : mY := (yX8_mark, cX8_mark, 7, (some .int))
set_option maxRecDepth 100000 in
theorem wc_X8_mark : Cond.code yX8_mark cX8_mark 7 (some .int) ∈ mw := mw_tab 980 rfl rfl
theorem wy_X8_mark : mCy zX8_mark 2 := ⟨wc_X8_mark, w_init_X8, by decide +kernel, by decide +kernel, by decide +kernel⟩
abbrev zX8_bodiesOf : mY := (yX8_bodiesOf, cX8_bodiesOf, 1, (some .int))
set_option maxRecDepth 100000 in
theorem wc_X8_bodiesOf : Cond.code yX8_bodiesOf cX8_bodiesOf 1 (some .int) ∈ mw := mw_tab 984 rfl rfl
theorem wy_X8_bodiesOf : mCy zX8_bodiesOf 1 := ⟨wc_X8_bodiesOf, w_init_X8, by decide +kernel, by decide +kernel, by decide +kernel⟩
abbrev zX8_trace : mY := (yX8_trace, cX8_trace, 1, (some .long))
set_option maxRecDepth 100000 in
theorem wc_X8_trace : Cond.code yX8_trace cX8_trace 1 (some .long) ∈ mw := mw_tab 989 rfl rfl
theorem wy_X8_trace : mCy zX8_trace 0 := ⟨wc_X8_trace, w_init_X8, by decide +kernel, by decide +kernel, by decide +kernel⟩
abbrev zX8_keep : mY := (yX8_keep, cX8_keep, 3, (some .int))
set_option maxRecDepth 100000 in
theorem wc_X8_keep : Cond.code yX8_keep cX8_keep 3 (some .int) ∈ mw := mw_tab 993 rfl rfl
theorem wy_X8_keep : mCy zX8_keep 1 := ⟨wc_X8_keep, w_init_X8, by decide +kernel, by decide +kernel, by decide +kernel⟩
abbrev zX8_back : mY := (yX8_back, cX8_back, 3, (some .int))
set_option maxRecDepth 100000 in
theorem wc_X8_back : Cond.code yX8_back cX8_back 3 (some .int) ∈ mw := mw_tab 997 rfl rfl
theorem wy_X8_back : mCy zX8_back 1 := ⟨wc_X8_back, w_init_X8, by decide +kernel, by decide +kernel, by decide +kernel⟩
abbrev zX8_count : mY := (yX8_count, cX8_count, 2, (some .int))
set_option maxRecDepth 100000 in
theorem wc_X8_count : Cond.code yX8_count cX8_count 2 (some .int) ∈ mw := mw_tab 1001 rfl rfl
theorem wy_X8_count : mCy zX8_count 1 := ⟨wc_X8_count, w_init_X8, by decide +kernel, by decide +kernel, by decide +kernel⟩
theorem wf_X0_0 : u_lay RX0 TX0 0 ∈ mw := mw_tab 212 (by decide +kernel) rfl
theorem wf_X0_1 : u_lay RX0 TX0 1 ∈ mw := mw_tab 214 (by decide +kernel) rfl
theorem wf_X0_2 : u_lay RX0 TX0 2 ∈ mw := mw_tab 216 (by decide +kernel) rfl
theorem wf_X0_3 : u_lay RX0 TX0 3 ∈ mw := mw_tab 218 (by decide +kernel) rfl
theorem wf_X0_4 : u_lay RX0 TX0 4 ∈ mw := mw_tab 220 (by decide +kernel) rfl
theorem wi_X0 : ∀ w ∈ u_ws RX0 TX0 5, w ∈ mw := by
  intro w hw
  obtain ⟨k, hk, rfl⟩ := List.mem_map.mp hw
  have hk := List.mem_range.mp hk
  match k, hk with
  | 0, _ => exact wf_X0_0
  | 1, _ => exact wf_X0_1
  | 2, _ => exact wf_X0_2
  | 3, _ => exact wf_X0_3
  | 4, _ => exact wf_X0_4
  | k + 5, hk => exact absurd hk (by omega)
theorem wf_X1_0 : u_lay RX1 TX1 0 ∈ mw := mw_tab 35 (by decide +kernel) rfl
theorem wf_X1_1 : u_lay RX1 TX1 1 ∈ mw := mw_tab 37 (by decide +kernel) rfl
theorem wf_X1_2 : u_lay RX1 TX1 2 ∈ mw := mw_tab 39 (by decide +kernel) rfl
theorem wf_X1_3 : u_lay RX1 TX1 3 ∈ mw := mw_tab 41 (by decide +kernel) rfl
theorem wf_X1_4 : u_lay RX1 TX1 4 ∈ mw := mw_tab 43 (by decide +kernel) rfl
theorem wf_X1_5 : u_lay RX1 TX1 5 ∈ mw := mw_tab 45 (by decide +kernel) rfl
theorem wi_X1 : ∀ w ∈ u_ws RX1 TX1 6, w ∈ mw := by
  intro w hw
  obtain ⟨k, hk, rfl⟩ := List.mem_map.mp hw
  have hk := List.mem_range.mp hk
  match k, hk with
  | 0, _ => exact wf_X1_0
  | 1, _ => exact wf_X1_1
  | 2, _ => exact wf_X1_2
  | 3, _ => exact wf_X1_3
  | 4, _ => exact wf_X1_4
  | 5, _ => exact wf_X1_5
  | k + 6, hk => exact absurd hk (by omega)
theorem wf_X2_0 : u_lay RX2 TX2 0 ∈ mw := mw_tab 138 (by decide +kernel) rfl
theorem wf_X2_1 : u_lay RX2 TX2 1 ∈ mw := mw_tab 140 (by decide +kernel) rfl
theorem wf_X2_2 : u_lay RX2 TX2 2 ∈ mw := mw_tab 142 (by decide +kernel) rfl
theorem wi_X2 : ∀ w ∈ u_ws RX2 TX2 3, w ∈ mw := by
  intro w hw
  obtain ⟨k, hk, rfl⟩ := List.mem_map.mp hw
  have hk := List.mem_range.mp hk
  match k, hk with
  | 0, _ => exact wf_X2_0
  | 1, _ => exact wf_X2_1
  | 2, _ => exact wf_X2_2
  | k + 3, hk => exact absurd hk (by omega)
theorem wf_X3_0 : u_lay RX3 TX3 0 ∈ mw := mw_tab 114 (by decide +kernel) rfl
theorem wf_X3_1 : u_lay RX3 TX3 1 ∈ mw := mw_tab 116 (by decide +kernel) rfl
theorem wf_X3_2 : u_lay RX3 TX3 2 ∈ mw := mw_tab 118 (by decide +kernel) rfl
theorem wf_X3_3 : u_lay RX3 TX3 3 ∈ mw := mw_tab 120 (by decide +kernel) rfl
theorem wf_X3_4 : u_lay RX3 TX3 4 ∈ mw := mw_tab 122 (by decide +kernel) rfl
theorem wf_X3_5 : u_lay RX3 TX3 5 ∈ mw := mw_tab 124 (by decide +kernel) rfl
theorem wi_X3 : ∀ w ∈ u_ws RX3 TX3 6, w ∈ mw := by
  intro w hw
  obtain ⟨k, hk, rfl⟩ := List.mem_map.mp hw
  have hk := List.mem_range.mp hk
  match k, hk with
  | 0, _ => exact wf_X3_0
  | 1, _ => exact wf_X3_1
  | 2, _ => exact wf_X3_2
  | 3, _ => exact wf_X3_3
  | 4, _ => exact wf_X3_4
  | 5, _ => exact wf_X3_5
  | k + 6, hk => exact absurd hk (by omega)
theorem wf_X4_0 : u_lay RX4 TX4 0 ∈ mw := mw_tab 154 (by decide +kernel) rfl
theorem wf_X4_1 : u_lay RX4 TX4 1 ∈ mw := mw_tab 156 (by decide +kernel) rfl
theorem wi_X4 : ∀ w ∈ u_ws RX4 TX4 2, w ∈ mw := by
  intro w hw
  obtain ⟨k, hk, rfl⟩ := List.mem_map.mp hw
  have hk := List.mem_range.mp hk
  match k, hk with
  | 0, _ => exact wf_X4_0
  | 1, _ => exact wf_X4_1
  | k + 2, hk => exact absurd hk (by omega)
theorem wf_X5_0 : u_lay RX5 TX5 0 ∈ mw := mw_tab 79 (by decide +kernel) rfl
theorem wf_X5_1 : u_lay RX5 TX5 1 ∈ mw := mw_tab 81 (by decide +kernel) rfl
theorem wf_X5_2 : u_lay RX5 TX5 2 ∈ mw := mw_tab 83 (by decide +kernel) rfl
theorem wf_X5_3 : u_lay RX5 TX5 3 ∈ mw := mw_tab 85 (by decide +kernel) rfl
theorem wf_X5_4 : u_lay RX5 TX5 4 ∈ mw := mw_tab 87 (by decide +kernel) rfl
theorem wf_X5_5 : u_lay RX5 TX5 5 ∈ mw := mw_tab 89 (by decide +kernel) rfl
theorem wi_X5 : ∀ w ∈ u_ws RX5 TX5 6, w ∈ mw := by
  intro w hw
  obtain ⟨k, hk, rfl⟩ := List.mem_map.mp hw
  have hk := List.mem_range.mp hk
  match k, hk with
  | 0, _ => exact wf_X5_0
  | 1, _ => exact wf_X5_1
  | 2, _ => exact wf_X5_2
  | 3, _ => exact wf_X5_3
  | 4, _ => exact wf_X5_4
  | 5, _ => exact wf_X5_5
  | k + 6, hk => exact absurd hk (by omega)
theorem wf_X6_0 : u_lay RX6 TX6 0 ∈ mw := mw_tab 176 (by decide +kernel) rfl
theorem wf_X6_1 : u_lay RX6 TX6 1 ∈ mw := mw_tab 178 (by decide +kernel) rfl
theorem wf_X6_2 : u_lay RX6 TX6 2 ∈ mw := mw_tab 180 (by decide +kernel) rfl
theorem wf_X6_3 : u_lay RX6 TX6 3 ∈ mw := mw_tab 182 (by decide +kernel) rfl
theorem wf_X6_4 : u_lay RX6 TX6 4 ∈ mw := mw_tab 184 (by decide +kernel) rfl
theorem wf_X6_5 : u_lay RX6 TX6 5 ∈ mw := mw_tab 186 (by decide +kernel) rfl
theorem wf_X6_6 : u_lay RX6 TX6 6 ∈ mw := mw_tab 188 (by decide +kernel) rfl
theorem wf_X6_7 : u_lay RX6 TX6 7 ∈ mw := mw_tab 190 (by decide +kernel) rfl
theorem wf_X6_8 : u_lay RX6 TX6 8 ∈ mw := mw_tab 192 (by decide +kernel) rfl
theorem wf_X6_9 : u_lay RX6 TX6 9 ∈ mw := mw_tab 194 (by decide +kernel) rfl
theorem wf_X6_10 : u_lay RX6 TX6 10 ∈ mw := mw_tab 196 (by decide +kernel) rfl
theorem wi_X6 : ∀ w ∈ u_ws RX6 TX6 11, w ∈ mw := by
  intro w hw
  obtain ⟨k, hk, rfl⟩ := List.mem_map.mp hw
  have hk := List.mem_range.mp hk
  match k, hk with
  | 0, _ => exact wf_X6_0
  | 1, _ => exact wf_X6_1
  | 2, _ => exact wf_X6_2
  | 3, _ => exact wf_X6_3
  | 4, _ => exact wf_X6_4
  | 5, _ => exact wf_X6_5
  | 6, _ => exact wf_X6_6
  | 7, _ => exact wf_X6_7
  | 8, _ => exact wf_X6_8
  | 9, _ => exact wf_X6_9
  | 10, _ => exact wf_X6_10
  | k + 11, hk => exact absurd hk (by omega)
theorem wf_X7_0 : u_lay RX7 TX7 0 ∈ mw := mw_tab 234 (by decide +kernel) rfl
theorem wf_X7_1 : u_lay RX7 TX7 1 ∈ mw := mw_tab 236 (by decide +kernel) rfl
theorem wf_X7_2 : u_lay RX7 TX7 2 ∈ mw := mw_tab 238 (by decide +kernel) rfl
theorem wf_X7_3 : u_lay RX7 TX7 3 ∈ mw := mw_tab 240 (by decide +kernel) rfl
theorem wf_X7_4 : u_lay RX7 TX7 4 ∈ mw := mw_tab 242 (by decide +kernel) rfl
theorem wf_X7_5 : u_lay RX7 TX7 5 ∈ mw := mw_tab 244 (by decide +kernel) rfl
theorem wf_X7_6 : u_lay RX7 TX7 6 ∈ mw := mw_tab 246 (by decide +kernel) rfl
theorem wf_X7_7 : u_lay RX7 TX7 7 ∈ mw := mw_tab 248 (by decide +kernel) rfl
theorem wf_X7_8 : u_lay RX7 TX7 8 ∈ mw := mw_tab 250 (by decide +kernel) rfl
theorem wf_X7_9 : u_lay RX7 TX7 9 ∈ mw := mw_tab 252 (by decide +kernel) rfl
theorem wf_X7_10 : u_lay RX7 TX7 10 ∈ mw := mw_tab 254 (by decide +kernel) rfl
theorem wi_X7 : ∀ w ∈ u_ws RX7 TX7 11, w ∈ mw := by
  intro w hw
  obtain ⟨k, hk, rfl⟩ := List.mem_map.mp hw
  have hk := List.mem_range.mp hk
  match k, hk with
  | 0, _ => exact wf_X7_0
  | 1, _ => exact wf_X7_1
  | 2, _ => exact wf_X7_2
  | 3, _ => exact wf_X7_3
  | 4, _ => exact wf_X7_4
  | 5, _ => exact wf_X7_5
  | 6, _ => exact wf_X7_6
  | 7, _ => exact wf_X7_7
  | 8, _ => exact wf_X7_8
  | 9, _ => exact wf_X7_9
  | 10, _ => exact wf_X7_10
  | k + 11, hk => exact absurd hk (by omega)
theorem wf_X8_0 : u_lay RX8 TX8 0 ∈ mw := mw_tab 709 (by decide +kernel) rfl
theorem wf_X8_1 : u_lay RX8 TX8 1 ∈ mw := mw_tab 711 (by decide +kernel) rfl
theorem wf_X8_2 : u_lay RX8 TX8 2 ∈ mw := mw_tab 713 (by decide +kernel) rfl
theorem wf_X8_3 : u_lay RX8 TX8 3 ∈ mw := mw_tab 715 (by decide +kernel) rfl
theorem wf_X8_4 : u_lay RX8 TX8 4 ∈ mw := mw_tab 717 (by decide +kernel) rfl
theorem wf_X8_5 : u_lay RX8 TX8 5 ∈ mw := mw_tab 719 (by decide +kernel) rfl
theorem wf_X8_6 : u_lay RX8 TX8 6 ∈ mw := mw_tab 721 (by decide +kernel) rfl
theorem wf_X8_7 : u_lay RX8 TX8 7 ∈ mw := mw_tab 723 (by decide +kernel) rfl
theorem wf_X8_8 : u_lay RX8 TX8 8 ∈ mw := mw_tab 725 (by decide +kernel) rfl
theorem wf_X8_9 : u_lay RX8 TX8 9 ∈ mw := mw_tab 727 (by decide +kernel) rfl
theorem wf_X8_10 : u_lay RX8 TX8 10 ∈ mw := mw_tab 729 (by decide +kernel) rfl
theorem wf_X8_11 : u_lay RX8 TX8 11 ∈ mw := mw_tab 731 (by decide +kernel) rfl
theorem wf_X8_12 : u_lay RX8 TX8 12 ∈ mw := mw_tab 733 (by decide +kernel) rfl
theorem wf_X8_13 : u_lay RX8 TX8 13 ∈ mw := mw_tab 735 (by decide +kernel) rfl
theorem wf_X8_14 : u_lay RX8 TX8 14 ∈ mw := mw_tab 737 (by decide +kernel) rfl
theorem wf_X8_15 : u_lay RX8 TX8 15 ∈ mw := mw_tab 739 (by decide +kernel) rfl
theorem wf_X8_16 : u_lay RX8 TX8 16 ∈ mw := mw_tab 741 (by decide +kernel) rfl
theorem wf_X8_17 : u_lay RX8 TX8 17 ∈ mw := mw_tab 743 (by decide +kernel) rfl
theorem wf_X8_18 : u_lay RX8 TX8 18 ∈ mw := mw_tab 745 (by decide +kernel) rfl
theorem wf_X8_19 : u_lay RX8 TX8 19 ∈ mw := mw_tab 747 (by decide +kernel) rfl
theorem wf_X8_20 : u_lay RX8 TX8 20 ∈ mw := mw_tab 749 (by decide +kernel) rfl
theorem wf_X8_21 : u_lay RX8 TX8 21 ∈ mw := mw_tab 751 (by decide +kernel) rfl
theorem wf_X8_22 : u_lay RX8 TX8 22 ∈ mw := mw_tab 753 (by decide +kernel) rfl
theorem wf_X8_23 : u_lay RX8 TX8 23 ∈ mw := mw_tab 755 (by decide +kernel) rfl
theorem wf_X8_24 : u_lay RX8 TX8 24 ∈ mw := mw_tab 757 (by decide +kernel) rfl
theorem wi_X8 : ∀ w ∈ u_ws RX8 TX8 25, w ∈ mw := by
  intro w hw
  obtain ⟨k, hk, rfl⟩ := List.mem_map.mp hw
  have hk := List.mem_range.mp hk
  match k, hk with
  | 0, _ => exact wf_X8_0
  | 1, _ => exact wf_X8_1
  | 2, _ => exact wf_X8_2
  | 3, _ => exact wf_X8_3
  | 4, _ => exact wf_X8_4
  | 5, _ => exact wf_X8_5
  | 6, _ => exact wf_X8_6
  | 7, _ => exact wf_X8_7
  | 8, _ => exact wf_X8_8
  | 9, _ => exact wf_X8_9
  | 10, _ => exact wf_X8_10
  | 11, _ => exact wf_X8_11
  | 12, _ => exact wf_X8_12
  | 13, _ => exact wf_X8_13
  | 14, _ => exact wf_X8_14
  | 15, _ => exact wf_X8_15
  | 16, _ => exact wf_X8_16
  | 17, _ => exact wf_X8_17
  | 18, _ => exact wf_X8_18
  | 19, _ => exact wf_X8_19
  | 20, _ => exact wf_X8_20
  | 21, _ => exact wf_X8_21
  | 22, _ => exact wf_X8_22
  | 23, _ => exact wf_X8_23
  | 24, _ => exact wf_X8_24
  | k + 25, hk => exact absurd hk (by omega)
theorem wl_X1_9 : Cond.fieldLink RX1 9 (TX1 0).1 (TX1 0).2.1 (TX1 0).2.2.1 ∈ mw := mw_tab 28 (by decide +kernel) rfl
theorem fX1_9 : mFd RX1 9 1 0 := ⟨_, _, _, rfl, wi_X1, by decide, wl_X1_9⟩
theorem pX1_9 : mPd RX1 9 1 0 (.array .int) true := ⟨_, _, _, tyX1, rfl, wi_X1, by decide, wl_X1_9, tyX1_ok, nmX1, rfl, rfl, fun _ => by decide +kernel⟩
theorem wl_X1_15 : Cond.fieldLink RX1 15 (TX1 1).1 (TX1 1).2.1 (TX1 1).2.2.1 ∈ mw := mw_tab 29 (by decide +kernel) rfl
theorem fX1_15 : mFd RX1 15 1 1 := ⟨_, _, _, rfl, wi_X1, by decide, wl_X1_15⟩
theorem pX1_15 : mPd RX1 15 1 1 .int false := ⟨_, _, _, tyX1, rfl, wi_X1, by decide, wl_X1_15, tyX1_ok, nmX1, rfl, rfl, fun q => by cases q⟩
theorem wl_X7_69 : Cond.fieldLink RX7 69 (TX1 1).1 (TX1 1).2.1 (TX1 1).2.2.1 ∈ mw := mw_tab 30 (by decide +kernel) rfl
theorem fX7_69 : mFd RX7 69 1 1 := ⟨_, _, _, rfl, wi_X1, by decide, wl_X7_69⟩
theorem pX7_69 : mPd RX7 69 1 1 .int false := ⟨_, _, _, tyX1, rfl, wi_X1, by decide, wl_X7_69, tyX1_ok, nmX1, rfl, rfl, fun q => by cases q⟩
theorem wl_X1_24 : Cond.fieldLink RX1 24 (TX1 2).1 (TX1 2).2.1 (TX1 2).2.2.1 ∈ mw := mw_tab 31 (by decide +kernel) rfl
theorem fX1_24 : mFd RX1 24 1 2 := ⟨_, _, _, rfl, wi_X1, by decide, wl_X1_24⟩
theorem pX1_24 : mPd RX1 24 1 2 .int false := ⟨_, _, _, tyX1, rfl, wi_X1, by decide, wl_X1_24, tyX1_ok, nmX1, rfl, rfl, fun q => by cases q⟩
theorem wl_X1_30 : Cond.fieldLink RX1 30 (TX1 3).1 (TX1 3).2.1 (TX1 3).2.2.1 ∈ mw := mw_tab 32 (by decide +kernel) rfl
theorem fX1_30 : mFd RX1 30 1 3 := ⟨_, _, _, rfl, wi_X1, by decide, wl_X1_30⟩
theorem pX1_30 : mPd RX1 30 1 3 .int false := ⟨_, _, _, tyX1, rfl, wi_X1, by decide, wl_X1_30, tyX1_ok, nmX1, rfl, rfl, fun q => by cases q⟩
theorem wl_X1_37 : Cond.fieldLink RX1 37 (TX1 4).1 (TX1 4).2.1 (TX1 4).2.2.1 ∈ mw := mw_tab 33 (by decide +kernel) rfl
theorem fX1_37 : mFd RX1 37 1 4 := ⟨_, _, _, rfl, wi_X1, by decide, wl_X1_37⟩
theorem pX1_37 : mPd RX1 37 1 4 .int false := ⟨_, _, _, tyX1, rfl, wi_X1, by decide, wl_X1_37, tyX1_ok, nmX1, rfl, rfl, fun q => by cases q⟩
theorem wl_X1_43 : Cond.fieldLink RX1 43 (TX1 5).1 (TX1 5).2.1 (TX1 5).2.2.1 ∈ mw := mw_tab 34 (by decide +kernel) rfl
theorem fX1_43 : mFd RX1 43 1 5 := ⟨_, _, _, rfl, wi_X1, by decide, wl_X1_43⟩
theorem pX1_43 : mPd RX1 43 1 5 .int false := ⟨_, _, _, tyX1, rfl, wi_X1, by decide, wl_X1_43, tyX1_ok, nmX1, rfl, rfl, fun q => by cases q⟩
theorem wl_X5_9 : Cond.fieldLink RX5 9 (TX5 0).1 (TX5 0).2.1 (TX5 0).2.2.1 ∈ mw := mw_tab 55 (by decide +kernel) rfl
theorem fX5_9 : mFd RX5 9 5 0 := ⟨_, _, _, rfl, wi_X5, by decide, wl_X5_9⟩
theorem pX5_9 : mPd RX5 9 5 0 (.array .int) true := ⟨_, _, _, tyX5, rfl, wi_X5, by decide, wl_X5_9, tyX5_ok, nmX5, rfl, rfl, fun _ => by decide +kernel⟩
theorem wl_X3_24 : Cond.fieldLink RX3 24 (TX5 0).1 (TX5 0).2.1 (TX5 0).2.2.1 ∈ mw := mw_tab 56 (by decide +kernel) rfl
theorem fX3_24 : mFd RX3 24 5 0 := ⟨_, _, _, rfl, wi_X5, by decide, wl_X3_24⟩
theorem wl_X1_66 : Cond.fieldLink RX1 66 (TX5 0).1 (TX5 0).2.1 (TX5 0).2.2.1 ∈ mw := mw_tab 57 (by decide +kernel) rfl
theorem fX1_66 : mFd RX1 66 5 0 := ⟨_, _, _, rfl, wi_X5, by decide, wl_X1_66⟩
theorem wl_X5_15 : Cond.fieldLink RX5 15 (TX5 1).1 (TX5 1).2.1 (TX5 1).2.2.1 ∈ mw := mw_tab 58 (by decide +kernel) rfl
theorem fX5_15 : mFd RX5 15 5 1 := ⟨_, _, _, rfl, wi_X5, by decide, wl_X5_15⟩
theorem pX5_15 : mPd RX5 15 5 1 (.array .int) true := ⟨_, _, _, tyX5, rfl, wi_X5, by decide, wl_X5_15, tyX5_ok, nmX5, rfl, rfl, fun _ => by decide +kernel⟩
theorem wl_X4_44 : Cond.fieldLink RX4 44 (TX5 1).1 (TX5 1).2.1 (TX5 1).2.2.1 ∈ mw := mw_tab 59 (by decide +kernel) rfl
theorem fX4_44 : mFd RX4 44 5 1 := ⟨_, _, _, rfl, wi_X5, by decide, wl_X4_44⟩
theorem wl_X1_76 : Cond.fieldLink RX1 76 (TX5 1).1 (TX5 1).2.1 (TX5 1).2.2.1 ∈ mw := mw_tab 60 (by decide +kernel) rfl
theorem fX1_76 : mFd RX1 76 5 1 := ⟨_, _, _, rfl, wi_X5, by decide, wl_X1_76⟩
theorem wl_X7_130 : Cond.fieldLink RX7 130 (TX5 1).1 (TX5 1).2.1 (TX5 1).2.2.1 ∈ mw := mw_tab 61 (by decide +kernel) rfl
theorem fX7_130 : mFd RX7 130 5 1 := ⟨_, _, _, rfl, wi_X5, by decide, wl_X7_130⟩
theorem wl_X5_18 : Cond.fieldLink RX5 18 (TX5 2).1 (TX5 2).2.1 (TX5 2).2.2.1 ∈ mw := mw_tab 62 (by decide +kernel) rfl
theorem fX5_18 : mFd RX5 18 5 2 := ⟨_, _, _, rfl, wi_X5, by decide, wl_X5_18⟩
theorem pX5_18 : mPd RX5 18 5 2 .int false := ⟨_, _, _, tyX5, rfl, wi_X5, by decide, wl_X5_18, tyX5_ok, nmX5, rfl, rfl, fun q => by cases q⟩
theorem wl_X4_15 : Cond.fieldLink RX4 15 (TX5 2).1 (TX5 2).2.1 (TX5 2).2.2.1 ∈ mw := mw_tab 63 (by decide +kernel) rfl
theorem fX4_15 : mFd RX4 15 5 2 := ⟨_, _, _, rfl, wi_X5, by decide, wl_X4_15⟩
theorem pX4_15 : mPd RX4 15 5 2 .int false := ⟨_, _, _, tyX5, rfl, wi_X5, by decide, wl_X4_15, tyX5_ok, nmX5, rfl, rfl, fun q => by cases q⟩
theorem wl_X6_38 : Cond.fieldLink RX6 38 (TX5 2).1 (TX5 2).2.1 (TX5 2).2.2.1 ∈ mw := mw_tab 64 (by decide +kernel) rfl
theorem fX6_38 : mFd RX6 38 5 2 := ⟨_, _, _, rfl, wi_X5, by decide, wl_X6_38⟩
theorem pX6_38 : mPd RX6 38 5 2 .int false := ⟨_, _, _, tyX5, rfl, wi_X5, by decide, wl_X6_38, tyX5_ok, nmX5, rfl, rfl, fun q => by cases q⟩
theorem wl_X0_29 : Cond.fieldLink RX0 29 (TX5 2).1 (TX5 2).2.1 (TX5 2).2.2.1 ∈ mw := mw_tab 65 (by decide +kernel) rfl
theorem fX0_29 : mFd RX0 29 5 2 := ⟨_, _, _, rfl, wi_X5, by decide, wl_X0_29⟩
theorem pX0_29 : mPd RX0 29 5 2 .int false := ⟨_, _, _, tyX5, rfl, wi_X5, by decide, wl_X0_29, tyX5_ok, nmX5, rfl, rfl, fun q => by cases q⟩
theorem wl_X1_59 : Cond.fieldLink RX1 59 (TX5 2).1 (TX5 2).2.1 (TX5 2).2.2.1 ∈ mw := mw_tab 66 (by decide +kernel) rfl
theorem fX1_59 : mFd RX1 59 5 2 := ⟨_, _, _, rfl, wi_X5, by decide, wl_X1_59⟩
theorem pX1_59 : mPd RX1 59 5 2 .int false := ⟨_, _, _, tyX5, rfl, wi_X5, by decide, wl_X1_59, tyX5_ok, nmX5, rfl, rfl, fun q => by cases q⟩
theorem wl_X7_200 : Cond.fieldLink RX7 200 (TX5 2).1 (TX5 2).2.1 (TX5 2).2.2.1 ∈ mw := mw_tab 67 (by decide +kernel) rfl
theorem fX7_200 : mFd RX7 200 5 2 := ⟨_, _, _, rfl, wi_X5, by decide, wl_X7_200⟩
theorem pX7_200 : mPd RX7 200 5 2 .int false := ⟨_, _, _, tyX5, rfl, wi_X5, by decide, wl_X7_200, tyX5_ok, nmX5, rfl, rfl, fun q => by cases q⟩
theorem wl_X5_22 : Cond.fieldLink RX5 22 (TX5 3).1 (TX5 3).2.1 (TX5 3).2.2.1 ∈ mw := mw_tab 68 (by decide +kernel) rfl
theorem fX5_22 : mFd RX5 22 5 3 := ⟨_, _, _, rfl, wi_X5, by decide, wl_X5_22⟩
theorem pX5_22 : mPd RX5 22 5 3 .int false := ⟨_, _, _, tyX5, rfl, wi_X5, by decide, wl_X5_22, tyX5_ok, nmX5, rfl, rfl, fun q => by cases q⟩
theorem wl_X4_41 : Cond.fieldLink RX4 41 (TX5 3).1 (TX5 3).2.1 (TX5 3).2.2.1 ∈ mw := mw_tab 69 (by decide +kernel) rfl
theorem fX4_41 : mFd RX4 41 5 3 := ⟨_, _, _, rfl, wi_X5, by decide, wl_X4_41⟩
theorem pX4_41 : mPd RX4 41 5 3 .int false := ⟨_, _, _, tyX5, rfl, wi_X5, by decide, wl_X4_41, tyX5_ok, nmX5, rfl, rfl, fun q => by cases q⟩
theorem wl_X1_69 : Cond.fieldLink RX1 69 (TX5 3).1 (TX5 3).2.1 (TX5 3).2.2.1 ∈ mw := mw_tab 70 (by decide +kernel) rfl
theorem fX1_69 : mFd RX1 69 5 3 := ⟨_, _, _, rfl, wi_X5, by decide, wl_X1_69⟩
theorem pX1_69 : mPd RX1 69 5 3 .int false := ⟨_, _, _, tyX5, rfl, wi_X5, by decide, wl_X1_69, tyX5_ok, nmX5, rfl, rfl, fun q => by cases q⟩
theorem wl_X7_127 : Cond.fieldLink RX7 127 (TX5 3).1 (TX5 3).2.1 (TX5 3).2.2.1 ∈ mw := mw_tab 71 (by decide +kernel) rfl
theorem fX7_127 : mFd RX7 127 5 3 := ⟨_, _, _, rfl, wi_X5, by decide, wl_X7_127⟩
theorem pX7_127 : mPd RX7 127 5 3 .int false := ⟨_, _, _, tyX5, rfl, wi_X5, by decide, wl_X7_127, tyX5_ok, nmX5, rfl, rfl, fun q => by cases q⟩
theorem wl_X5_25 : Cond.fieldLink RX5 25 (TX5 4).1 (TX5 4).2.1 (TX5 4).2.2.1 ∈ mw := mw_tab 72 (by decide +kernel) rfl
theorem fX5_25 : mFd RX5 25 5 4 := ⟨_, _, _, rfl, wi_X5, by decide, wl_X5_25⟩
theorem pX5_25 : mPd RX5 25 5 4 .int false := ⟨_, _, _, tyX5, rfl, wi_X5, by decide, wl_X5_25, tyX5_ok, nmX5, rfl, rfl, fun q => by cases q⟩
theorem wl_X1_40 : Cond.fieldLink RX1 40 (TX5 4).1 (TX5 4).2.1 (TX5 4).2.2.1 ∈ mw := mw_tab 73 (by decide +kernel) rfl
theorem fX1_40 : mFd RX1 40 5 4 := ⟨_, _, _, rfl, wi_X5, by decide, wl_X1_40⟩
theorem pX1_40 : mPd RX1 40 5 4 .int false := ⟨_, _, _, tyX5, rfl, wi_X5, by decide, wl_X1_40, tyX5_ok, nmX5, rfl, rfl, fun q => by cases q⟩
theorem wl_X7_94 : Cond.fieldLink RX7 94 (TX5 4).1 (TX5 4).2.1 (TX5 4).2.2.1 ∈ mw := mw_tab 74 (by decide +kernel) rfl
theorem fX7_94 : mFd RX7 94 5 4 := ⟨_, _, _, rfl, wi_X5, by decide, wl_X7_94⟩
theorem pX7_94 : mPd RX7 94 5 4 .int false := ⟨_, _, _, tyX5, rfl, wi_X5, by decide, wl_X7_94, tyX5_ok, nmX5, rfl, rfl, fun q => by cases q⟩
theorem wl_X5_28 : Cond.fieldLink RX5 28 (TX5 5).1 (TX5 5).2.1 (TX5 5).2.2.1 ∈ mw := mw_tab 75 (by decide +kernel) rfl
theorem fX5_28 : mFd RX5 28 5 5 := ⟨_, _, _, rfl, wi_X5, by decide, wl_X5_28⟩
theorem pX5_28 : mPd RX5 28 5 5 .boolean false := ⟨_, _, _, tyX5, rfl, wi_X5, by decide, wl_X5_28, tyX5_ok, nmX5, rfl, rfl, fun q => by cases q⟩
theorem wl_X4_33 : Cond.fieldLink RX4 33 (TX5 5).1 (TX5 5).2.1 (TX5 5).2.2.1 ∈ mw := mw_tab 76 (by decide +kernel) rfl
theorem fX4_33 : mFd RX4 33 5 5 := ⟨_, _, _, rfl, wi_X5, by decide, wl_X4_33⟩
theorem pX4_33 : mPd RX4 33 5 5 .boolean false := ⟨_, _, _, tyX5, rfl, wi_X5, by decide, wl_X4_33, tyX5_ok, nmX5, rfl, rfl, fun q => by cases q⟩
theorem wl_X1_55 : Cond.fieldLink RX1 55 (TX5 5).1 (TX5 5).2.1 (TX5 5).2.2.1 ∈ mw := mw_tab 77 (by decide +kernel) rfl
theorem fX1_55 : mFd RX1 55 5 5 := ⟨_, _, _, rfl, wi_X5, by decide, wl_X1_55⟩
theorem pX1_55 : mPd RX1 55 5 5 .boolean false := ⟨_, _, _, tyX5, rfl, wi_X5, by decide, wl_X1_55, tyX5_ok, nmX5, rfl, rfl, fun q => by cases q⟩
theorem wl_X7_221 : Cond.fieldLink RX7 221 (TX5 5).1 (TX5 5).2.1 (TX5 5).2.2.1 ∈ mw := mw_tab 78 (by decide +kernel) rfl
theorem fX7_221 : mFd RX7 221 5 5 := ⟨_, _, _, rfl, wi_X5, by decide, wl_X7_221⟩
theorem pX7_221 : mPd RX7 221 5 5 .boolean false := ⟨_, _, _, tyX5, rfl, wi_X5, by decide, wl_X7_221, tyX5_ok, nmX5, rfl, rfl, fun q => by cases q⟩
theorem wl_X3_9 : Cond.fieldLink RX3 9 (TX3 0).1 (TX3 0).2.1 (TX3 0).2.2.1 ∈ mw := mw_tab 98 (by decide +kernel) rfl
theorem fX3_9 : mFd RX3 9 3 0 := ⟨_, _, _, rfl, wi_X3, by decide, wl_X3_9⟩
theorem pX3_9 : mPd RX3 9 3 0 (.array .int) true := ⟨_, _, _, tyX3, rfl, wi_X3, by decide, wl_X3_9, tyX3_ok, nmX3, rfl, rfl, fun _ => by decide +kernel⟩
theorem wl_X4_28 : Cond.fieldLink RX4 28 (TX3 0).1 (TX3 0).2.1 (TX3 0).2.2.1 ∈ mw := mw_tab 99 (by decide +kernel) rfl
theorem fX4_28 : mFd RX4 28 3 0 := ⟨_, _, _, rfl, wi_X3, by decide, wl_X4_28⟩
theorem wl_X0_54 : Cond.fieldLink RX0 54 (TX3 0).1 (TX3 0).2.1 (TX3 0).2.2.1 ∈ mw := mw_tab 100 (by decide +kernel) rfl
theorem fX0_54 : mFd RX0 54 3 0 := ⟨_, _, _, rfl, wi_X3, by decide, wl_X0_54⟩
theorem wl_X7_104 : Cond.fieldLink RX7 104 (TX3 0).1 (TX3 0).2.1 (TX3 0).2.2.1 ∈ mw := mw_tab 101 (by decide +kernel) rfl
theorem fX7_104 : mFd RX7 104 3 0 := ⟨_, _, _, rfl, wi_X3, by decide, wl_X7_104⟩
theorem wl_X6_81 : Cond.fieldLink RX6 81 (TX3 0).1 (TX3 0).2.1 (TX3 0).2.2.1 ∈ mw := mw_tab 102 (by decide +kernel) rfl
theorem fX6_81 : mFd RX6 81 3 0 := ⟨_, _, _, rfl, wi_X3, by decide, wl_X6_81⟩
theorem wl_X3_15 : Cond.fieldLink RX3 15 (TX3 1).1 (TX3 1).2.1 (TX3 1).2.2.1 ∈ mw := mw_tab 103 (by decide +kernel) rfl
theorem fX3_15 : mFd RX3 15 3 1 := ⟨_, _, _, rfl, wi_X3, by decide, wl_X3_15⟩
theorem pX3_15 : mPd RX3 15 3 1 (.array .int) true := ⟨_, _, _, tyX3, rfl, wi_X3, by decide, wl_X3_15, tyX3_ok, nmX3, rfl, rfl, fun _ => by decide +kernel⟩
theorem wl_X6_56 : Cond.fieldLink RX6 56 (TX3 1).1 (TX3 1).2.1 (TX3 1).2.2.1 ∈ mw := mw_tab 104 (by decide +kernel) rfl
theorem fX6_56 : mFd RX6 56 3 1 := ⟨_, _, _, rfl, wi_X3, by decide, wl_X6_56⟩
theorem wl_X7_124 : Cond.fieldLink RX7 124 (TX3 1).1 (TX3 1).2.1 (TX3 1).2.2.1 ∈ mw := mw_tab 105 (by decide +kernel) rfl
theorem fX7_124 : mFd RX7 124 3 1 := ⟨_, _, _, rfl, wi_X3, by decide, wl_X7_124⟩
theorem wl_X3_18 : Cond.fieldLink RX3 18 (TX3 2).1 (TX3 2).2.1 (TX3 2).2.2.1 ∈ mw := mw_tab 106 (by decide +kernel) rfl
theorem fX3_18 : mFd RX3 18 3 2 := ⟨_, _, _, rfl, wi_X3, by decide, wl_X3_18⟩
theorem pX3_18 : mPd RX3 18 3 2 (.array .int) true := ⟨_, _, _, tyX3, rfl, wi_X3, by decide, wl_X3_18, tyX3_ok, nmX3, rfl, rfl, fun _ => by decide +kernel⟩
theorem wl_X6_66 : Cond.fieldLink RX6 66 (TX3 2).1 (TX3 2).2.1 (TX3 2).2.2.1 ∈ mw := mw_tab 107 (by decide +kernel) rfl
theorem fX6_66 : mFd RX6 66 3 2 := ⟨_, _, _, rfl, wi_X3, by decide, wl_X6_66⟩
theorem wl_X7_112 : Cond.fieldLink RX7 112 (TX3 2).1 (TX3 2).2.1 (TX3 2).2.2.1 ∈ mw := mw_tab 108 (by decide +kernel) rfl
theorem fX7_112 : mFd RX7 112 3 2 := ⟨_, _, _, rfl, wi_X3, by decide, wl_X7_112⟩
theorem wl_X3_21 : Cond.fieldLink RX3 21 (TX3 3).1 (TX3 3).2.1 (TX3 3).2.2.1 ∈ mw := mw_tab 109 (by decide +kernel) rfl
theorem fX3_21 : mFd RX3 21 3 3 := ⟨_, _, _, rfl, wi_X3, by decide, wl_X3_21⟩
theorem pX3_21 : mPd RX3 21 3 3 (.array .int) true := ⟨_, _, _, tyX3, rfl, wi_X3, by decide, wl_X3_21, tyX3_ok, nmX3, rfl, rfl, fun _ => by decide +kernel⟩
theorem wl_X3_33 : Cond.fieldLink RX3 33 (TX3 4).1 (TX3 4).2.1 (TX3 4).2.2.1 ∈ mw := mw_tab 110 (by decide +kernel) rfl
theorem fX3_33 : mFd RX3 33 3 4 := ⟨_, _, _, rfl, wi_X3, by decide, wl_X3_33⟩
theorem pX3_33 : mPd RX3 33 3 4 .int false := ⟨_, _, _, tyX3, rfl, wi_X3, by decide, wl_X3_33, tyX3_ok, nmX3, rfl, rfl, fun q => by cases q⟩
theorem wl_X7_149 : Cond.fieldLink RX7 149 (TX3 4).1 (TX3 4).2.1 (TX3 4).2.2.1 ∈ mw := mw_tab 111 (by decide +kernel) rfl
theorem fX7_149 : mFd RX7 149 3 4 := ⟨_, _, _, rfl, wi_X3, by decide, wl_X7_149⟩
theorem pX7_149 : mPd RX7 149 3 4 .int false := ⟨_, _, _, tyX3, rfl, wi_X3, by decide, wl_X7_149, tyX3_ok, nmX3, rfl, rfl, fun q => by cases q⟩
theorem wl_X3_37 : Cond.fieldLink RX3 37 (TX3 5).1 (TX3 5).2.1 (TX3 5).2.2.1 ∈ mw := mw_tab 112 (by decide +kernel) rfl
theorem fX3_37 : mFd RX3 37 3 5 := ⟨_, _, _, rfl, wi_X3, by decide, wl_X3_37⟩
theorem pX3_37 : mPd RX3 37 3 5 .int false := ⟨_, _, _, tyX3, rfl, wi_X3, by decide, wl_X3_37, tyX3_ok, nmX3, rfl, rfl, fun q => by cases q⟩
theorem wl_X7_137 : Cond.fieldLink RX7 137 (TX3 5).1 (TX3 5).2.1 (TX3 5).2.2.1 ∈ mw := mw_tab 113 (by decide +kernel) rfl
theorem fX7_137 : mFd RX7 137 3 5 := ⟨_, _, _, rfl, wi_X3, by decide, wl_X7_137⟩
theorem pX7_137 : mPd RX7 137 3 5 .int false := ⟨_, _, _, tyX3, rfl, wi_X3, by decide, wl_X7_137, tyX3_ok, nmX3, rfl, rfl, fun q => by cases q⟩
theorem wl_X2_9 : Cond.fieldLink RX2 9 (TX2 0).1 (TX2 0).2.1 (TX2 0).2.2.1 ∈ mw := mw_tab 134 (by decide +kernel) rfl
theorem fX2_9 : mFd RX2 9 2 0 := ⟨_, _, _, rfl, wi_X2, by decide, wl_X2_9⟩
theorem pX2_9 : mPd RX2 9 2 0 (.array .int) true := ⟨_, _, _, tyX2, rfl, wi_X2, by decide, wl_X2_9, tyX2_ok, nmX2, rfl, rfl, fun _ => by decide +kernel⟩
theorem wl_X2_15 : Cond.fieldLink RX2 15 (TX2 1).1 (TX2 1).2.1 (TX2 1).2.2.1 ∈ mw := mw_tab 135 (by decide +kernel) rfl
theorem fX2_15 : mFd RX2 15 2 1 := ⟨_, _, _, rfl, wi_X2, by decide, wl_X2_15⟩
theorem pX2_15 : mPd RX2 15 2 1 (.array .int) true := ⟨_, _, _, tyX2, rfl, wi_X2, by decide, wl_X2_15, tyX2_ok, nmX2, rfl, rfl, fun _ => by decide +kernel⟩
theorem wl_X2_18 : Cond.fieldLink RX2 18 (TX2 2).1 (TX2 2).2.1 (TX2 2).2.2.1 ∈ mw := mw_tab 136 (by decide +kernel) rfl
theorem fX2_18 : mFd RX2 18 2 2 := ⟨_, _, _, rfl, wi_X2, by decide, wl_X2_18⟩
theorem pX2_18 : mPd RX2 18 2 2 .int false := ⟨_, _, _, tyX2, rfl, wi_X2, by decide, wl_X2_18, tyX2_ok, nmX2, rfl, rfl, fun q => by cases q⟩
theorem wl_X7_85 : Cond.fieldLink RX7 85 (TX2 2).1 (TX2 2).2.1 (TX2 2).2.2.1 ∈ mw := mw_tab 137 (by decide +kernel) rfl
theorem fX7_85 : mFd RX7 85 2 2 := ⟨_, _, _, rfl, wi_X2, by decide, wl_X7_85⟩
theorem pX7_85 : mPd RX7 85 2 2 .int false := ⟨_, _, _, tyX2, rfl, wi_X2, by decide, wl_X7_85, tyX2_ok, nmX2, rfl, rfl, fun q => by cases q⟩
theorem wl_X4_9 : Cond.fieldLink RX4 9 (TX4 0).1 (TX4 0).2.1 (TX4 0).2.2.1 ∈ mw := mw_tab 152 (by decide +kernel) rfl
theorem fX4_9 : mFd RX4 9 4 0 := ⟨_, _, _, rfl, wi_X4, by decide, wl_X4_9⟩
theorem pX4_9 : mPd RX4 9 4 0 (.array .int) true := ⟨_, _, _, tyX4, rfl, wi_X4, by decide, wl_X4_9, tyX4_ok, nmX4, rfl, rfl, fun _ => by decide +kernel⟩
theorem wl_X4_21 : Cond.fieldLink RX4 21 (TX4 1).1 (TX4 1).2.1 (TX4 1).2.2.1 ∈ mw := mw_tab 153 (by decide +kernel) rfl
theorem fX4_21 : mFd RX4 21 4 1 := ⟨_, _, _, rfl, wi_X4, by decide, wl_X4_21⟩
theorem pX4_21 : mPd RX4 21 4 1 .int false := ⟨_, _, _, tyX4, rfl, wi_X4, by decide, wl_X4_21, tyX4_ok, nmX4, rfl, rfl, fun q => by cases q⟩
theorem wl_X6_9 : Cond.fieldLink RX6 9 (TX6 0).1 (TX6 0).2.1 (TX6 0).2.2.1 ∈ mw := mw_tab 165 (by decide +kernel) rfl
theorem fX6_9 : mFd RX6 9 6 0 := ⟨_, _, _, rfl, wi_X6, by decide, wl_X6_9⟩
theorem pX6_9 : mPd RX6 9 6 0 (.array .int) true := ⟨_, _, _, tyX6, rfl, wi_X6, by decide, wl_X6_9, tyX6_ok, nmX6, rfl, rfl, fun _ => by decide +kernel⟩
theorem wl_X6_15 : Cond.fieldLink RX6 15 (TX6 1).1 (TX6 1).2.1 (TX6 1).2.2.1 ∈ mw := mw_tab 166 (by decide +kernel) rfl
theorem fX6_15 : mFd RX6 15 6 1 := ⟨_, _, _, rfl, wi_X6, by decide, wl_X6_15⟩
theorem pX6_15 : mPd RX6 15 6 1 (.array .int) true := ⟨_, _, _, tyX6, rfl, wi_X6, by decide, wl_X6_15, tyX6_ok, nmX6, rfl, rfl, fun _ => by decide +kernel⟩
theorem wl_X6_18 : Cond.fieldLink RX6 18 (TX6 2).1 (TX6 2).2.1 (TX6 2).2.2.1 ∈ mw := mw_tab 167 (by decide +kernel) rfl
theorem fX6_18 : mFd RX6 18 6 2 := ⟨_, _, _, rfl, wi_X6, by decide, wl_X6_18⟩
theorem pX6_18 : mPd RX6 18 6 2 (.array .int) true := ⟨_, _, _, tyX6, rfl, wi_X6, by decide, wl_X6_18, tyX6_ok, nmX6, rfl, rfl, fun _ => by decide +kernel⟩
theorem wl_X6_21 : Cond.fieldLink RX6 21 (TX6 3).1 (TX6 3).2.1 (TX6 3).2.2.1 ∈ mw := mw_tab 168 (by decide +kernel) rfl
theorem fX6_21 : mFd RX6 21 6 3 := ⟨_, _, _, rfl, wi_X6, by decide, wl_X6_21⟩
theorem pX6_21 : mPd RX6 21 6 3 (.array .int) true := ⟨_, _, _, tyX6, rfl, wi_X6, by decide, wl_X6_21, tyX6_ok, nmX6, rfl, rfl, fun _ => by decide +kernel⟩
theorem wl_X6_24 : Cond.fieldLink RX6 24 (TX6 4).1 (TX6 4).2.1 (TX6 4).2.2.1 ∈ mw := mw_tab 169 (by decide +kernel) rfl
theorem fX6_24 : mFd RX6 24 6 4 := ⟨_, _, _, rfl, wi_X6, by decide, wl_X6_24⟩
theorem pX6_24 : mPd RX6 24 6 4 (.array .int) true := ⟨_, _, _, tyX6, rfl, wi_X6, by decide, wl_X6_24, tyX6_ok, nmX6, rfl, rfl, fun _ => by decide +kernel⟩
theorem wl_X6_27 : Cond.fieldLink RX6 27 (TX6 5).1 (TX6 5).2.1 (TX6 5).2.2.1 ∈ mw := mw_tab 170 (by decide +kernel) rfl
theorem fX6_27 : mFd RX6 27 6 5 := ⟨_, _, _, rfl, wi_X6, by decide, wl_X6_27⟩
theorem pX6_27 : mPd RX6 27 6 5 (.array .int) true := ⟨_, _, _, tyX6, rfl, wi_X6, by decide, wl_X6_27, tyX6_ok, nmX6, rfl, rfl, fun _ => by decide +kernel⟩
theorem wl_X6_30 : Cond.fieldLink RX6 30 (TX6 6).1 (TX6 6).2.1 (TX6 6).2.2.1 ∈ mw := mw_tab 171 (by decide +kernel) rfl
theorem fX6_30 : mFd RX6 30 6 6 := ⟨_, _, _, rfl, wi_X6, by decide, wl_X6_30⟩
theorem pX6_30 : mPd RX6 30 6 6 (.object "DayCubes$Told") false := ⟨_, _, _, tyX6, rfl, wi_X6, by decide, wl_X6_30, tyX6_ok, nmX6, rfl, rfl, fun q => by cases q⟩
theorem wl_X6_34 : Cond.fieldLink RX6 34 (TX6 7).1 (TX6 7).2.1 (TX6 7).2.2.1 ∈ mw := mw_tab 172 (by decide +kernel) rfl
theorem fX6_34 : mFd RX6 34 6 7 := ⟨_, _, _, rfl, wi_X6, by decide, wl_X6_34⟩
theorem pX6_34 : mPd RX6 34 6 7 (.object "DayCubes$Stand") false := ⟨_, _, _, tyX6, rfl, wi_X6, by decide, wl_X6_34, tyX6_ok, nmX6, rfl, rfl, fun q => by cases q⟩
theorem wl_X6_44 : Cond.fieldLink RX6 44 (TX6 8).1 (TX6 8).2.1 (TX6 8).2.2.1 ∈ mw := mw_tab 173 (by decide +kernel) rfl
theorem fX6_44 : mFd RX6 44 6 8 := ⟨_, _, _, rfl, wi_X6, by decide, wl_X6_44⟩
theorem pX6_44 : mPd RX6 44 6 8 .int false := ⟨_, _, _, tyX6, rfl, wi_X6, by decide, wl_X6_44, tyX6_ok, nmX6, rfl, rfl, fun q => by cases q⟩
theorem wl_X6_45 : Cond.fieldLink RX6 45 (TX6 9).1 (TX6 9).2.1 (TX6 9).2.2.1 ∈ mw := mw_tab 174 (by decide +kernel) rfl
theorem fX6_45 : mFd RX6 45 6 9 := ⟨_, _, _, rfl, wi_X6, by decide, wl_X6_45⟩
theorem pX6_45 : mPd RX6 45 6 9 .int false := ⟨_, _, _, tyX6, rfl, wi_X6, by decide, wl_X6_45, tyX6_ok, nmX6, rfl, rfl, fun q => by cases q⟩
theorem wl_X6_59 : Cond.fieldLink RX6 59 (TX6 10).1 (TX6 10).2.1 (TX6 10).2.2.1 ∈ mw := mw_tab 175 (by decide +kernel) rfl
theorem fX6_59 : mFd RX6 59 6 10 := ⟨_, _, _, rfl, wi_X6, by decide, wl_X6_59⟩
theorem pX6_59 : mPd RX6 59 6 10 .int false := ⟨_, _, _, tyX6, rfl, wi_X6, by decide, wl_X6_59, tyX6_ok, nmX6, rfl, rfl, fun q => by cases q⟩
theorem wl_X0_9 : Cond.fieldLink RX0 9 (TX0 0).1 (TX0 0).2.1 (TX0 0).2.2.1 ∈ mw := mw_tab 205 (by decide +kernel) rfl
theorem fX0_9 : mFd RX0 9 0 0 := ⟨_, _, _, rfl, wi_X0, by decide, wl_X0_9⟩
theorem pX0_9 : mPd RX0 9 0 0 (.array .int) true := ⟨_, _, _, tyX0, rfl, wi_X0, by decide, wl_X0_9, tyX0_ok, nmX0, rfl, rfl, fun _ => by decide +kernel⟩
theorem wl_X0_15 : Cond.fieldLink RX0 15 (TX0 1).1 (TX0 1).2.1 (TX0 1).2.2.1 ∈ mw := mw_tab 206 (by decide +kernel) rfl
theorem fX0_15 : mFd RX0 15 0 1 := ⟨_, _, _, rfl, wi_X0, by decide, wl_X0_15⟩
theorem pX0_15 : mPd RX0 15 0 1 (.object "DayCubes$Told") false := ⟨_, _, _, tyX0, rfl, wi_X0, by decide, wl_X0_15, tyX0_ok, nmX0, rfl, rfl, fun q => by cases q⟩
theorem wl_X0_19 : Cond.fieldLink RX0 19 (TX0 2).1 (TX0 2).2.1 (TX0 2).2.2.1 ∈ mw := mw_tab 207 (by decide +kernel) rfl
theorem fX0_19 : mFd RX0 19 0 2 := ⟨_, _, _, rfl, wi_X0, by decide, wl_X0_19⟩
theorem pX0_19 : mPd RX0 19 0 2 (.object "DayCubes$Stand") false := ⟨_, _, _, tyX0, rfl, wi_X0, by decide, wl_X0_19, tyX0_ok, nmX0, rfl, rfl, fun q => by cases q⟩
theorem wl_X0_42 : Cond.fieldLink RX0 42 (TX0 3).1 (TX0 3).2.1 (TX0 3).2.2.1 ∈ mw := mw_tab 208 (by decide +kernel) rfl
theorem fX0_42 : mFd RX0 42 0 3 := ⟨_, _, _, rfl, wi_X0, by decide, wl_X0_42⟩
theorem pX0_42 : mPd RX0 42 0 3 .int false := ⟨_, _, _, tyX0, rfl, wi_X0, by decide, wl_X0_42, tyX0_ok, nmX0, rfl, rfl, fun q => by cases q⟩
theorem wl_X7_192 : Cond.fieldLink RX7 192 (TX0 3).1 (TX0 3).2.1 (TX0 3).2.2.1 ∈ mw := mw_tab 209 (by decide +kernel) rfl
theorem fX7_192 : mFd RX7 192 0 3 := ⟨_, _, _, rfl, wi_X0, by decide, wl_X7_192⟩
theorem pX7_192 : mPd RX7 192 0 3 .int false := ⟨_, _, _, tyX0, rfl, wi_X0, by decide, wl_X7_192, tyX0_ok, nmX0, rfl, rfl, fun q => by cases q⟩
theorem wl_X0_48 : Cond.fieldLink RX0 48 (TX0 4).1 (TX0 4).2.1 (TX0 4).2.2.1 ∈ mw := mw_tab 210 (by decide +kernel) rfl
theorem fX0_48 : mFd RX0 48 0 4 := ⟨_, _, _, rfl, wi_X0, by decide, wl_X0_48⟩
theorem pX0_48 : mPd RX0 48 0 4 .int false := ⟨_, _, _, tyX0, rfl, wi_X0, by decide, wl_X0_48, tyX0_ok, nmX0, rfl, rfl, fun q => by cases q⟩
theorem wl_X7_195 : Cond.fieldLink RX7 195 (TX0 4).1 (TX0 4).2.1 (TX0 4).2.2.1 ∈ mw := mw_tab 211 (by decide +kernel) rfl
theorem fX7_195 : mFd RX7 195 0 4 := ⟨_, _, _, rfl, wi_X0, by decide, wl_X7_195⟩
theorem pX7_195 : mPd RX7 195 0 4 .int false := ⟨_, _, _, tyX0, rfl, wi_X0, by decide, wl_X7_195, tyX0_ok, nmX0, rfl, rfl, fun q => by cases q⟩
theorem wl_X7_10 : Cond.fieldLink RX7 10 (TX7 0).1 (TX7 0).2.1 (TX7 0).2.2.1 ∈ mw := mw_tab 223 (by decide +kernel) rfl
theorem fX7_10 : mFd RX7 10 7 0 := ⟨_, _, _, rfl, wi_X7, by decide, wl_X7_10⟩
theorem pX7_10 : mPd RX7 10 7 0 (.object "DayCubes$Reader") true := ⟨_, _, _, tyX7, rfl, wi_X7, by decide, wl_X7_10, tyX7_ok, nmX7, rfl, rfl, fun _ => by decide +kernel⟩
theorem wl_X7_19 : Cond.fieldLink RX7 19 (TX7 1).1 (TX7 1).2.1 (TX7 1).2.2.1 ∈ mw := mw_tab 224 (by decide +kernel) rfl
theorem fX7_19 : mFd RX7 19 7 1 := ⟨_, _, _, rfl, wi_X7, by decide, wl_X7_19⟩
theorem pX7_19 : mPd RX7 19 7 1 (.object "DayCubes$Told") false := ⟨_, _, _, tyX7, rfl, wi_X7, by decide, wl_X7_19, tyX7_ok, nmX7, rfl, rfl, fun q => by cases q⟩
theorem wl_X7_23 : Cond.fieldLink RX7 23 (TX7 2).1 (TX7 2).2.1 (TX7 2).2.2.1 ∈ mw := mw_tab 225 (by decide +kernel) rfl
theorem fX7_23 : mFd RX7 23 7 2 := ⟨_, _, _, rfl, wi_X7, by decide, wl_X7_23⟩
theorem pX7_23 : mPd RX7 23 7 2 (.object "DayCubes$Told") false := ⟨_, _, _, tyX7, rfl, wi_X7, by decide, wl_X7_23, tyX7_ok, nmX7, rfl, rfl, fun q => by cases q⟩
theorem wl_X7_29 : Cond.fieldLink RX7 29 (TX7 3).1 (TX7 3).2.1 (TX7 3).2.2.1 ∈ mw := mw_tab 226 (by decide +kernel) rfl
theorem fX7_29 : mFd RX7 29 7 3 := ⟨_, _, _, rfl, wi_X7, by decide, wl_X7_29⟩
theorem pX7_29 : mPd RX7 29 7 3 (.object "DayCubes$Stand") true := ⟨_, _, _, tyX7, rfl, wi_X7, by decide, wl_X7_29, tyX7_ok, nmX7, rfl, rfl, fun _ => by decide +kernel⟩
theorem wl_X7_33 : Cond.fieldLink RX7 33 (TX7 4).1 (TX7 4).2.1 (TX7 4).2.2.1 ∈ mw := mw_tab 227 (by decide +kernel) rfl
theorem fX7_33 : mFd RX7 33 7 4 := ⟨_, _, _, rfl, wi_X7, by decide, wl_X7_33⟩
theorem pX7_33 : mPd RX7 33 7 4 (.array (.object "DayCubes$Stand")) true := ⟨_, _, _, tyX7, rfl, wi_X7, by decide, wl_X7_33, tyX7_ok, nmX7, rfl, rfl, fun _ => by decide +kernel⟩
theorem wl_X7_37 : Cond.fieldLink RX7 37 (TX7 5).1 (TX7 5).2.1 (TX7 5).2.2.1 ∈ mw := mw_tab 228 (by decide +kernel) rfl
theorem fX7_37 : mFd RX7 37 7 5 := ⟨_, _, _, rfl, wi_X7, by decide, wl_X7_37⟩
theorem pX7_37 : mPd RX7 37 7 5 (.array .boolean) true := ⟨_, _, _, tyX7, rfl, wi_X7, by decide, wl_X7_37, tyX7_ok, nmX7, rfl, rfl, fun _ => by decide +kernel⟩
theorem wl_X7_44 : Cond.fieldLink RX7 44 (TX7 6).1 (TX7 6).2.1 (TX7 6).2.2.1 ∈ mw := mw_tab 229 (by decide +kernel) rfl
theorem fX7_44 : mFd RX7 44 7 6 := ⟨_, _, _, rfl, wi_X7, by decide, wl_X7_44⟩
theorem pX7_44 : mPd RX7 44 7 6 (.object "DayCubes$Seen") true := ⟨_, _, _, tyX7, rfl, wi_X7, by decide, wl_X7_44, tyX7_ok, nmX7, rfl, rfl, fun _ => by decide +kernel⟩
theorem wl_X7_51 : Cond.fieldLink RX7 51 (TX7 7).1 (TX7 7).2.1 (TX7 7).2.2.1 ∈ mw := mw_tab 230 (by decide +kernel) rfl
theorem fX7_51 : mFd RX7 51 7 7 := ⟨_, _, _, rfl, wi_X7, by decide, wl_X7_51⟩
theorem pX7_51 : mPd RX7 51 7 7 (.object "DayCubes$Tellers") true := ⟨_, _, _, tyX7, rfl, wi_X7, by decide, wl_X7_51, tyX7_ok, nmX7, rfl, rfl, fun _ => by decide +kernel⟩
theorem wl_X7_58 : Cond.fieldLink RX7 58 (TX7 8).1 (TX7 8).2.1 (TX7 8).2.2.1 ∈ mw := mw_tab 231 (by decide +kernel) rfl
theorem fX7_58 : mFd RX7 58 7 8 := ⟨_, _, _, rfl, wi_X7, by decide, wl_X7_58⟩
theorem pX7_58 : mPd RX7 58 7 8 (.object "DayCubes$Walk") true := ⟨_, _, _, tyX7, rfl, wi_X7, by decide, wl_X7_58, tyX7_ok, nmX7, rfl, rfl, fun _ => by decide +kernel⟩
theorem wl_X7_65 : Cond.fieldLink RX7 65 (TX7 9).1 (TX7 9).2.1 (TX7 9).2.2.1 ∈ mw := mw_tab 232 (by decide +kernel) rfl
theorem fX7_65 : mFd RX7 65 7 9 := ⟨_, _, _, rfl, wi_X7, by decide, wl_X7_65⟩
theorem pX7_65 : mPd RX7 65 7 9 (.object "DayCubes$Fall") true := ⟨_, _, _, tyX7, rfl, wi_X7, by decide, wl_X7_65, tyX7_ok, nmX7, rfl, rfl, fun _ => by decide +kernel⟩
theorem wl_X7_225 : Cond.fieldLink RX7 225 (TX7 10).1 (TX7 10).2.1 (TX7 10).2.2.1 ∈ mw := mw_tab 233 (by decide +kernel) rfl
theorem fX7_225 : mFd RX7 225 7 10 := ⟨_, _, _, rfl, wi_X7, by decide, wl_X7_225⟩
theorem pX7_225 : mPd RX7 225 7 10 .long false := ⟨_, _, _, tyX7, rfl, wi_X7, by decide, wl_X7_225, tyX7_ok, nmX7, rfl, rfl, fun q => by cases q⟩
theorem gX4_69 : Cond.fieldLink RX4 69 "DayCubes$Tellers" "SETS_WITHOUT" "[I" ∈ mw := mw_tab 388 (by decide +kernel) rfl
theorem kJ6_265 : Cond.constant RJ6 265 (1431655765) ∈ mw := mw_tab 549 (by decide +kernel) rfl
theorem kJ6_266 : Cond.constant RJ6 266 (858993459) ∈ mw := mw_tab 550 (by decide +kernel) rfl
theorem kJ6_267 : Cond.constant RJ6 267 (252645135) ∈ mw := mw_tab 551 (by decide +kernel) rfl
theorem kX7_210 : Cond.constant RX7 210 (-1000000) ∈ mw := mw_tab 626 (by decide +kernel) rfl
theorem gX7_246 : Cond.fieldLink RX7 246 "DayCubes" "KIND_TRACE" "[I" ∈ mw := mw_tab 631 (by decide +kernel) rfl
theorem gX7_249 : Cond.fieldLink RX7 249 "DayCubes" "KIND_ABOVE" "[I" ∈ mw := mw_tab 633 (by decide +kernel) rfl
theorem wl_X8_7 : Cond.fieldLink RX8 7 (TX8 0).1 (TX8 0).2.1 (TX8 0).2.2.1 ∈ mw := mw_tab 684 (by decide +kernel) rfl
theorem fX8_7 : mFd RX8 7 8 0 := ⟨_, _, _, rfl, wi_X8, by decide, wl_X8_7⟩
theorem pX8_7 : mPd RX8 7 8 0 (.array .byte) true := ⟨_, _, _, tyX8, rfl, wi_X8, by decide, wl_X8_7, tyX8_ok, nmX8, rfl, rfl, fun _ => by decide +kernel⟩
theorem wl_X8_67 : Cond.fieldLink RX8 67 (TX8 1).1 (TX8 1).2.1 (TX8 1).2.2.1 ∈ mw := mw_tab 685 (by decide +kernel) rfl
theorem fX8_67 : mFd RX8 67 8 1 := ⟨_, _, _, rfl, wi_X8, by decide, wl_X8_67⟩
theorem pX8_67 : mPd RX8 67 8 1 .int false := ⟨_, _, _, tyX8, rfl, wi_X8, by decide, wl_X8_67, tyX8_ok, nmX8, rfl, rfl, fun q => by cases q⟩
theorem wl_X8_13 : Cond.fieldLink RX8 13 (TX8 2).1 (TX8 2).2.1 (TX8 2).2.2.1 ∈ mw := mw_tab 686 (by decide +kernel) rfl
theorem fX8_13 : mFd RX8 13 8 2 := ⟨_, _, _, rfl, wi_X8, by decide, wl_X8_13⟩
theorem pX8_13 : mPd RX8 13 8 2 (.array .int) true := ⟨_, _, _, tyX8, rfl, wi_X8, by decide, wl_X8_13, tyX8_ok, nmX8, rfl, rfl, fun _ => by decide +kernel⟩
theorem wl_X8_17 : Cond.fieldLink RX8 17 (TX8 3).1 (TX8 3).2.1 (TX8 3).2.2.1 ∈ mw := mw_tab 687 (by decide +kernel) rfl
theorem fX8_17 : mFd RX8 17 8 3 := ⟨_, _, _, rfl, wi_X8, by decide, wl_X8_17⟩
theorem pX8_17 : mPd RX8 17 8 3 (.array .int) true := ⟨_, _, _, tyX8, rfl, wi_X8, by decide, wl_X8_17, tyX8_ok, nmX8, rfl, rfl, fun _ => by decide +kernel⟩
theorem wl_X8_20 : Cond.fieldLink RX8 20 (TX8 4).1 (TX8 4).2.1 (TX8 4).2.2.1 ∈ mw := mw_tab 688 (by decide +kernel) rfl
theorem fX8_20 : mFd RX8 20 8 4 := ⟨_, _, _, rfl, wi_X8, by decide, wl_X8_20⟩
theorem pX8_20 : mPd RX8 20 8 4 (.array .int) true := ⟨_, _, _, tyX8, rfl, wi_X8, by decide, wl_X8_20, tyX8_ok, nmX8, rfl, rfl, fun _ => by decide +kernel⟩
theorem wl_X8_23 : Cond.fieldLink RX8 23 (TX8 5).1 (TX8 5).2.1 (TX8 5).2.2.1 ∈ mw := mw_tab 689 (by decide +kernel) rfl
theorem fX8_23 : mFd RX8 23 8 5 := ⟨_, _, _, rfl, wi_X8, by decide, wl_X8_23⟩
theorem pX8_23 : mPd RX8 23 8 5 (.array .int) true := ⟨_, _, _, tyX8, rfl, wi_X8, by decide, wl_X8_23, tyX8_ok, nmX8, rfl, rfl, fun _ => by decide +kernel⟩
theorem wl_X8_26 : Cond.fieldLink RX8 26 (TX8 6).1 (TX8 6).2.1 (TX8 6).2.2.1 ∈ mw := mw_tab 690 (by decide +kernel) rfl
theorem fX8_26 : mFd RX8 26 8 6 := ⟨_, _, _, rfl, wi_X8, by decide, wl_X8_26⟩
theorem pX8_26 : mPd RX8 26 8 6 (.array .int) true := ⟨_, _, _, tyX8, rfl, wi_X8, by decide, wl_X8_26, tyX8_ok, nmX8, rfl, rfl, fun _ => by decide +kernel⟩
theorem wl_X8_71 : Cond.fieldLink RX8 71 (TX8 7).1 (TX8 7).2.1 (TX8 7).2.2.1 ∈ mw := mw_tab 691 (by decide +kernel) rfl
theorem fX8_71 : mFd RX8 71 8 7 := ⟨_, _, _, rfl, wi_X8, by decide, wl_X8_71⟩
theorem pX8_71 : mPd RX8 71 8 7 .int false := ⟨_, _, _, tyX8, rfl, wi_X8, by decide, wl_X8_71, tyX8_ok, nmX8, rfl, rfl, fun q => by cases q⟩
theorem wl_X8_78 : Cond.fieldLink RX8 78 (TX8 8).1 (TX8 8).2.1 (TX8 8).2.2.1 ∈ mw := mw_tab 692 (by decide +kernel) rfl
theorem fX8_78 : mFd RX8 78 8 8 := ⟨_, _, _, rfl, wi_X8, by decide, wl_X8_78⟩
theorem pX8_78 : mPd RX8 78 8 8 .int false := ⟨_, _, _, tyX8, rfl, wi_X8, by decide, wl_X8_78, tyX8_ok, nmX8, rfl, rfl, fun q => by cases q⟩
theorem wl_X8_84 : Cond.fieldLink RX8 84 (TX8 9).1 (TX8 9).2.1 (TX8 9).2.2.1 ∈ mw := mw_tab 693 (by decide +kernel) rfl
theorem fX8_84 : mFd RX8 84 8 9 := ⟨_, _, _, rfl, wi_X8, by decide, wl_X8_84⟩
theorem pX8_84 : mPd RX8 84 8 9 .int false := ⟨_, _, _, tyX8, rfl, wi_X8, by decide, wl_X8_84, tyX8_ok, nmX8, rfl, rfl, fun q => by cases q⟩
theorem wl_X8_81 : Cond.fieldLink RX8 81 (TX8 10).1 (TX8 10).2.1 (TX8 10).2.2.1 ∈ mw := mw_tab 694 (by decide +kernel) rfl
theorem fX8_81 : mFd RX8 81 8 10 := ⟨_, _, _, rfl, wi_X8, by decide, wl_X8_81⟩
theorem pX8_81 : mPd RX8 81 8 10 .int false := ⟨_, _, _, tyX8, rfl, wi_X8, by decide, wl_X8_81, tyX8_ok, nmX8, rfl, rfl, fun q => by cases q⟩
theorem wl_X8_87 : Cond.fieldLink RX8 87 (TX8 11).1 (TX8 11).2.1 (TX8 11).2.2.1 ∈ mw := mw_tab 695 (by decide +kernel) rfl
theorem fX8_87 : mFd RX8 87 8 11 := ⟨_, _, _, rfl, wi_X8, by decide, wl_X8_87⟩
theorem pX8_87 : mPd RX8 87 8 11 .boolean false := ⟨_, _, _, tyX8, rfl, wi_X8, by decide, wl_X8_87, tyX8_ok, nmX8, rfl, rfl, fun q => by cases q⟩
theorem wl_X8_106 : Cond.fieldLink RX8 106 (TX8 12).1 (TX8 12).2.1 (TX8 12).2.2.1 ∈ mw := mw_tab 696 (by decide +kernel) rfl
theorem fX8_106 : mFd RX8 106 8 12 := ⟨_, _, _, rfl, wi_X8, by decide, wl_X8_106⟩
theorem pX8_106 : mPd RX8 106 8 12 .int false := ⟨_, _, _, tyX8, rfl, wi_X8, by decide, wl_X8_106, tyX8_ok, nmX8, rfl, rfl, fun q => by cases q⟩
theorem wl_X8_29 : Cond.fieldLink RX8 29 (TX8 13).1 (TX8 13).2.1 (TX8 13).2.2.1 ∈ mw := mw_tab 697 (by decide +kernel) rfl
theorem fX8_29 : mFd RX8 29 8 13 := ⟨_, _, _, rfl, wi_X8, by decide, wl_X8_29⟩
theorem pX8_29 : mPd RX8 29 8 13 (.array .int) true := ⟨_, _, _, tyX8, rfl, wi_X8, by decide, wl_X8_29, tyX8_ok, nmX8, rfl, rfl, fun _ => by decide +kernel⟩
theorem wl_X8_32 : Cond.fieldLink RX8 32 (TX8 14).1 (TX8 14).2.1 (TX8 14).2.2.1 ∈ mw := mw_tab 698 (by decide +kernel) rfl
theorem fX8_32 : mFd RX8 32 8 14 := ⟨_, _, _, rfl, wi_X8, by decide, wl_X8_32⟩
theorem pX8_32 : mPd RX8 32 8 14 (.array .int) true := ⟨_, _, _, tyX8, rfl, wi_X8, by decide, wl_X8_32, tyX8_ok, nmX8, rfl, rfl, fun _ => by decide +kernel⟩
theorem wl_X8_35 : Cond.fieldLink RX8 35 (TX8 15).1 (TX8 15).2.1 (TX8 15).2.2.1 ∈ mw := mw_tab 699 (by decide +kernel) rfl
theorem fX8_35 : mFd RX8 35 8 15 := ⟨_, _, _, rfl, wi_X8, by decide, wl_X8_35⟩
theorem pX8_35 : mPd RX8 35 8 15 (.array .int) true := ⟨_, _, _, tyX8, rfl, wi_X8, by decide, wl_X8_35, tyX8_ok, nmX8, rfl, rfl, fun _ => by decide +kernel⟩
theorem wl_X8_38 : Cond.fieldLink RX8 38 (TX8 16).1 (TX8 16).2.1 (TX8 16).2.2.1 ∈ mw := mw_tab 700 (by decide +kernel) rfl
theorem fX8_38 : mFd RX8 38 8 16 := ⟨_, _, _, rfl, wi_X8, by decide, wl_X8_38⟩
theorem pX8_38 : mPd RX8 38 8 16 (.array .int) true := ⟨_, _, _, tyX8, rfl, wi_X8, by decide, wl_X8_38, tyX8_ok, nmX8, rfl, rfl, fun _ => by decide +kernel⟩
theorem wl_X8_41 : Cond.fieldLink RX8 41 (TX8 17).1 (TX8 17).2.1 (TX8 17).2.2.1 ∈ mw := mw_tab 701 (by decide +kernel) rfl
theorem fX8_41 : mFd RX8 41 8 17 := ⟨_, _, _, rfl, wi_X8, by decide, wl_X8_41⟩
theorem pX8_41 : mPd RX8 41 8 17 (.array .boolean) true := ⟨_, _, _, tyX8, rfl, wi_X8, by decide, wl_X8_41, tyX8_ok, nmX8, rfl, rfl, fun _ => by decide +kernel⟩
theorem wl_X8_45 : Cond.fieldLink RX8 45 (TX8 18).1 (TX8 18).2.1 (TX8 18).2.2.1 ∈ mw := mw_tab 702 (by decide +kernel) rfl
theorem fX8_45 : mFd RX8 45 8 18 := ⟨_, _, _, rfl, wi_X8, by decide, wl_X8_45⟩
theorem pX8_45 : mPd RX8 45 8 18 (.array .int) true := ⟨_, _, _, tyX8, rfl, wi_X8, by decide, wl_X8_45, tyX8_ok, nmX8, rfl, rfl, fun _ => by decide +kernel⟩
theorem wl_X8_48 : Cond.fieldLink RX8 48 (TX8 19).1 (TX8 19).2.1 (TX8 19).2.2.1 ∈ mw := mw_tab 703 (by decide +kernel) rfl
theorem fX8_48 : mFd RX8 48 8 19 := ⟨_, _, _, rfl, wi_X8, by decide, wl_X8_48⟩
theorem pX8_48 : mPd RX8 48 8 19 (.array .int) true := ⟨_, _, _, tyX8, rfl, wi_X8, by decide, wl_X8_48, tyX8_ok, nmX8, rfl, rfl, fun _ => by decide +kernel⟩
theorem wl_X8_130 : Cond.fieldLink RX8 130 (TX8 20).1 (TX8 20).2.1 (TX8 20).2.2.1 ∈ mw := mw_tab 704 (by decide +kernel) rfl
theorem fX8_130 : mFd RX8 130 8 20 := ⟨_, _, _, rfl, wi_X8, by decide, wl_X8_130⟩
theorem pX8_130 : mPd RX8 130 8 20 .int false := ⟨_, _, _, tyX8, rfl, wi_X8, by decide, wl_X8_130, tyX8_ok, nmX8, rfl, rfl, fun q => by cases q⟩
theorem wl_X8_51 : Cond.fieldLink RX8 51 (TX8 21).1 (TX8 21).2.1 (TX8 21).2.2.1 ∈ mw := mw_tab 705 (by decide +kernel) rfl
theorem fX8_51 : mFd RX8 51 8 21 := ⟨_, _, _, rfl, wi_X8, by decide, wl_X8_51⟩
theorem pX8_51 : mPd RX8 51 8 21 (.array .int) true := ⟨_, _, _, tyX8, rfl, wi_X8, by decide, wl_X8_51, tyX8_ok, nmX8, rfl, rfl, fun _ => by decide +kernel⟩
theorem wl_X8_54 : Cond.fieldLink RX8 54 (TX8 22).1 (TX8 22).2.1 (TX8 22).2.2.1 ∈ mw := mw_tab 706 (by decide +kernel) rfl
theorem fX8_54 : mFd RX8 54 8 22 := ⟨_, _, _, rfl, wi_X8, by decide, wl_X8_54⟩
theorem pX8_54 : mPd RX8 54 8 22 (.array .int) true := ⟨_, _, _, tyX8, rfl, wi_X8, by decide, wl_X8_54, tyX8_ok, nmX8, rfl, rfl, fun _ => by decide +kernel⟩
theorem wl_X8_120 : Cond.fieldLink RX8 120 (TX8 23).1 (TX8 23).2.1 (TX8 23).2.2.1 ∈ mw := mw_tab 707 (by decide +kernel) rfl
theorem fX8_120 : mFd RX8 120 8 23 := ⟨_, _, _, rfl, wi_X8, by decide, wl_X8_120⟩
theorem pX8_120 : mPd RX8 120 8 23 .int false := ⟨_, _, _, tyX8, rfl, wi_X8, by decide, wl_X8_120, tyX8_ok, nmX8, rfl, rfl, fun q => by cases q⟩
theorem wl_X8_228 : Cond.fieldLink RX8 228 (TX8 24).1 (TX8 24).2.1 (TX8 24).2.2.1 ∈ mw := mw_tab 708 (by decide +kernel) rfl
theorem fX8_228 : mFd RX8 228 8 24 := ⟨_, _, _, rfl, wi_X8, by decide, wl_X8_228⟩
theorem pX8_228 : mPd RX8 228 8 24 .long false := ⟨_, _, _, tyX8, rfl, wi_X8, by decide, wl_X8_228, tyX8_ok, nmX8, rfl, rfl, fun q => by cases q⟩
theorem kX8_175 : Cond.constant RX8 175 (100000) ∈ mw := mw_tab 924 (by decide +kernel) rfl
theorem kX8_224 : Cond.constant RX8 224 (-1000000) ∈ mw := mw_tab 981 (by decide +kernel) rfl
theorem kX8_232 : Cond.constantLong RX8 232 (10) ∈ mw := mw_tab 985 (by decide +kernel) rfl
theorem wm_L_9 : Cond.methodLink RL 9 yX7_init ∈ mw := mw_tab 16 (by decide +kernel) rfl
theorem oX7_1 : Cond.methodLink RX7 1 objectInit ∈ mw := mw_tab 19 (by decide +kernel) rfl
theorem oX1_3 : Cond.methodLink RX1 3 objectInit ∈ mw := mw_tab 27 (by decide +kernel) rfl
theorem oX5_3 : Cond.methodLink RX5 3 objectInit ∈ mw := mw_tab 54 (by decide +kernel) rfl
theorem oX3_3 : Cond.methodLink RX3 3 objectInit ∈ mw := mw_tab 97 (by decide +kernel) rfl
theorem oX2_3 : Cond.methodLink RX2 3 objectInit ∈ mw := mw_tab 133 (by decide +kernel) rfl
theorem oX4_3 : Cond.methodLink RX4 3 objectInit ∈ mw := mw_tab 151 (by decide +kernel) rfl
theorem oX6_3 : Cond.methodLink RX6 3 objectInit ∈ mw := mw_tab 164 (by decide +kernel) rfl
theorem oX0_3 : Cond.methodLink RX0 3 objectInit ∈ mw := mw_tab 204 (by decide +kernel) rfl
theorem wm_L_13 : Cond.methodLink RL 13 yX7_type ∈ mw := mw_tab 257 (by decide +kernel) rfl
theorem vL_13 : mCv RL 13 zX7_type 1 7 := ⟨wy_X7_type, wm_L_13, mw_tab 258 (by decide +kernel) rfl, mw_tab 259 (by decide +kernel) rfl, TX7, 11, rfl⟩
theorem wm_X7_73 : Cond.methodLink RX7 73 yX1_append ∈ mw := mw_tab 261 (by decide +kernel) rfl
theorem vX7_73 : mCv RX7 73 zX1_append 1 1 := ⟨wy_X1_append, wm_X7_73, mw_tab 262 (by decide +kernel) rfl, mw_tab 263 (by decide +kernel) rfl, TX1, 6, rfl⟩
theorem wm_L_18 : Cond.methodLink RL 18 yX7_clear ∈ mw := mw_tab 265 (by decide +kernel) rfl
theorem vL_18 : mCv RL 18 zX7_clear 0 7 := ⟨wy_X7_clear, wm_L_18, mw_tab 266 (by decide +kernel) rfl, mw_tab 267 (by decide +kernel) rfl, TX7, 11, rfl⟩
theorem wm_L_23 : Cond.methodLink RL 23 yX7_desk ∈ mw := mw_tab 269 (by decide +kernel) rfl
theorem vL_23 : mCv RL 23 zX7_desk 0 7 := ⟨wy_X7_desk, wm_L_23, mw_tab 270 (by decide +kernel) rfl, mw_tab 271 (by decide +kernel) rfl, TX7, 11, rfl⟩
theorem wm_X7_77 : Cond.methodLink RX7 77 yX1_read ∈ mw := mw_tab 273 (by decide +kernel) rfl
theorem vX7_77 : mCv RX7 77 zX1_read 1 1 := ⟨wy_X1_read, wm_X7_77, mw_tab 274 (by decide +kernel) rfl, mw_tab 275 (by decide +kernel) rfl, TX1, 6, rfl⟩
theorem wm_X1_19 : Cond.methodLink RX1 19 yX5_empty ∈ mw := mw_tab 277 (by decide +kernel) rfl
theorem vX1_19 : mCv RX1 19 zX5_empty 0 5 := ⟨wy_X5_empty, wm_X1_19, mw_tab 278 (by decide +kernel) rfl, mw_tab 279 (by decide +kernel) rfl, TX5, 6, rfl⟩
theorem wm_X1_27 : Cond.methodLink RX1 27 yX1_nextToken ∈ mw := mw_tab 281 (by decide +kernel) rfl
theorem vX1_27 : mCv RX1 27 zX1_nextToken 0 1 := ⟨wy_X1_nextToken, wm_X1_27, mw_tab 283 (by decide +kernel) rfl, mw_sel 0 (by decide +kernel) rfl, TX1, 6, rfl⟩
theorem wm_X1_79 : Cond.methodLink RX1 79 yX1_isLetter ∈ mw := mw_tab 285 (by decide +kernel) rfl
theorem sX1_79 : mCs RX1 79 zX1_isLetter 1 := ⟨wy_X1_isLetter, wm_X1_79, mw_tab 286 (by decide +kernel) rfl⟩
theorem wm_X1_82 : Cond.methodLink RX1 82 yX1_takeLetters ∈ mw := mw_tab 288 (by decide +kernel) rfl
theorem vX1_82 : mCv RX1 82 zX1_takeLetters 0 1 := ⟨wy_X1_takeLetters, wm_X1_82, mw_tab 290 (by decide +kernel) rfl, mw_sel 1 (by decide +kernel) rfl, TX1, 6, rfl⟩
theorem wm_X1_85 : Cond.methodLink RX1 85 yX1_isDigit ∈ mw := mw_tab 292 (by decide +kernel) rfl
theorem sX1_85 : mCs RX1 85 zX1_isDigit 1 := ⟨wy_X1_isDigit, wm_X1_85, mw_tab 293 (by decide +kernel) rfl⟩
theorem wm_X1_88 : Cond.methodLink RX1 88 yX1_takeDigits ∈ mw := mw_tab 295 (by decide +kernel) rfl
theorem vX1_88 : mCv RX1 88 zX1_takeDigits 0 1 := ⟨wy_X1_takeDigits, wm_X1_88, mw_tab 297 (by decide +kernel) rfl, mw_sel 2 (by decide +kernel) rfl, TX1, 6, rfl⟩
theorem aX1_91 : Cond.methodLink RX1 91 Lib.Math.min.name ∈ mw := mw_tab 299 (by decide +kernel) rfl
theorem wm_X1_33 : Cond.methodLink RX1 33 yX1_readItem ∈ mw := mw_tab 302 (by decide +kernel) rfl
theorem vX1_33 : mCv RX1 33 zX1_readItem 1 1 := ⟨wy_X1_readItem, wm_X1_33, mw_tab 304 (by decide +kernel) rfl, mw_sel 3 (by decide +kernel) rfl, TX1, 6, rfl⟩
theorem wm_X1_46 : Cond.methodLink RX1 46 yX1_readBoth ∈ mw := mw_tab 306 (by decide +kernel) rfl
theorem vX1_46 : mCv RX1 46 zX1_readBoth 1 1 := ⟨wy_X1_readBoth, wm_X1_46, mw_tab 308 (by decide +kernel) rfl, mw_sel 4 (by decide +kernel) rfl, TX1, 6, rfl⟩
theorem wm_X1_49 : Cond.methodLink RX1 49 yX1_readCube ∈ mw := mw_tab 310 (by decide +kernel) rfl
theorem vX1_49 : mCv RX1 49 zX1_readCube 1 1 := ⟨wy_X1_readCube, wm_X1_49, mw_tab 312 (by decide +kernel) rfl, mw_sel 5 (by decide +kernel) rfl, TX1, 6, rfl⟩
theorem wm_X1_62 : Cond.methodLink RX1 62 yX1_isNumberBelow ∈ mw := mw_tab 314 (by decide +kernel) rfl
theorem vX1_62 : mCv RX1 62 zX1_isNumberBelow 1 1 := ⟨wy_X1_isNumberBelow, wm_X1_62, mw_tab 316 (by decide +kernel) rfl, mw_sel 6 (by decide +kernel) rfl, TX1, 6, rfl⟩
theorem wm_X1_52 : Cond.methodLink RX1 52 yX1_readDay ∈ mw := mw_tab 318 (by decide +kernel) rfl
theorem vX1_52 : mCv RX1 52 zX1_readDay 1 1 := ⟨wy_X1_readDay, wm_X1_52, mw_tab 320 (by decide +kernel) rfl, mw_sel 7 (by decide +kernel) rfl, TX1, 6, rfl⟩
theorem wm_X1_72 : Cond.methodLink RX1 72 yX5_howManyNumbers ∈ mw := mw_tab 322 (by decide +kernel) rfl
theorem vX1_72 : mCv RX1 72 zX5_howManyNumbers 0 5 := ⟨wy_X5_howManyNumbers, wm_X1_72, mw_tab 323 (by decide +kernel) rfl, mw_tab 324 (by decide +kernel) rfl, TX5, 6, rfl⟩
theorem wm_X7_81 : Cond.methodLink RX7 81 yX3_begin ∈ mw := mw_tab 328 (by decide +kernel) rfl
theorem vX7_81 : mCv RX7 81 zX3_begin 1 3 := ⟨wy_X3_begin, wm_X7_81, mw_tab 329 (by decide +kernel) rfl, mw_tab 330 (by decide +kernel) rfl, TX3, 6, rfl⟩
theorem aX3_27 : Cond.methodLink RX3 27 arraycopyName ∈ mw := mw_tab 332 (by decide +kernel) rfl
theorem wm_X7_88 : Cond.methodLink RX7 88 yJ7_fill_49daa ∈ mw := mw_tab 335 (by decide +kernel) rfl
theorem sX7_88 : mCs RX7 88 zJ7_fill_49daa 2 := ⟨wy_J7_fill_49daa, wm_X7_88, mw_tab 336 (by decide +kernel) rfl⟩
theorem wm_L_27 : Cond.methodLink RL 27 yX7_side ∈ mw := mw_tab 338 (by decide +kernel) rfl
theorem vL_27 : mCv RL 27 zX7_side 2 7 := ⟨wy_X7_side, wm_L_27, mw_tab 339 (by decide +kernel) rfl, mw_tab 340 (by decide +kernel) rfl, TX7, 11, rfl⟩
theorem wm_X7_97 : Cond.methodLink RX7 97 yX7_isCube ∈ mw := mw_tab 342 (by decide +kernel) rfl
theorem vX7_97 : mCv RX7 97 zX7_isCube 1 7 := ⟨wy_X7_isCube, wm_X7_97, mw_tab 344 (by decide +kernel) rfl, mw_sel 8 (by decide +kernel) rfl, TX7, 11, rfl⟩
theorem wm_X7_101 : Cond.methodLink RX7 101 yX7_isSide ∈ mw := mw_tab 346 (by decide +kernel) rfl
theorem sX7_101 : mCs RX7 101 zX7_isSide 1 := ⟨wy_X7_isSide, wm_X7_101, mw_tab 347 (by decide +kernel) rfl⟩
theorem wm_L_32 : Cond.methodLink RL 32 yX7_cube ∈ mw := mw_tab 349 (by decide +kernel) rfl
theorem vL_32 : mCv RL 32 zX7_cube 2 7 := ⟨wy_X7_cube, wm_L_32, mw_tab 350 (by decide +kernel) rfl, mw_tab 351 (by decide +kernel) rfl, TX7, 11, rfl⟩
theorem wm_X7_108 : Cond.methodLink RX7 108 yX3_placeOf ∈ mw := mw_tab 353 (by decide +kernel) rfl
theorem vX7_108 : mCv RX7 108 zX3_placeOf 1 3 := ⟨wy_X3_placeOf, wm_X7_108, mw_tab 354 (by decide +kernel) rfl, mw_tab 355 (by decide +kernel) rfl, TX3, 6, rfl⟩
theorem wm_X7_115 : Cond.methodLink RX7 115 yX3_figuresOf ∈ mw := mw_tab 357 (by decide +kernel) rfl
theorem vX7_115 : mCv RX7 115 zX3_figuresOf 1 3 := ⟨wy_X3_figuresOf, wm_X7_115, mw_tab 358 (by decide +kernel) rfl, mw_tab 359 (by decide +kernel) rfl, TX3, 6, rfl⟩
theorem wm_X7_118 : Cond.methodLink RX7 118 yX7_sidesNeeded ∈ mw := mw_tab 361 (by decide +kernel) rfl
theorem vX7_118 : mCv RX7 118 zX7_sidesNeeded 1 7 := ⟨wy_X7_sidesNeeded, wm_X7_118, mw_tab 363 (by decide +kernel) rfl, mw_sel 9 (by decide +kernel) rfl, TX7, 11, rfl⟩
theorem wm_X7_159 : Cond.methodLink RX7 159 yX7_tellersBut ∈ mw := mw_tab 365 (by decide +kernel) rfl
theorem vX7_159 : mCv RX7 159 zX7_tellersBut 1 7 := ⟨wy_X7_tellersBut, wm_X7_159, mw_tab 367 (by decide +kernel) rfl, mw_sel 10 (by decide +kernel) rfl, TX7, 11, rfl⟩
theorem wm_X7_232 : Cond.methodLink RX7 232 yX4_take ∈ mw := mw_tab 369 (by decide +kernel) rfl
theorem vX7_232 : mCv RX7 232 zX4_take 3 4 := ⟨wy_X4_take, wm_X7_232, mw_tab 370 (by decide +kernel) rfl, mw_tab 371 (by decide +kernel) rfl, TX4, 2, rfl⟩
theorem wm_X4_22 : Cond.methodLink RX4 22 yJ7_fill_53178 ∈ mw := mw_tab 373 (by decide +kernel) rfl
theorem sX4_22 : mCs RX4 22 zJ7_fill_53178 2 := ⟨wy_J7_fill_53178, wm_X4_22, mw_tab 374 (by decide +kernel) rfl⟩
theorem wm_X7_169 : Cond.methodLink RX7 169 yX4_daysDone ∈ mw := mw_tab 376 (by decide +kernel) rfl
theorem vX7_169 : mCv RX7 169 zX4_daysDone 1 4 := ⟨wy_X4_daysDone, wm_X7_169, mw_tab 377 (by decide +kernel) rfl, mw_tab 378 (by decide +kernel) rfl, TX4, 2, rfl⟩
theorem wm_X4_47 : Cond.methodLink RX4 47 yX4_canTell ∈ mw := mw_tab 380 (by decide +kernel) rfl
theorem vX4_47 : mCv RX4 47 zX4_canTell 1 4 := ⟨wy_X4_canTell, wm_X4_47, mw_tab 381 (by decide +kernel) rfl, mw_tab 382 (by decide +kernel) rfl, TX4, 2, rfl⟩
theorem wm_X4_37 : Cond.methodLink RX4 37 yX4_withOneMore ∈ mw := mw_tab 384 (by decide +kernel) rfl
theorem vX4_37 : mCv RX4 37 zX4_withOneMore 2 4 := ⟨wy_X4_withOneMore, wm_X4_37, mw_tab 386 (by decide +kernel) rfl, mw_sel 11 (by decide +kernel) rfl, TX4, 2, rfl⟩
theorem wm_L_36 : Cond.methodLink RL 36 yX7_place ∈ mw := mw_tab 390 (by decide +kernel) rfl
theorem vL_36 : mCv RL 36 zX7_place 1 7 := ⟨wy_X7_place, wm_L_36, mw_tab 391 (by decide +kernel) rfl, mw_tab 392 (by decide +kernel) rfl, TX7, 11, rfl⟩
theorem wm_X7_121 : Cond.methodLink RX7 121 yX7_isPlace ∈ mw := mw_tab 394 (by decide +kernel) rfl
theorem vX7_121 : mCv RX7 121 zX7_isPlace 1 7 := ⟨wy_X7_isPlace, wm_X7_121, mw_tab 396 (by decide +kernel) rfl, mw_sel 12 (by decide +kernel) rfl, TX7, 11, rfl⟩
theorem wm_L_40 : Cond.methodLink RL 40 yX7_day ∈ mw := mw_tab 398 (by decide +kernel) rfl
theorem vL_40 : mCv RL 40 zX7_day 1 7 := ⟨wy_X7_day, wm_L_40, mw_tab 399 (by decide +kernel) rfl, mw_tab 400 (by decide +kernel) rfl, TX7, 11, rfl⟩
theorem wm_L_44 : Cond.methodLink RL 44 yX7_turn ∈ mw := mw_tab 402 (by decide +kernel) rfl
theorem vL_44 : mCv RL 44 zX7_turn 2 7 := ⟨wy_X7_turn, wm_L_44, mw_tab 403 (by decide +kernel) rfl, mw_tab 404 (by decide +kernel) rfl, TX7, 11, rfl⟩
theorem wm_X7_133 : Cond.methodLink RX7 133 yX3_turnCube ∈ mw := mw_tab 406 (by decide +kernel) rfl
theorem vX7_133 : mCv RX7 133 zX3_turnCube 2 3 := ⟨wy_X3_turnCube, wm_X7_133, mw_tab 407 (by decide +kernel) rfl, mw_tab 408 (by decide +kernel) rfl, TX3, 6, rfl⟩
theorem wm_X3_40 : Cond.methodLink RX3 40 yX3_remember ∈ mw := mw_tab 410 (by decide +kernel) rfl
theorem vX3_40 : mCv RX3 40 zX3_remember 3 3 := ⟨wy_X3_remember, wm_X3_40, mw_tab 412 (by decide +kernel) rfl, mw_sel 13 (by decide +kernel) rfl, TX3, 6, rfl⟩
theorem wm_X3_44 : Cond.methodLink RX3 44 yX3_turnWork ∈ mw := mw_tab 414 (by decide +kernel) rfl
theorem sX3_44 : mCs RX3 44 zX3_turnWork 2 := ⟨wy_X3_turnWork, wm_X3_44, mw_tab 415 (by decide +kernel) rfl⟩
theorem wm_X3_48 : Cond.methodLink RX3 48 yX3_addWork ∈ mw := mw_tab 417 (by decide +kernel) rfl
theorem vX3_48 : mCv RX3 48 zX3_addWork 1 3 := ⟨wy_X3_addWork, wm_X3_48, mw_tab 419 (by decide +kernel) rfl, mw_sel 14 (by decide +kernel) rfl, TX3, 6, rfl⟩
theorem aX3_56 : Cond.methodLink RX3 56 Lib.Math.min.name ∈ mw := mw_tab 421 (by decide +kernel) rfl
theorem wm_L_48 : Cond.methodLink RL 48 yX7_changes ∈ mw := mw_tab 422 (by decide +kernel) rfl
theorem vL_48 : mCv RL 48 zX7_changes 2 7 := ⟨wy_X7_changes, wm_L_48, mw_tab 423 (by decide +kernel) rfl, mw_tab 424 (by decide +kernel) rfl, TX7, 11, rfl⟩
theorem wm_X7_140 : Cond.methodLink RX7 140 yX3_changePlaces ∈ mw := mw_tab 426 (by decide +kernel) rfl
theorem vX7_140 : mCv RX7 140 zX3_changePlaces 2 3 := ⟨wy_X3_changePlaces, wm_X7_140, mw_tab 427 (by decide +kernel) rfl, mw_tab 428 (by decide +kernel) rfl, TX3, 6, rfl⟩
theorem wm_X3_52 : Cond.methodLink RX3 52 yX3_exchange ∈ mw := mw_tab 430 (by decide +kernel) rfl
theorem vX3_52 : mCv RX3 52 zX3_exchange 2 3 := ⟨wy_X3_exchange, wm_X3_52, mw_tab 432 (by decide +kernel) rfl, mw_sel 15 (by decide +kernel) rfl, TX3, 6, rfl⟩
theorem wm_L_52 : Cond.methodLink RL 52 yX7_pastes ∈ mw := mw_tab 434 (by decide +kernel) rfl
theorem vL_52 : mCv RL 52 zX7_pastes 3 7 := ⟨wy_X7_pastes, wm_L_52, mw_tab 435 (by decide +kernel) rfl, mw_tab 436 (by decide +kernel) rfl, TX7, 11, rfl⟩
theorem wm_X7_143 : Cond.methodLink RX7 143 yX7_isFigure ∈ mw := mw_tab 438 (by decide +kernel) rfl
theorem sX7_143 : mCs RX7 143 zX7_isFigure 1 := ⟨wy_X7_isFigure, wm_X7_143, mw_tab 439 (by decide +kernel) rfl⟩
theorem wm_X7_146 : Cond.methodLink RX7 146 yX3_pasteFigure ∈ mw := mw_tab 441 (by decide +kernel) rfl
theorem vX7_146 : mCv RX7 146 zX3_pasteFigure 2 3 := ⟨wy_X3_pasteFigure, wm_X7_146, mw_tab 442 (by decide +kernel) rfl, mw_tab 443 (by decide +kernel) rfl, TX3, 6, rfl⟩
theorem wm_L_57 : Cond.methodLink RL 57 yX7_undo ∈ mw := mw_tab 445 (by decide +kernel) rfl
theorem vL_57 : mCv RL 57 zX7_undo 0 7 := ⟨wy_X7_undo, wm_L_57, mw_tab 446 (by decide +kernel) rfl, mw_tab 447 (by decide +kernel) rfl, TX7, 11, rfl⟩
theorem wm_X7_152 : Cond.methodLink RX7 152 yX3_takeBack ∈ mw := mw_tab 449 (by decide +kernel) rfl
theorem vX7_152 : mCv RX7 152 zX3_takeBack 0 3 := ⟨wy_X3_takeBack, wm_X7_152, mw_tab 450 (by decide +kernel) rfl, mw_tab 451 (by decide +kernel) rfl, TX3, 6, rfl⟩
theorem wm_L_61 : Cond.methodLink RL 61 yX7_now ∈ mw := mw_tab 453 (by decide +kernel) rfl
theorem vL_61 : mCv RL 61 zX7_now 1 7 := ⟨wy_X7_now, wm_L_61, mw_tab 454 (by decide +kernel) rfl, mw_tab 455 (by decide +kernel) rfl, TX7, 11, rfl⟩
theorem wm_X7_155 : Cond.methodLink RX7 155 yX7_numberInFront ∈ mw := mw_tab 457 (by decide +kernel) rfl
theorem vX7_155 : mCv RX7 155 zX7_numberInFront 0 7 := ⟨wy_X7_numberInFront, wm_X7_155, mw_tab 459 (by decide +kernel) rfl, mw_sel 16 (by decide +kernel) rfl, TX7, 11, rfl⟩
theorem wm_X7_235 : Cond.methodLink RX7 235 yX3_figureInFront ∈ mw := mw_tab 461 (by decide +kernel) rfl
theorem vX7_235 : mCv RX7 235 zX3_figureInFront 1 3 := ⟨wy_X3_figureInFront, wm_X7_235, mw_tab 462 (by decide +kernel) rfl, mw_tab 463 (by decide +kernel) rfl, TX3, 6, rfl⟩
theorem wm_X7_163 : Cond.methodLink RX7 163 yX4_many ∈ mw := mw_tab 465 (by decide +kernel) rfl
theorem vX7_163 : mCv RX7 163 zX4_many 0 4 := ⟨wy_X4_many, wm_X7_163, mw_tab 466 (by decide +kernel) rfl, mw_tab 467 (by decide +kernel) rfl, TX4, 2, rfl⟩
theorem wm_X4_65 : Cond.methodLink RX4 65 yX4_manyFrom ∈ mw := mw_tab 469 (by decide +kernel) rfl
theorem vX4_65 : mCv RX4 65 zX4_manyFrom 5 4 := ⟨wy_X4_manyFrom, wm_X4_65, mw_tab 471 (by decide +kernel) rfl, mw_sel 17 (by decide +kernel) rfl, TX4, 2, rfl⟩
theorem wm_X7_166 : Cond.methodLink RX7 166 yX4_leastUntold ∈ mw := mw_tab 473 (by decide +kernel) rfl
theorem vX7_166 : mCv RX7 166 zX4_leastUntold 0 4 := ⟨wy_X4_leastUntold, wm_X7_166, mw_tab 474 (by decide +kernel) rfl, mw_tab 475 (by decide +kernel) rfl, TX4, 2, rfl⟩
theorem wm_L_65 : Cond.methodLink RL 65 yX7_number ∈ mw := mw_tab 478 (by decide +kernel) rfl
theorem vL_65 : mCv RL 65 zX7_number 2 7 := ⟨wy_X7_number, wm_L_65, mw_tab 479 (by decide +kernel) rfl, mw_tab 480 (by decide +kernel) rfl, TX7, 11, rfl⟩
theorem wm_X7_172 : Cond.methodLink RX7 172 yX7_isNumber ∈ mw := mw_tab 482 (by decide +kernel) rfl
theorem vX7_172 : mCv RX7 172 zX7_isNumber 1 7 := ⟨wy_X7_isNumber, wm_X7_172, mw_tab 484 (by decide +kernel) rfl, mw_sel 18 (by decide +kernel) rfl, TX7, 11, rfl⟩
theorem wm_X7_229 : Cond.methodLink RX7 229 yX5_howManyNumbers ∈ mw := mw_tab 486 (by decide +kernel) rfl
theorem vX7_229 : mCv RX7 229 zX5_howManyNumbers 0 5 := ⟨wy_X5_howManyNumbers, wm_X7_229, mw_tab 323 (by decide +kernel) rfl, mw_tab 324 (by decide +kernel) rfl, TX5, 6, rfl⟩
theorem wm_X7_175 : Cond.methodLink RX7 175 yX7_isTold ∈ mw := mw_tab 487 (by decide +kernel) rfl
theorem vX7_175 : mCv RX7 175 zX7_isTold 1 7 := ⟨wy_X7_isTold, wm_X7_175, mw_tab 489 (by decide +kernel) rfl, mw_sel 19 (by decide +kernel) rfl, TX7, 11, rfl⟩
theorem wm_X7_238 : Cond.methodLink RX7 238 yX5_fits ∈ mw := mw_tab 491 (by decide +kernel) rfl
theorem vX7_238 : mCv RX7 238 zX5_fits 2 5 := ⟨wy_X5_fits, wm_X7_238, mw_tab 492 (by decide +kernel) rfl, mw_tab 493 (by decide +kernel) rfl, TX5, 6, rfl⟩
theorem wm_X5_35 : Cond.methodLink RX5 35 yX5_upright ∈ mw := mw_tab 495 (by decide +kernel) rfl
theorem vX5_35 : mCv RX5 35 zX5_upright 1 5 := ⟨wy_X5_upright, wm_X5_35, mw_tab 496 (by decide +kernel) rfl, mw_tab 497 (by decide +kernel) rfl, TX5, 6, rfl⟩
theorem wm_X7_178 : Cond.methodLink RX7 178 yX4_canTell ∈ mw := mw_tab 499 (by decide +kernel) rfl
theorem vX7_178 : mCv RX7 178 zX4_canTell 1 4 := ⟨wy_X4_canTell, wm_X7_178, mw_tab 381 (by decide +kernel) rfl, mw_tab 382 (by decide +kernel) rfl, TX4, 2, rfl⟩
theorem wm_X7_181 : Cond.methodLink RX7 181 yX7_leastWork ∈ mw := mw_tab 500 (by decide +kernel) rfl
theorem vX7_181 : mCv RX7 181 zX7_leastWork 2 7 := ⟨wy_X7_leastWork, wm_X7_181, mw_tab 502 (by decide +kernel) rfl, mw_sel 20 (by decide +kernel) rfl, TX7, 11, rfl⟩
theorem wm_X7_242 : Cond.methodLink RX7 242 yX6_leastThrough ∈ mw := mw_tab 504 (by decide +kernel) rfl
theorem vX7_242 : mCv RX7 242 zX6_leastThrough 4 6 := ⟨wy_X6_leastThrough, wm_X7_242, mw_tab 505 (by decide +kernel) rfl, mw_tab 506 (by decide +kernel) rfl, TX6, 11, rfl⟩
theorem wm_X6_48 : Cond.methodLink RX6 48 yX6_takeWanted ∈ mw := mw_tab 508 (by decide +kernel) rfl
theorem vX6_48 : mCv RX6 48 zX6_takeWanted 2 6 := ⟨wy_X6_takeWanted, wm_X6_48, mw_tab 510 (by decide +kernel) rfl, mw_sel 21 (by decide +kernel) rfl, TX6, 11, rfl⟩
theorem wm_X6_52 : Cond.methodLink RX6 52 yX6_reckonTurns ∈ mw := mw_tab 512 (by decide +kernel) rfl
theorem vX6_52 : mCv RX6 52 zX6_reckonTurns 1 6 := ⟨wy_X6_reckonTurns, wm_X6_52, mw_tab 514 (by decide +kernel) rfl, mw_sel 22 (by decide +kernel) rfl, TX6, 11, rfl⟩
theorem wm_X6_69 : Cond.methodLink RX6 69 yX6_reckonPathsFrom ∈ mw := mw_tab 516 (by decide +kernel) rfl
theorem vX6_69 : mCv RX6 69 zX6_reckonPathsFrom 3 6 := ⟨wy_X6_reckonPathsFrom, wm_X6_69, mw_tab 518 (by decide +kernel) rfl, mw_sel 23 (by decide +kernel) rfl, TX6, 11, rfl⟩
theorem wm_X6_73 : Cond.methodLink RX6 73 yX6_longerPath ∈ mw := mw_tab 520 (by decide +kernel) rfl
theorem sX6_73 : mCs RX6 73 zX6_longerPath 2 := ⟨wy_X6_longerPath, wm_X6_73, mw_tab 521 (by decide +kernel) rfl⟩
theorem wm_X6_77 : Cond.methodLink RX6 77 yX6_reckonSides ∈ mw := mw_tab 523 (by decide +kernel) rfl
theorem vX6_77 : mCv RX6 77 zX6_reckonSides 3 6 := ⟨wy_X6_reckonSides, wm_X6_77, mw_tab 525 (by decide +kernel) rfl, mw_sel 24 (by decide +kernel) rfl, TX6, 11, rfl⟩
theorem wm_X6_84 : Cond.methodLink RX6 84 yX5_fits ∈ mw := mw_tab 527 (by decide +kernel) rfl
theorem vX6_84 : mCv RX6 84 zX5_fits 2 5 := ⟨wy_X5_fits, wm_X6_84, mw_tab 492 (by decide +kernel) rfl, mw_tab 493 (by decide +kernel) rfl, TX5, 6, rfl⟩
theorem wm_X6_88 : Cond.methodLink RX6 88 yX3_turnWork ∈ mw := mw_tab 528 (by decide +kernel) rfl
theorem sX6_88 : mCs RX6 88 zX3_turnWork 2 := ⟨wy_X3_turnWork, wm_X6_88, mw_tab 415 (by decide +kernel) rfl⟩
theorem aX6_91 : Cond.methodLink RX6 91 Lib.Math.min.name ∈ mw := mw_tab 529 (by decide +kernel) rfl
theorem wm_X6_62 : Cond.methodLink RX6 62 yX6_choose ∈ mw := mw_tab 530 (by decide +kernel) rfl
theorem vX6_62 : mCv RX6 62 zX6_choose 4 6 := ⟨wy_X6_choose, wm_X6_62, mw_tab 532 (by decide +kernel) rfl, mw_sel 25 (by decide +kernel) rfl, TX6, 11, rfl⟩
theorem wm_X6_96 : Cond.methodLink RX6 96 yX6_changesTo ∈ mw := mw_tab 534 (by decide +kernel) rfl
theorem vX6_96 : mCv RX6 96 zX6_changesTo 1 6 := ⟨wy_X6_changesTo, wm_X6_96, mw_tab 536 (by decide +kernel) rfl, mw_sel 26 (by decide +kernel) rfl, TX6, 11, rfl⟩
theorem wm_X6_100 : Cond.methodLink RX6 100 yX6_goOn ∈ mw := mw_tab 538 (by decide +kernel) rfl
theorem vX6_100 : mCv RX6 100 zX6_goOn 2 6 := ⟨wy_X6_goOn, wm_X6_100, mw_tab 540 (by decide +kernel) rfl, mw_sel 27 (by decide +kernel) rfl, TX6, 11, rfl⟩
theorem wm_X7_185 : Cond.methodLink RX7 185 yX4_fewestPastes ∈ mw := mw_tab 542 (by decide +kernel) rfl
theorem vX7_185 : mCv RX7 185 zX4_fewestPastes 1 4 := ⟨wy_X4_fewestPastes, wm_X7_185, mw_tab 543 (by decide +kernel) rfl, mw_tab 544 (by decide +kernel) rfl, TX4, 2, rfl⟩
theorem wm_X4_54 : Cond.methodLink RX4 54 yJ6_bitCount_0f7a4 ∈ mw := mw_tab 546 (by decide +kernel) rfl
theorem sX4_54 : mCs RX4 54 zJ6_bitCount_0f7a4 1 := ⟨wy_J6_bitCount_0f7a4, wm_X4_54, mw_tab 547 (by decide +kernel) rfl⟩
theorem aX4_60 : Cond.methodLink RX4 60 Lib.Math.max.name ∈ mw := mw_tab 552 (by decide +kernel) rfl
theorem wm_L_69 : Cond.methodLink RL 69 yX7_through ∈ mw := mw_tab 555 (by decide +kernel) rfl
theorem vL_69 : mCv RL 69 zX7_through 2 7 := ⟨wy_X7_through, wm_L_69, mw_tab 556 (by decide +kernel) rfl, mw_tab 557 (by decide +kernel) rfl, TX7, 11, rfl⟩
theorem wm_L_73 : Cond.methodLink RL 73 yX7_odds ∈ mw := mw_tab 559 (by decide +kernel) rfl
theorem vL_73 : mCv RL 73 zX7_odds 2 7 := ⟨wy_X7_odds, wm_L_73, mw_tab 560 (by decide +kernel) rfl, mw_tab 561 (by decide +kernel) rfl, TX7, 11, rfl⟩
theorem wm_X7_188 : Cond.methodLink RX7 188 yX0_reckon ∈ mw := mw_tab 563 (by decide +kernel) rfl
theorem vX7_188 : mCv RX7 188 zX0_reckon 3 0 := ⟨wy_X0_reckon, wm_X7_188, mw_tab 564 (by decide +kernel) rfl, mw_tab 565 (by decide +kernel) rfl, TX0, 5, rfl⟩
theorem wm_X0_23 : Cond.methodLink RX0 23 yJ7_fill_53178 ∈ mw := mw_tab 567 (by decide +kernel) rfl
theorem sX0_23 : mCs RX0 23 zJ7_fill_53178 2 := ⟨wy_J7_fill_53178, wm_X0_23, mw_tab 374 (by decide +kernel) rfl⟩
theorem wm_X0_35 : Cond.methodLink RX0 35 yX5_upright ∈ mw := mw_tab 568 (by decide +kernel) rfl
theorem vX0_35 : mCv RX0 35 zX5_upright 1 5 := ⟨wy_X5_upright, wm_X0_35, mw_tab 496 (by decide +kernel) rfl, mw_tab 497 (by decide +kernel) rfl, TX5, 6, rfl⟩
theorem wm_X0_39 : Cond.methodLink RX0 39 yX0_fallsFrom ∈ mw := mw_tab 569 (by decide +kernel) rfl
theorem vX0_39 : mCv RX0 39 zX0_fallsFrom 1 0 := ⟨wy_X0_fallsFrom, wm_X0_39, mw_tab 571 (by decide +kernel) rfl, mw_sel 28 (by decide +kernel) rfl, TX0, 5, rfl⟩
theorem wm_X0_51 : Cond.methodLink RX0 51 yX0_reduce ∈ mw := mw_tab 575 (by decide +kernel) rfl
theorem vX0_51 : mCv RX0 51 zX0_reduce 0 0 := ⟨wy_X0_reduce, wm_X0_51, mw_tab 577 (by decide +kernel) rfl, mw_sel 29 (by decide +kernel) rfl, TX0, 5, rfl⟩
theorem wm_X0_59 : Cond.methodLink RX0 59 yX0_reduceBy ∈ mw := mw_tab 579 (by decide +kernel) rfl
theorem vX0_59 : mCv RX0 59 zX0_reduceBy 1 0 := ⟨wy_X0_reduceBy, wm_X0_59, mw_tab 581 (by decide +kernel) rfl, mw_sel 30 (by decide +kernel) rfl, TX0, 5, rfl⟩
theorem wm_L_77 : Cond.methodLink RL 77 yX7_sees ∈ mw := mw_tab 583 (by decide +kernel) rfl
theorem vL_77 : mCv RL 77 zX7_sees 2 7 := ⟨wy_X7_sees, wm_L_77, mw_tab 584 (by decide +kernel) rfl, mw_tab 585 (by decide +kernel) rfl, TX7, 11, rfl⟩
theorem wm_X7_198 : Cond.methodLink RX7 198 yX2_append ∈ mw := mw_tab 587 (by decide +kernel) rfl
theorem vX7_198 : mCv RX7 198 zX2_append 2 2 := ⟨wy_X2_append, wm_X7_198, mw_tab 588 (by decide +kernel) rfl, mw_tab 589 (by decide +kernel) rfl, TX2, 3, rfl⟩
theorem wm_L_81 : Cond.methodLink RL 81 yX7_forget ∈ mw := mw_tab 591 (by decide +kernel) rfl
theorem vL_81 : mCv RL 81 zX7_forget 0 7 := ⟨wy_X7_forget, wm_L_81, mw_tab 592 (by decide +kernel) rfl, mw_tab 593 (by decide +kernel) rfl, TX7, 11, rfl⟩
theorem wm_L_85 : Cond.methodLink RL 85 yX7_which ∈ mw := mw_tab 595 (by decide +kernel) rfl
theorem vL_85 : mCv RL 85 zX7_which 0 7 := ⟨wy_X7_which, wm_L_85, mw_tab 596 (by decide +kernel) rfl, mw_tab 597 (by decide +kernel) rfl, TX7, 11, rfl⟩
theorem wm_X7_203 : Cond.methodLink RX7 203 yX2_cubesThatMayBe ∈ mw := mw_tab 599 (by decide +kernel) rfl
theorem vX7_203 : mCv RX7 203 zX2_cubesThatMayBe 2 2 := ⟨wy_X2_cubesThatMayBe, wm_X7_203, mw_tab 600 (by decide +kernel) rfl, mw_tab 601 (by decide +kernel) rfl, TX2, 3, rfl⟩
theorem wm_X2_22 : Cond.methodLink RX2 22 yX3_figuresOf ∈ mw := mw_tab 603 (by decide +kernel) rfl
theorem vX2_22 : mCv RX2 22 zX3_figuresOf 1 3 := ⟨wy_X3_figuresOf, wm_X2_22, mw_tab 358 (by decide +kernel) rfl, mw_tab 359 (by decide +kernel) rfl, TX3, 6, rfl⟩
theorem wm_X2_28 : Cond.methodLink RX2 28 yX2_mayBe ∈ mw := mw_tab 604 (by decide +kernel) rfl
theorem vX2_28 : mCv RX2 28 zX2_mayBe 1 2 := ⟨wy_X2_mayBe, wm_X2_28, mw_tab 606 (by decide +kernel) rfl, mw_sel 31 (by decide +kernel) rfl, TX2, 3, rfl⟩
theorem wm_L_89 : Cond.methodLink RL 89 yX7_look ∈ mw := mw_tab 608 (by decide +kernel) rfl
theorem vL_89 : mCv RL 89 zX7_look 0 7 := ⟨wy_X7_look, wm_L_89, mw_tab 609 (by decide +kernel) rfl, mw_tab 610 (by decide +kernel) rfl, TX7, 11, rfl⟩
theorem wm_X7_207 : Cond.methodLink RX7 207 yX2_bestToLookFor ∈ mw := mw_tab 612 (by decide +kernel) rfl
theorem vX7_207 : mCv RX7 207 zX2_bestToLookFor 2 2 := ⟨wy_X2_bestToLookFor, wm_X7_207, mw_tab 613 (by decide +kernel) rfl, mw_tab 614 (by decide +kernel) rfl, TX2, 3, rfl⟩
theorem wm_X2_32 : Cond.methodLink RX2 32 yX2_cubesThatMayBe ∈ mw := mw_tab 616 (by decide +kernel) rfl
theorem vX2_32 : mCv RX2 32 zX2_cubesThatMayBe 2 2 := ⟨wy_X2_cubesThatMayBe, wm_X2_32, mw_tab 600 (by decide +kernel) rfl, mw_tab 601 (by decide +kernel) rfl, TX2, 3, rfl⟩
theorem wm_X2_36 : Cond.methodLink RX2 36 yJ6_bitCount_0f7a4 ∈ mw := mw_tab 617 (by decide +kernel) rfl
theorem sX2_36 : mCs RX2 36 zJ6_bitCount_0f7a4 1 := ⟨wy_J6_bitCount_0f7a4, wm_X2_36, mw_tab 547 (by decide +kernel) rfl⟩
theorem wm_X2_41 : Cond.methodLink RX2 41 yX2_howManyHave ∈ mw := mw_tab 618 (by decide +kernel) rfl
theorem sX2_41 : mCs RX2 41 zX2_howManyHave 4 := ⟨wy_X2_howManyHave, wm_X2_41, mw_tab 619 (by decide +kernel) rfl⟩
theorem aX2_45 : Cond.methodLink RX2 45 Lib.Math.max.name ∈ mw := mw_tab 621 (by decide +kernel) rfl
theorem wm_L_93 : Cond.methodLink RL 93 yX7_mark ∈ mw := mw_tab 622 (by decide +kernel) rfl
theorem vL_93 : mCv RL 93 zX7_mark 2 7 := ⟨wy_X7_mark, wm_L_93, mw_tab 623 (by decide +kernel) rfl, mw_tab 624 (by decide +kernel) rfl, TX7, 11, rfl⟩
theorem wm_X7_211 : Cond.methodLink RX7 211 yX7_markAs ∈ mw := mw_tab 627 (by decide +kernel) rfl
theorem vX7_211 : mCv RX7 211 zX7_markAs 2 7 := ⟨wy_X7_markAs, wm_X7_211, mw_tab 629 (by decide +kernel) rfl, mw_sel 32 (by decide +kernel) rfl, TX7, 11, rfl⟩
theorem wm_X7_252 : Cond.methodLink RX7 252 yJ6_bitCount_0f7a4 ∈ mw := mw_tab 635 (by decide +kernel) rfl
theorem sX7_252 : mCs RX7 252 zJ6_bitCount_0f7a4 1 := ⟨wy_J6_bitCount_0f7a4, wm_X7_252, mw_tab 547 (by decide +kernel) rfl⟩
theorem wm_L_97 : Cond.methodLink RL 97 yX7_keep ∈ mw := mw_tab 636 (by decide +kernel) rfl
theorem vL_97 : mCv RL 97 zX7_keep 1 7 := ⟨wy_X7_keep, wm_L_97, mw_tab 637 (by decide +kernel) rfl, mw_tab 638 (by decide +kernel) rfl, TX7, 11, rfl⟩
theorem wm_X7_214 : Cond.methodLink RX7 214 yX7_isImage ∈ mw := mw_tab 640 (by decide +kernel) rfl
theorem sX7_214 : mCs RX7 214 zX7_isImage 1 := ⟨wy_X7_isImage, wm_X7_214, mw_tab 641 (by decide +kernel) rfl⟩
theorem wm_X7_217 : Cond.methodLink RX7 217 yX3_copy ∈ mw := mw_tab 643 (by decide +kernel) rfl
theorem vX7_217 : mCv RX7 217 zX3_copy 1 3 := ⟨wy_X3_copy, wm_X7_217, mw_tab 644 (by decide +kernel) rfl, mw_tab 645 (by decide +kernel) rfl, TX3, 6, rfl⟩
theorem wm_L_101 : Cond.methodLink RL 101 yX7_back ∈ mw := mw_tab 647 (by decide +kernel) rfl
theorem vL_101 : mCv RL 101 zX7_back 1 7 := ⟨wy_X7_back, wm_L_101, mw_tab 648 (by decide +kernel) rfl, mw_tab 649 (by decide +kernel) rfl, TX7, 11, rfl⟩
theorem wm_L_105 : Cond.methodLink RL 105 yX7_count ∈ mw := mw_tab 651 (by decide +kernel) rfl
theorem vL_105 : mCv RL 105 zX7_count 1 7 := ⟨wy_X7_count, wm_L_105, mw_tab 652 (by decide +kernel) rfl, mw_tab 653 (by decide +kernel) rfl, TX7, 11, rfl⟩
theorem wm_L_109 : Cond.methodLink RL 109 yX7_trace ∈ mw := mw_tab 655 (by decide +kernel) rfl
theorem vL_109 : mCv RL 109 zX7_trace 0 7 := ⟨wy_X7_trace, wm_L_109, mw_tab 656 (by decide +kernel) rfl, mw_tab 657 (by decide +kernel) rfl, TX7, 11, rfl⟩
theorem wm_L_12 : Cond.methodLink RL 12 yX8_init ∈ mw := mw_tab 661 (by decide +kernel) rfl
theorem oX8_1 : Cond.methodLink RX8 1 objectInit ∈ mw := mw_tab 664 (by decide +kernel) rfl
theorem wm_X8_57 : Cond.methodLink RX8 57 yX8_begin ∈ mw := mw_tab 665 (by decide +kernel) rfl
theorem vX8_57 : mCv RX8 57 zX8_begin 0 8 := ⟨wy_X8_begin, wm_X8_57, mw_tab 667 (by decide +kernel) rfl, mw_sel 33 (by decide +kernel) rfl, TX8, 25, rfl⟩
theorem wm_X8_60 : Cond.methodLink RX8 60 yX8_tellOrders ∈ mw := mw_tab 669 (by decide +kernel) rfl
theorem vX8_60 : mCv RX8 60 zX8_tellOrders 0 8 := ⟨wy_X8_tellOrders, wm_X8_60, mw_tab 671 (by decide +kernel) rfl, mw_sel 34 (by decide +kernel) rfl, TX8, 25, rfl⟩
theorem wm_X8_180 : Cond.methodLink RX8 180 yX8_codes ∈ mw := mw_tab 673 (by decide +kernel) rfl
theorem vX8_180 : mCv RX8 180 zX8_codes 0 8 := ⟨wy_X8_codes, wm_X8_180, mw_tab 675 (by decide +kernel) rfl, mw_sel 35 (by decide +kernel) rfl, TX8, 25, rfl⟩
theorem wm_X8_183 : Cond.methodLink RX8 183 yX8_isOrder ∈ mw := mw_tab 677 (by decide +kernel) rfl
theorem vX8_183 : mCv RX8 183 zX8_isOrder 1 8 := ⟨wy_X8_isOrder, wm_X8_183, mw_tab 679 (by decide +kernel) rfl, mw_sel 36 (by decide +kernel) rfl, TX8, 25, rfl⟩
theorem wm_X8_127 : Cond.methodLink RX8 127 yX8_cubeIn ∈ mw := mw_tab 681 (by decide +kernel) rfl
theorem sX8_127 : mCs RX8 127 zX8_cubeIn 2 := ⟨wy_X8_cubeIn, wm_X8_127, mw_tab 682 (by decide +kernel) rfl⟩
theorem wm_L_17 : Cond.methodLink RL 17 yX8_type ∈ mw := mw_tab 761 (by decide +kernel) rfl
theorem vL_17 : mCv RL 17 zX8_type 1 8 := ⟨wy_X8_type, wm_L_17, mw_tab 762 (by decide +kernel) rfl, mw_tab 763 (by decide +kernel) rfl, TX8, 25, rfl⟩
theorem wm_X8_63 : Cond.methodLink RX8 63 yX8_in ∈ mw := mw_tab 765 (by decide +kernel) rfl
theorem sX8_63 : mCs RX8 63 zX8_in 3 := ⟨wy_X8_in, wm_X8_63, mw_tab 766 (by decide +kernel) rfl⟩
theorem wm_L_22 : Cond.methodLink RL 22 yX8_clear ∈ mw := mw_tab 768 (by decide +kernel) rfl
theorem vL_22 : mCv RL 22 zX8_clear 0 8 := ⟨wy_X8_clear, wm_L_22, mw_tab 769 (by decide +kernel) rfl, mw_tab 770 (by decide +kernel) rfl, TX8, 25, rfl⟩
theorem wm_L_26 : Cond.methodLink RL 26 yX8_desk ∈ mw := mw_tab 772 (by decide +kernel) rfl
theorem vL_26 : mCv RL 26 zX8_desk 0 8 := ⟨wy_X8_desk, wm_L_26, mw_tab 773 (by decide +kernel) rfl, mw_tab 774 (by decide +kernel) rfl, TX8, 25, rfl⟩
theorem wm_X8_117 : Cond.methodLink RX8 117 yX8_read ∈ mw := mw_tab 776 (by decide +kernel) rfl
theorem vX8_117 : mCv RX8 117 zX8_read 0 8 := ⟨wy_X8_read, wm_X8_117, mw_tab 778 (by decide +kernel) rfl, mw_sel 37 (by decide +kernel) rfl, TX8, 25, rfl⟩
theorem wm_X8_91 : Cond.methodLink RX8 91 yX8_step ∈ mw := mw_tab 780 (by decide +kernel) rfl
theorem vX8_91 : mCv RX8 91 zX8_step 0 8 := ⟨wy_X8_step, wm_X8_91, mw_tab 782 (by decide +kernel) rfl, mw_sel 38 (by decide +kernel) rfl, TX8, 25, rfl⟩
theorem wm_X8_74 : Cond.methodLink RX8 74 yX8_here ∈ mw := mw_tab 784 (by decide +kernel) rfl
theorem vX8_74 : mCv RX8 74 zX8_here 0 8 := ⟨wy_X8_here, wm_X8_74, mw_tab 786 (by decide +kernel) rfl, mw_sel 39 (by decide +kernel) rfl, TX8, 25, rfl⟩
theorem wm_X8_109 : Cond.methodLink RX8 109 yX8_may ∈ mw := mw_tab 788 (by decide +kernel) rfl
theorem vX8_109 : mCv RX8 109 zX8_may 1 8 := ⟨wy_X8_may, wm_X8_109, mw_tab 790 (by decide +kernel) rfl, mw_sel 40 (by decide +kernel) rfl, TX8, 25, rfl⟩
theorem wm_X8_94 : Cond.methodLink RX8 94 yX8_due ∈ mw := mw_tab 792 (by decide +kernel) rfl
theorem vX8_94 : mCv RX8 94 zX8_due 1 8 := ⟨wy_X8_due, wm_X8_94, mw_tab 794 (by decide +kernel) rfl, mw_sel 41 (by decide +kernel) rfl, TX8, 25, rfl⟩
theorem wm_X8_113 : Cond.methodLink RX8 113 yX8_item ∈ mw := mw_tab 796 (by decide +kernel) rfl
theorem vX8_113 : mCv RX8 113 zX8_item 1 8 := ⟨wy_X8_item, wm_X8_113, mw_tab 798 (by decide +kernel) rfl, mw_sel 42 (by decide +kernel) rfl, TX8, 25, rfl⟩
theorem wm_X8_98 : Cond.methodLink RX8 98 yX8_amount ∈ mw := mw_tab 800 (by decide +kernel) rfl
theorem vX8_98 : mCv RX8 98 zX8_amount 2 8 := ⟨wy_X8_amount, wm_X8_98, mw_tab 802 (by decide +kernel) rfl, mw_sel 43 (by decide +kernel) rfl, TX8, 25, rfl⟩
theorem wm_X8_102 : Cond.methodLink RX8 102 yX8_power ∈ mw := mw_tab 804 (by decide +kernel) rfl
theorem sX8_102 : mCs RX8 102 zX8_power 1 := ⟨wy_X8_power, wm_X8_102, mw_tab 805 (by decide +kernel) rfl⟩
theorem wm_L_31 : Cond.methodLink RL 31 yX8_side ∈ mw := mw_tab 807 (by decide +kernel) rfl
theorem vL_31 : mCv RL 31 zX8_side 2 8 := ⟨wy_X8_side, wm_L_31, mw_tab 808 (by decide +kernel) rfl, mw_tab 809 (by decide +kernel) rfl, TX8, 25, rfl⟩
theorem wm_X8_148 : Cond.methodLink RX8 148 yX8_isCube ∈ mw := mw_tab 811 (by decide +kernel) rfl
theorem vX8_148 : mCv RX8 148 zX8_isCube 1 8 := ⟨wy_X8_isCube, wm_X8_148, mw_tab 813 (by decide +kernel) rfl, mw_sel 44 (by decide +kernel) rfl, TX8, 25, rfl⟩
theorem wm_X8_151 : Cond.methodLink RX8 151 yX8_isSide ∈ mw := mw_tab 815 (by decide +kernel) rfl
theorem sX8_151 : mCs RX8 151 zX8_isSide 1 := ⟨wy_X8_isSide, wm_X8_151, mw_tab 816 (by decide +kernel) rfl⟩
theorem wm_L_35 : Cond.methodLink RL 35 yX8_cube ∈ mw := mw_tab 818 (by decide +kernel) rfl
theorem vL_35 : mCv RL 35 zX8_cube 2 8 := ⟨wy_X8_cube, wm_L_35, mw_tab 819 (by decide +kernel) rfl, mw_tab 820 (by decide +kernel) rfl, TX8, 25, rfl⟩
theorem wm_X8_154 : Cond.methodLink RX8 154 yX8_placeOf ∈ mw := mw_tab 822 (by decide +kernel) rfl
theorem vX8_154 : mCv RX8 154 zX8_placeOf 1 8 := ⟨wy_X8_placeOf, wm_X8_154, mw_tab 824 (by decide +kernel) rfl, mw_sel 45 (by decide +kernel) rfl, TX8, 25, rfl⟩
theorem wm_X8_157 : Cond.methodLink RX8 157 yX8_figuresOf ∈ mw := mw_tab 826 (by decide +kernel) rfl
theorem vX8_157 : mCv RX8 157 zX8_figuresOf 1 8 := ⟨wy_X8_figuresOf, wm_X8_157, mw_tab 828 (by decide +kernel) rfl, mw_sel 46 (by decide +kernel) rfl, TX8, 25, rfl⟩
theorem wm_X8_160 : Cond.methodLink RX8 160 yX8_neededOf ∈ mw := mw_tab 830 (by decide +kernel) rfl
theorem vX8_160 : mCv RX8 160 zX8_neededOf 1 8 := ⟨wy_X8_neededOf, wm_X8_160, mw_tab 832 (by decide +kernel) rfl, mw_sel 47 (by decide +kernel) rfl, TX8, 25, rfl⟩
theorem wm_X8_142 : Cond.methodLink RX8 142 yX8_doneNow ∈ mw := mw_tab 834 (by decide +kernel) rfl
theorem vX8_142 : mCv RX8 142 zX8_doneNow 0 8 := ⟨wy_X8_doneNow, wm_X8_142, mw_tab 836 (by decide +kernel) rfl, mw_sel 48 (by decide +kernel) rfl, TX8, 25, rfl⟩
theorem wm_X8_139 : Cond.methodLink RX8 139 yX8_can ∈ mw := mw_tab 838 (by decide +kernel) rfl
theorem vX8_139 : mCv RX8 139 zX8_can 3 8 := ⟨wy_X8_can, wm_X8_139, mw_tab 840 (by decide +kernel) rfl, mw_sel 49 (by decide +kernel) rfl, TX8, 25, rfl⟩
theorem wm_X8_133 : Cond.methodLink RX8 133 yX8_figureOf ∈ mw := mw_tab 842 (by decide +kernel) rfl
theorem vX8_133 : mCv RX8 133 zX8_figureOf 2 8 := ⟨wy_X8_figureOf, wm_X8_133, mw_tab 844 (by decide +kernel) rfl, mw_sel 50 (by decide +kernel) rfl, TX8, 25, rfl⟩
theorem wm_X8_136 : Cond.methodLink RX8 136 yX8_hasFit ∈ mw := mw_tab 846 (by decide +kernel) rfl
theorem vX8_136 : mCv RX8 136 zX8_hasFit 3 8 := ⟨wy_X8_hasFit, wm_X8_136, mw_tab 848 (by decide +kernel) rfl, mw_sel 51 (by decide +kernel) rfl, TX8, 25, rfl⟩
theorem wm_X8_123 : Cond.methodLink RX8 123 yX8_fits ∈ mw := mw_tab 850 (by decide +kernel) rfl
theorem vX8_123 : mCv RX8 123 zX8_fits 2 8 := ⟨wy_X8_fits, wm_X8_123, mw_tab 852 (by decide +kernel) rfl, mw_sel 52 (by decide +kernel) rfl, TX8, 25, rfl⟩
theorem wm_X8_145 : Cond.methodLink RX8 145 yX8_has ∈ mw := mw_tab 854 (by decide +kernel) rfl
theorem sX8_145 : mCs RX8 145 zX8_has 2 := ⟨wy_X8_has, wm_X8_145, mw_tab 855 (by decide +kernel) rfl⟩
theorem wm_L_39 : Cond.methodLink RL 39 yX8_place ∈ mw := mw_tab 857 (by decide +kernel) rfl
theorem vL_39 : mCv RL 39 zX8_place 1 8 := ⟨wy_X8_place, wm_L_39, mw_tab 858 (by decide +kernel) rfl, mw_tab 859 (by decide +kernel) rfl, TX8, 25, rfl⟩
theorem wm_L_43 : Cond.methodLink RL 43 yX8_day ∈ mw := mw_tab 861 (by decide +kernel) rfl
theorem vL_43 : mCv RL 43 zX8_day 1 8 := ⟨wy_X8_day, wm_L_43, mw_tab 862 (by decide +kernel) rfl, mw_tab 863 (by decide +kernel) rfl, TX8, 25, rfl⟩
theorem wm_L_47 : Cond.methodLink RL 47 yX8_turn ∈ mw := mw_tab 865 (by decide +kernel) rfl
theorem vL_47 : mCv RL 47 zX8_turn 2 8 := ⟨wy_X8_turn, wm_L_47, mw_tab 866 (by decide +kernel) rfl, mw_tab 867 (by decide +kernel) rfl, TX8, 25, rfl⟩
theorem wm_X8_163 : Cond.methodLink RX8 163 yX8_know ∈ mw := mw_tab 869 (by decide +kernel) rfl
theorem vX8_163 : mCv RX8 163 zX8_know 0 8 := ⟨wy_X8_know, wm_X8_163, mw_tab 871 (by decide +kernel) rfl, mw_sel 53 (by decide +kernel) rfl, TX8, 25, rfl⟩
theorem wm_X8_166 : Cond.methodLink RX8 166 yX8_turnsTo ∈ mw := mw_tab 873 (by decide +kernel) rfl
theorem sX8_166 : mCs RX8 166 zX8_turnsTo 2 := ⟨wy_X8_turnsTo, wm_X8_166, mw_tab 874 (by decide +kernel) rfl⟩
theorem wm_X8_169 : Cond.methodLink RX8 169 yX8_worked ∈ mw := mw_tab 876 (by decide +kernel) rfl
theorem vX8_169 : mCv RX8 169 zX8_worked 1 8 := ⟨wy_X8_worked, wm_X8_169, mw_tab 878 (by decide +kernel) rfl, mw_sel 54 (by decide +kernel) rfl, TX8, 25, rfl⟩
theorem wm_L_51 : Cond.methodLink RL 51 yX8_changes ∈ mw := mw_tab 880 (by decide +kernel) rfl
theorem vL_51 : mCv RL 51 zX8_changes 2 8 := ⟨wy_X8_changes, wm_L_51, mw_tab 881 (by decide +kernel) rfl, mw_tab 882 (by decide +kernel) rfl, TX8, 25, rfl⟩
theorem wm_L_56 : Cond.methodLink RL 56 yX8_pastes ∈ mw := mw_tab 884 (by decide +kernel) rfl
theorem vL_56 : mCv RL 56 zX8_pastes 3 8 := ⟨wy_X8_pastes, wm_L_56, mw_tab 885 (by decide +kernel) rfl, mw_tab 886 (by decide +kernel) rfl, TX8, 25, rfl⟩
theorem wm_L_60 : Cond.methodLink RL 60 yX8_undo ∈ mw := mw_tab 888 (by decide +kernel) rfl
theorem vL_60 : mCv RL 60 zX8_undo 0 8 := ⟨wy_X8_undo, wm_L_60, mw_tab 889 (by decide +kernel) rfl, mw_tab 890 (by decide +kernel) rfl, TX8, 25, rfl⟩
theorem wm_L_64 : Cond.methodLink RL 64 yX8_now ∈ mw := mw_tab 892 (by decide +kernel) rfl
theorem vL_64 : mCv RL 64 zX8_now 1 8 := ⟨wy_X8_now, wm_L_64, mw_tab 893 (by decide +kernel) rfl, mw_tab 894 (by decide +kernel) rfl, TX8, 25, rfl⟩
theorem wm_X8_172 : Cond.methodLink RX8 172 yX8_inFront ∈ mw := mw_tab 896 (by decide +kernel) rfl
theorem vX8_172 : mCv RX8 172 zX8_inFront 1 8 := ⟨wy_X8_inFront, wm_X8_172, mw_tab 898 (by decide +kernel) rfl, mw_sel 55 (by decide +kernel) rfl, TX8, 25, rfl⟩
theorem wm_L_68 : Cond.methodLink RL 68 yX8_number ∈ mw := mw_tab 900 (by decide +kernel) rfl
theorem vL_68 : mCv RL 68 zX8_number 2 8 := ⟨wy_X8_number, wm_L_68, mw_tab 901 (by decide +kernel) rfl, mw_tab 902 (by decide +kernel) rfl, TX8, 25, rfl⟩
theorem wm_X8_203 : Cond.methodLink RX8 203 yX8_isNumber ∈ mw := mw_tab 904 (by decide +kernel) rfl
theorem vX8_203 : mCv RX8 203 zX8_isNumber 1 8 := ⟨wy_X8_isNumber, wm_X8_203, mw_tab 906 (by decide +kernel) rfl, mw_sel 56 (by decide +kernel) rfl, TX8, 25, rfl⟩
theorem wm_X8_206 : Cond.methodLink RX8 206 yX8_isTold ∈ mw := mw_tab 908 (by decide +kernel) rfl
theorem vX8_206 : mCv RX8 206 zX8_isTold 1 8 := ⟨wy_X8_isTold, wm_X8_206, mw_tab 910 (by decide +kernel) rfl, mw_sel 57 (by decide +kernel) rfl, TX8, 25, rfl⟩
theorem wm_X8_209 : Cond.methodLink RX8 209 yX8_workFor ∈ mw := mw_tab 912 (by decide +kernel) rfl
theorem vX8_209 : mCv RX8 209 zX8_workFor 2 8 := ⟨wy_X8_workFor, wm_X8_209, mw_tab 914 (by decide +kernel) rfl, mw_sel 58 (by decide +kernel) rfl, TX8, 25, rfl⟩
theorem wm_X8_189 : Cond.methodLink RX8 189 yX8_tellTurns ∈ mw := mw_tab 916 (by decide +kernel) rfl
theorem vX8_189 : mCv RX8 189 zX8_tellTurns 2 8 := ⟨wy_X8_tellTurns, wm_X8_189, mw_tab 918 (by decide +kernel) rfl, mw_sel 59 (by decide +kernel) rfl, TX8, 25, rfl⟩
theorem wm_X8_176 : Cond.methodLink RX8 176 yX8_turnsFor ∈ mw := mw_tab 920 (by decide +kernel) rfl
theorem vX8_176 : mCv RX8 176 zX8_turnsFor 5 8 := ⟨wy_X8_turnsFor, wm_X8_176, mw_tab 922 (by decide +kernel) rfl, mw_sel 60 (by decide +kernel) rfl, TX8, 25, rfl⟩
theorem wm_X8_193 : Cond.methodLink RX8 193 yX8_orderNow ∈ mw := mw_tab 925 (by decide +kernel) rfl
theorem vX8_193 : mCv RX8 193 zX8_orderNow 0 8 := ⟨wy_X8_orderNow, wm_X8_193, mw_tab 927 (by decide +kernel) rfl, mw_sel 61 (by decide +kernel) rfl, TX8, 25, rfl⟩
theorem wm_X8_196 : Cond.methodLink RX8 196 yX8_changesTo ∈ mw := mw_tab 929 (by decide +kernel) rfl
theorem vX8_196 : mCv RX8 196 zX8_changesTo 2 8 := ⟨wy_X8_changesTo, wm_X8_196, mw_tab 931 (by decide +kernel) rfl, mw_sel 62 (by decide +kernel) rfl, TX8, 25, rfl⟩
theorem wm_X8_199 : Cond.methodLink RX8 199 yX8_workBy ∈ mw := mw_tab 933 (by decide +kernel) rfl
theorem vX8_199 : mCv RX8 199 zX8_workBy 3 8 := ⟨wy_X8_workBy, wm_X8_199, mw_tab 935 (by decide +kernel) rfl, mw_sel 63 (by decide +kernel) rfl, TX8, 25, rfl⟩
theorem wm_X8_186 : Cond.methodLink RX8 186 yX8_placeIn ∈ mw := mw_tab 937 (by decide +kernel) rfl
theorem vX8_186 : mCv RX8 186 zX8_placeIn 2 8 := ⟨wy_X8_placeIn, wm_X8_186, mw_tab 939 (by decide +kernel) rfl, mw_sel 64 (by decide +kernel) rfl, TX8, 25, rfl⟩
theorem wm_X8_212 : Cond.methodLink RX8 212 yX8_pastesFor ∈ mw := mw_tab 941 (by decide +kernel) rfl
theorem vX8_212 : mCv RX8 212 zX8_pastesFor 1 8 := ⟨wy_X8_pastesFor, wm_X8_212, mw_tab 943 (by decide +kernel) rfl, mw_sel 65 (by decide +kernel) rfl, TX8, 25, rfl⟩
theorem wm_L_72 : Cond.methodLink RL 72 yX8_through ∈ mw := mw_tab 945 (by decide +kernel) rfl
theorem vL_72 : mCv RL 72 zX8_through 2 8 := ⟨wy_X8_through, wm_L_72, mw_tab 946 (by decide +kernel) rfl, mw_tab 947 (by decide +kernel) rfl, TX8, 25, rfl⟩
theorem wm_L_76 : Cond.methodLink RL 76 yX8_odds ∈ mw := mw_tab 949 (by decide +kernel) rfl
theorem vL_76 : mCv RL 76 zX8_odds 2 8 := ⟨wy_X8_odds, wm_L_76, mw_tab 950 (by decide +kernel) rfl, mw_tab 951 (by decide +kernel) rfl, TX8, 25, rfl⟩
theorem wm_X8_215 : Cond.methodLink RX8 215 yX8_isBy ∈ mw := mw_tab 953 (by decide +kernel) rfl
theorem vX8_215 : mCv RX8 215 zX8_isBy 2 8 := ⟨wy_X8_isBy, wm_X8_215, mw_tab 955 (by decide +kernel) rfl, mw_sel 66 (by decide +kernel) rfl, TX8, 25, rfl⟩
theorem wm_L_80 : Cond.methodLink RL 80 yX8_sees ∈ mw := mw_tab 957 (by decide +kernel) rfl
theorem vL_80 : mCv RL 80 zX8_sees 2 8 := ⟨wy_X8_sees, wm_L_80, mw_tab 958 (by decide +kernel) rfl, mw_tab 959 (by decide +kernel) rfl, TX8, 25, rfl⟩
theorem wm_L_84 : Cond.methodLink RL 84 yX8_forget ∈ mw := mw_tab 961 (by decide +kernel) rfl
theorem vL_84 : mCv RL 84 zX8_forget 0 8 := ⟨wy_X8_forget, wm_L_84, mw_tab 962 (by decide +kernel) rfl, mw_tab 963 (by decide +kernel) rfl, TX8, 25, rfl⟩
theorem wm_L_88 : Cond.methodLink RL 88 yX8_which ∈ mw := mw_tab 965 (by decide +kernel) rfl
theorem vL_88 : mCv RL 88 zX8_which 0 8 := ⟨wy_X8_which, wm_L_88, mw_tab 966 (by decide +kernel) rfl, mw_tab 967 (by decide +kernel) rfl, TX8, 25, rfl⟩
theorem wm_L_92 : Cond.methodLink RL 92 yX8_look ∈ mw := mw_tab 969 (by decide +kernel) rfl
theorem vL_92 : mCv RL 92 zX8_look 0 8 := ⟨wy_X8_look, wm_L_92, mw_tab 970 (by decide +kernel) rfl, mw_tab 971 (by decide +kernel) rfl, TX8, 25, rfl⟩
theorem wm_X8_218 : Cond.methodLink RX8 218 yX8_which ∈ mw := mw_tab 973 (by decide +kernel) rfl
theorem vX8_218 : mCv RX8 218 zX8_which 0 8 := ⟨wy_X8_which, wm_X8_218, mw_tab 966 (by decide +kernel) rfl, mw_tab 967 (by decide +kernel) rfl, TX8, 25, rfl⟩
theorem wm_X8_221 : Cond.methodLink RX8 221 yX8_bitsOf ∈ mw := mw_tab 974 (by decide +kernel) rfl
theorem sX8_221 : mCs RX8 221 zX8_bitsOf 1 := ⟨wy_X8_bitsOf, wm_X8_221, mw_tab 975 (by decide +kernel) rfl⟩
theorem wm_L_96 : Cond.methodLink RL 96 yX8_mark ∈ mw := mw_tab 977 (by decide +kernel) rfl
theorem vL_96 : mCv RL 96 zX8_mark 2 8 := ⟨wy_X8_mark, wm_L_96, mw_tab 978 (by decide +kernel) rfl, mw_tab 979 (by decide +kernel) rfl, TX8, 25, rfl⟩
theorem wm_X8_225 : Cond.methodLink RX8 225 yX8_bodiesOf ∈ mw := mw_tab 982 (by decide +kernel) rfl
theorem sX8_225 : mCs RX8 225 zX8_bodiesOf 1 := ⟨wy_X8_bodiesOf, wm_X8_225, mw_tab 983 (by decide +kernel) rfl⟩
theorem wm_L_113 : Cond.methodLink RL 113 yX8_trace ∈ mw := mw_tab 986 (by decide +kernel) rfl
theorem vL_113 : mCv RL 113 zX8_trace 0 8 := ⟨wy_X8_trace, wm_L_113, mw_tab 987 (by decide +kernel) rfl, mw_tab 988 (by decide +kernel) rfl, TX8, 25, rfl⟩
theorem wm_L_100 : Cond.methodLink RL 100 yX8_keep ∈ mw := mw_tab 990 (by decide +kernel) rfl
theorem vL_100 : mCv RL 100 zX8_keep 1 8 := ⟨wy_X8_keep, wm_L_100, mw_tab 991 (by decide +kernel) rfl, mw_tab 992 (by decide +kernel) rfl, TX8, 25, rfl⟩
theorem wm_L_104 : Cond.methodLink RL 104 yX8_back ∈ mw := mw_tab 994 (by decide +kernel) rfl
theorem vL_104 : mCv RL 104 zX8_back 1 8 := ⟨wy_X8_back, wm_L_104, mw_tab 995 (by decide +kernel) rfl, mw_tab 996 (by decide +kernel) rfl, TX8, 25, rfl⟩
theorem wm_L_108 : Cond.methodLink RL 108 yX8_count ∈ mw := mw_tab 998 (by decide +kernel) rfl
theorem vL_108 : mCv RL 108 zX8_count 1 8 := ⟨wy_X8_count, wm_L_108, mw_tab 999 (by decide +kernel) rfl, mw_tab 1000 (by decide +kernel) rfl, TX8, 25, rfl⟩
theorem w_objinit : Cond.instanceMethod objectInit ∈ mw ∧ Cond.code objectInit ⟨#[0xb1]⟩ 1 none ∈ mw := ⟨mw_tab 20 (by decide +kernel) rfl, mw_tab 21 (by decide +kernel) rfl⟩
theorem w_min : Cond.static Lib.Math.min.name ∈ mw ∧ Cond.initialized "java/lang/Math" ∈ mw ∧ Cond.code Lib.Math.min.name Lib.Math.min.code 2 (some .int) ∈ mw := ⟨mw_tab 300 (by decide +kernel) rfl, mw_tab 10 (by decide +kernel) rfl, mw_tab 301 (by decide +kernel) rfl⟩
theorem w_max : Cond.static Lib.Math.max.name ∈ mw ∧ Cond.initialized "java/lang/Math" ∈ mw ∧ Cond.code Lib.Math.max.name Lib.Math.max.code 2 (some .int) ∈ mw := ⟨mw_tab 553 (by decide +kernel) rfl, mw_tab 10 (by decide +kernel) rfl, mw_tab 554 (by decide +kernel) rfl⟩
theorem w_copy : Cond.native arraycopyName ∈ mw ∧ Cond.static arraycopyName ∈ mw ∧ Cond.initialized "java/lang/System" ∈ mw := ⟨mw_tab 334 (by decide +kernel) rfl, mw_tab 333 (by decide +kernel) rfl, mw_tab 11 (by decide +kernel) rfl⟩
theorem qL_7 : Cond.classLink RL 7 RX7 ∈ mw := mw_tab 14 (by decide +kernel) rfl
theorem w_inst_X7 : Cond.instantiable RX7 11 ∈ mw := mw_tab 15 (by decide +kernel) rfl
theorem qX7_7 : Cond.classLink RX7 7 RX1 ∈ mw := mw_tab 22 (by decide +kernel) rfl
theorem w_inst_X1 : Cond.instantiable RX1 6 ∈ mw := mw_tab 23 (by decide +kernel) rfl
theorem w_arr_int : Cond.arrayClass .int ∈ mw := mw_tab 48 (by decide +kernel) rfl
theorem qX7_16 : Cond.classLink RX7 16 RX5 ∈ mw := mw_tab 49 (by decide +kernel) rfl
theorem w_inst_X5 : Cond.instantiable RX5 6 ∈ mw := mw_tab 50 (by decide +kernel) rfl
theorem qX7_26 : Cond.classLink RX7 26 RX3 ∈ mw := mw_tab 92 (by decide +kernel) rfl
theorem w_inst_X3 : Cond.instantiable RX3 6 ∈ mw := mw_tab 93 (by decide +kernel) rfl
theorem qX7_41 : Cond.classLink RX7 41 RX2 ∈ mw := mw_tab 128 (by decide +kernel) rfl
theorem w_inst_X2 : Cond.instantiable RX2 3 ∈ mw := mw_tab 129 (by decide +kernel) rfl
theorem w_arr_boolean : Cond.arrayClass .boolean ∈ mw := mw_tab 145 (by decide +kernel) rfl
theorem qX7_48 : Cond.classLink RX7 48 RX4 ∈ mw := mw_tab 146 (by decide +kernel) rfl
theorem w_inst_X4 : Cond.instantiable RX4 2 ∈ mw := mw_tab 147 (by decide +kernel) rfl
theorem qX7_55 : Cond.classLink RX7 55 RX6 ∈ mw := mw_tab 159 (by decide +kernel) rfl
theorem w_inst_X6 : Cond.instantiable RX6 11 ∈ mw := mw_tab 160 (by decide +kernel) rfl
theorem qX7_62 : Cond.classLink RX7 62 RX0 ∈ mw := mw_tab 199 (by decide +kernel) rfl
theorem w_inst_X0 : Cond.instantiable RX0 5 ∈ mw := mw_tab 200 (by decide +kernel) rfl
theorem qL_10 : Cond.classLink RL 10 RX8 ∈ mw := mw_tab 659 (by decide +kernel) rfl
theorem w_inst_X8 : Cond.instantiable RX8 25 ∈ mw := mw_tab 660 (by decide +kernel) rfl
theorem w_arr_byte : Cond.arrayClass .byte ∈ mw := mw_tab 760 (by decide +kernel) rfl
end
section
/-- an array of naturals -/
abbrev mAr (n : Nat) (g : Nat → Nat) : mC := .inl (0, n, fun j => nI (g j))
/-- an object -/
abbrev mOb (ci : Nat) (fs : List Value) : mC := .inr (.inr (ci, fs))
/-- a number, a reference -/
abbrev vN (x : Nat) : Value := .int (nI x)
abbrev vB (x : Bool) : Value := .int (mb x)
def mUp (g : Nat → Nat) (i v : Nat) : Nat → Nat := fun j => if j = i then v else g j
theorem mUp_nI (g : Nat → Nat) (i v : Nat) : upd (fun j => nI (g j)) i (nI v) = fun j => nI (mUp g i v j) := by
  funext j
  unfold upd mUp
  by_cases e : j = i <;> simp [e]
theorem mUp_eq (g : Nat → Nat) (i v : Nat) : mUp g i v i = v := if_pos rfl
theorem mUp_ne (g : Nat → Nat) {i j : Nat} (v : Nat) (h : j ≠ i) : mUp g i v j = g j := if_neg h
def mX (v : Option Value) (h1 : mH) : Option Value → mH → Prop := fun r h' => r = v ∧ h' = h1
theorem mX_rf {v : Option Value} {h1 : mH} : mX v h1 v h1 := ⟨rfl, rfl⟩
theorem mX_of {v v' : Option Value} {h1 h' : mH} (e : v' = v) (e2 : h' = h1) : mX v h1 v' h' := ⟨e, e2⟩
section MH
variable {E : mE} {M : mM} {K : mKt} {pc pc' : Nat} {L L' : List (Option Value)} {st : List Value} {h h' : mH}
theorem mG_heap {a : Nat × Nat × Nat} (e : h = h') (k : mG E M K pc L st a h') : mG E M K pc L st a h := e ▸ k
theorem mG_top {a : Nat × Nat × Nat} {x y : Int32} (e : x = y) (k : mG E M K pc L (.int y :: st) a h) : mG E M K pc L (.int x :: st) a h := e ▸ k
theorem mG_topN {a : Nat × Nat × Nat} {x y : Nat} (e : x = y) (k : mG E M K pc L (.int (nI y) :: st) a h) : mG E M K pc L (.int (nI x) :: st) a h := e ▸ k
theorem mG_locs {a : Nat × Nat × Nat} (e : L = L') (k : mG E M K pc L' st a h) : mG E M K pc L st a h := e ▸ k
theorem mG_ialdA {a : Nat × Nat × Nat} {b n i : Nat} {g : Nat → Nat} (hd : mD M.2.2.1 pc .iaload 1 pc') (hh : h b = mAr n g) (hn : b < a.1) (hm : n < 2 ^ 31) (hi : i < n) (kk : mG E M K pc' L (.int (nI (g i)) :: st) a h) : mG E M K pc L (.int (nI i) :: .ref b :: st) a h := mG_ialdN hd hh hn hm hi kk
theorem mG_iastA {a : Nat × Nat × Nat} {b n i x : Nat} {g : Nat → Nat} (hd : mD M.2.2.1 pc .iastore 1 pc') (hh : h b = mAr n g) (hn : b < a.1) (hm : n < 2 ^ 31) (hi : i < n) (kk : mG E M K pc' L st a (mU h b (mAr n (mUp g i x)))) : mG E M K pc L (.int (nI x) :: .int (nI i) :: .ref b :: st) a h := mG_iastN hd hh hn hm hi (by rw [mUp_nI]; exact kk)
theorem mOk_w {d : Nat} {Y : mY} {av : List Value} {Q : Option Value → mH → Prop} (hp : plainName Y.1.cls = true) (hc : (av.all fun v => v.category == 1) = true) (hl : av.length ≤ Y.2.2.1) (hL : av.map some ++ List.replicate (Y.2.2.1 - av.length) none = L) (k : mG E (mR d, Y) (mKq E (mR d) mN Q) 0 L [] (mN, 0, 0) h) : mOk E d Y av h Q := by
  subst hL
  refine mOkR_of hp (fun v hv => ?_) hl k
  have := List.all_eq_true.mp hc v hv
  simpa using this
theorem mOk_imp {d : Nat} {Y : mY} {av : List Value} {Q Q' : Option Value → mH → Prop} (k : mOk E d Y av h Q) (hq : ∀ r h', Q r h' → Q' r h') : mOk E d Y av h Q' := by
  intro p e ha hc hk s m args below hf hs hP hK
  obtain ⟨n, o, h1, h2, h3, ⟨⟨⟨r, h', e1, q1, e2⟩, hF⟩, hL⟩⟩ := k p e ha hc hk s m args below hf hs hP hK
  exact ⟨n, o, h1, h2, h3, ⟨⟨⟨r, h', e1, hq r h' q1, e2⟩, hF⟩, hL⟩⟩
theorem mG_cv0 {d : Nat} {Y : mY} {i ci b : Nat} {fs : List Value}  {v : Value} {h1 : mH} (hc : mCv M.2.1.cls i Y 0 ci) (hd : mD M.2.2.1 pc (.invokevirtual i) 3 pc') (hR : mLe (mR d) Y.2.2.1 M.1) (hcat : (st.map fun v => v.category).sum ≤ 8) (hh : h b = mOb ci fs) (hn : b < mN) (hM : mOk E d Y (.ref b :: []) h (mX (some v) h1)) (k : mG E M K pc' L (v :: st) (mN, 0, 0) h1) : mG E M K pc L (.ref b :: st) (mN, 0, 0) h :=
  mG_callV (av := []) hc hd hR hcat ⟨Nat.zero_le _, Nat.zero_le _⟩ hh hn rfl rfl (fun _ => by decide) hM (fun r h' q => by obtain ⟨rfl, rfl⟩ := q; exact k)
theorem mG_cw0 {d : Nat} {Y : mY} {i ci b : Nat} {fs : List Value}  {h1 : mH} (hc : mCv M.2.1.cls i Y 0 ci) (hd : mD M.2.2.1 pc (.invokevirtual i) 3 pc') (hR : mLe (mR d) Y.2.2.1 M.1) (hcat : (st.map fun v => v.category).sum ≤ 8) (hh : h b = mOb ci fs) (hn : b < mN) (hM : mOk E d Y (.ref b :: []) h (mX none h1)) (k : mG E M K pc' L st (mN, 0, 0) h1) : mG E M K pc L (.ref b :: st) (mN, 0, 0) h :=
  mG_callV (av := []) hc hd hR hcat ⟨Nat.zero_le _, Nat.zero_le _⟩ hh hn rfl rfl (fun _ => by decide) hM (fun r h' q => by obtain ⟨rfl, rfl⟩ := q; exact k)
theorem mG_cq0 {d : Nat} {Y : mY} {i ci b : Nat} {fs : List Value}  {Q' : Option Value → mH → Prop} (hc : mCv M.2.1.cls i Y 0 ci) (hd : mD M.2.2.1 pc (.invokevirtual i) 3 pc') (hR : mLe (mR d) Y.2.2.1 M.1) (hcat : (st.map fun v => v.category).sum ≤ 8) (hh : h b = mOb ci fs) (hn : b < mN) (hM : mOk E d Y (.ref b :: []) h Q') (k : ∀ r h', Q' r h' → mG E M K pc' L (r.toList ++ st) (mN, 0, 0) h') : mG E M K pc L (.ref b :: st) (mN, 0, 0) h :=
  mG_callV (av := []) hc hd hR hcat ⟨Nat.zero_le _, Nat.zero_le _⟩ hh hn rfl rfl (fun _ => by decide) hM (fun r h' q => k r h' q)
theorem mG_cs0 {d : Nat} {Y : mY} {i : Nat}  {v : Value} {h1 : mH} (hc : mCs M.2.1.cls i Y 0) (hd : mD M.2.2.1 pc (.invokestatic i) 3 pc') (hR : mLe (mR d) Y.2.2.1 M.1) (hcat : (st.map fun v => v.category).sum ≤ 8) (hM : mOk E d Y [] h (mX (some v) h1)) (k : mG E M K pc' L (v :: st) (mN, 0, 0) h1) : mG E M K pc L (st) (mN, 0, 0) h :=
  mG_callS (av := []) hc hd hR hcat ⟨Nat.zero_le _, Nat.zero_le _⟩ rfl rfl (by decide) (fun _ => by decide) hM (fun r h' q => by obtain ⟨rfl, rfl⟩ := q; exact k)
theorem mG_ct0 {d : Nat} {Y : mY} {i : Nat}  {h1 : mH} (hc : mCs M.2.1.cls i Y 0) (hd : mD M.2.2.1 pc (.invokestatic i) 3 pc') (hR : mLe (mR d) Y.2.2.1 M.1) (hcat : (st.map fun v => v.category).sum ≤ 8) (hM : mOk E d Y [] h (mX none h1)) (k : mG E M K pc' L st (mN, 0, 0) h1) : mG E M K pc L (st) (mN, 0, 0) h :=
  mG_callS (av := []) hc hd hR hcat ⟨Nat.zero_le _, Nat.zero_le _⟩ rfl rfl (by decide) (fun _ => by decide) hM (fun r h' q => by obtain ⟨rfl, rfl⟩ := q; exact k)
theorem mG_cv1 {d : Nat} {Y : mY} {i ci b : Nat} {fs : List Value} {x1 : Value} {v : Value} {h1 : mH} (hc : mCv M.2.1.cls i Y 1 ci) (hd : mD M.2.2.1 pc (.invokevirtual i) 3 pc') (hR : mLe (mR d) Y.2.2.1 M.1) (hcat : (st.map fun v => v.category).sum ≤ 8) (hh : h b = mOb ci fs) (hn : b < mN) (hM : mOk E d Y (.ref b :: [x1]) h (mX (some v) h1)) (k : mG E M K pc' L (v :: st) (mN, 0, 0) h1) : mG E M K pc L (x1 :: .ref b :: st) (mN, 0, 0) h :=
  mG_callV (av := [x1]) hc hd hR hcat ⟨Nat.zero_le _, Nat.zero_le _⟩ hh hn rfl rfl (fun _ => by decide) hM (fun r h' q => by obtain ⟨rfl, rfl⟩ := q; exact k)
theorem mG_cw1 {d : Nat} {Y : mY} {i ci b : Nat} {fs : List Value} {x1 : Value} {h1 : mH} (hc : mCv M.2.1.cls i Y 1 ci) (hd : mD M.2.2.1 pc (.invokevirtual i) 3 pc') (hR : mLe (mR d) Y.2.2.1 M.1) (hcat : (st.map fun v => v.category).sum ≤ 8) (hh : h b = mOb ci fs) (hn : b < mN) (hM : mOk E d Y (.ref b :: [x1]) h (mX none h1)) (k : mG E M K pc' L st (mN, 0, 0) h1) : mG E M K pc L (x1 :: .ref b :: st) (mN, 0, 0) h :=
  mG_callV (av := [x1]) hc hd hR hcat ⟨Nat.zero_le _, Nat.zero_le _⟩ hh hn rfl rfl (fun _ => by decide) hM (fun r h' q => by obtain ⟨rfl, rfl⟩ := q; exact k)
theorem mG_cq1 {d : Nat} {Y : mY} {i ci b : Nat} {fs : List Value} {x1 : Value} {Q' : Option Value → mH → Prop} (hc : mCv M.2.1.cls i Y 1 ci) (hd : mD M.2.2.1 pc (.invokevirtual i) 3 pc') (hR : mLe (mR d) Y.2.2.1 M.1) (hcat : (st.map fun v => v.category).sum ≤ 8) (hh : h b = mOb ci fs) (hn : b < mN) (hM : mOk E d Y (.ref b :: [x1]) h Q') (k : ∀ r h', Q' r h' → mG E M K pc' L (r.toList ++ st) (mN, 0, 0) h') : mG E M K pc L (x1 :: .ref b :: st) (mN, 0, 0) h :=
  mG_callV (av := [x1]) hc hd hR hcat ⟨Nat.zero_le _, Nat.zero_le _⟩ hh hn rfl rfl (fun _ => by decide) hM (fun r h' q => k r h' q)
theorem mG_cs1 {d : Nat} {Y : mY} {i : Nat} {x1 : Value} {v : Value} {h1 : mH} (hc : mCs M.2.1.cls i Y 1) (hd : mD M.2.2.1 pc (.invokestatic i) 3 pc') (hR : mLe (mR d) Y.2.2.1 M.1) (hcat : (st.map fun v => v.category).sum ≤ 8) (hM : mOk E d Y [x1] h (mX (some v) h1)) (k : mG E M K pc' L (v :: st) (mN, 0, 0) h1) : mG E M K pc L (x1 :: st) (mN, 0, 0) h :=
  mG_callS (av := [x1]) hc hd hR hcat ⟨Nat.zero_le _, Nat.zero_le _⟩ rfl rfl (by decide) (fun _ => by decide) hM (fun r h' q => by obtain ⟨rfl, rfl⟩ := q; exact k)
theorem mG_ct1 {d : Nat} {Y : mY} {i : Nat} {x1 : Value} {h1 : mH} (hc : mCs M.2.1.cls i Y 1) (hd : mD M.2.2.1 pc (.invokestatic i) 3 pc') (hR : mLe (mR d) Y.2.2.1 M.1) (hcat : (st.map fun v => v.category).sum ≤ 8) (hM : mOk E d Y [x1] h (mX none h1)) (k : mG E M K pc' L st (mN, 0, 0) h1) : mG E M K pc L (x1 :: st) (mN, 0, 0) h :=
  mG_callS (av := [x1]) hc hd hR hcat ⟨Nat.zero_le _, Nat.zero_le _⟩ rfl rfl (by decide) (fun _ => by decide) hM (fun r h' q => by obtain ⟨rfl, rfl⟩ := q; exact k)
theorem mG_cv2 {d : Nat} {Y : mY} {i ci b : Nat} {fs : List Value} {x1 x2 : Value} {v : Value} {h1 : mH} (hc : mCv M.2.1.cls i Y 2 ci) (hd : mD M.2.2.1 pc (.invokevirtual i) 3 pc') (hR : mLe (mR d) Y.2.2.1 M.1) (hcat : (st.map fun v => v.category).sum ≤ 8) (hh : h b = mOb ci fs) (hn : b < mN) (hM : mOk E d Y (.ref b :: [x1, x2]) h (mX (some v) h1)) (k : mG E M K pc' L (v :: st) (mN, 0, 0) h1) : mG E M K pc L (x2 :: x1 :: .ref b :: st) (mN, 0, 0) h :=
  mG_callV (av := [x1, x2]) hc hd hR hcat ⟨Nat.zero_le _, Nat.zero_le _⟩ hh hn rfl rfl (fun _ => by decide) hM (fun r h' q => by obtain ⟨rfl, rfl⟩ := q; exact k)
theorem mG_cw2 {d : Nat} {Y : mY} {i ci b : Nat} {fs : List Value} {x1 x2 : Value} {h1 : mH} (hc : mCv M.2.1.cls i Y 2 ci) (hd : mD M.2.2.1 pc (.invokevirtual i) 3 pc') (hR : mLe (mR d) Y.2.2.1 M.1) (hcat : (st.map fun v => v.category).sum ≤ 8) (hh : h b = mOb ci fs) (hn : b < mN) (hM : mOk E d Y (.ref b :: [x1, x2]) h (mX none h1)) (k : mG E M K pc' L st (mN, 0, 0) h1) : mG E M K pc L (x2 :: x1 :: .ref b :: st) (mN, 0, 0) h :=
  mG_callV (av := [x1, x2]) hc hd hR hcat ⟨Nat.zero_le _, Nat.zero_le _⟩ hh hn rfl rfl (fun _ => by decide) hM (fun r h' q => by obtain ⟨rfl, rfl⟩ := q; exact k)
theorem mG_cq2 {d : Nat} {Y : mY} {i ci b : Nat} {fs : List Value} {x1 x2 : Value} {Q' : Option Value → mH → Prop} (hc : mCv M.2.1.cls i Y 2 ci) (hd : mD M.2.2.1 pc (.invokevirtual i) 3 pc') (hR : mLe (mR d) Y.2.2.1 M.1) (hcat : (st.map fun v => v.category).sum ≤ 8) (hh : h b = mOb ci fs) (hn : b < mN) (hM : mOk E d Y (.ref b :: [x1, x2]) h Q') (k : ∀ r h', Q' r h' → mG E M K pc' L (r.toList ++ st) (mN, 0, 0) h') : mG E M K pc L (x2 :: x1 :: .ref b :: st) (mN, 0, 0) h :=
  mG_callV (av := [x1, x2]) hc hd hR hcat ⟨Nat.zero_le _, Nat.zero_le _⟩ hh hn rfl rfl (fun _ => by decide) hM (fun r h' q => k r h' q)
theorem mG_cs2 {d : Nat} {Y : mY} {i : Nat} {x1 x2 : Value} {v : Value} {h1 : mH} (hc : mCs M.2.1.cls i Y 2) (hd : mD M.2.2.1 pc (.invokestatic i) 3 pc') (hR : mLe (mR d) Y.2.2.1 M.1) (hcat : (st.map fun v => v.category).sum ≤ 8) (hM : mOk E d Y [x1, x2] h (mX (some v) h1)) (k : mG E M K pc' L (v :: st) (mN, 0, 0) h1) : mG E M K pc L (x2 :: x1 :: st) (mN, 0, 0) h :=
  mG_callS (av := [x1, x2]) hc hd hR hcat ⟨Nat.zero_le _, Nat.zero_le _⟩ rfl rfl (by decide) (fun _ => by decide) hM (fun r h' q => by obtain ⟨rfl, rfl⟩ := q; exact k)
theorem mG_ct2 {d : Nat} {Y : mY} {i : Nat} {x1 x2 : Value} {h1 : mH} (hc : mCs M.2.1.cls i Y 2) (hd : mD M.2.2.1 pc (.invokestatic i) 3 pc') (hR : mLe (mR d) Y.2.2.1 M.1) (hcat : (st.map fun v => v.category).sum ≤ 8) (hM : mOk E d Y [x1, x2] h (mX none h1)) (k : mG E M K pc' L st (mN, 0, 0) h1) : mG E M K pc L (x2 :: x1 :: st) (mN, 0, 0) h :=
  mG_callS (av := [x1, x2]) hc hd hR hcat ⟨Nat.zero_le _, Nat.zero_le _⟩ rfl rfl (by decide) (fun _ => by decide) hM (fun r h' q => by obtain ⟨rfl, rfl⟩ := q; exact k)
theorem mG_cv3 {d : Nat} {Y : mY} {i ci b : Nat} {fs : List Value} {x1 x2 x3 : Value} {v : Value} {h1 : mH} (hc : mCv M.2.1.cls i Y 3 ci) (hd : mD M.2.2.1 pc (.invokevirtual i) 3 pc') (hR : mLe (mR d) Y.2.2.1 M.1) (hcat : (st.map fun v => v.category).sum ≤ 8) (hh : h b = mOb ci fs) (hn : b < mN) (hM : mOk E d Y (.ref b :: [x1, x2, x3]) h (mX (some v) h1)) (k : mG E M K pc' L (v :: st) (mN, 0, 0) h1) : mG E M K pc L (x3 :: x2 :: x1 :: .ref b :: st) (mN, 0, 0) h :=
  mG_callV (av := [x1, x2, x3]) hc hd hR hcat ⟨Nat.zero_le _, Nat.zero_le _⟩ hh hn rfl rfl (fun _ => by decide) hM (fun r h' q => by obtain ⟨rfl, rfl⟩ := q; exact k)
theorem mG_cw3 {d : Nat} {Y : mY} {i ci b : Nat} {fs : List Value} {x1 x2 x3 : Value} {h1 : mH} (hc : mCv M.2.1.cls i Y 3 ci) (hd : mD M.2.2.1 pc (.invokevirtual i) 3 pc') (hR : mLe (mR d) Y.2.2.1 M.1) (hcat : (st.map fun v => v.category).sum ≤ 8) (hh : h b = mOb ci fs) (hn : b < mN) (hM : mOk E d Y (.ref b :: [x1, x2, x3]) h (mX none h1)) (k : mG E M K pc' L st (mN, 0, 0) h1) : mG E M K pc L (x3 :: x2 :: x1 :: .ref b :: st) (mN, 0, 0) h :=
  mG_callV (av := [x1, x2, x3]) hc hd hR hcat ⟨Nat.zero_le _, Nat.zero_le _⟩ hh hn rfl rfl (fun _ => by decide) hM (fun r h' q => by obtain ⟨rfl, rfl⟩ := q; exact k)
theorem mG_cq3 {d : Nat} {Y : mY} {i ci b : Nat} {fs : List Value} {x1 x2 x3 : Value} {Q' : Option Value → mH → Prop} (hc : mCv M.2.1.cls i Y 3 ci) (hd : mD M.2.2.1 pc (.invokevirtual i) 3 pc') (hR : mLe (mR d) Y.2.2.1 M.1) (hcat : (st.map fun v => v.category).sum ≤ 8) (hh : h b = mOb ci fs) (hn : b < mN) (hM : mOk E d Y (.ref b :: [x1, x2, x3]) h Q') (k : ∀ r h', Q' r h' → mG E M K pc' L (r.toList ++ st) (mN, 0, 0) h') : mG E M K pc L (x3 :: x2 :: x1 :: .ref b :: st) (mN, 0, 0) h :=
  mG_callV (av := [x1, x2, x3]) hc hd hR hcat ⟨Nat.zero_le _, Nat.zero_le _⟩ hh hn rfl rfl (fun _ => by decide) hM (fun r h' q => k r h' q)
theorem mG_cs3 {d : Nat} {Y : mY} {i : Nat} {x1 x2 x3 : Value} {v : Value} {h1 : mH} (hc : mCs M.2.1.cls i Y 3) (hd : mD M.2.2.1 pc (.invokestatic i) 3 pc') (hR : mLe (mR d) Y.2.2.1 M.1) (hcat : (st.map fun v => v.category).sum ≤ 8) (hM : mOk E d Y [x1, x2, x3] h (mX (some v) h1)) (k : mG E M K pc' L (v :: st) (mN, 0, 0) h1) : mG E M K pc L (x3 :: x2 :: x1 :: st) (mN, 0, 0) h :=
  mG_callS (av := [x1, x2, x3]) hc hd hR hcat ⟨Nat.zero_le _, Nat.zero_le _⟩ rfl rfl (by decide) (fun _ => by decide) hM (fun r h' q => by obtain ⟨rfl, rfl⟩ := q; exact k)
theorem mG_ct3 {d : Nat} {Y : mY} {i : Nat} {x1 x2 x3 : Value} {h1 : mH} (hc : mCs M.2.1.cls i Y 3) (hd : mD M.2.2.1 pc (.invokestatic i) 3 pc') (hR : mLe (mR d) Y.2.2.1 M.1) (hcat : (st.map fun v => v.category).sum ≤ 8) (hM : mOk E d Y [x1, x2, x3] h (mX none h1)) (k : mG E M K pc' L st (mN, 0, 0) h1) : mG E M K pc L (x3 :: x2 :: x1 :: st) (mN, 0, 0) h :=
  mG_callS (av := [x1, x2, x3]) hc hd hR hcat ⟨Nat.zero_le _, Nat.zero_le _⟩ rfl rfl (by decide) (fun _ => by decide) hM (fun r h' q => by obtain ⟨rfl, rfl⟩ := q; exact k)
theorem mG_cv4 {d : Nat} {Y : mY} {i ci b : Nat} {fs : List Value} {x1 x2 x3 x4 : Value} {v : Value} {h1 : mH} (hc : mCv M.2.1.cls i Y 4 ci) (hd : mD M.2.2.1 pc (.invokevirtual i) 3 pc') (hR : mLe (mR d) Y.2.2.1 M.1) (hcat : (st.map fun v => v.category).sum ≤ 8) (hh : h b = mOb ci fs) (hn : b < mN) (hM : mOk E d Y (.ref b :: [x1, x2, x3, x4]) h (mX (some v) h1)) (k : mG E M K pc' L (v :: st) (mN, 0, 0) h1) : mG E M K pc L (x4 :: x3 :: x2 :: x1 :: .ref b :: st) (mN, 0, 0) h :=
  mG_callV (av := [x1, x2, x3, x4]) hc hd hR hcat ⟨Nat.zero_le _, Nat.zero_le _⟩ hh hn rfl rfl (fun _ => by decide) hM (fun r h' q => by obtain ⟨rfl, rfl⟩ := q; exact k)
theorem mG_cw4 {d : Nat} {Y : mY} {i ci b : Nat} {fs : List Value} {x1 x2 x3 x4 : Value} {h1 : mH} (hc : mCv M.2.1.cls i Y 4 ci) (hd : mD M.2.2.1 pc (.invokevirtual i) 3 pc') (hR : mLe (mR d) Y.2.2.1 M.1) (hcat : (st.map fun v => v.category).sum ≤ 8) (hh : h b = mOb ci fs) (hn : b < mN) (hM : mOk E d Y (.ref b :: [x1, x2, x3, x4]) h (mX none h1)) (k : mG E M K pc' L st (mN, 0, 0) h1) : mG E M K pc L (x4 :: x3 :: x2 :: x1 :: .ref b :: st) (mN, 0, 0) h :=
  mG_callV (av := [x1, x2, x3, x4]) hc hd hR hcat ⟨Nat.zero_le _, Nat.zero_le _⟩ hh hn rfl rfl (fun _ => by decide) hM (fun r h' q => by obtain ⟨rfl, rfl⟩ := q; exact k)
theorem mG_cq4 {d : Nat} {Y : mY} {i ci b : Nat} {fs : List Value} {x1 x2 x3 x4 : Value} {Q' : Option Value → mH → Prop} (hc : mCv M.2.1.cls i Y 4 ci) (hd : mD M.2.2.1 pc (.invokevirtual i) 3 pc') (hR : mLe (mR d) Y.2.2.1 M.1) (hcat : (st.map fun v => v.category).sum ≤ 8) (hh : h b = mOb ci fs) (hn : b < mN) (hM : mOk E d Y (.ref b :: [x1, x2, x3, x4]) h Q') (k : ∀ r h', Q' r h' → mG E M K pc' L (r.toList ++ st) (mN, 0, 0) h') : mG E M K pc L (x4 :: x3 :: x2 :: x1 :: .ref b :: st) (mN, 0, 0) h :=
  mG_callV (av := [x1, x2, x3, x4]) hc hd hR hcat ⟨Nat.zero_le _, Nat.zero_le _⟩ hh hn rfl rfl (fun _ => by decide) hM (fun r h' q => k r h' q)
theorem mG_cs4 {d : Nat} {Y : mY} {i : Nat} {x1 x2 x3 x4 : Value} {v : Value} {h1 : mH} (hc : mCs M.2.1.cls i Y 4) (hd : mD M.2.2.1 pc (.invokestatic i) 3 pc') (hR : mLe (mR d) Y.2.2.1 M.1) (hcat : (st.map fun v => v.category).sum ≤ 8) (hM : mOk E d Y [x1, x2, x3, x4] h (mX (some v) h1)) (k : mG E M K pc' L (v :: st) (mN, 0, 0) h1) : mG E M K pc L (x4 :: x3 :: x2 :: x1 :: st) (mN, 0, 0) h :=
  mG_callS (av := [x1, x2, x3, x4]) hc hd hR hcat ⟨Nat.zero_le _, Nat.zero_le _⟩ rfl rfl (by decide) (fun _ => by decide) hM (fun r h' q => by obtain ⟨rfl, rfl⟩ := q; exact k)
theorem mG_ct4 {d : Nat} {Y : mY} {i : Nat} {x1 x2 x3 x4 : Value} {h1 : mH} (hc : mCs M.2.1.cls i Y 4) (hd : mD M.2.2.1 pc (.invokestatic i) 3 pc') (hR : mLe (mR d) Y.2.2.1 M.1) (hcat : (st.map fun v => v.category).sum ≤ 8) (hM : mOk E d Y [x1, x2, x3, x4] h (mX none h1)) (k : mG E M K pc' L st (mN, 0, 0) h1) : mG E M K pc L (x4 :: x3 :: x2 :: x1 :: st) (mN, 0, 0) h :=
  mG_callS (av := [x1, x2, x3, x4]) hc hd hR hcat ⟨Nat.zero_le _, Nat.zero_le _⟩ rfl rfl (by decide) (fun _ => by decide) hM (fun r h' q => by obtain ⟨rfl, rfl⟩ := q; exact k)
theorem mG_cv5 {d : Nat} {Y : mY} {i ci b : Nat} {fs : List Value} {x1 x2 x3 x4 x5 : Value} {v : Value} {h1 : mH} (hc : mCv M.2.1.cls i Y 5 ci) (hd : mD M.2.2.1 pc (.invokevirtual i) 3 pc') (hR : mLe (mR d) Y.2.2.1 M.1) (hcat : (st.map fun v => v.category).sum ≤ 8) (hh : h b = mOb ci fs) (hn : b < mN) (hM : mOk E d Y (.ref b :: [x1, x2, x3, x4, x5]) h (mX (some v) h1)) (k : mG E M K pc' L (v :: st) (mN, 0, 0) h1) : mG E M K pc L (x5 :: x4 :: x3 :: x2 :: x1 :: .ref b :: st) (mN, 0, 0) h :=
  mG_callV (av := [x1, x2, x3, x4, x5]) hc hd hR hcat ⟨Nat.zero_le _, Nat.zero_le _⟩ hh hn rfl rfl (fun _ => by decide) hM (fun r h' q => by obtain ⟨rfl, rfl⟩ := q; exact k)
theorem mG_cw5 {d : Nat} {Y : mY} {i ci b : Nat} {fs : List Value} {x1 x2 x3 x4 x5 : Value} {h1 : mH} (hc : mCv M.2.1.cls i Y 5 ci) (hd : mD M.2.2.1 pc (.invokevirtual i) 3 pc') (hR : mLe (mR d) Y.2.2.1 M.1) (hcat : (st.map fun v => v.category).sum ≤ 8) (hh : h b = mOb ci fs) (hn : b < mN) (hM : mOk E d Y (.ref b :: [x1, x2, x3, x4, x5]) h (mX none h1)) (k : mG E M K pc' L st (mN, 0, 0) h1) : mG E M K pc L (x5 :: x4 :: x3 :: x2 :: x1 :: .ref b :: st) (mN, 0, 0) h :=
  mG_callV (av := [x1, x2, x3, x4, x5]) hc hd hR hcat ⟨Nat.zero_le _, Nat.zero_le _⟩ hh hn rfl rfl (fun _ => by decide) hM (fun r h' q => by obtain ⟨rfl, rfl⟩ := q; exact k)
theorem mG_cq5 {d : Nat} {Y : mY} {i ci b : Nat} {fs : List Value} {x1 x2 x3 x4 x5 : Value} {Q' : Option Value → mH → Prop} (hc : mCv M.2.1.cls i Y 5 ci) (hd : mD M.2.2.1 pc (.invokevirtual i) 3 pc') (hR : mLe (mR d) Y.2.2.1 M.1) (hcat : (st.map fun v => v.category).sum ≤ 8) (hh : h b = mOb ci fs) (hn : b < mN) (hM : mOk E d Y (.ref b :: [x1, x2, x3, x4, x5]) h Q') (k : ∀ r h', Q' r h' → mG E M K pc' L (r.toList ++ st) (mN, 0, 0) h') : mG E M K pc L (x5 :: x4 :: x3 :: x2 :: x1 :: .ref b :: st) (mN, 0, 0) h :=
  mG_callV (av := [x1, x2, x3, x4, x5]) hc hd hR hcat ⟨Nat.zero_le _, Nat.zero_le _⟩ hh hn rfl rfl (fun _ => by decide) hM (fun r h' q => k r h' q)
theorem mG_cs5 {d : Nat} {Y : mY} {i : Nat} {x1 x2 x3 x4 x5 : Value} {v : Value} {h1 : mH} (hc : mCs M.2.1.cls i Y 5) (hd : mD M.2.2.1 pc (.invokestatic i) 3 pc') (hR : mLe (mR d) Y.2.2.1 M.1) (hcat : (st.map fun v => v.category).sum ≤ 8) (hM : mOk E d Y [x1, x2, x3, x4, x5] h (mX (some v) h1)) (k : mG E M K pc' L (v :: st) (mN, 0, 0) h1) : mG E M K pc L (x5 :: x4 :: x3 :: x2 :: x1 :: st) (mN, 0, 0) h :=
  mG_callS (av := [x1, x2, x3, x4, x5]) hc hd hR hcat ⟨Nat.zero_le _, Nat.zero_le _⟩ rfl rfl (by decide) (fun _ => by decide) hM (fun r h' q => by obtain ⟨rfl, rfl⟩ := q; exact k)
theorem mG_ct5 {d : Nat} {Y : mY} {i : Nat} {x1 x2 x3 x4 x5 : Value} {h1 : mH} (hc : mCs M.2.1.cls i Y 5) (hd : mD M.2.2.1 pc (.invokestatic i) 3 pc') (hR : mLe (mR d) Y.2.2.1 M.1) (hcat : (st.map fun v => v.category).sum ≤ 8) (hM : mOk E d Y [x1, x2, x3, x4, x5] h (mX none h1)) (k : mG E M K pc' L st (mN, 0, 0) h1) : mG E M K pc L (x5 :: x4 :: x3 :: x2 :: x1 :: st) (mN, 0, 0) h :=
  mG_callS (av := [x1, x2, x3, x4, x5]) hc hd hR hcat ⟨Nat.zero_le _, Nat.zero_le _⟩ rfl rfl (by decide) (fun _ => by decide) hM (fun r h' q => by obtain ⟨rfl, rfl⟩ := q; exact k)
end MH
theorem mLe_of {d d' nL : Nat} (h : ((d' + 1).ble d && (19 + nL + 60 * d').ble (60 * d)) = true) : mLe (mR d') nL (mR d) := by
  simp only [Bool.and_eq_true, Nat.ble_eq] at h
  exact ⟨h.1, by show 8 + (nL + 11) + 60 * d' ≤ 60 * d; omega⟩
theorem mLe_s {d d' nL : Nat} (h1 : d' + 1 ≤ d) (h2 : nL ≤ 41) : mLe (mR d') nL (mR d) := ⟨h1, by show 8 + (nL + 11) + 60 * d' ≤ 60 * d; omega⟩
/-- for all from i on, k of them -/
def allF (p : Nat → Bool) : Nat → Nat → Bool
  | _, 0 => true
  | i, k + 1 => p i && allF p (i + 1) k
theorem allF_iff {p : Nat → Bool} : ∀ (k i : Nat), allF p i k = true ↔ ∀ j, i ≤ j → j < i + k → p j = true := by
  intro k
  induction k with
  | zero => intro i; simp [allF]; omega
  | succ k ih =>
    intro i
    simp only [allF, Bool.and_eq_true, ih]
    constructor
    · rintro ⟨h1, h2⟩ j hj hj2
      rcases Nat.eq_or_lt_of_le hj with e | e
      · rw [← e]; exact h1
      · exact h2 j (by omega) (by omega)
    · intro q
      exact ⟨q i (Nat.le_refl _) (by omega), fun j h1 h2 => q j (by omega) (by omega)⟩
def sumF (g : Nat → Nat) : Nat → Nat → Nat
  | _, 0 => 0
  | i, k + 1 => g i + sumF g (i + 1) k
theorem pn_X0 : plainName RX0 = true := by decide +kernel
theorem pn_X1 : plainName RX1 = true := by decide +kernel
theorem pn_X2 : plainName RX2 = true := by decide +kernel
theorem pn_X3 : plainName RX3 = true := by decide +kernel
theorem pn_X4 : plainName RX4 = true := by decide +kernel
theorem pn_X5 : plainName RX5 = true := by decide +kernel
theorem pn_X6 : plainName RX6 = true := by decide +kernel
theorem pn_X7 : plainName RX7 = true := by decide +kernel
theorem pn_X8 : plainName RX8 = true := by decide +kernel
theorem pn_J6 : plainName RJ6 = true := by decide +kernel
theorem pn_J7 : plainName RJ7 = true := by decide +kernel
theorem mb_and (a b : Nat) : nI a &&& nI b = nI (a &&& b) := by
  apply Int32.toBitVec_inj.1
  show BitVec.ofNat 32 a &&& BitVec.ofNat 32 b = BitVec.ofNat 32 (a &&& b)
  apply BitVec.eq_of_getLsbD_eq
  intro i hi
  simp [hi]
theorem mb_or (a b : Nat) : nI a ||| nI b = nI (a ||| b) := by
  apply Int32.toBitVec_inj.1
  show BitVec.ofNat 32 a ||| BitVec.ofNat 32 b = BitVec.ofNat 32 (a ||| b)
  apply BitVec.eq_of_getLsbD_eq
  intro i hi
  simp [hi]
theorem mb_sm : ∀ k : Fin 32, ((nI k.val &&& 31).toBitVec.smod 32).toNat = k.val := by decide +kernel
theorem mb_shl {n k : Nat} (hk : k < 32) (hn : n <<< k < 2 ^ 32) : nI n <<< (nI k &&& 31) = nI (n <<< k) := by
  rw [Nat.shiftLeft_eq] at hn ⊢
  exact pk_shlN _ k (mb_sm ⟨k, hk⟩) hn
theorem mb_shr {n k : Nat} (hk : k < 32) (hn : n < 2 ^ 31) : nI n >>> (nI k &&& 31) = nI (n >>> k) := by
  rw [Nat.shiftRight_eq_div_pow]
  exact pk_shrN hn _ k (mb_sm ⟨k, hk⟩)
section MHb
variable {E : mE} {M : mM} {K : mKt} {pc pc' : Nat} {L L' : List (Option Value)} {st : List Value} {h h' : mH} {a : Nat × Nat × Nat}
theorem mG_iandN {x y : Nat} (hd : mD M.2.2.1 pc .iand 1 pc') (k : mG E M K pc' L (.int (nI (x &&& y)) :: st) a h) : mG E M K pc L (.int (nI y) :: .int (nI x) :: st) a h := mG_iand hd (by rw [mb_and]; exact k)
theorem mG_iorN {x y : Nat} (hd : mD M.2.2.1 pc .ior 1 pc') (k : mG E M K pc' L (.int (nI (x ||| y)) :: st) a h) : mG E M K pc L (.int (nI y) :: .int (nI x) :: st) a h := mG_ior hd (by rw [mb_or]; exact k)
theorem mG_ishlN {x y : Nat} (hd : mD M.2.2.1 pc .ishl 1 pc') (hy : y < 32) (hx : x <<< y < 2 ^ 32) (k : mG E M K pc' L (.int (nI (x <<< y)) :: st) a h) : mG E M K pc L (.int (nI y) :: .int (nI x) :: st) a h := mG_ishl hd (by rw [mb_shl hy hx]; exact k)
theorem mG_ishrN {x y : Nat} (hd : mD M.2.2.1 pc .ishr 1 pc') (hy : y < 32) (hx : x < 2 ^ 31) (k : mG E M K pc' L (.int (nI (x >>> y)) :: st) a h) : mG E M K pc L (.int (nI y) :: .int (nI x) :: st) a h := mG_ishr hd (by rw [mb_shr hy hx]; exact k)
theorem mG_mminN {i x y : Nat} (hd : mD M.2.2.1 pc (.invokestatic i) 3 pc') (hl : Cond.methodLink M.2.1.cls i Lib.Math.min.name ∈ mw) (hs : Cond.static Lib.Math.min.name ∈ mw) (hi : Cond.initialized "java/lang/Math" ∈ mw) (hc : Cond.code Lib.Math.min.name Lib.Math.min.code 2 (some .int) ∈ mw) (hfr : 1 ≤ M.1.frames) (hlo : (st.map fun v => v.category).sum + 13 ≤ M.1.locals) (h1 : a.2.1 ≤ M.1.cells) (h2 : a.2.2 ≤ M.1.slots) (hx : x < 2 ^ 31) (hy : y < 2 ^ 31) (kk : mG E M K pc' L (.int (nI (min x y)) :: st) a h) : mG E M K pc L (.int (nI y) :: .int (nI x) :: st) a h := by
  refine mG_mmin hd hl hs hi hc hfr hlo h1 h2 ?_
  have e : (if nI y < nI x then nI y else nI x) = nI (min x y) := by
    by_cases q : y < x
    · rw [if_pos ((nI_ltI hy hx).mpr q), Nat.min_eq_right (Nat.le_of_lt q)]
    · rw [if_neg (fun z => q ((nI_ltI hy hx).mp z)), Nat.min_eq_left (Nat.not_lt.mp q)]
  rw [e]
  exact kk
theorem mG_mmaxN {i x y : Nat} (hd : mD M.2.2.1 pc (.invokestatic i) 3 pc') (hl : Cond.methodLink M.2.1.cls i Lib.Math.max.name ∈ mw) (hs : Cond.static Lib.Math.max.name ∈ mw) (hi : Cond.initialized "java/lang/Math" ∈ mw) (hc : Cond.code Lib.Math.max.name Lib.Math.max.code 2 (some .int) ∈ mw) (hfr : 1 ≤ M.1.frames) (hlo : (st.map fun v => v.category).sum + 13 ≤ M.1.locals) (h1 : a.2.1 ≤ M.1.cells) (h2 : a.2.2 ≤ M.1.slots) (hx : x < 2 ^ 31) (hy : y < 2 ^ 31) (kk : mG E M K pc' L (.int (nI (max x y)) :: st) a h) : mG E M K pc L (.int (nI y) :: .int (nI x) :: st) a h := by
  refine mG_mmax hd hl hs hi hc hfr hlo h1 h2 ?_
  have e : (if nI x < nI y then nI y else nI x) = nI (max x y) := by
    by_cases q : x < y
    · rw [if_pos ((nI_ltI hx hy).mpr q), Nat.max_eq_right (Nat.le_of_lt q)]
    · rw [if_neg (fun z => q ((nI_ltI hx hy).mp z)), Nat.max_eq_left (Nat.not_lt.mp q)]
  rw [e]
  exact kk
theorem va_cpy_nI (f g : Nat → Nat) (sp dp n : Nat) : va_cpy (fun j => nI (f j)) (fun j => nI (g j)) sp dp n = fun j => nI (va_cpy f g sp dp n j) := by
  funext j
  unfold va_cpy
  by_cases q : dp ≤ j ∧ j < dp + n
  · rw [if_pos q, if_pos q]
  · rw [if_neg q, if_neg q]
theorem mG_copyA {i b b0 n0 n1 sp dp n : Nat} {f g : Nat → Nat} (hd : mD M.2.2.1 pc (.invokestatic i) 3 pc') (hl : Cond.methodLink M.2.1.cls i arraycopyName ∈ mw) (hna : Cond.native arraycopyName ∈ mw) (hs : Cond.static arraycopyName ∈ mw) (hi : Cond.initialized "java/lang/System" ∈ mw) (hh0 : h b0 = mAr n0 f) (hh : h b = mAr n1 g) (hn0 : b0 < a.1) (hn : b < a.1) (h4 : sp + n ≤ n0) (h5 : dp + n ≤ n1) (hm0 : n0 < 2 ^ 31) (hm1 : n1 < 2 ^ 31) (hfr : 1 ≤ M.1.frames) (hlo : (st.map fun v => v.category).sum + (nativeFrameWords "java/lang/System" "arraycopy" 5 + 11) ≤ M.1.locals)
    (kk : mG E M K pc' L st a (mU h b (mAr n1 (va_cpy f g sp dp n)))) : mG E M K pc L (.int (nI n) :: .int (nI dp) :: .ref b :: .int (nI sp) :: .ref b0 :: st) a h :=
  mG_copy hd hl hna hs hi hh0 hh hn0 hn h4 h5 hm0 hm1 hfr hlo (by rw [va_cpy_nI]; exact kk)
end MHb
/-! arrays that agree as far as they go are one -/
def mEq (c c' : mC) : Prop := c = c' ∨ ∃ (t n : Nat) (f f' : Nat → Int32), c = .inl (t, n, f) ∧ c' = .inl (t, n, f') ∧ ∀ j, j < n → f j = f' j
theorem mEq.rf {c : mC} : mEq c c := Or.inl rfl
theorem mEq_ar {n : Nat} {g g' : Nat → Nat} (e : ∀ j, j < n → g j = g' j) : mEq (mAr n g) (mAr n g') := Or.inr ⟨0, n, _, _, rfl, rfl, fun j hj => by rw [e j hj]⟩
theorem arrV_ext {cA : ClassId} {n : Nat} {f f' : Nat → Value} (e : ∀ j, j < n → f j = f' j) : arrV cA n f = arrV cA n f' := by
  unfold arrV
  congr 1
  apply Array.ext
  · simp
  · intro i h1 h2
    simp at h1
    simp [e i h1]
theorem mRep_cong {E : mE} {n : Nat} {h h' : mH} {H : Heap} (e : ∀ b, b < n → mEq (h b) (h' b)) (R : mRep E n h H) : mRep E n h' H := by
  refine ⟨R.1, fun k q hq => ?_⟩
  have hk : k < n := by
    have := (List.getElem?_eq_some_iff.mp hq).1
    unfold mWs at this
    simpa using this
  rw [mWs_get hk rfl] at hq
  cases hq
  have h1 := R.2 k _ (mWs_get hk rfl)
  rcases e k hk with e1 | ⟨t, m, f, f', e1, e2, e3⟩
  · rw [e1] at h1
    exact h1
  · rw [e1] at h1
    rw [e2]
    show H[_]? = some (vp_cell _ _)
    have h2 : H[E.2.2.2.1 + mSw E.2.2.2.2.2.2 k]? = some (vp_cell (E.2.2.1 t) (m, .inl f)) := h1
    rw [h2, vp_cell_i, vp_cell_i]
    congr 1
    exact arrV_ext (fun j hj => by rw [e3 j hj])
theorem mG_cong {E : mE} {M : mM} {K : mKt} {pc : Nat} {L : List (Option Value)} {st : List Value} {h : mH} {a : Nat × Nat × Nat} (h' : mH) (e : ∀ b, b < a.1 → mEq (h b) (h' b)) (k : mG E M K pc L st a h') : mG E M K pc L st a h :=
  fun p e1 s m args below meth c H locs ls C R S V => k p e1 s m args below meth c H locs ls C ⟨R.1, mRep_cong e R.2⟩ S V
theorem mEq_U {h h' : mH} (e : ∀ b, mEq (h b) (h' b)) (x : Nat) {c c' : mC} (ec : mEq c c') : ∀ b, mEq (mU h x c b) (mU h' x c' b) := by
  intro b
  unfold mU
  by_cases q : b = x
  · rw [if_pos q, if_pos q]; exact ec
  · rw [if_neg q, if_neg q]; exact e b
theorem mEq_h {h : mH} : ∀ b, mEq (h b) (h b) := fun _ => mEq.rf
theorem shl1_lt {x : Nat} (hx : x < 31) : 1 <<< x < 2 ^ 31 := by
  rw [Nat.one_shiftLeft]
  exact Nat.pow_lt_pow_right (by decide) hx
theorem shl1_lt2 {x : Nat} (hx : x < 31) : 1 <<< x < 2 ^ 32 := Nat.lt_trans (shl1_lt hx) (by decide)
theorem mCallCong {E : mE} {d : Nat} {Y : mY} {av : List Value} {h : mH} {v : Option Value} {h1 h2 : mH} (k : mOk E d Y av h (mX v h1)) (e : ∀ b, b < mN → mEq (h1 b) (h2 b)) : mOk E d Y av h (mX v h2) := by
  intro p e0 ha hc hk s m args below hf hs hP hK
  obtain ⟨n, o, g1, g2, g3, ⟨⟨⟨r, h', e1, q1, e2⟩, hF⟩, hL⟩⟩ := k p e0 ha hc hk s m args below hf hs hP hK
  obtain ⟨rfl, rfl⟩ := q1
  exact ⟨n, o, g1, g2, g3, ⟨⟨⟨r, h2, e1, ⟨rfl, rfl⟩, mRep_cong e e2⟩, hF⟩, hL⟩⟩
end
section
/-! Told -/
abbrev oTold (cu dc it : Nat) (bo : Bool) : mC := mOb 5 [.ref 4, .ref 5, vN cu, vN dc, vN it, vB bo]
abbrev oDraft (cu dc it : Nat) (bo : Bool) : mC := mOb 5 [.ref 7, .ref 8, vN cu, vN dc, vN it, vB bo]
def upr (bo : Bool) (x : Nat) : Nat := if bo = true ∧ x = 9 then 6 else x
theorem upr_le (bo : Bool) (x : Nat) : upr bo x ≤ x := by
  unfold upr
  split <;> omega
/-- FITS, as the class has it -/
def fit (bo : Bool) (x y : Nat) : Bool := decide (upr bo x = upr bo y)
theorem mTF_ten (E : mE) {c : Nat} (hc : c ≤ 4) : mTF E 0 c = nI (10 ^ c) := by
  rcases (show c = 0 ∨ c = 1 ∨ c = 2 ∨ c = 3 ∨ c = 4 by omega) with rfl | rfl | rfl | rfl | rfl <;> rfl
theorem mTF_six (E : mE) {c : Nat} (hc : c ≤ 4) : mTF E 1 c = nI (6 ^ c) := by
  rcases (show c = 0 ∨ c = 1 ∨ c = 2 ∨ c = 3 ∨ c = 4 by omega) with rfl | rfl | rfl | rfl | rfl <;> rfl
set_option maxRecDepth 100000 in
set_option maxHeartbeats 4000000 in
theorem ok_X5_upright {E : mE} {h : mH} {cu dc it : Nat} {bo : Bool} (e3 : h 3 = oTold cu dc it bo) {x : Nat} (hx : x < 2 ^ 31) : mOk E 1 zX5_upright [.ref 3, vN x] h (mX (some (vN (upr bo x))) h) := by
  refine mOk_w (L := [some (.ref 3), some (vN x)]) pn_X5 rfl (Nat.le_of_ble_eq_true rfl) rfl ?_
  refine mG_aload_n dX5_upright_0 rfl ?_
  refine mG_get fX5_28 dX5_upright_1 e3 (Nat.le_of_ble_eq_true rfl) rfl ?_
  refine mG_if_eqB dX5_upright_4 (fun c4 => ?_) (fun c4 => ?_)
  · refine mG_iload_n dX5_upright_18 rfl ?_
    exact mG_iret dX5_upright_19 rfl (mX_of (by simp [upr, *]) rfl)
  · refine mG_iload_n dX5_upright_7 rfl ?_
    refine mG_bipush (v := nI 9) dX5_upright_8 (by decide) ?_
    refine mG_icmp_neN dX5_upright_10 (by omega) (by omega) (fun c10 => ?_) (fun c10 => ?_)
    · refine mG_iload_n dX5_upright_18 rfl ?_
      exact mG_iret dX5_upright_19 rfl (mX_of (by simp [upr, *]) rfl)
    · refine mG_bipush (v := nI 6) dX5_upright_13 (by decide) ?_
      refine mG_goto dX5_upright_15 ?_
      exact mG_iret dX5_upright_19 rfl (mX_of (by simp [upr, *]) rfl)
set_option maxRecDepth 100000 in
set_option maxHeartbeats 4000000 in
theorem ok_X5_fits {E : mE} {h : mH} {cu dc it : Nat} {bo : Bool} (e3 : h 3 = oTold cu dc it bo) {x y : Nat} (hx : x < 2 ^ 31) (hy : y < 2 ^ 31) : mOk E 2 zX5_fits [.ref 3, vN x, vN y] h (mX (some (vB (fit bo x y))) h) := by
  have hx1 := upr_le bo x
  have hy1 := upr_le bo y
  refine mOk_w (L := [some (.ref 3), some (vN x), some (vN y)]) pn_X5 rfl (Nat.le_of_ble_eq_true rfl) rfl ?_
  refine mG_aload_n dX5_fits_0 rfl ?_
  refine mG_iload_n dX5_fits_1 rfl ?_
  refine mG_cv1 vX5_35 dX5_fits_2 (mLe_of rfl) (Nat.le_of_ble_eq_true rfl) e3 (Nat.le_of_ble_eq_true rfl) (ok_X5_upright e3 hx) ?_
  refine mG_aload_n dX5_fits_5 rfl ?_
  refine mG_iload_n dX5_fits_6 rfl ?_
  refine mG_cv1 vX5_35 dX5_fits_7 (mLe_of rfl) (Nat.le_of_ble_eq_true rfl) e3 (Nat.le_of_ble_eq_true rfl) (ok_X5_upright e3 hy) ?_
  refine mG_icmp_neN dX5_fits_10 (by omega) (by omega) (fun c10 => ?_) (fun c10 => ?_)
  · refine mG_iconst (v := mb false) dX5_fits_17 (by decide) ?_
    exact mG_zret dX5_fits_18 rfl (mX_of (by simp [fit, *]) rfl)
  · refine mG_iconst (v := mb true) dX5_fits_13 (by decide) ?_
    refine mG_goto dX5_fits_14 ?_
    exact mG_zret dX5_fits_18 rfl (mX_of (by simp [fit, *]) rfl)
set_option maxRecDepth 100000 in
set_option maxHeartbeats 4000000 in
theorem ok_X5_howMany3 {E : mE} {h : mH} {cu dc it : Nat} {bo : Bool} (e3 : h 3 = oTold cu dc it bo) (hc : cu ≤ 4) : mOk E 1 zX5_howManyNumbers [.ref 3] h (mX (some (vN (10 ^ cu))) h) := by
  refine mOk_w (L := [some (.ref 3)]) pn_X5 rfl (Nat.le_of_ble_eq_true rfl) rfl ?_
  refine mG_getsN (t := 0) dX5_howManyNumbers_0 (by decide) (by decide) ?_
  refine mG_aload_n dX5_howManyNumbers_3 rfl ?_
  refine mG_get fX5_18 dX5_howManyNumbers_4 e3 (Nat.le_of_ble_eq_true rfl) rfl ?_
  refine mG_tald (t := 0) dX5_howManyNumbers_7 (by decide) (Nat.le_of_ble_eq_true rfl) (by show cu < 5; omega) ?_
  rw [mTF_ten E hc]
  exact mG_iret dX5_howManyNumbers_8 rfl (mX_of rfl rfl)
set_option maxRecDepth 100000 in
set_option maxHeartbeats 4000000 in
theorem ok_X5_howMany6 {E : mE} {h : mH} {cu dc it : Nat} {bo : Bool} (e6 : h 6 = oDraft cu dc it bo) (hc : cu ≤ 4) : mOk E 1 zX5_howManyNumbers [.ref 6] h (mX (some (vN (10 ^ cu))) h) := by
  refine mOk_w (L := [some (.ref 6)]) pn_X5 rfl (Nat.le_of_ble_eq_true rfl) rfl ?_
  refine mG_getsN (t := 0) dX5_howManyNumbers_0 (by decide) (by decide) ?_
  refine mG_aload_n dX5_howManyNumbers_3 rfl ?_
  refine mG_get fX5_18 dX5_howManyNumbers_4 e6 (Nat.le_of_ble_eq_true rfl) rfl ?_
  refine mG_tald (t := 0) dX5_howManyNumbers_7 (by decide) (Nat.le_of_ble_eq_true rfl) (by show cu < 5; omega) ?_
  rw [mTF_ten E hc]
  exact mG_iret dX5_howManyNumbers_8 rfl (mX_of rfl rfl)
set_option maxRecDepth 100000 in
set_option maxHeartbeats 4000000 in
theorem ok_X5_empty {E : mE} {h : mH} {cu dc it : Nat} {bo : Bool} (e6 : h 6 = oDraft cu dc it bo) : mOk E 1 zX5_empty [.ref 6] h (mX none (mU h 6 (oDraft 0 0 0 false))) := by
  refine mOk_w (L := [some (.ref 6)]) pn_X5 rfl (Nat.le_of_ble_eq_true rfl) rfl ?_
  refine mG_aload_n dX5_empty_0 rfl ?_
  refine mG_iconst (v := nI 0) dX5_empty_1 (by decide) ?_
  refine mG_putI pX5_18 dX5_empty_2 e6 (Nat.le_of_ble_eq_true rfl) (Nat.le_of_ble_eq_true rfl) ?_
  refine mG_aload_n dX5_empty_5 rfl ?_
  refine mG_iconst (v := nI 0) dX5_empty_6 (by decide) ?_
  refine mG_putI pX5_22 dX5_empty_7 rfl (Nat.le_of_ble_eq_true rfl) (Nat.le_of_ble_eq_true rfl) ?_
  refine mG_aload_n dX5_empty_10 rfl ?_
  refine mG_iconst (v := nI 0) dX5_empty_11 (by decide) ?_
  refine mG_putI pX5_25 dX5_empty_12 rfl (Nat.le_of_ble_eq_true rfl) (Nat.le_of_ble_eq_true rfl) ?_
  refine mG_aload_n dX5_empty_15 rfl ?_
  refine mG_iconst (v := mb false) dX5_empty_16 (by decide) ?_
  refine mG_putZ pX5_28 dX5_empty_17 rfl (Nat.le_of_ble_eq_true rfl) (Nat.le_of_ble_eq_true rfl) ?_
  exact mG_vret dX5_empty_20 rfl (mX_of rfl (by simp only [mU_same]; rfl))
end
section
/-! Stand -/
abbrev oNow (dn wk : Nat) : mC := mOb 3 [.ref 10, .ref 11, .ref 12, .ref 13, vN dn, vN wk]
abbrev oIm0 (dn wk : Nat) : mC := mOb 3 [.ref 31, .ref 32, .ref 33, .ref 34, vN dn, vN wk]
abbrev oIm1 (dn wk : Nat) : mC := mOb 3 [.ref 36, .ref 37, .ref 38, .ref 39, vN dn, vN wk]
def tW (s t : Nat) : Nat := if s = t then 0 else if s + t = 5 then 2 else 1
set_option maxRecDepth 100000 in
set_option maxHeartbeats 4000000 in
theorem ok_X3_figureInFront {E : mE} {h : mH} {dn wk c : Nat} {nf fr : Nat → Nat} (e9 : h 9 = oNow dn wk) (e10 : h 10 = mAr 24 nf) (e12 : h 12 = mAr 4 fr) (hc : c < 4) (hf : fr c < 6) : mOk E 1 zX3_figureInFront [.ref 9, vN c] h (mX (some (vN (nf (c * 6 + fr c)))) h) := by
  refine mOk_w (L := [some (.ref 9), some (vN c)]) pn_X3 rfl (Nat.le_of_ble_eq_true rfl) rfl ?_
  refine mG_aload_n dX3_figureInFront_0 rfl ?_
  refine mG_get fX3_9 dX3_figureInFront_1 e9 (Nat.le_of_ble_eq_true rfl) rfl ?_
  refine mG_iload_n dX3_figureInFront_4 rfl ?_
  refine mG_bipush (v := nI 6) dX3_figureInFront_5 (by decide) ?_
  refine mG_imulN dX3_figureInFront_7 ?_
  refine mG_aload_n dX3_figureInFront_8 rfl ?_
  refine mG_get fX3_18 dX3_figureInFront_9 e9 (Nat.le_of_ble_eq_true rfl) rfl ?_
  refine mG_iload_n dX3_figureInFront_12 rfl ?_
  refine mG_ialdA dX3_figureInFront_13 e12 (Nat.le_of_ble_eq_true rfl) (by decide) (by omega) ?_
  refine mG_iaddN dX3_figureInFront_14 ?_
  refine mG_ialdA dX3_figureInFront_15 e10 (Nat.le_of_ble_eq_true rfl) (by decide) (by omega) ?_
  exact mG_iret dX3_figureInFront_16 rfl (mX_of rfl rfl)
set_option maxRecDepth 100000 in
set_option maxHeartbeats 4000000 in
theorem ok_X3_turnWork {E : mE} {h : mH} {s t : Nat} (hs : s < 6) (ht : t < 6) : mOk E 1 zX3_turnWork [vN s, vN t] h (mX (some (vN (tW s t))) h) := by
  refine mOk_w (L := [some (vN s), some (vN t)]) pn_X3 rfl (Nat.le_of_ble_eq_true rfl) rfl ?_
  refine mG_iload_n dX3_turnWork_0 rfl ?_
  refine mG_iload_n dX3_turnWork_1 rfl ?_
  refine mG_icmp_neN dX3_turnWork_2 (by omega) (by omega) (fun c2 => ?_) (fun c2 => ?_)
  · refine mG_iload_n dX3_turnWork_7 rfl ?_
    refine mG_iload_n dX3_turnWork_8 rfl ?_
    refine mG_iaddN dX3_turnWork_9 ?_
    refine mG_iconst (v := nI 5) dX3_turnWork_10 (by decide) ?_
    refine mG_icmp_neN dX3_turnWork_11 (by omega) (by omega) (fun c11 => ?_) (fun c11 => ?_)
    · refine mG_iconst (v := nI 1) dX3_turnWork_18 (by decide) ?_
      exact mG_iret dX3_turnWork_19 rfl (mX_of (by simp [tW, *]) rfl)
    · refine mG_iconst (v := nI 2) dX3_turnWork_14 (by decide) ?_
      refine mG_goto dX3_turnWork_15 ?_
      exact mG_iret dX3_turnWork_19 rfl (mX_of (by simp [tW, *]) rfl)
  · refine mG_iconst (v := nI 0) dX3_turnWork_5 (by decide) ?_
    exact mG_iret dX3_turnWork_6 rfl (mX_of (by simp [tW, *]) rfl)
set_option maxRecDepth 100000 in
set_option maxHeartbeats 4000000 in
theorem ok_X3_addWork {E : mE} {h : mH} {dn wk x : Nat} (e9 : h 9 = oNow dn wk) (hw : wk ≤ 9999) (hx : x ≤ 2) : mOk E 1 zX3_addWork [.ref 9, vN x] h (mX none (mU h 9 (oNow dn (min (wk + x) 9999)))) := by
  refine mOk_w (L := [some (.ref 9), some (vN x)]) pn_X3 rfl (Nat.le_of_ble_eq_true rfl) rfl ?_
  refine mG_aload_n dX3_addWork_0 rfl ?_
  refine mG_aload_n dX3_addWork_1 rfl ?_
  refine mG_get fX3_37 dX3_addWork_2 e9 (Nat.le_of_ble_eq_true rfl) rfl ?_
  refine mG_iload_n dX3_addWork_5 rfl ?_
  refine mG_iaddN dX3_addWork_6 ?_
  refine mG_sipush (v := nI 9999) dX3_addWork_7 (by decide) ?_
  refine mG_mminN dX3_addWork_10 aX3_56 w_min.1 w_min.2.1 w_min.2.2 (by decide) (Nat.le_of_ble_eq_true rfl) (Nat.zero_le _) (Nat.zero_le _) (by omega) (by omega) ?_
  refine mG_putI pX3_37 dX3_addWork_13 e9 (Nat.le_of_ble_eq_true rfl) (Nat.le_of_ble_eq_true rfl) ?_
  exact mG_vret dX3_addWork_16 rfl (mX_of rfl rfl)
set_option maxRecDepth 100000 in
set_option maxHeartbeats 4000000 in
theorem ok_X3_exchange {E : mE} {h : mH} {dn wk p q : Nat} {ca : Nat → Nat} (e9 : h 9 = oNow dn wk) (e11 : h 11 = mAr 4 ca) (hp : p < 4) (hq : q < 4) : mOk E 1 zX3_exchange [.ref 9, vN p, vN q] h (mX none (mU h 11 (mAr 4 (mUp (mUp ca p (ca q)) q (ca p))))) := by
  refine mOk_w (L := [some (.ref 9), some (vN p), some (vN q), none]) pn_X3 rfl (Nat.le_of_ble_eq_true rfl) rfl ?_
  refine mG_aload_n dX3_exchange_0 rfl ?_
  refine mG_get fX3_15 dX3_exchange_1 e9 (Nat.le_of_ble_eq_true rfl) rfl ?_
  refine mG_iload_n dX3_exchange_4 rfl ?_
  refine mG_ialdA dX3_exchange_5 e11 (Nat.le_of_ble_eq_true rfl) (by decide) (by omega) ?_
  refine mG_istore_n dX3_exchange_6 (Nat.le_of_ble_eq_true rfl) rfl rfl ?_
  refine mG_aload_n dX3_exchange_7 rfl ?_
  refine mG_get fX3_15 dX3_exchange_8 e9 (Nat.le_of_ble_eq_true rfl) rfl ?_
  refine mG_iload_n dX3_exchange_11 rfl ?_
  refine mG_aload_n dX3_exchange_12 rfl ?_
  refine mG_get fX3_15 dX3_exchange_13 e9 (Nat.le_of_ble_eq_true rfl) rfl ?_
  refine mG_iload_n dX3_exchange_16 rfl ?_
  refine mG_ialdA dX3_exchange_17 e11 (Nat.le_of_ble_eq_true rfl) (by decide) (by omega) ?_
  refine mG_iastA dX3_exchange_18 e11 (Nat.le_of_ble_eq_true rfl) (by decide) (by omega) ?_
  refine mG_aload_n dX3_exchange_19 rfl ?_
  refine mG_get fX3_15 dX3_exchange_20 e9 (Nat.le_of_ble_eq_true rfl) rfl ?_
  refine mG_iload_n dX3_exchange_23 rfl ?_
  refine mG_iload_n dX3_exchange_24 rfl ?_
  refine mG_iastA dX3_exchange_25 rfl (Nat.le_of_ble_eq_true rfl) (by decide) (by omega) ?_
  exact mG_vret dX3_exchange_26 rfl (mX_of rfl (by rw [mU_same]))
/-- the log of deeds behind one more -/
def ds0 (dn : Nat) (ds : Nat → Nat) : Nat → Nat := if dn < 10 then ds else va_cpy ds ds 4 0 36
def dn0 (dn : Nat) : Nat := if dn < 10 then dn else 9
def ds1 (dn : Nat) (ds : Nat → Nat) (k x y wk : Nat) : Nat → Nat := mUp (mUp (mUp (mUp (ds0 dn ds) (dn0 dn * 4) k) (dn0 dn * 4 + 1) x) (dn0 dn * 4 + 2) y) (dn0 dn * 4 + 3) wk
set_option maxRecDepth 100000 in
set_option maxHeartbeats 4000000 in
theorem ok_X3_rememberA {E : mE} {h : mH} {dn wk k x y : Nat} {ds : Nat → Nat} (e9 : h 9 = oNow dn wk) (e13 : h 13 = mAr 40 ds) (hq : dn < 10) : mOk E 1 zX3_remember [.ref 9, vN k, vN x, vN y] h (mX none (mU (mU h 9 (oNow (dn0 dn + 1) wk)) 13 (mAr 40 (ds1 dn ds k x y wk)))) := by
  refine mOk_w (L := [some (.ref 9), some (vN k), some (vN x), some (vN y), none]) pn_X3 rfl (Nat.le_of_ble_eq_true rfl) rfl ?_
  refine mG_aload_n dX3_remember_0 rfl ?_
  refine mG_get fX3_33 dX3_remember_1 e9 (Nat.le_of_ble_eq_true rfl) rfl ?_
  refine mG_bipush (v := nI 10) dX3_remember_4 (by decide) ?_
  refine mG_icmp_ltN dX3_remember_6 (by omega) (by omega) (fun c6 => ?_) (fun c6 => absurd c6 (by omega))
  refine mG_aload_n dX3_remember_30 rfl ?_
  refine mG_get fX3_33 dX3_remember_31 e9 (Nat.le_of_ble_eq_true rfl) rfl ?_
  refine mG_iconst (v := nI 4) dX3_remember_34 (by decide) ?_
  refine mG_imulN dX3_remember_35 ?_
  refine mG_istore dX3_remember_36 (Nat.le_of_ble_eq_true rfl) rfl rfl ?_
  refine mG_aload_n dX3_remember_38 rfl ?_
  refine mG_get fX3_21 dX3_remember_39 e9 (Nat.le_of_ble_eq_true rfl) rfl ?_
  refine mG_iload dX3_remember_42 rfl ?_
  refine mG_iload_n dX3_remember_44 rfl ?_
  refine mG_iastA dX3_remember_45 e13 (Nat.le_of_ble_eq_true rfl) (by decide) (by omega) ?_
  refine mG_aload_n dX3_remember_46 rfl ?_
  refine mG_get fX3_21 dX3_remember_47 e9 (Nat.le_of_ble_eq_true rfl) rfl ?_
  refine mG_iload dX3_remember_50 rfl ?_
  refine mG_iconst (v := nI 1) dX3_remember_52 (by decide) ?_
  refine mG_iaddN dX3_remember_53 ?_
  refine mG_iload_n dX3_remember_54 rfl ?_
  refine mG_iastA dX3_remember_55 rfl (Nat.le_of_ble_eq_true rfl) (by decide) (by omega) ?_
  refine mG_aload_n dX3_remember_56 rfl ?_
  refine mG_get fX3_21 dX3_remember_57 e9 (Nat.le_of_ble_eq_true rfl) rfl ?_
  refine mG_iload dX3_remember_60 rfl ?_
  refine mG_iconst (v := nI 2) dX3_remember_62 (by decide) ?_
  refine mG_iaddN dX3_remember_63 ?_
  refine mG_iload_n dX3_remember_64 rfl ?_
  refine mG_iastA dX3_remember_65 rfl (Nat.le_of_ble_eq_true rfl) (by decide) (by omega) ?_
  refine mG_aload_n dX3_remember_66 rfl ?_
  refine mG_get fX3_21 dX3_remember_67 e9 (Nat.le_of_ble_eq_true rfl) rfl ?_
  refine mG_iload dX3_remember_70 rfl ?_
  refine mG_iconst (v := nI 3) dX3_remember_72 (by decide) ?_
  refine mG_iaddN dX3_remember_73 ?_
  refine mG_aload_n dX3_remember_74 rfl ?_
  refine mG_get fX3_37 dX3_remember_75 e9 (Nat.le_of_ble_eq_true rfl) rfl ?_
  refine mG_iastA dX3_remember_78 rfl (Nat.le_of_ble_eq_true rfl) (by decide) (by omega) ?_
  refine mG_aload_n dX3_remember_79 rfl ?_
  refine mG_dup dX3_remember_80 rfl ?_
  refine mG_get fX3_33 dX3_remember_81 e9 (Nat.le_of_ble_eq_true rfl) rfl ?_
  refine mG_iconst (v := nI 1) dX3_remember_84 (by decide) ?_
  refine mG_iaddN dX3_remember_85 ?_
  refine mG_putI pX3_33 dX3_remember_86 e9 (Nat.le_of_ble_eq_true rfl) (Nat.le_of_ble_eq_true rfl) ?_
  exact mG_vret dX3_remember_89 rfl (mX_of rfl (by
    funext j
    unfold ds1 ds0 dn0
    rw [if_pos hq, if_pos hq]
    unfold mU
    by_cases q9 : j = 9
    · subst q9; rfl
    · by_cases q13 : j = 13
      · subst q13; rfl
      · simp only [q9, q13, if_false]))
set_option maxRecDepth 100000 in
set_option maxHeartbeats 4000000 in
theorem ok_X3_rememberB {E : mE} {h : mH} {dn wk k x y : Nat} {ds : Nat → Nat} (e9 : h 9 = oNow dn wk) (e13 : h 13 = mAr 40 ds) (hq : dn = 10) : mOk E 1 zX3_remember [.ref 9, vN k, vN x, vN y] h (mX none (mU (mU h 9 (oNow (dn0 dn + 1) wk)) 13 (mAr 40 (ds1 dn ds k x y wk)))) := by
  refine mOk_w (L := [some (.ref 9), some (vN k), some (vN x), some (vN y), none]) pn_X3 rfl (Nat.le_of_ble_eq_true rfl) rfl ?_
  refine mG_aload_n dX3_remember_0 rfl ?_
  refine mG_get fX3_33 dX3_remember_1 e9 (Nat.le_of_ble_eq_true rfl) rfl ?_
  refine mG_bipush (v := nI 10) dX3_remember_4 (by decide) ?_
  refine mG_icmp_ltN dX3_remember_6 (by omega) (by omega) (fun c6 => absurd c6 (by omega)) (fun c6 => ?_)
  refine mG_aload_n dX3_remember_9 rfl ?_
  refine mG_get fX3_21 dX3_remember_10 e9 (Nat.le_of_ble_eq_true rfl) rfl ?_
  refine mG_iconst (v := nI 4) dX3_remember_13 (by decide) ?_
  refine mG_aload_n dX3_remember_14 rfl ?_
  refine mG_get fX3_21 dX3_remember_15 e9 (Nat.le_of_ble_eq_true rfl) rfl ?_
  refine mG_iconst (v := nI 0) dX3_remember_18 (by decide) ?_
  refine mG_bipush (v := nI 36) dX3_remember_19 (by decide) ?_
  refine mG_copyA dX3_remember_21 aX3_27 w_copy.1 w_copy.2.1 w_copy.2.2 e13 e13 (Nat.le_of_ble_eq_true rfl) (Nat.le_of_ble_eq_true rfl) (by decide) (by decide) (by decide) (by decide) (by decide) (Nat.le_of_ble_eq_true rfl) ?_
  refine mG_aload_n dX3_remember_24 rfl ?_
  refine mG_bipush (v := nI 9) dX3_remember_25 (by decide) ?_
  refine mG_putI pX3_33 dX3_remember_27 e9 (Nat.le_of_ble_eq_true rfl) (Nat.le_of_ble_eq_true rfl) ?_
  refine mG_aload_n dX3_remember_30 rfl ?_
  refine mG_get fX3_33 dX3_remember_31 rfl (Nat.le_of_ble_eq_true rfl) rfl ?_
  refine mG_iconst (v := nI 4) dX3_remember_34 (by decide) ?_
  refine mG_imulN dX3_remember_35 ?_
  refine mG_istore dX3_remember_36 (Nat.le_of_ble_eq_true rfl) rfl rfl ?_
  refine mG_aload_n dX3_remember_38 rfl ?_
  refine mG_get fX3_21 dX3_remember_39 rfl (Nat.le_of_ble_eq_true rfl) rfl ?_
  refine mG_iload dX3_remember_42 rfl ?_
  refine mG_iload_n dX3_remember_44 rfl ?_
  refine mG_iastA dX3_remember_45 rfl (Nat.le_of_ble_eq_true rfl) (by decide) (by omega) ?_
  refine mG_aload_n dX3_remember_46 rfl ?_
  refine mG_get fX3_21 dX3_remember_47 rfl (Nat.le_of_ble_eq_true rfl) rfl ?_
  refine mG_iload dX3_remember_50 rfl ?_
  refine mG_iconst (v := nI 1) dX3_remember_52 (by decide) ?_
  refine mG_iaddN dX3_remember_53 ?_
  refine mG_iload_n dX3_remember_54 rfl ?_
  refine mG_iastA dX3_remember_55 rfl (Nat.le_of_ble_eq_true rfl) (by decide) (by omega) ?_
  refine mG_aload_n dX3_remember_56 rfl ?_
  refine mG_get fX3_21 dX3_remember_57 rfl (Nat.le_of_ble_eq_true rfl) rfl ?_
  refine mG_iload dX3_remember_60 rfl ?_
  refine mG_iconst (v := nI 2) dX3_remember_62 (by decide) ?_
  refine mG_iaddN dX3_remember_63 ?_
  refine mG_iload_n dX3_remember_64 rfl ?_
  refine mG_iastA dX3_remember_65 rfl (Nat.le_of_ble_eq_true rfl) (by decide) (by omega) ?_
  refine mG_aload_n dX3_remember_66 rfl ?_
  refine mG_get fX3_21 dX3_remember_67 rfl (Nat.le_of_ble_eq_true rfl) rfl ?_
  refine mG_iload dX3_remember_70 rfl ?_
  refine mG_iconst (v := nI 3) dX3_remember_72 (by decide) ?_
  refine mG_iaddN dX3_remember_73 ?_
  refine mG_aload_n dX3_remember_74 rfl ?_
  refine mG_get fX3_37 dX3_remember_75 rfl (Nat.le_of_ble_eq_true rfl) rfl ?_
  refine mG_iastA dX3_remember_78 rfl (Nat.le_of_ble_eq_true rfl) (by decide) (by omega) ?_
  refine mG_aload_n dX3_remember_79 rfl ?_
  refine mG_dup dX3_remember_80 rfl ?_
  refine mG_get fX3_33 dX3_remember_81 rfl (Nat.le_of_ble_eq_true rfl) rfl ?_
  refine mG_iconst (v := nI 1) dX3_remember_84 (by decide) ?_
  refine mG_iaddN dX3_remember_85 ?_
  refine mG_putI pX3_33 dX3_remember_86 rfl (Nat.le_of_ble_eq_true rfl) (Nat.le_of_ble_eq_true rfl) ?_
  exact mG_vret dX3_remember_89 rfl (mX_of rfl (by
    funext j
    unfold ds1 ds0 dn0
    rw [if_neg (by omega), if_neg (by omega)]
    unfold mU
    by_cases q9 : j = 9
    · subst q9; rfl
    · by_cases q13 : j = 13
      · subst q13; rfl
      · simp only [q9, q13, if_false]))
theorem ok_X3_remember {E : mE} {h : mH} {dn wk k x y : Nat} {ds : Nat → Nat} (e9 : h 9 = oNow dn wk) (e13 : h 13 = mAr 40 ds) (hd : dn ≤ 10) : mOk E 1 zX3_remember [.ref 9, vN k, vN x, vN y] h (mX none (mU (mU h 9 (oNow (dn0 dn + 1) wk)) 13 (mAr 40 (ds1 dn ds k x y wk)))) := by
  rcases Nat.lt_or_ge dn 10 with q | q
  · exact ok_X3_rememberA e9 e13 q
  · exact ok_X3_rememberB e9 e13 (by omega)
theorem dn0_lt (dn : Nat) : dn0 dn < 10 := by
  unfold dn0
  split <;> omega
set_option maxRecDepth 100000 in
set_option maxHeartbeats 4000000 in
theorem ok_X3_turnCube {E : mE} {h : mH} {dn wk c s : Nat} {fr ds : Nat → Nat} (e9 : h 9 = oNow dn wk) (e12 : h 12 = mAr 4 fr) (e13 : h 13 = mAr 40 ds) (hd : dn ≤ 10) (hw : wk ≤ 9999) (hc : c < 4) (hf : fr c < 6) (hs : s < 6) : mOk E 2 zX3_turnCube [.ref 9, vN c, vN s] h (mX none (mU (mU (mU h 9 (oNow (dn0 dn + 1) (min (wk + tW (fr c) s) 9999))) 12 (mAr 4 (mUp fr c s))) 13 (mAr 40 (ds1 dn ds 0 c (fr c) wk)))) := by
  have hd0 := dn0_lt dn
  have htw : tW (fr c) s ≤ 2 := by
    unfold tW
    split
    · omega
    · split <;> omega
  refine mOk_w (L := [some (.ref 9), some (vN c), some (vN s)]) pn_X3 rfl (Nat.le_of_ble_eq_true rfl) rfl ?_
  refine mG_aload_n dX3_turnCube_0 rfl ?_
  refine mG_iconst (v := nI 0) dX3_turnCube_1 (by decide) ?_
  refine mG_iload_n dX3_turnCube_2 rfl ?_
  refine mG_aload_n dX3_turnCube_3 rfl ?_
  refine mG_get fX3_18 dX3_turnCube_4 e9 (Nat.le_of_ble_eq_true rfl) rfl ?_
  refine mG_iload_n dX3_turnCube_7 rfl ?_
  refine mG_ialdA dX3_turnCube_8 e12 (Nat.le_of_ble_eq_true rfl) (by decide) (by omega) ?_
  refine mG_cw3 vX3_40 dX3_turnCube_9 (mLe_of rfl) (Nat.le_of_ble_eq_true rfl) e9 (Nat.le_of_ble_eq_true rfl) (ok_X3_remember e9 e13 hd) ?_
  refine mG_aload_n dX3_turnCube_12 rfl ?_
  refine mG_aload_n dX3_turnCube_13 rfl ?_
  refine mG_get fX3_18 dX3_turnCube_14 rfl (Nat.le_of_ble_eq_true rfl) rfl ?_
  refine mG_iload_n dX3_turnCube_17 rfl ?_
  refine mG_ialdA dX3_turnCube_18 e12 (Nat.le_of_ble_eq_true rfl) (by decide) (by omega) ?_
  refine mG_iload_n dX3_turnCube_19 rfl ?_
  refine mG_cs2 sX3_44 dX3_turnCube_20 (mLe_of rfl) (Nat.le_of_ble_eq_true rfl) (ok_X3_turnWork hf hs) ?_
  refine mG_cw1 vX3_48 dX3_turnCube_23 (mLe_of rfl) (Nat.le_of_ble_eq_true rfl) rfl (Nat.le_of_ble_eq_true rfl) (ok_X3_addWork rfl hw htw) ?_
  refine mG_aload_n dX3_turnCube_26 rfl ?_
  refine mG_get fX3_18 dX3_turnCube_27 rfl (Nat.le_of_ble_eq_true rfl) rfl ?_
  refine mG_iload_n dX3_turnCube_30 rfl ?_
  refine mG_iload_n dX3_turnCube_31 rfl ?_
  refine mG_iastA dX3_turnCube_32 e12 (Nat.le_of_ble_eq_true rfl) (by decide) (by omega) ?_
  exact mG_vret dX3_turnCube_33 rfl (mX_of rfl (by
    funext j
    unfold mU
    by_cases q9 : j = 9
    · subst q9; rfl
    · by_cases q13 : j = 13
      · subst q13; rfl
      · by_cases q12 : j = 12
        · subst q12; rfl
        · simp only [q9, q12, q13, if_false]))
set_option maxRecDepth 100000 in
set_option maxHeartbeats 4000000 in
theorem ok_X3_changePlaces {E : mE} {h : mH} {dn wk p q : Nat} {ca ds : Nat → Nat} (e9 : h 9 = oNow dn wk) (e11 : h 11 = mAr 4 ca) (e13 : h 13 = mAr 40 ds) (hd : dn ≤ 10) (hw : wk ≤ 9999) (hp : p < 4) (hq : q < 4) : mOk E 2 zX3_changePlaces [.ref 9, vN p, vN q] h (mX none (mU (mU (mU h 9 (oNow (dn0 dn + 1) (min (wk + 1) 9999))) 11 (mAr 4 (mUp (mUp ca p (ca q)) q (ca p)))) 13 (mAr 40 (ds1 dn ds 1 p q wk)))) := by
  refine mOk_w (L := [some (.ref 9), some (vN p), some (vN q)]) pn_X3 rfl (Nat.le_of_ble_eq_true rfl) rfl ?_
  refine mG_aload_n dX3_changePlaces_0 rfl ?_
  refine mG_iconst (v := nI 1) dX3_changePlaces_1 (by decide) ?_
  refine mG_iload_n dX3_changePlaces_2 rfl ?_
  refine mG_iload_n dX3_changePlaces_3 rfl ?_
  refine mG_cw3 vX3_40 dX3_changePlaces_4 (mLe_of rfl) (Nat.le_of_ble_eq_true rfl) e9 (Nat.le_of_ble_eq_true rfl) (ok_X3_remember e9 e13 hd) ?_
  refine mG_aload_n dX3_changePlaces_7 rfl ?_
  refine mG_iconst (v := nI 1) dX3_changePlaces_8 (by decide) ?_
  refine mG_cw1 vX3_48 dX3_changePlaces_9 (mLe_of rfl) (Nat.le_of_ble_eq_true rfl) rfl (Nat.le_of_ble_eq_true rfl) (ok_X3_addWork rfl hw (by decide)) ?_
  refine mG_aload_n dX3_changePlaces_12 rfl ?_
  refine mG_iload_n dX3_changePlaces_13 rfl ?_
  refine mG_iload_n dX3_changePlaces_14 rfl ?_
  refine mG_cw2 vX3_52 dX3_changePlaces_15 (mLe_of rfl) (Nat.le_of_ble_eq_true rfl) rfl (Nat.le_of_ble_eq_true rfl) (ok_X3_exchange rfl e11 hp hq) ?_
  exact mG_vret dX3_changePlaces_18 rfl (mX_of rfl (by
    funext j
    unfold mU
    by_cases q9 : j = 9
    · subst q9; rfl
    · by_cases q13 : j = 13
      · subst q13; rfl
      · by_cases q11 : j = 11
        · subst q11; rfl
        · simp only [q9, q11, q13, if_false]))
set_option maxRecDepth 100000 in
set_option maxHeartbeats 4000000 in
theorem ok_X3_pasteFigure {E : mE} {h : mH} {dn wk i x : Nat} {nf ds : Nat → Nat} (e9 : h 9 = oNow dn wk) (e10 : h 10 = mAr 24 nf) (e13 : h 13 = mAr 40 ds) (hd : dn ≤ 10) (hi : i < 24) : mOk E 2 zX3_pasteFigure [.ref 9, vN i, vN x] h (mX none (mU (mU (mU h 9 (oNow (dn0 dn + 1) wk)) 10 (mAr 24 (mUp nf i x))) 13 (mAr 40 (ds1 dn ds 2 i (nf i) wk)))) := by
  refine mOk_w (L := [some (.ref 9), some (vN i), some (vN x)]) pn_X3 rfl (Nat.le_of_ble_eq_true rfl) rfl ?_
  refine mG_aload_n dX3_pasteFigure_0 rfl ?_
  refine mG_iconst (v := nI 2) dX3_pasteFigure_1 (by decide) ?_
  refine mG_iload_n dX3_pasteFigure_2 rfl ?_
  refine mG_aload_n dX3_pasteFigure_3 rfl ?_
  refine mG_get fX3_9 dX3_pasteFigure_4 e9 (Nat.le_of_ble_eq_true rfl) rfl ?_
  refine mG_iload_n dX3_pasteFigure_7 rfl ?_
  refine mG_ialdA dX3_pasteFigure_8 e10 (Nat.le_of_ble_eq_true rfl) (by decide) (by omega) ?_
  refine mG_cw3 vX3_40 dX3_pasteFigure_9 (mLe_of rfl) (Nat.le_of_ble_eq_true rfl) e9 (Nat.le_of_ble_eq_true rfl) (ok_X3_remember e9 e13 hd) ?_
  refine mG_aload_n dX3_pasteFigure_12 rfl ?_
  refine mG_get fX3_9 dX3_pasteFigure_13 rfl (Nat.le_of_ble_eq_true rfl) rfl ?_
  refine mG_iload_n dX3_pasteFigure_16 rfl ?_
  refine mG_iload_n dX3_pasteFigure_17 rfl ?_
  refine mG_iastA dX3_pasteFigure_18 e10 (Nat.le_of_ble_eq_true rfl) (by decide) (by omega) ?_
  exact mG_vret dX3_pasteFigure_19 rfl (mX_of rfl (by rw [mU_comm _ (by decide)]))
set_option maxRecDepth 100000 in
set_option maxHeartbeats 4000000 in
theorem lp_X3_placeOf {E : mE} {h : mH} {dn wk c p : Nat} {ca : Nat → Nat} (e9 : h 9 = oNow dn wk) (e11 : h 11 = mAr 4 ca) (hc : c < 4) (hp : p < 4) (hpc : ca p = c) (hu : ∀ j, j < p → ca j ≠ c) (hca : ∀ j, j < 4 → ca j < 4) : ∀ (k i : Nat), i + k = 4 → i ≤ p → mG E (mR 1, zX3_placeOf) (mKq E (mR 1) mN (mX (some (vN p)) h)) 2 [some (.ref 9), some (vN c), some (vN i)] [] (mN, 0, 0) h := by
  intro k
  induction k with
  | zero =>
    intro i hk hi
    refine mG_iload_n dX3_placeOf_2 rfl ?_
    refine mG_iconst (v := nI 4) dX3_placeOf_3 (by decide) ?_
    exact absurd hi (by omega)
  | succ k ih =>
    intro i hk hi
    refine mG_iload_n dX3_placeOf_2 rfl ?_
    refine mG_iconst (v := nI 4) dX3_placeOf_3 (by decide) ?_
    refine mG_icmp_geN dX3_placeOf_4 (by omega) (by omega) (fun c4 => absurd c4 (by omega)) (fun c4 => ?_)
    refine mG_aload_n dX3_placeOf_7 rfl ?_
    refine mG_get fX3_15 dX3_placeOf_8 e9 (Nat.le_of_ble_eq_true rfl) rfl ?_
    refine mG_iload_n dX3_placeOf_11 rfl ?_
    refine mG_ialdA dX3_placeOf_12 e11 (Nat.le_of_ble_eq_true rfl) (by decide) (by omega) ?_
    refine mG_iload_n dX3_placeOf_13 rfl ?_
    have hci := hca i (by omega)
    refine mG_icmp_neN dX3_placeOf_14 (by omega) (by omega) (fun c14 => ?_) (fun c14 => ?_)
    · have hne : i ≠ p := fun z => c14 (by rw [z]; exact hpc)
      refine mG_iincN dX3_placeOf_19 rfl (Nat.le_of_ble_eq_true rfl) rfl rfl ?_
      refine mG_goto dX3_placeOf_22 ?_
      exact ih (i + 1) (by omega) (by omega)
    · refine mG_iload_n dX3_placeOf_17 rfl ?_
      exact mG_iret dX3_placeOf_18 rfl (mX_of (by
        have : i = p := by
          rcases Nat.lt_or_ge i p with z | z
          · exact absurd c14 (hu i z)
          · omega
        rw [this]) rfl)
set_option maxRecDepth 100000 in
set_option maxHeartbeats 4000000 in
theorem ok_X3_placeOf {E : mE} {h : mH} {dn wk c p : Nat} {ca : Nat → Nat} (e9 : h 9 = oNow dn wk) (e11 : h 11 = mAr 4 ca) (hc : c < 4) (hp : p < 4) (hpc : ca p = c) (hu : ∀ j, j < p → ca j ≠ c) (hca : ∀ j, j < 4 → ca j < 4) : mOk E 1 zX3_placeOf [.ref 9, vN c] h (mX (some (vN p)) h) := by
  refine mOk_w (L := [some (.ref 9), some (vN c), none]) pn_X3 rfl (Nat.le_of_ble_eq_true rfl) rfl ?_
  refine mG_iconst (v := nI 0) dX3_placeOf_0 (by decide) ?_
  refine mG_istore_n dX3_placeOf_1 (Nat.le_of_ble_eq_true rfl) rfl rfl ?_
  exact lp_X3_placeOf e9 e11 hc hp hpc hu hca 4 0 rfl (Nat.zero_le _)
end
section
/-- FIGURES of a CUBE as bits -/
def fgs (nf : Nat → Nat) (c : Nat) : Nat → Nat
  | 0 => 0
  | i + 1 => fgs nf c i ||| 1 <<< nf (c * 6 + i)
theorem sb_cpy0N {f g : Nat → Nat} {n j : Nat} (hj : j < n) : va_cpy f g 0 0 n j = f j := by
  rw [pk_cpy_in (Nat.zero_le _) (by omega)]
  simp
set_option maxRecDepth 100000 in
set_option maxHeartbeats 4000000 in
theorem lp_X3_figuresOf {E : mE} {h : mH} {dn wk c : Nat} {nf : Nat → Nat} (e9 : h 9 = oNow dn wk) (e10 : h 10 = mAr 24 nf) (hc : c < 4) (hf : ∀ j, j < 6 → nf (c * 6 + j) < 10) : ∀ (k i : Nat), i + k = 6 → mG E (mR 1, zX3_figuresOf) (mKq E (mR 1) mN (mX (some (vN (fgs nf c 6))) h)) 4 [some (.ref 9), some (vN c), some (vN (fgs nf c i)), some (vN i)] [] (mN, 0, 0) h := by
  intro k
  induction k with
  | zero =>
    intro i hk
    refine mG_iload_n dX3_figuresOf_4 rfl ?_
    refine mG_bipush (v := nI 6) dX3_figuresOf_5 (by decide) ?_
    refine mG_icmp_geN dX3_figuresOf_7 (by omega) (by omega) (fun c7 => ?_) (fun c7 => absurd c7 (by omega))
    refine mG_iload_n dX3_figuresOf_32 rfl ?_
    exact mG_iret dX3_figuresOf_33 rfl (mX_of (by rw [show i = 6 by omega]) rfl)
  | succ k ih =>
    intro i hk
    refine mG_iload_n dX3_figuresOf_4 rfl ?_
    refine mG_bipush (v := nI 6) dX3_figuresOf_5 (by decide) ?_
    refine mG_icmp_geN dX3_figuresOf_7 (by omega) (by omega) (fun c7 => absurd c7 (by omega)) (fun c7 => ?_)
    refine mG_iload_n dX3_figuresOf_10 rfl ?_
    refine mG_iconst (v := nI 1) dX3_figuresOf_11 (by decide) ?_
    refine mG_aload_n dX3_figuresOf_12 rfl ?_
    refine mG_get fX3_9 dX3_figuresOf_13 e9 (Nat.le_of_ble_eq_true rfl) rfl ?_
    refine mG_iload_n dX3_figuresOf_16 rfl ?_
    refine mG_bipush (v := nI 6) dX3_figuresOf_17 (by decide) ?_
    refine mG_imulN dX3_figuresOf_19 ?_
    refine mG_iload_n dX3_figuresOf_20 rfl ?_
    refine mG_iaddN dX3_figuresOf_21 ?_
    refine mG_ialdA dX3_figuresOf_22 e10 (Nat.le_of_ble_eq_true rfl) (by decide) (by omega) ?_
    refine mG_ishlN dX3_figuresOf_23 (Nat.lt_trans (hf i (by omega)) (by decide)) (shl1_lt2 (Nat.lt_trans (hf i (by omega)) (by decide))) ?_
    refine mG_iorN dX3_figuresOf_24 ?_
    refine mG_istore_n dX3_figuresOf_25 (Nat.le_of_ble_eq_true rfl) rfl rfl ?_
    refine mG_iincN dX3_figuresOf_26 rfl (Nat.le_of_ble_eq_true rfl) rfl rfl ?_
    refine mG_goto dX3_figuresOf_29 ?_
    exact ih (i + 1) (by omega)
set_option maxRecDepth 100000 in
set_option maxHeartbeats 4000000 in
theorem ok_X3_figuresOf {E : mE} {h : mH} {dn wk c : Nat} {nf : Nat → Nat} (e9 : h 9 = oNow dn wk) (e10 : h 10 = mAr 24 nf) (hc : c < 4) (hf : ∀ j, j < 6 → nf (c * 6 + j) < 10) : mOk E 1 zX3_figuresOf [.ref 9, vN c] h (mX (some (vN (fgs nf c 6))) h) := by
  refine mOk_w (L := [some (.ref 9), some (vN c), none, none]) pn_X3 rfl (Nat.le_of_ble_eq_true rfl) rfl ?_
  refine mG_iconst (v := nI 0) dX3_figuresOf_0 (by decide) ?_
  refine mG_istore_n dX3_figuresOf_1 (Nat.le_of_ble_eq_true rfl) rfl rfl ?_
  refine mG_iconst (v := nI 0) dX3_figuresOf_2 (by decide) ?_
  refine mG_istore_n dX3_figuresOf_3 (Nat.le_of_ble_eq_true rfl) rfl rfl ?_
  exact lp_X3_figuresOf e9 e10 hc hf 6 0 rfl
set_option maxRecDepth 100000 in
set_option maxHeartbeats 4000000 in
theorem ok_X3_takeBack0 {E : mE} {h : mH} {dn wk : Nat} {nf ca fr ds : Nat → Nat} (e9 : h 9 = oNow dn wk) (e10 : h 10 = mAr 24 nf) (e11 : h 11 = mAr 4 ca) (e12 : h 12 = mAr 4 fr) (e13 : h 13 = mAr 40 ds) (h0 : 0 < dn) (hd : dn ≤ 10) (hk : ds ((dn - 1) * 4) = 0) (hx : ds ((dn - 1) * 4 + 1) < 4) : mOk E 2 zX3_takeBack [.ref 9] h (mX none (mU (mU h 9 (oNow (dn - 1) (ds ((dn - 1) * 4 + 3)))) 12 (mAr 4 (mUp fr (ds ((dn - 1) * 4 + 1)) (ds ((dn - 1) * 4 + 2)))))) := by
  refine mOk_w (L := [some (.ref 9), none, none, none]) pn_X3 rfl (Nat.le_of_ble_eq_true rfl) rfl ?_
  refine mG_aload_n dX3_takeBack_0 rfl ?_
  refine mG_get fX3_33 dX3_takeBack_1 e9 (Nat.le_of_ble_eq_true rfl) rfl ?_
  refine mG_if_gtN dX3_takeBack_4 (by omega) (fun c4 => ?_) (fun c4 => absurd c4 (by omega))
  refine mG_aload_n dX3_takeBack_8 rfl ?_
  refine mG_dup dX3_takeBack_9 rfl ?_
  refine mG_get fX3_33 dX3_takeBack_10 e9 (Nat.le_of_ble_eq_true rfl) rfl ?_
  refine mG_iconst (v := nI 1) dX3_takeBack_13 (by decide) ?_
  refine mG_isubN dX3_takeBack_14 (by omega) ?_
  refine mG_putI pX3_33 dX3_takeBack_15 e9 (Nat.le_of_ble_eq_true rfl) (Nat.le_of_ble_eq_true rfl) ?_
  refine mG_aload_n dX3_takeBack_18 rfl ?_
  refine mG_get fX3_33 dX3_takeBack_19 rfl (Nat.le_of_ble_eq_true rfl) rfl ?_
  refine mG_iconst (v := nI 4) dX3_takeBack_22 (by decide) ?_
  refine mG_imulN dX3_takeBack_23 ?_
  refine mG_istore_n dX3_takeBack_24 (Nat.le_of_ble_eq_true rfl) rfl rfl ?_
  refine mG_aload_n dX3_takeBack_25 rfl ?_
  refine mG_get fX3_21 dX3_takeBack_26 rfl (Nat.le_of_ble_eq_true rfl) rfl ?_
  refine mG_iload_n dX3_takeBack_29 rfl ?_
  refine mG_iconst (v := nI 1) dX3_takeBack_30 (by decide) ?_
  refine mG_iaddN dX3_takeBack_31 ?_
  refine mG_ialdA dX3_takeBack_32 e13 (Nat.le_of_ble_eq_true rfl) (by decide) (by omega) ?_
  refine mG_istore_n dX3_takeBack_33 (Nat.le_of_ble_eq_true rfl) rfl rfl ?_
  refine mG_aload_n dX3_takeBack_34 rfl ?_
  refine mG_get fX3_21 dX3_takeBack_35 rfl (Nat.le_of_ble_eq_true rfl) rfl ?_
  refine mG_iload_n dX3_takeBack_38 rfl ?_
  refine mG_iconst (v := nI 2) dX3_takeBack_39 (by decide) ?_
  refine mG_iaddN dX3_takeBack_40 ?_
  refine mG_ialdA dX3_takeBack_41 e13 (Nat.le_of_ble_eq_true rfl) (by decide) (by omega) ?_
  refine mG_istore_n dX3_takeBack_42 (Nat.le_of_ble_eq_true rfl) rfl rfl ?_
  refine mG_aload_n dX3_takeBack_43 rfl ?_
  refine mG_get fX3_21 dX3_takeBack_44 rfl (Nat.le_of_ble_eq_true rfl) rfl ?_
  refine mG_iload_n dX3_takeBack_47 rfl ?_
  refine mG_ialdA dX3_takeBack_48 e13 (Nat.le_of_ble_eq_true rfl) (by decide) (by omega) ?_
  refine mG_topN hk ?_
  refine mG_lookup (off := 27) (tgt := 76) dX3_takeBack_49 (by decide) (by decide) (by decide) ?_
  refine mG_aload_n dX3_takeBack_76 rfl ?_
  refine mG_get fX3_18 dX3_takeBack_77 rfl (Nat.le_of_ble_eq_true rfl) rfl ?_
  refine mG_iload_n dX3_takeBack_80 rfl ?_
  refine mG_iload_n dX3_takeBack_81 rfl ?_
  refine mG_iastA dX3_takeBack_82 e12 (Nat.le_of_ble_eq_true rfl) (by decide) (by omega) ?_
  refine mG_goto dX3_takeBack_83 ?_
  refine mG_aload_n dX3_takeBack_102 rfl ?_
  refine mG_aload_n dX3_takeBack_103 rfl ?_
  refine mG_get fX3_21 dX3_takeBack_104 rfl (Nat.le_of_ble_eq_true rfl) rfl ?_
  refine mG_iload_n dX3_takeBack_107 rfl ?_
  refine mG_iconst (v := nI 3) dX3_takeBack_108 (by decide) ?_
  refine mG_iaddN dX3_takeBack_109 ?_
  refine mG_ialdA dX3_takeBack_110 e13 (Nat.le_of_ble_eq_true rfl) (by decide) (by omega) ?_
  refine mG_putI pX3_37 dX3_takeBack_111 rfl (Nat.le_of_ble_eq_true rfl) (Nat.le_of_ble_eq_true rfl) ?_
  exact mG_vret dX3_takeBack_114 rfl (mX_of rfl (by
    funext j
    unfold mU
    by_cases q9 : j = 9
    · subst q9; rfl
    · by_cases qx : j = 12
      · subst qx; rfl
      · simp only [q9, qx, if_false]))
set_option maxRecDepth 100000 in
set_option maxHeartbeats 4000000 in
theorem ok_X3_takeBack1 {E : mE} {h : mH} {dn wk : Nat} {nf ca fr ds : Nat → Nat} (e9 : h 9 = oNow dn wk) (e10 : h 10 = mAr 24 nf) (e11 : h 11 = mAr 4 ca) (e12 : h 12 = mAr 4 fr) (e13 : h 13 = mAr 40 ds) (h0 : 0 < dn) (hd : dn ≤ 10) (hk : ds ((dn - 1) * 4) = 1) (hx : ds ((dn - 1) * 4 + 1) < 4) (hy : ds ((dn - 1) * 4 + 2) < 4) : mOk E 2 zX3_takeBack [.ref 9] h (mX none (mU (mU h 9 (oNow (dn - 1) (ds ((dn - 1) * 4 + 3)))) 11 (mAr 4 (mUp (mUp ca (ds ((dn - 1) * 4 + 1)) (ca (ds ((dn - 1) * 4 + 2)))) (ds ((dn - 1) * 4 + 2)) (ca (ds ((dn - 1) * 4 + 1))))))) := by
  refine mOk_w (L := [some (.ref 9), none, none, none]) pn_X3 rfl (Nat.le_of_ble_eq_true rfl) rfl ?_
  refine mG_aload_n dX3_takeBack_0 rfl ?_
  refine mG_get fX3_33 dX3_takeBack_1 e9 (Nat.le_of_ble_eq_true rfl) rfl ?_
  refine mG_if_gtN dX3_takeBack_4 (by omega) (fun c4 => ?_) (fun c4 => absurd c4 (by omega))
  refine mG_aload_n dX3_takeBack_8 rfl ?_
  refine mG_dup dX3_takeBack_9 rfl ?_
  refine mG_get fX3_33 dX3_takeBack_10 e9 (Nat.le_of_ble_eq_true rfl) rfl ?_
  refine mG_iconst (v := nI 1) dX3_takeBack_13 (by decide) ?_
  refine mG_isubN dX3_takeBack_14 (by omega) ?_
  refine mG_putI pX3_33 dX3_takeBack_15 e9 (Nat.le_of_ble_eq_true rfl) (Nat.le_of_ble_eq_true rfl) ?_
  refine mG_aload_n dX3_takeBack_18 rfl ?_
  refine mG_get fX3_33 dX3_takeBack_19 rfl (Nat.le_of_ble_eq_true rfl) rfl ?_
  refine mG_iconst (v := nI 4) dX3_takeBack_22 (by decide) ?_
  refine mG_imulN dX3_takeBack_23 ?_
  refine mG_istore_n dX3_takeBack_24 (Nat.le_of_ble_eq_true rfl) rfl rfl ?_
  refine mG_aload_n dX3_takeBack_25 rfl ?_
  refine mG_get fX3_21 dX3_takeBack_26 rfl (Nat.le_of_ble_eq_true rfl) rfl ?_
  refine mG_iload_n dX3_takeBack_29 rfl ?_
  refine mG_iconst (v := nI 1) dX3_takeBack_30 (by decide) ?_
  refine mG_iaddN dX3_takeBack_31 ?_
  refine mG_ialdA dX3_takeBack_32 e13 (Nat.le_of_ble_eq_true rfl) (by decide) (by omega) ?_
  refine mG_istore_n dX3_takeBack_33 (Nat.le_of_ble_eq_true rfl) rfl rfl ?_
  refine mG_aload_n dX3_takeBack_34 rfl ?_
  refine mG_get fX3_21 dX3_takeBack_35 rfl (Nat.le_of_ble_eq_true rfl) rfl ?_
  refine mG_iload_n dX3_takeBack_38 rfl ?_
  refine mG_iconst (v := nI 2) dX3_takeBack_39 (by decide) ?_
  refine mG_iaddN dX3_takeBack_40 ?_
  refine mG_ialdA dX3_takeBack_41 e13 (Nat.le_of_ble_eq_true rfl) (by decide) (by omega) ?_
  refine mG_istore_n dX3_takeBack_42 (Nat.le_of_ble_eq_true rfl) rfl rfl ?_
  refine mG_aload_n dX3_takeBack_43 rfl ?_
  refine mG_get fX3_21 dX3_takeBack_44 rfl (Nat.le_of_ble_eq_true rfl) rfl ?_
  refine mG_iload_n dX3_takeBack_47 rfl ?_
  refine mG_ialdA dX3_takeBack_48 e13 (Nat.le_of_ble_eq_true rfl) (by decide) (by omega) ?_
  refine mG_topN hk ?_
  refine mG_lookup (off := 37) (tgt := 86) dX3_takeBack_49 (by decide) (by decide) (by decide) ?_
  refine mG_aload_n dX3_takeBack_86 rfl ?_
  refine mG_iload_n dX3_takeBack_87 rfl ?_
  refine mG_iload_n dX3_takeBack_88 rfl ?_
  refine mG_cw2 vX3_52 dX3_takeBack_89 (mLe_of rfl) (Nat.le_of_ble_eq_true rfl) rfl (Nat.le_of_ble_eq_true rfl) (ok_X3_exchange rfl e11 hx hy) ?_
  refine mG_goto dX3_takeBack_92 ?_
  refine mG_aload_n dX3_takeBack_102 rfl ?_
  refine mG_aload_n dX3_takeBack_103 rfl ?_
  refine mG_get fX3_21 dX3_takeBack_104 rfl (Nat.le_of_ble_eq_true rfl) rfl ?_
  refine mG_iload_n dX3_takeBack_107 rfl ?_
  refine mG_iconst (v := nI 3) dX3_takeBack_108 (by decide) ?_
  refine mG_iaddN dX3_takeBack_109 ?_
  refine mG_ialdA dX3_takeBack_110 e13 (Nat.le_of_ble_eq_true rfl) (by decide) (by omega) ?_
  refine mG_putI pX3_37 dX3_takeBack_111 rfl (Nat.le_of_ble_eq_true rfl) (Nat.le_of_ble_eq_true rfl) ?_
  exact mG_vret dX3_takeBack_114 rfl (mX_of rfl (by
    funext j
    unfold mU
    by_cases q9 : j = 9
    · subst q9; rfl
    · by_cases qx : j = 11
      · subst qx; rfl
      · simp only [q9, qx, if_false]))
set_option maxRecDepth 100000 in
set_option maxHeartbeats 4000000 in
theorem ok_X3_takeBack2 {E : mE} {h : mH} {dn wk : Nat} {nf ca fr ds : Nat → Nat} (e9 : h 9 = oNow dn wk) (e10 : h 10 = mAr 24 nf) (e11 : h 11 = mAr 4 ca) (e12 : h 12 = mAr 4 fr) (e13 : h 13 = mAr 40 ds) (h0 : 0 < dn) (hd : dn ≤ 10) (hk : ds ((dn - 1) * 4) = 2) (hx : ds ((dn - 1) * 4 + 1) < 24) : mOk E 2 zX3_takeBack [.ref 9] h (mX none (mU (mU h 9 (oNow (dn - 1) (ds ((dn - 1) * 4 + 3)))) 10 (mAr 24 (mUp nf (ds ((dn - 1) * 4 + 1)) (ds ((dn - 1) * 4 + 2)))))) := by
  refine mOk_w (L := [some (.ref 9), none, none, none]) pn_X3 rfl (Nat.le_of_ble_eq_true rfl) rfl ?_
  refine mG_aload_n dX3_takeBack_0 rfl ?_
  refine mG_get fX3_33 dX3_takeBack_1 e9 (Nat.le_of_ble_eq_true rfl) rfl ?_
  refine mG_if_gtN dX3_takeBack_4 (by omega) (fun c4 => ?_) (fun c4 => absurd c4 (by omega))
  refine mG_aload_n dX3_takeBack_8 rfl ?_
  refine mG_dup dX3_takeBack_9 rfl ?_
  refine mG_get fX3_33 dX3_takeBack_10 e9 (Nat.le_of_ble_eq_true rfl) rfl ?_
  refine mG_iconst (v := nI 1) dX3_takeBack_13 (by decide) ?_
  refine mG_isubN dX3_takeBack_14 (by omega) ?_
  refine mG_putI pX3_33 dX3_takeBack_15 e9 (Nat.le_of_ble_eq_true rfl) (Nat.le_of_ble_eq_true rfl) ?_
  refine mG_aload_n dX3_takeBack_18 rfl ?_
  refine mG_get fX3_33 dX3_takeBack_19 rfl (Nat.le_of_ble_eq_true rfl) rfl ?_
  refine mG_iconst (v := nI 4) dX3_takeBack_22 (by decide) ?_
  refine mG_imulN dX3_takeBack_23 ?_
  refine mG_istore_n dX3_takeBack_24 (Nat.le_of_ble_eq_true rfl) rfl rfl ?_
  refine mG_aload_n dX3_takeBack_25 rfl ?_
  refine mG_get fX3_21 dX3_takeBack_26 rfl (Nat.le_of_ble_eq_true rfl) rfl ?_
  refine mG_iload_n dX3_takeBack_29 rfl ?_
  refine mG_iconst (v := nI 1) dX3_takeBack_30 (by decide) ?_
  refine mG_iaddN dX3_takeBack_31 ?_
  refine mG_ialdA dX3_takeBack_32 e13 (Nat.le_of_ble_eq_true rfl) (by decide) (by omega) ?_
  refine mG_istore_n dX3_takeBack_33 (Nat.le_of_ble_eq_true rfl) rfl rfl ?_
  refine mG_aload_n dX3_takeBack_34 rfl ?_
  refine mG_get fX3_21 dX3_takeBack_35 rfl (Nat.le_of_ble_eq_true rfl) rfl ?_
  refine mG_iload_n dX3_takeBack_38 rfl ?_
  refine mG_iconst (v := nI 2) dX3_takeBack_39 (by decide) ?_
  refine mG_iaddN dX3_takeBack_40 ?_
  refine mG_ialdA dX3_takeBack_41 e13 (Nat.le_of_ble_eq_true rfl) (by decide) (by omega) ?_
  refine mG_istore_n dX3_takeBack_42 (Nat.le_of_ble_eq_true rfl) rfl rfl ?_
  refine mG_aload_n dX3_takeBack_43 rfl ?_
  refine mG_get fX3_21 dX3_takeBack_44 rfl (Nat.le_of_ble_eq_true rfl) rfl ?_
  refine mG_iload_n dX3_takeBack_47 rfl ?_
  refine mG_ialdA dX3_takeBack_48 e13 (Nat.le_of_ble_eq_true rfl) (by decide) (by omega) ?_
  refine mG_topN hk ?_
  refine mG_lookup (off := 46) (tgt := 95) dX3_takeBack_49 (by decide) (by decide) (by decide) ?_
  refine mG_aload_n dX3_takeBack_95 rfl ?_
  refine mG_get fX3_9 dX3_takeBack_96 rfl (Nat.le_of_ble_eq_true rfl) rfl ?_
  refine mG_iload_n dX3_takeBack_99 rfl ?_
  refine mG_iload_n dX3_takeBack_100 rfl ?_
  refine mG_iastA dX3_takeBack_101 e10 (Nat.le_of_ble_eq_true rfl) (by decide) (by omega) ?_
  refine mG_aload_n dX3_takeBack_102 rfl ?_
  refine mG_aload_n dX3_takeBack_103 rfl ?_
  refine mG_get fX3_21 dX3_takeBack_104 rfl (Nat.le_of_ble_eq_true rfl) rfl ?_
  refine mG_iload_n dX3_takeBack_107 rfl ?_
  refine mG_iconst (v := nI 3) dX3_takeBack_108 (by decide) ?_
  refine mG_iaddN dX3_takeBack_109 ?_
  refine mG_ialdA dX3_takeBack_110 e13 (Nat.le_of_ble_eq_true rfl) (by decide) (by omega) ?_
  refine mG_putI pX3_37 dX3_takeBack_111 rfl (Nat.le_of_ble_eq_true rfl) (Nat.le_of_ble_eq_true rfl) ?_
  exact mG_vret dX3_takeBack_114 rfl (mX_of rfl (by
    funext j
    unfold mU
    by_cases q9 : j = 9
    · subst q9; rfl
    · by_cases qx : j = 10
      · subst qx; rfl
      · simp only [q9, qx, if_false]))
set_option maxRecDepth 100000 in
set_option maxHeartbeats 4000000 in
theorem ok_X3_copy30_9 {E : mE} {h : mH} {dn wk dn2 wk2 : Nat} {nf ca fr ds nf2 ca2 fr2 ds2 : Nat → Nat} (e9 : h 9 = oNow dn wk) (e10 : h 10 = mAr 24 nf) (e11 : h 11 = mAr 4 ca) (e12 : h 12 = mAr 4 fr) (e13 : h 13 = mAr 40 ds) (e30 : h 30 = oIm0 dn2 wk2) (e31 : h 31 = mAr 24 nf2) (e32 : h 32 = mAr 4 ca2) (e33 : h 33 = mAr 4 fr2) (e34 : h 34 = mAr 40 ds2) : mOk E 1 zX3_copy [.ref 30, .ref 9] h (mX none (mU (mU (mU (mU (mU h 31 (mAr 24 nf)) 32 (mAr 4 ca)) 33 (mAr 4 fr)) 34 (mAr 40 ds)) 30 (oIm0 dn wk))) := by
  refine mOk_w (L := [some (.ref 30), some (.ref 9)]) pn_X3 rfl (Nat.le_of_ble_eq_true rfl) rfl ?_
  refine mG_aload_n dX3_copy_0 rfl ?_
  refine mG_get fX3_9 dX3_copy_1 e9 (Nat.le_of_ble_eq_true rfl) rfl ?_
  refine mG_iconst (v := nI 0) dX3_copy_4 (by decide) ?_
  refine mG_aload_n dX3_copy_5 rfl ?_
  refine mG_get fX3_9 dX3_copy_6 e30 (Nat.le_of_ble_eq_true rfl) rfl ?_
  refine mG_iconst (v := nI 0) dX3_copy_9 (by decide) ?_
  refine mG_aload_n dX3_copy_10 rfl ?_
  refine mG_get fX3_9 dX3_copy_11 e30 (Nat.le_of_ble_eq_true rfl) rfl ?_
  refine mG_alen dX3_copy_14 e31 (Nat.le_of_ble_eq_true rfl) (by decide) ?_
  refine mG_copyA dX3_copy_15 aX3_27 w_copy.1 w_copy.2.1 w_copy.2.2 e10 e31 (Nat.le_of_ble_eq_true rfl) (Nat.le_of_ble_eq_true rfl) (by decide) (by decide) (by decide) (by decide) (by decide) (Nat.le_of_ble_eq_true rfl) ?_
  refine mG_aload_n dX3_copy_18 rfl ?_
  refine mG_get fX3_15 dX3_copy_19 e9 (Nat.le_of_ble_eq_true rfl) rfl ?_
  refine mG_iconst (v := nI 0) dX3_copy_22 (by decide) ?_
  refine mG_aload_n dX3_copy_23 rfl ?_
  refine mG_get fX3_15 dX3_copy_24 e30 (Nat.le_of_ble_eq_true rfl) rfl ?_
  refine mG_iconst (v := nI 0) dX3_copy_27 (by decide) ?_
  refine mG_aload_n dX3_copy_28 rfl ?_
  refine mG_get fX3_15 dX3_copy_29 e30 (Nat.le_of_ble_eq_true rfl) rfl ?_
  refine mG_alen dX3_copy_32 e32 (Nat.le_of_ble_eq_true rfl) (by decide) ?_
  refine mG_copyA dX3_copy_33 aX3_27 w_copy.1 w_copy.2.1 w_copy.2.2 e11 e32 (Nat.le_of_ble_eq_true rfl) (Nat.le_of_ble_eq_true rfl) (by decide) (by decide) (by decide) (by decide) (by decide) (Nat.le_of_ble_eq_true rfl) ?_
  refine mG_aload_n dX3_copy_36 rfl ?_
  refine mG_get fX3_18 dX3_copy_37 e9 (Nat.le_of_ble_eq_true rfl) rfl ?_
  refine mG_iconst (v := nI 0) dX3_copy_40 (by decide) ?_
  refine mG_aload_n dX3_copy_41 rfl ?_
  refine mG_get fX3_18 dX3_copy_42 e30 (Nat.le_of_ble_eq_true rfl) rfl ?_
  refine mG_iconst (v := nI 0) dX3_copy_45 (by decide) ?_
  refine mG_aload_n dX3_copy_46 rfl ?_
  refine mG_get fX3_18 dX3_copy_47 e30 (Nat.le_of_ble_eq_true rfl) rfl ?_
  refine mG_alen dX3_copy_50 e33 (Nat.le_of_ble_eq_true rfl) (by decide) ?_
  refine mG_copyA dX3_copy_51 aX3_27 w_copy.1 w_copy.2.1 w_copy.2.2 e12 e33 (Nat.le_of_ble_eq_true rfl) (Nat.le_of_ble_eq_true rfl) (by decide) (by decide) (by decide) (by decide) (by decide) (Nat.le_of_ble_eq_true rfl) ?_
  refine mG_aload_n dX3_copy_54 rfl ?_
  refine mG_get fX3_21 dX3_copy_55 e9 (Nat.le_of_ble_eq_true rfl) rfl ?_
  refine mG_iconst (v := nI 0) dX3_copy_58 (by decide) ?_
  refine mG_aload_n dX3_copy_59 rfl ?_
  refine mG_get fX3_21 dX3_copy_60 e30 (Nat.le_of_ble_eq_true rfl) rfl ?_
  refine mG_iconst (v := nI 0) dX3_copy_63 (by decide) ?_
  refine mG_aload_n dX3_copy_64 rfl ?_
  refine mG_get fX3_21 dX3_copy_65 e30 (Nat.le_of_ble_eq_true rfl) rfl ?_
  refine mG_alen dX3_copy_68 e34 (Nat.le_of_ble_eq_true rfl) (by decide) ?_
  refine mG_copyA dX3_copy_69 aX3_27 w_copy.1 w_copy.2.1 w_copy.2.2 e13 e34 (Nat.le_of_ble_eq_true rfl) (Nat.le_of_ble_eq_true rfl) (by decide) (by decide) (by decide) (by decide) (by decide) (Nat.le_of_ble_eq_true rfl) ?_
  refine mG_aload_n dX3_copy_72 rfl ?_
  refine mG_aload_n dX3_copy_73 rfl ?_
  refine mG_get fX3_33 dX3_copy_74 e9 (Nat.le_of_ble_eq_true rfl) rfl ?_
  refine mG_putI pX3_33 dX3_copy_77 e30 (Nat.le_of_ble_eq_true rfl) (Nat.le_of_ble_eq_true rfl) ?_
  refine mG_aload_n dX3_copy_80 rfl ?_
  refine mG_aload_n dX3_copy_81 rfl ?_
  refine mG_get fX3_37 dX3_copy_82 e9 (Nat.le_of_ble_eq_true rfl) rfl ?_
  refine mG_putI pX3_37 dX3_copy_85 rfl (Nat.le_of_ble_eq_true rfl) (Nat.le_of_ble_eq_true rfl) ?_
  refine mG_cong (mU (mU (mU (mU (mU h 31 (mAr 24 nf)) 32 (mAr 4 ca)) 33 (mAr 4 fr)) 34 (mAr 40 ds)) 30 (oIm0 dn wk)) (fun b _ => ?_) ?_
  · rw [mU_same]
    exact mEq_U (mEq_U (mEq_U (mEq_U (mEq_U mEq_h _ (mEq_ar (fun j hj => sb_cpy0N hj))) _ (mEq_ar (fun j hj => sb_cpy0N hj))) _ (mEq_ar (fun j hj => sb_cpy0N hj))) _ (mEq_ar (fun j hj => sb_cpy0N hj))) _ mEq.rf b
  · exact mG_vret dX3_copy_88 rfl (mX_of rfl rfl)
set_option maxRecDepth 100000 in
set_option maxHeartbeats 4000000 in
theorem ok_X3_copy35_9 {E : mE} {h : mH} {dn wk dn2 wk2 : Nat} {nf ca fr ds nf2 ca2 fr2 ds2 : Nat → Nat} (e9 : h 9 = oNow dn wk) (e10 : h 10 = mAr 24 nf) (e11 : h 11 = mAr 4 ca) (e12 : h 12 = mAr 4 fr) (e13 : h 13 = mAr 40 ds) (e35 : h 35 = oIm1 dn2 wk2) (e36 : h 36 = mAr 24 nf2) (e37 : h 37 = mAr 4 ca2) (e38 : h 38 = mAr 4 fr2) (e39 : h 39 = mAr 40 ds2) : mOk E 1 zX3_copy [.ref 35, .ref 9] h (mX none (mU (mU (mU (mU (mU h 36 (mAr 24 nf)) 37 (mAr 4 ca)) 38 (mAr 4 fr)) 39 (mAr 40 ds)) 35 (oIm1 dn wk))) := by
  refine mOk_w (L := [some (.ref 35), some (.ref 9)]) pn_X3 rfl (Nat.le_of_ble_eq_true rfl) rfl ?_
  refine mG_aload_n dX3_copy_0 rfl ?_
  refine mG_get fX3_9 dX3_copy_1 e9 (Nat.le_of_ble_eq_true rfl) rfl ?_
  refine mG_iconst (v := nI 0) dX3_copy_4 (by decide) ?_
  refine mG_aload_n dX3_copy_5 rfl ?_
  refine mG_get fX3_9 dX3_copy_6 e35 (Nat.le_of_ble_eq_true rfl) rfl ?_
  refine mG_iconst (v := nI 0) dX3_copy_9 (by decide) ?_
  refine mG_aload_n dX3_copy_10 rfl ?_
  refine mG_get fX3_9 dX3_copy_11 e35 (Nat.le_of_ble_eq_true rfl) rfl ?_
  refine mG_alen dX3_copy_14 e36 (Nat.le_of_ble_eq_true rfl) (by decide) ?_
  refine mG_copyA dX3_copy_15 aX3_27 w_copy.1 w_copy.2.1 w_copy.2.2 e10 e36 (Nat.le_of_ble_eq_true rfl) (Nat.le_of_ble_eq_true rfl) (by decide) (by decide) (by decide) (by decide) (by decide) (Nat.le_of_ble_eq_true rfl) ?_
  refine mG_aload_n dX3_copy_18 rfl ?_
  refine mG_get fX3_15 dX3_copy_19 e9 (Nat.le_of_ble_eq_true rfl) rfl ?_
  refine mG_iconst (v := nI 0) dX3_copy_22 (by decide) ?_
  refine mG_aload_n dX3_copy_23 rfl ?_
  refine mG_get fX3_15 dX3_copy_24 e35 (Nat.le_of_ble_eq_true rfl) rfl ?_
  refine mG_iconst (v := nI 0) dX3_copy_27 (by decide) ?_
  refine mG_aload_n dX3_copy_28 rfl ?_
  refine mG_get fX3_15 dX3_copy_29 e35 (Nat.le_of_ble_eq_true rfl) rfl ?_
  refine mG_alen dX3_copy_32 e37 (Nat.le_of_ble_eq_true rfl) (by decide) ?_
  refine mG_copyA dX3_copy_33 aX3_27 w_copy.1 w_copy.2.1 w_copy.2.2 e11 e37 (Nat.le_of_ble_eq_true rfl) (Nat.le_of_ble_eq_true rfl) (by decide) (by decide) (by decide) (by decide) (by decide) (Nat.le_of_ble_eq_true rfl) ?_
  refine mG_aload_n dX3_copy_36 rfl ?_
  refine mG_get fX3_18 dX3_copy_37 e9 (Nat.le_of_ble_eq_true rfl) rfl ?_
  refine mG_iconst (v := nI 0) dX3_copy_40 (by decide) ?_
  refine mG_aload_n dX3_copy_41 rfl ?_
  refine mG_get fX3_18 dX3_copy_42 e35 (Nat.le_of_ble_eq_true rfl) rfl ?_
  refine mG_iconst (v := nI 0) dX3_copy_45 (by decide) ?_
  refine mG_aload_n dX3_copy_46 rfl ?_
  refine mG_get fX3_18 dX3_copy_47 e35 (Nat.le_of_ble_eq_true rfl) rfl ?_
  refine mG_alen dX3_copy_50 e38 (Nat.le_of_ble_eq_true rfl) (by decide) ?_
  refine mG_copyA dX3_copy_51 aX3_27 w_copy.1 w_copy.2.1 w_copy.2.2 e12 e38 (Nat.le_of_ble_eq_true rfl) (Nat.le_of_ble_eq_true rfl) (by decide) (by decide) (by decide) (by decide) (by decide) (Nat.le_of_ble_eq_true rfl) ?_
  refine mG_aload_n dX3_copy_54 rfl ?_
  refine mG_get fX3_21 dX3_copy_55 e9 (Nat.le_of_ble_eq_true rfl) rfl ?_
  refine mG_iconst (v := nI 0) dX3_copy_58 (by decide) ?_
  refine mG_aload_n dX3_copy_59 rfl ?_
  refine mG_get fX3_21 dX3_copy_60 e35 (Nat.le_of_ble_eq_true rfl) rfl ?_
  refine mG_iconst (v := nI 0) dX3_copy_63 (by decide) ?_
  refine mG_aload_n dX3_copy_64 rfl ?_
  refine mG_get fX3_21 dX3_copy_65 e35 (Nat.le_of_ble_eq_true rfl) rfl ?_
  refine mG_alen dX3_copy_68 e39 (Nat.le_of_ble_eq_true rfl) (by decide) ?_
  refine mG_copyA dX3_copy_69 aX3_27 w_copy.1 w_copy.2.1 w_copy.2.2 e13 e39 (Nat.le_of_ble_eq_true rfl) (Nat.le_of_ble_eq_true rfl) (by decide) (by decide) (by decide) (by decide) (by decide) (Nat.le_of_ble_eq_true rfl) ?_
  refine mG_aload_n dX3_copy_72 rfl ?_
  refine mG_aload_n dX3_copy_73 rfl ?_
  refine mG_get fX3_33 dX3_copy_74 e9 (Nat.le_of_ble_eq_true rfl) rfl ?_
  refine mG_putI pX3_33 dX3_copy_77 e35 (Nat.le_of_ble_eq_true rfl) (Nat.le_of_ble_eq_true rfl) ?_
  refine mG_aload_n dX3_copy_80 rfl ?_
  refine mG_aload_n dX3_copy_81 rfl ?_
  refine mG_get fX3_37 dX3_copy_82 e9 (Nat.le_of_ble_eq_true rfl) rfl ?_
  refine mG_putI pX3_37 dX3_copy_85 rfl (Nat.le_of_ble_eq_true rfl) (Nat.le_of_ble_eq_true rfl) ?_
  refine mG_cong (mU (mU (mU (mU (mU h 36 (mAr 24 nf)) 37 (mAr 4 ca)) 38 (mAr 4 fr)) 39 (mAr 40 ds)) 35 (oIm1 dn wk)) (fun b _ => ?_) ?_
  · rw [mU_same]
    exact mEq_U (mEq_U (mEq_U (mEq_U (mEq_U mEq_h _ (mEq_ar (fun j hj => sb_cpy0N hj))) _ (mEq_ar (fun j hj => sb_cpy0N hj))) _ (mEq_ar (fun j hj => sb_cpy0N hj))) _ (mEq_ar (fun j hj => sb_cpy0N hj))) _ mEq.rf b
  · exact mG_vret dX3_copy_88 rfl (mX_of rfl rfl)
set_option maxRecDepth 100000 in
set_option maxHeartbeats 4000000 in
theorem ok_X3_copy9_30 {E : mE} {h : mH} {dn wk dn2 wk2 : Nat} {nf ca fr ds nf2 ca2 fr2 ds2 : Nat → Nat} (e30 : h 30 = oIm0 dn wk) (e31 : h 31 = mAr 24 nf) (e32 : h 32 = mAr 4 ca) (e33 : h 33 = mAr 4 fr) (e34 : h 34 = mAr 40 ds) (e9 : h 9 = oNow dn2 wk2) (e10 : h 10 = mAr 24 nf2) (e11 : h 11 = mAr 4 ca2) (e12 : h 12 = mAr 4 fr2) (e13 : h 13 = mAr 40 ds2) : mOk E 1 zX3_copy [.ref 9, .ref 30] h (mX none (mU (mU (mU (mU (mU h 10 (mAr 24 nf)) 11 (mAr 4 ca)) 12 (mAr 4 fr)) 13 (mAr 40 ds)) 9 (oNow dn wk))) := by
  refine mOk_w (L := [some (.ref 9), some (.ref 30)]) pn_X3 rfl (Nat.le_of_ble_eq_true rfl) rfl ?_
  refine mG_aload_n dX3_copy_0 rfl ?_
  refine mG_get fX3_9 dX3_copy_1 e30 (Nat.le_of_ble_eq_true rfl) rfl ?_
  refine mG_iconst (v := nI 0) dX3_copy_4 (by decide) ?_
  refine mG_aload_n dX3_copy_5 rfl ?_
  refine mG_get fX3_9 dX3_copy_6 e9 (Nat.le_of_ble_eq_true rfl) rfl ?_
  refine mG_iconst (v := nI 0) dX3_copy_9 (by decide) ?_
  refine mG_aload_n dX3_copy_10 rfl ?_
  refine mG_get fX3_9 dX3_copy_11 e9 (Nat.le_of_ble_eq_true rfl) rfl ?_
  refine mG_alen dX3_copy_14 e10 (Nat.le_of_ble_eq_true rfl) (by decide) ?_
  refine mG_copyA dX3_copy_15 aX3_27 w_copy.1 w_copy.2.1 w_copy.2.2 e31 e10 (Nat.le_of_ble_eq_true rfl) (Nat.le_of_ble_eq_true rfl) (by decide) (by decide) (by decide) (by decide) (by decide) (Nat.le_of_ble_eq_true rfl) ?_
  refine mG_aload_n dX3_copy_18 rfl ?_
  refine mG_get fX3_15 dX3_copy_19 e30 (Nat.le_of_ble_eq_true rfl) rfl ?_
  refine mG_iconst (v := nI 0) dX3_copy_22 (by decide) ?_
  refine mG_aload_n dX3_copy_23 rfl ?_
  refine mG_get fX3_15 dX3_copy_24 e9 (Nat.le_of_ble_eq_true rfl) rfl ?_
  refine mG_iconst (v := nI 0) dX3_copy_27 (by decide) ?_
  refine mG_aload_n dX3_copy_28 rfl ?_
  refine mG_get fX3_15 dX3_copy_29 e9 (Nat.le_of_ble_eq_true rfl) rfl ?_
  refine mG_alen dX3_copy_32 e11 (Nat.le_of_ble_eq_true rfl) (by decide) ?_
  refine mG_copyA dX3_copy_33 aX3_27 w_copy.1 w_copy.2.1 w_copy.2.2 e32 e11 (Nat.le_of_ble_eq_true rfl) (Nat.le_of_ble_eq_true rfl) (by decide) (by decide) (by decide) (by decide) (by decide) (Nat.le_of_ble_eq_true rfl) ?_
  refine mG_aload_n dX3_copy_36 rfl ?_
  refine mG_get fX3_18 dX3_copy_37 e30 (Nat.le_of_ble_eq_true rfl) rfl ?_
  refine mG_iconst (v := nI 0) dX3_copy_40 (by decide) ?_
  refine mG_aload_n dX3_copy_41 rfl ?_
  refine mG_get fX3_18 dX3_copy_42 e9 (Nat.le_of_ble_eq_true rfl) rfl ?_
  refine mG_iconst (v := nI 0) dX3_copy_45 (by decide) ?_
  refine mG_aload_n dX3_copy_46 rfl ?_
  refine mG_get fX3_18 dX3_copy_47 e9 (Nat.le_of_ble_eq_true rfl) rfl ?_
  refine mG_alen dX3_copy_50 e12 (Nat.le_of_ble_eq_true rfl) (by decide) ?_
  refine mG_copyA dX3_copy_51 aX3_27 w_copy.1 w_copy.2.1 w_copy.2.2 e33 e12 (Nat.le_of_ble_eq_true rfl) (Nat.le_of_ble_eq_true rfl) (by decide) (by decide) (by decide) (by decide) (by decide) (Nat.le_of_ble_eq_true rfl) ?_
  refine mG_aload_n dX3_copy_54 rfl ?_
  refine mG_get fX3_21 dX3_copy_55 e30 (Nat.le_of_ble_eq_true rfl) rfl ?_
  refine mG_iconst (v := nI 0) dX3_copy_58 (by decide) ?_
  refine mG_aload_n dX3_copy_59 rfl ?_
  refine mG_get fX3_21 dX3_copy_60 e9 (Nat.le_of_ble_eq_true rfl) rfl ?_
  refine mG_iconst (v := nI 0) dX3_copy_63 (by decide) ?_
  refine mG_aload_n dX3_copy_64 rfl ?_
  refine mG_get fX3_21 dX3_copy_65 e9 (Nat.le_of_ble_eq_true rfl) rfl ?_
  refine mG_alen dX3_copy_68 e13 (Nat.le_of_ble_eq_true rfl) (by decide) ?_
  refine mG_copyA dX3_copy_69 aX3_27 w_copy.1 w_copy.2.1 w_copy.2.2 e34 e13 (Nat.le_of_ble_eq_true rfl) (Nat.le_of_ble_eq_true rfl) (by decide) (by decide) (by decide) (by decide) (by decide) (Nat.le_of_ble_eq_true rfl) ?_
  refine mG_aload_n dX3_copy_72 rfl ?_
  refine mG_aload_n dX3_copy_73 rfl ?_
  refine mG_get fX3_33 dX3_copy_74 e30 (Nat.le_of_ble_eq_true rfl) rfl ?_
  refine mG_putI pX3_33 dX3_copy_77 e9 (Nat.le_of_ble_eq_true rfl) (Nat.le_of_ble_eq_true rfl) ?_
  refine mG_aload_n dX3_copy_80 rfl ?_
  refine mG_aload_n dX3_copy_81 rfl ?_
  refine mG_get fX3_37 dX3_copy_82 e30 (Nat.le_of_ble_eq_true rfl) rfl ?_
  refine mG_putI pX3_37 dX3_copy_85 rfl (Nat.le_of_ble_eq_true rfl) (Nat.le_of_ble_eq_true rfl) ?_
  refine mG_cong (mU (mU (mU (mU (mU h 10 (mAr 24 nf)) 11 (mAr 4 ca)) 12 (mAr 4 fr)) 13 (mAr 40 ds)) 9 (oNow dn wk)) (fun b _ => ?_) ?_
  · rw [mU_same]
    exact mEq_U (mEq_U (mEq_U (mEq_U (mEq_U mEq_h _ (mEq_ar (fun j hj => sb_cpy0N hj))) _ (mEq_ar (fun j hj => sb_cpy0N hj))) _ (mEq_ar (fun j hj => sb_cpy0N hj))) _ (mEq_ar (fun j hj => sb_cpy0N hj))) _ mEq.rf b
  · exact mG_vret dX3_copy_88 rfl (mX_of rfl rfl)
set_option maxRecDepth 100000 in
set_option maxHeartbeats 4000000 in
theorem ok_X3_copy9_35 {E : mE} {h : mH} {dn wk dn2 wk2 : Nat} {nf ca fr ds nf2 ca2 fr2 ds2 : Nat → Nat} (e35 : h 35 = oIm1 dn wk) (e36 : h 36 = mAr 24 nf) (e37 : h 37 = mAr 4 ca) (e38 : h 38 = mAr 4 fr) (e39 : h 39 = mAr 40 ds) (e9 : h 9 = oNow dn2 wk2) (e10 : h 10 = mAr 24 nf2) (e11 : h 11 = mAr 4 ca2) (e12 : h 12 = mAr 4 fr2) (e13 : h 13 = mAr 40 ds2) : mOk E 1 zX3_copy [.ref 9, .ref 35] h (mX none (mU (mU (mU (mU (mU h 10 (mAr 24 nf)) 11 (mAr 4 ca)) 12 (mAr 4 fr)) 13 (mAr 40 ds)) 9 (oNow dn wk))) := by
  refine mOk_w (L := [some (.ref 9), some (.ref 35)]) pn_X3 rfl (Nat.le_of_ble_eq_true rfl) rfl ?_
  refine mG_aload_n dX3_copy_0 rfl ?_
  refine mG_get fX3_9 dX3_copy_1 e35 (Nat.le_of_ble_eq_true rfl) rfl ?_
  refine mG_iconst (v := nI 0) dX3_copy_4 (by decide) ?_
  refine mG_aload_n dX3_copy_5 rfl ?_
  refine mG_get fX3_9 dX3_copy_6 e9 (Nat.le_of_ble_eq_true rfl) rfl ?_
  refine mG_iconst (v := nI 0) dX3_copy_9 (by decide) ?_
  refine mG_aload_n dX3_copy_10 rfl ?_
  refine mG_get fX3_9 dX3_copy_11 e9 (Nat.le_of_ble_eq_true rfl) rfl ?_
  refine mG_alen dX3_copy_14 e10 (Nat.le_of_ble_eq_true rfl) (by decide) ?_
  refine mG_copyA dX3_copy_15 aX3_27 w_copy.1 w_copy.2.1 w_copy.2.2 e36 e10 (Nat.le_of_ble_eq_true rfl) (Nat.le_of_ble_eq_true rfl) (by decide) (by decide) (by decide) (by decide) (by decide) (Nat.le_of_ble_eq_true rfl) ?_
  refine mG_aload_n dX3_copy_18 rfl ?_
  refine mG_get fX3_15 dX3_copy_19 e35 (Nat.le_of_ble_eq_true rfl) rfl ?_
  refine mG_iconst (v := nI 0) dX3_copy_22 (by decide) ?_
  refine mG_aload_n dX3_copy_23 rfl ?_
  refine mG_get fX3_15 dX3_copy_24 e9 (Nat.le_of_ble_eq_true rfl) rfl ?_
  refine mG_iconst (v := nI 0) dX3_copy_27 (by decide) ?_
  refine mG_aload_n dX3_copy_28 rfl ?_
  refine mG_get fX3_15 dX3_copy_29 e9 (Nat.le_of_ble_eq_true rfl) rfl ?_
  refine mG_alen dX3_copy_32 e11 (Nat.le_of_ble_eq_true rfl) (by decide) ?_
  refine mG_copyA dX3_copy_33 aX3_27 w_copy.1 w_copy.2.1 w_copy.2.2 e37 e11 (Nat.le_of_ble_eq_true rfl) (Nat.le_of_ble_eq_true rfl) (by decide) (by decide) (by decide) (by decide) (by decide) (Nat.le_of_ble_eq_true rfl) ?_
  refine mG_aload_n dX3_copy_36 rfl ?_
  refine mG_get fX3_18 dX3_copy_37 e35 (Nat.le_of_ble_eq_true rfl) rfl ?_
  refine mG_iconst (v := nI 0) dX3_copy_40 (by decide) ?_
  refine mG_aload_n dX3_copy_41 rfl ?_
  refine mG_get fX3_18 dX3_copy_42 e9 (Nat.le_of_ble_eq_true rfl) rfl ?_
  refine mG_iconst (v := nI 0) dX3_copy_45 (by decide) ?_
  refine mG_aload_n dX3_copy_46 rfl ?_
  refine mG_get fX3_18 dX3_copy_47 e9 (Nat.le_of_ble_eq_true rfl) rfl ?_
  refine mG_alen dX3_copy_50 e12 (Nat.le_of_ble_eq_true rfl) (by decide) ?_
  refine mG_copyA dX3_copy_51 aX3_27 w_copy.1 w_copy.2.1 w_copy.2.2 e38 e12 (Nat.le_of_ble_eq_true rfl) (Nat.le_of_ble_eq_true rfl) (by decide) (by decide) (by decide) (by decide) (by decide) (Nat.le_of_ble_eq_true rfl) ?_
  refine mG_aload_n dX3_copy_54 rfl ?_
  refine mG_get fX3_21 dX3_copy_55 e35 (Nat.le_of_ble_eq_true rfl) rfl ?_
  refine mG_iconst (v := nI 0) dX3_copy_58 (by decide) ?_
  refine mG_aload_n dX3_copy_59 rfl ?_
  refine mG_get fX3_21 dX3_copy_60 e9 (Nat.le_of_ble_eq_true rfl) rfl ?_
  refine mG_iconst (v := nI 0) dX3_copy_63 (by decide) ?_
  refine mG_aload_n dX3_copy_64 rfl ?_
  refine mG_get fX3_21 dX3_copy_65 e9 (Nat.le_of_ble_eq_true rfl) rfl ?_
  refine mG_alen dX3_copy_68 e13 (Nat.le_of_ble_eq_true rfl) (by decide) ?_
  refine mG_copyA dX3_copy_69 aX3_27 w_copy.1 w_copy.2.1 w_copy.2.2 e39 e13 (Nat.le_of_ble_eq_true rfl) (Nat.le_of_ble_eq_true rfl) (by decide) (by decide) (by decide) (by decide) (by decide) (Nat.le_of_ble_eq_true rfl) ?_
  refine mG_aload_n dX3_copy_72 rfl ?_
  refine mG_aload_n dX3_copy_73 rfl ?_
  refine mG_get fX3_33 dX3_copy_74 e35 (Nat.le_of_ble_eq_true rfl) rfl ?_
  refine mG_putI pX3_33 dX3_copy_77 e9 (Nat.le_of_ble_eq_true rfl) (Nat.le_of_ble_eq_true rfl) ?_
  refine mG_aload_n dX3_copy_80 rfl ?_
  refine mG_aload_n dX3_copy_81 rfl ?_
  refine mG_get fX3_37 dX3_copy_82 e35 (Nat.le_of_ble_eq_true rfl) rfl ?_
  refine mG_putI pX3_37 dX3_copy_85 rfl (Nat.le_of_ble_eq_true rfl) (Nat.le_of_ble_eq_true rfl) ?_
  refine mG_cong (mU (mU (mU (mU (mU h 10 (mAr 24 nf)) 11 (mAr 4 ca)) 12 (mAr 4 fr)) 13 (mAr 40 ds)) 9 (oNow dn wk)) (fun b _ => ?_) ?_
  · rw [mU_same]
    exact mEq_U (mEq_U (mEq_U (mEq_U (mEq_U mEq_h _ (mEq_ar (fun j hj => sb_cpy0N hj))) _ (mEq_ar (fun j hj => sb_cpy0N hj))) _ (mEq_ar (fun j hj => sb_cpy0N hj))) _ (mEq_ar (fun j hj => sb_cpy0N hj))) _ mEq.rf b
  · exact mG_vret dX3_copy_88 rfl (mX_of rfl rfl)
set_option maxRecDepth 100000 in
set_option maxHeartbeats 4000000 in
theorem lp_X3_begin {E : mE} {h0 : mH} {dn wk : Nat}  : ∀ (k i : Nat) (h : mH) (ca fr : Nat → Nat), i + k = 4 → h 9 = oNow dn wk → h 11 = mAr 4 ca → h 12 = mAr 4 fr → (∀ j, j < i → ca j = j) → (∀ j, j < i → fr j = 0) → h = mU (mU h0 11 (mAr 4 ca)) 12 (mAr 4 fr) → mG E (mR 1, zX3_begin) (mKq E (mR 1) mN (mX none (mU (mU (mU h0 9 (oNow 0 0)) 11 (mAr 4 (fun j => j))) 12 (mAr 4 (fun _ => 0))))) 20 [some (.ref 9), some (.ref 6), some (vN i)] [] (mN, 0, 0) h := by
  intro k
  induction k with
  | zero =>
    intro i h ca fr hk e9 e11 e12 hca hfr hh
    refine mG_iload_n dX3_begin_20 rfl ?_
    refine mG_iconst (v := nI 4) dX3_begin_21 (by decide) ?_
    refine mG_icmp_geN dX3_begin_22 (by omega) (by omega) (fun c22 => ?_) (fun c22 => absurd c22 (by omega))
    refine mG_aload_n dX3_begin_45 rfl ?_
    refine mG_iconst (v := nI 0) dX3_begin_46 (by decide) ?_
    refine mG_putI pX3_33 dX3_begin_47 e9 (Nat.le_of_ble_eq_true rfl) (Nat.le_of_ble_eq_true rfl) ?_
    refine mG_aload_n dX3_begin_50 rfl ?_
    refine mG_iconst (v := nI 0) dX3_begin_51 (by decide) ?_
    refine mG_putI pX3_37 dX3_begin_52 rfl (Nat.le_of_ble_eq_true rfl) (Nat.le_of_ble_eq_true rfl) ?_
    refine mG_cong (mU (mU (mU h0 9 (oNow 0 0)) 11 (mAr 4 (fun j => j))) 12 (mAr 4 (fun _ => 0))) (fun b _ => ?_) ?_
    · rw [mU_same, hh]
      rw [mU_comm _ (show (12 : Nat) ≠ 9 by decide), mU_comm _ (show (11 : Nat) ≠ 9 by decide)]
      exact mEq_U (mEq_U (mEq_U mEq_h _ mEq.rf) _ (mEq_ar (fun j hj => hca j (by omega)))) _ (mEq_ar (fun j hj => hfr j (by omega))) b
    · exact mG_vret dX3_begin_55 rfl (mX_of rfl rfl)
  | succ k ih =>
    intro i h ca fr hk e9 e11 e12 hca hfr hh
    refine mG_iload_n dX3_begin_20 rfl ?_
    refine mG_iconst (v := nI 4) dX3_begin_21 (by decide) ?_
    refine mG_icmp_geN dX3_begin_22 (by omega) (by omega) (fun c22 => absurd c22 (by omega)) (fun c22 => ?_)
    refine mG_aload_n dX3_begin_25 rfl ?_
    refine mG_get fX3_15 dX3_begin_26 e9 (Nat.le_of_ble_eq_true rfl) rfl ?_
    refine mG_iload_n dX3_begin_29 rfl ?_
    refine mG_iload_n dX3_begin_30 rfl ?_
    refine mG_iastA dX3_begin_31 e11 (Nat.le_of_ble_eq_true rfl) (by decide) (by omega) ?_
    refine mG_aload_n dX3_begin_32 rfl ?_
    refine mG_get fX3_18 dX3_begin_33 e9 (Nat.le_of_ble_eq_true rfl) rfl ?_
    refine mG_iload_n dX3_begin_36 rfl ?_
    refine mG_iconst (v := nI 0) dX3_begin_37 (by decide) ?_
    refine mG_iastA dX3_begin_38 e12 (Nat.le_of_ble_eq_true rfl) (by decide) (by omega) ?_
    refine mG_iincN dX3_begin_39 rfl (Nat.le_of_ble_eq_true rfl) rfl rfl ?_
    refine mG_goto dX3_begin_42 ?_
    refine ih (i + 1) _ (mUp ca i i) (mUp fr i 0) (by omega) e9 rfl rfl (fun j hj => ?_) (fun j hj => ?_) ?_
    · by_cases q : j = i
      · rw [q, mUp_eq]
      · rw [mUp_ne _ _ q]; exact hca j (by omega)
    · by_cases q : j = i
      · rw [q, mUp_eq]
      · rw [mUp_ne _ _ q]; exact hfr j (by omega)
    · rw [hh, mU_comm (mU h0 11 (mAr 4 ca)) (show (12 : Nat) ≠ 11 by decide), mU_same, mU_same]
set_option maxRecDepth 100000 in
set_option maxHeartbeats 4000000 in
theorem ok_X3_begin {E : mE} {h : mH} {dn wk cu dc it : Nat} {bo : Bool} {nf ca fr df : Nat → Nat} (e6 : h 6 = oDraft cu dc it bo) (e7 : h 7 = mAr 24 df) (e9 : h 9 = oNow dn wk) (e10 : h 10 = mAr 24 nf) (e11 : h 11 = mAr 4 ca) (e12 : h 12 = mAr 4 fr) : mOk E 1 zX3_begin [.ref 9, .ref 6] h (mX none (mU (mU (mU (mU h 10 (mAr 24 df)) 9 (oNow 0 0)) 11 (mAr 4 (fun j => j))) 12 (mAr 4 (fun _ => 0)))) := by
  refine mOk_w (L := [some (.ref 9), some (.ref 6), none]) pn_X3 rfl (Nat.le_of_ble_eq_true rfl) rfl ?_
  refine mG_aload_n dX3_begin_0 rfl ?_
  refine mG_get fX3_24 dX3_begin_1 e6 (Nat.le_of_ble_eq_true rfl) rfl ?_
  refine mG_iconst (v := nI 0) dX3_begin_4 (by decide) ?_
  refine mG_aload_n dX3_begin_5 rfl ?_
  refine mG_get fX3_9 dX3_begin_6 e9 (Nat.le_of_ble_eq_true rfl) rfl ?_
  refine mG_iconst (v := nI 0) dX3_begin_9 (by decide) ?_
  refine mG_aload_n dX3_begin_10 rfl ?_
  refine mG_get fX3_9 dX3_begin_11 e9 (Nat.le_of_ble_eq_true rfl) rfl ?_
  refine mG_alen dX3_begin_14 e10 (Nat.le_of_ble_eq_true rfl) (by decide) ?_
  refine mG_copyA dX3_begin_15 aX3_27 w_copy.1 w_copy.2.1 w_copy.2.2 e7 e10 (Nat.le_of_ble_eq_true rfl) (Nat.le_of_ble_eq_true rfl) (by decide) (by decide) (by decide) (by decide) (by decide) (Nat.le_of_ble_eq_true rfl) ?_
  refine mG_iconst (v := nI 0) dX3_begin_18 (by decide) ?_
  refine mG_istore_n dX3_begin_19 (Nat.le_of_ble_eq_true rfl) rfl rfl ?_
  refine mG_cong (mU h 10 (mAr 24 df)) (fun b _ => mEq_U mEq_h _ (mEq_ar (fun j hj => sb_cpy0N hj)) b) ?_
  exact lp_X3_begin (h0 := mU h 10 (mAr 24 df)) 4 0 _ ca fr rfl e9 e11 e12 (fun _ z => absurd z (Nat.not_lt_zero _)) (fun _ z => absurd z (Nat.not_lt_zero _)) (by
    funext j
    unfold mU
    by_cases q : j = 12
    · subst q; rw [if_neg (by decide), if_pos rfl]; exact e12
    · by_cases q1 : j = 11
      · subst q1; rw [if_neg (by decide), if_neg (by decide), if_pos rfl]; exact e11
      · simp only [q, q1, if_false])
end
section
/-! the JDK's own: fill, bitCount -/
def us (x : Int32) (k : Nat) : Int32 := (x.toUInt32 >>> ((nI k).toUInt32 &&& Int32.toUInt32 31)).toInt32
def bc1 (x : Int32) : Int32 := x - (us x 1 &&& 1431655765)
def bc2 (x : Int32) : Int32 := (x &&& 858993459) + (us x 2 &&& 858993459)
def bc3 (x : Int32) : Int32 := (x + us x 4) &&& 252645135
def bc4 (x : Int32) : Int32 := x + us x 8
def bc5 (x : Int32) : Int32 := x + us x 16
def popc (x : Nat) : Nat → Nat
  | 0 => 0
  | k + 1 => popc x k + (x >>> k &&& 1)
theorem bc_all : ∀ x : Fin 1024, bc5 (bc4 (bc3 (bc2 (bc1 (nI x.val))))) &&& nI 63 = nI (popc x.val 10) := by decide +kernel
set_option maxRecDepth 100000 in
set_option maxHeartbeats 4000000 in
theorem ok_bitCount {E : mE} {h : mH} {x : Nat} (hx : x < 1024) : mOk E 1 zJ6_bitCount_0f7a4 [vN x] h (mX (some (vN (popc x 10))) h) := by
  refine mOk_w (L := [some (vN x)]) pn_J6 rfl (Nat.le_of_ble_eq_true rfl) rfl ?_
  refine mG_iload_n dJ6_bitCount_0f7a4_0 rfl ?_
  refine mG_iload_n dJ6_bitCount_0f7a4_1 rfl ?_
  refine mG_iconst (v := nI 1) dJ6_bitCount_0f7a4_2 (by decide) ?_
  refine mG_iushr dJ6_bitCount_0f7a4_3 rfl ?_
  refine mG_ldcw dJ6_bitCount_0f7a4_4 kJ6_265 ?_
  refine mG_iand dJ6_bitCount_0f7a4_7 ?_
  refine mG_isub dJ6_bitCount_0f7a4_8 ?_
  refine mG_istore_n dJ6_bitCount_0f7a4_9 (Nat.le_of_ble_eq_true rfl) rfl rfl ?_
  refine mG_iload_n dJ6_bitCount_0f7a4_10 rfl ?_
  refine mG_ldcw dJ6_bitCount_0f7a4_11 kJ6_266 ?_
  refine mG_iand dJ6_bitCount_0f7a4_14 ?_
  refine mG_iload_n dJ6_bitCount_0f7a4_15 rfl ?_
  refine mG_iconst (v := nI 2) dJ6_bitCount_0f7a4_16 (by decide) ?_
  refine mG_iushr dJ6_bitCount_0f7a4_17 rfl ?_
  refine mG_ldcw dJ6_bitCount_0f7a4_18 kJ6_266 ?_
  refine mG_iand dJ6_bitCount_0f7a4_21 ?_
  refine mG_iadd dJ6_bitCount_0f7a4_22 ?_
  refine mG_istore_n dJ6_bitCount_0f7a4_23 (Nat.le_of_ble_eq_true rfl) rfl rfl ?_
  refine mG_iload_n dJ6_bitCount_0f7a4_24 rfl ?_
  refine mG_iload_n dJ6_bitCount_0f7a4_25 rfl ?_
  refine mG_iconst (v := nI 4) dJ6_bitCount_0f7a4_26 (by decide) ?_
  refine mG_iushr dJ6_bitCount_0f7a4_27 rfl ?_
  refine mG_iadd dJ6_bitCount_0f7a4_28 ?_
  refine mG_ldcw dJ6_bitCount_0f7a4_29 kJ6_267 ?_
  refine mG_iand dJ6_bitCount_0f7a4_32 ?_
  refine mG_istore_n dJ6_bitCount_0f7a4_33 (Nat.le_of_ble_eq_true rfl) rfl rfl ?_
  refine mG_iload_n dJ6_bitCount_0f7a4_34 rfl ?_
  refine mG_iload_n dJ6_bitCount_0f7a4_35 rfl ?_
  refine mG_bipush (v := nI 8) dJ6_bitCount_0f7a4_36 (by decide) ?_
  refine mG_iushr dJ6_bitCount_0f7a4_38 rfl ?_
  refine mG_iadd dJ6_bitCount_0f7a4_39 ?_
  refine mG_istore_n dJ6_bitCount_0f7a4_40 (Nat.le_of_ble_eq_true rfl) rfl rfl ?_
  refine mG_iload_n dJ6_bitCount_0f7a4_41 rfl ?_
  refine mG_iload_n dJ6_bitCount_0f7a4_42 rfl ?_
  refine mG_bipush (v := nI 16) dJ6_bitCount_0f7a4_43 (by decide) ?_
  refine mG_iushr dJ6_bitCount_0f7a4_45 rfl ?_
  refine mG_iadd dJ6_bitCount_0f7a4_46 ?_
  refine mG_istore_n dJ6_bitCount_0f7a4_47 (Nat.le_of_ble_eq_true rfl) rfl rfl ?_
  refine mG_iload_n dJ6_bitCount_0f7a4_48 rfl ?_
  refine mG_bipush (v := nI 63) dJ6_bitCount_0f7a4_49 (by decide) ?_
  refine mG_iand dJ6_bitCount_0f7a4_51 ?_
  exact mG_iret dJ6_bitCount_0f7a4_52 rfl (mX_of (congrArg (fun z => some (Value.int z)) (bc_all ⟨x, hx⟩)) rfl)
set_option maxRecDepth 100000 in
set_option maxHeartbeats 4000000 in
theorem lp_fill20 {E : mE} {h0 : mH}  : ∀ (k i : Nat) (h : mH) (g : Nat → Nat), i + k = 10 → h = mU h0 20 (mAr 10 g) → (∀ j, j < i → g j = 0) → mG E (mR 1, zJ7_fill_53178) (mKq E (mR 1) mN (mX none (mU h0 20 (mAr 10 (fun _ => 0))))) 5 [some (.ref 20), some (vN 0), some (vN i), some (vN 10)] [] (mN, 0, 0) h := by
  intro k
  induction k with
  | zero =>
    intro i h g hk hh hg
    refine mG_iload_n dJ7_fill_53178_5 rfl ?_
    refine mG_iload_n dJ7_fill_53178_6 rfl ?_
    refine mG_icmp_geN dJ7_fill_53178_7 (by omega) (by omega) (fun c7 => ?_) (fun c7 => absurd c7 (by omega))
    refine mG_cong (mU h0 20 (mAr 10 (fun _ => 0))) (fun b _ => by rw [hh]; exact mEq_U mEq_h _ (mEq_ar (fun j hj => hg j (by omega))) b) ?_
    exact mG_vret dJ7_fill_53178_20 rfl (mX_of rfl rfl)
  | succ k ih =>
    intro i h g hk hh hg
    refine mG_iload_n dJ7_fill_53178_5 rfl ?_
    refine mG_iload_n dJ7_fill_53178_6 rfl ?_
    refine mG_icmp_geN dJ7_fill_53178_7 (by omega) (by omega) (fun c7 => absurd c7 (by omega)) (fun c7 => ?_)
    refine mG_aload_n dJ7_fill_53178_10 rfl ?_
    refine mG_iload_n dJ7_fill_53178_11 rfl ?_
    refine mG_iload_n dJ7_fill_53178_12 rfl ?_
    refine mG_iastA (x := 0) dJ7_fill_53178_13 (show h 20 = mAr 10 g by rw [hh]; rfl) (Nat.le_of_ble_eq_true rfl) (by decide) (by omega) ?_
    refine mG_iincN dJ7_fill_53178_14 rfl (Nat.le_of_ble_eq_true rfl) rfl rfl ?_
    refine mG_goto dJ7_fill_53178_17 ?_
    exact ih (i + 1) _ (mUp g i 0) (by omega) (by rw [hh, mU_same]) (fun j hj => by
      by_cases q : j = i
      · rw [q, mUp_eq]
      · rw [mUp_ne _ _ q]; exact hg j (by omega))
set_option maxRecDepth 100000 in
set_option maxHeartbeats 4000000 in
theorem ok_fill20 {E : mE} {h : mH} {g : Nat → Nat} (e20 : h 20 = mAr 10 g) : mOk E 1 zJ7_fill_53178 [.ref 20, vN 0] h (mX none (mU h 20 (mAr 10 (fun _ => 0)))) := by
  refine mOk_w (L := [some (.ref 20), some (vN 0), none, none]) pn_J7 rfl (Nat.le_of_ble_eq_true rfl) rfl ?_
  refine mG_iconst (v := nI 0) dJ7_fill_53178_0 (by decide) ?_
  refine mG_istore_n dJ7_fill_53178_1 (Nat.le_of_ble_eq_true rfl) rfl rfl ?_
  refine mG_aload_n dJ7_fill_53178_2 rfl ?_
  refine mG_alen dJ7_fill_53178_3 e20 (Nat.le_of_ble_eq_true rfl) (by decide) ?_
  refine mG_istore_n dJ7_fill_53178_4 (Nat.le_of_ble_eq_true rfl) rfl rfl ?_
  exact lp_fill20 10 0 h g rfl (mU_self h 20 _ e20).symm (fun _ z => absurd z (Nat.not_lt_zero _))
set_option maxRecDepth 100000 in
set_option maxHeartbeats 4000000 in
theorem lp_fill29 {E : mE} {h0 : mH}  : ∀ (k i : Nat) (h : mH) (g : Nat → Nat), i + k = 10 → h = mU h0 29 (mAr 10 g) → (∀ j, j < i → g j = 0) → mG E (mR 1, zJ7_fill_53178) (mKq E (mR 1) mN (mX none (mU h0 29 (mAr 10 (fun _ => 0))))) 5 [some (.ref 29), some (vN 0), some (vN i), some (vN 10)] [] (mN, 0, 0) h := by
  intro k
  induction k with
  | zero =>
    intro i h g hk hh hg
    refine mG_iload_n dJ7_fill_53178_5 rfl ?_
    refine mG_iload_n dJ7_fill_53178_6 rfl ?_
    refine mG_icmp_geN dJ7_fill_53178_7 (by omega) (by omega) (fun c7 => ?_) (fun c7 => absurd c7 (by omega))
    refine mG_cong (mU h0 29 (mAr 10 (fun _ => 0))) (fun b _ => by rw [hh]; exact mEq_U mEq_h _ (mEq_ar (fun j hj => hg j (by omega))) b) ?_
    exact mG_vret dJ7_fill_53178_20 rfl (mX_of rfl rfl)
  | succ k ih =>
    intro i h g hk hh hg
    refine mG_iload_n dJ7_fill_53178_5 rfl ?_
    refine mG_iload_n dJ7_fill_53178_6 rfl ?_
    refine mG_icmp_geN dJ7_fill_53178_7 (by omega) (by omega) (fun c7 => absurd c7 (by omega)) (fun c7 => ?_)
    refine mG_aload_n dJ7_fill_53178_10 rfl ?_
    refine mG_iload_n dJ7_fill_53178_11 rfl ?_
    refine mG_iload_n dJ7_fill_53178_12 rfl ?_
    refine mG_iastA (x := 0) dJ7_fill_53178_13 (show h 29 = mAr 10 g by rw [hh]; rfl) (Nat.le_of_ble_eq_true rfl) (by decide) (by omega) ?_
    refine mG_iincN dJ7_fill_53178_14 rfl (Nat.le_of_ble_eq_true rfl) rfl rfl ?_
    refine mG_goto dJ7_fill_53178_17 ?_
    exact ih (i + 1) _ (mUp g i 0) (by omega) (by rw [hh, mU_same]) (fun j hj => by
      by_cases q : j = i
      · rw [q, mUp_eq]
      · rw [mUp_ne _ _ q]; exact hg j (by omega))
set_option maxRecDepth 100000 in
set_option maxHeartbeats 4000000 in
theorem ok_fill29 {E : mE} {h : mH} {g : Nat → Nat} (e29 : h 29 = mAr 10 g) : mOk E 1 zJ7_fill_53178 [.ref 29, vN 0] h (mX none (mU h 29 (mAr 10 (fun _ => 0)))) := by
  refine mOk_w (L := [some (.ref 29), some (vN 0), none, none]) pn_J7 rfl (Nat.le_of_ble_eq_true rfl) rfl ?_
  refine mG_iconst (v := nI 0) dJ7_fill_53178_0 (by decide) ?_
  refine mG_istore_n dJ7_fill_53178_1 (Nat.le_of_ble_eq_true rfl) rfl rfl ?_
  refine mG_aload_n dJ7_fill_53178_2 rfl ?_
  refine mG_alen dJ7_fill_53178_3 e29 (Nat.le_of_ble_eq_true rfl) (by decide) ?_
  refine mG_istore_n dJ7_fill_53178_4 (Nat.le_of_ble_eq_true rfl) rfl rfl ?_
  exact lp_fill29 10 0 h g rfl (mU_self h 29 _ e29).symm (fun _ z => absurd z (Nat.not_lt_zero _))
abbrev mZr (n : Nat) (g : Nat → Bool) : mC := .inl (2, n, fun j => mb (g j))
def mUb (g : Nat → Bool) (i : Nat) (v : Bool) : Nat → Bool := fun j => if j = i then v else g j
theorem mUb_mb (g : Nat → Bool) (i : Nat) (v : Bool) : upd (fun j => mb (g j)) i (mb v) = fun j => mb (mUb g i v j) := by
  funext j
  unfold upd mUb
  by_cases e : j = i <;> simp [e]
theorem mEq_zr {n : Nat} {g g' : Nat → Bool} (e : ∀ j, j < n → g j = g' j) : mEq (mZr n g) (mZr n g') := Or.inr ⟨2, n, _, _, rfl, rfl, fun j hj => by rw [e j hj]⟩
theorem mG_zaldA {E : mE} {M : mM} {K : mKt} {pc pc' : Nat} {L : List (Option Value)} {st : List Value} {h : mH} {a : Nat × Nat × Nat} {b n i : Nat} {g : Nat → Bool} (hd : mD M.2.2.1 pc .baload 1 pc') (hh : h b = mZr n g) (hn : b < a.1) (hm : n < 2 ^ 31) (hi : i < n) (kk : mG E M K pc' L (.int (mb (g i)) :: st) a h) : mG E M K pc L (.int (nI i) :: .ref b :: st) a h := mG_zaldN hd hh hn hm hi kk
theorem mG_zastA {E : mE} {M : mM} {K : mKt} {pc pc' : Nat} {L : List (Option Value)} {st : List Value} {h : mH} {a : Nat × Nat × Nat} {b n i : Nat} {x : Bool} {g : Nat → Bool} (hd : mD M.2.2.1 pc .bastore 1 pc') (hh : h b = mZr n g) (hn : b < a.1) (hm : n < 2 ^ 31) (hi : i < n) (kk : mG E M K pc' L st a (mU h b (mZr n (mUb g i x)))) : mG E M K pc L (.int (mb x) :: .int (nI i) :: .ref b :: st) a h := mG_zastN hd hh hn hm hi (by rw [mUb_mb]; exact kk)
set_option maxRecDepth 100000 in
set_option maxHeartbeats 4000000 in
theorem lp_fill15 {E : mE} {h0 : mH}  : ∀ (k i : Nat) (h : mH) (g : Nat → Bool), i + k = 2 → h = mU h0 15 (mZr 2 g) → (∀ j, j < i → g j = false) → mG E (mR 1, zJ7_fill_49daa) (mKq E (mR 1) mN (mX none (mU h0 15 (mZr 2 (fun _ => false))))) 5 [some (.ref 15), some (vB false), some (vN i), some (vN 2)] [] (mN, 0, 0) h := by
  intro k
  induction k with
  | zero =>
    intro i h g hk hh hg
    refine mG_iload_n dJ7_fill_49daa_5 rfl ?_
    refine mG_iload_n dJ7_fill_49daa_6 rfl ?_
    refine mG_icmp_geN dJ7_fill_49daa_7 (by omega) (by omega) (fun c7 => ?_) (fun c7 => absurd c7 (by omega))
    refine mG_cong (mU h0 15 (mZr 2 (fun _ => false))) (fun b _ => by rw [hh]; exact mEq_U mEq_h _ (mEq_zr (fun j hj => hg j (by omega))) b) ?_
    exact mG_vret dJ7_fill_49daa_20 rfl (mX_of rfl rfl)
  | succ k ih =>
    intro i h g hk hh hg
    refine mG_iload_n dJ7_fill_49daa_5 rfl ?_
    refine mG_iload_n dJ7_fill_49daa_6 rfl ?_
    refine mG_icmp_geN dJ7_fill_49daa_7 (by omega) (by omega) (fun c7 => absurd c7 (by omega)) (fun c7 => ?_)
    refine mG_aload_n dJ7_fill_49daa_10 rfl ?_
    refine mG_iload_n dJ7_fill_49daa_11 rfl ?_
    refine mG_iload_n dJ7_fill_49daa_12 rfl ?_
    refine mG_zastA (x := false) dJ7_fill_49daa_13 (show h 15 = mZr 2 g by rw [hh]; rfl) (Nat.le_of_ble_eq_true rfl) (by decide) (by omega) ?_
    refine mG_iincN dJ7_fill_49daa_14 rfl (Nat.le_of_ble_eq_true rfl) rfl rfl ?_
    refine mG_goto dJ7_fill_49daa_17 ?_
    exact ih (i + 1) _ (mUb g i false) (by omega) (by rw [hh, mU_same]) (fun j hj => by
      unfold mUb
      by_cases q : j = i
      · rw [if_pos q]
      · rw [if_neg q]; exact hg j (by omega))
set_option maxRecDepth 100000 in
set_option maxHeartbeats 4000000 in
theorem ok_fill15 {E : mE} {h : mH} {g : Nat → Bool} (e15 : h 15 = mZr 2 g) : mOk E 1 zJ7_fill_49daa [.ref 15, vB false] h (mX none (mU h 15 (mZr 2 (fun _ => false)))) := by
  refine mOk_w (L := [some (.ref 15), some (vB false), none, none]) pn_J7 rfl (Nat.le_of_ble_eq_true rfl) rfl ?_
  refine mG_iconst (v := nI 0) dJ7_fill_49daa_0 (by decide) ?_
  refine mG_istore_n dJ7_fill_49daa_1 (Nat.le_of_ble_eq_true rfl) rfl rfl ?_
  refine mG_aload_n dJ7_fill_49daa_2 rfl ?_
  refine mG_alen dJ7_fill_49daa_3 e15 (Nat.le_of_ble_eq_true rfl) (by decide) ?_
  refine mG_istore_n dJ7_fill_49daa_4 (Nat.le_of_ble_eq_true rfl) rfl rfl ?_
  exact lp_fill15 2 0 h g rfl (mU_self h 15 _ e15).symm (fun _ z => absurd z (Nat.not_lt_zero _))
/-! Seen -/
abbrev oSeen (n : Nat) : mC := mOb 2 [.ref 17, .ref 18, vN n]
theorem fgs_lt {nf : Nat → Nat} {c : Nat} : ∀ i, (∀ j, j < i → nf (c * 6 + j) < 10) → fgs nf c i < 1024 := by
  intro i
  induction i with
  | zero => intro _; show (0 : Nat) < 1024; decide
  | succ i ih =>
    intro q
    refine Nat.or_lt_two_pow (n := 10) (ih (fun j hj => q j (by omega))) ?_
    rw [Nat.one_shiftLeft]
    exact Nat.pow_lt_pow_right (by decide) (q i (by omega))
/-- whether all that was SEEN is so of FIGURES f -/
def mayB (sf st : Nat → Nat) (n f : Nat) : Bool := allF (fun i => decide (f >>> sf i &&& 1 = st i)) 0 n
set_option maxRecDepth 100000 in
set_option maxHeartbeats 4000000 in
theorem ok_X2_append {E : mE} {h : mH} {n f t : Nat} {sf st : Nat → Nat} (e16 : h 16 = oSeen n) (e17 : h 17 = mAr 6 sf) (e18 : h 18 = mAr 6 st) (hn : n < 6) : mOk E 1 zX2_append [.ref 16, vN f, vN t] h (mX none (mU (mU (mU h 17 (mAr 6 (mUp sf n f))) 18 (mAr 6 (mUp st n t))) 16 (oSeen (n + 1)))) := by
  refine mOk_w (L := [some (.ref 16), some (vN f), some (vN t)]) pn_X2 rfl (Nat.le_of_ble_eq_true rfl) rfl ?_
  refine mG_aload_n dX2_append_0 rfl ?_
  refine mG_get fX2_9 dX2_append_1 e16 (Nat.le_of_ble_eq_true rfl) rfl ?_
  refine mG_aload_n dX2_append_4 rfl ?_
  refine mG_get fX2_18 dX2_append_5 e16 (Nat.le_of_ble_eq_true rfl) rfl ?_
  refine mG_iload_n dX2_append_8 rfl ?_
  refine mG_iastA dX2_append_9 e17 (Nat.le_of_ble_eq_true rfl) (by decide) (by omega) ?_
  refine mG_aload_n dX2_append_10 rfl ?_
  refine mG_get fX2_15 dX2_append_11 e16 (Nat.le_of_ble_eq_true rfl) rfl ?_
  refine mG_aload_n dX2_append_14 rfl ?_
  refine mG_get fX2_18 dX2_append_15 e16 (Nat.le_of_ble_eq_true rfl) rfl ?_
  refine mG_iload_n dX2_append_18 rfl ?_
  refine mG_iastA dX2_append_19 e18 (Nat.le_of_ble_eq_true rfl) (by decide) (by omega) ?_
  refine mG_aload_n dX2_append_20 rfl ?_
  refine mG_dup dX2_append_21 rfl ?_
  refine mG_get fX2_18 dX2_append_22 e16 (Nat.le_of_ble_eq_true rfl) rfl ?_
  refine mG_iconst (v := nI 1) dX2_append_25 (by decide) ?_
  refine mG_iaddN dX2_append_26 ?_
  refine mG_putI pX2_18 dX2_append_27 e16 (Nat.le_of_ble_eq_true rfl) (Nat.le_of_ble_eq_true rfl) ?_
  exact mG_vret dX2_append_30 rfl (mX_of rfl rfl)
set_option maxRecDepth 100000 in
set_option maxHeartbeats 4000000 in
theorem lp_X2_mayBe {E : mE} {h : mH} {r : Bool} {n f : Nat} {sf st : Nat → Nat} (e16 : h 16 = oSeen n) (e17 : h 17 = mAr 6 sf) (e18 : h 18 = mAr 6 st) (hn : n ≤ 6) (hsf : ∀ j, j < n → sf j < 10) (hst : ∀ j, j < n → st j < 2) (hf : f < 1024) : ∀ (k i : Nat), i + k = n → r = allF (fun i => decide (f >>> sf i &&& 1 = st i)) i k → mG E (mR 1, zX2_mayBe) (mKq E (mR 1) mN (mX (some (vB r)) h)) 2 [some (.ref 16), some (vN f), some (vN i)] [] (mN, 0, 0) h := by
  intro k
  induction k with
  | zero =>
    intro i hk hr
    refine mG_iload_n dX2_mayBe_2 rfl ?_
    refine mG_aload_n dX2_mayBe_3 rfl ?_
    refine mG_get fX2_18 dX2_mayBe_4 e16 (Nat.le_of_ble_eq_true rfl) rfl ?_
    refine mG_icmp_geN dX2_mayBe_7 (by omega) (by omega) (fun c7 => ?_) (fun c7 => absurd c7 (by omega))
    refine mG_iconst (v := mb true) dX2_mayBe_37 (by decide) ?_
    exact mG_zret dX2_mayBe_38 rfl (mX_of (by rw [hr]; rfl) rfl)
  | succ k ih =>
    intro i hk hr
    refine mG_iload_n dX2_mayBe_2 rfl ?_
    refine mG_aload_n dX2_mayBe_3 rfl ?_
    refine mG_get fX2_18 dX2_mayBe_4 e16 (Nat.le_of_ble_eq_true rfl) rfl ?_
    refine mG_icmp_geN dX2_mayBe_7 (by omega) (by omega) (fun c7 => absurd c7 (by omega)) (fun c7 => ?_)
    refine mG_iload_n dX2_mayBe_10 rfl ?_
    refine mG_aload_n dX2_mayBe_11 rfl ?_
    refine mG_get fX2_9 dX2_mayBe_12 e16 (Nat.le_of_ble_eq_true rfl) rfl ?_
    refine mG_iload_n dX2_mayBe_15 rfl ?_
    refine mG_ialdA dX2_mayBe_16 e17 (Nat.le_of_ble_eq_true rfl) (by decide) (by omega) ?_
    have h1 := hsf i (by omega)
    have h2 := hst i (by omega)
    have h3 : f >>> sf i &&& 1 ≤ 1 := Nat.and_le_right
    refine mG_ishrN dX2_mayBe_17 (by omega) (by omega) ?_
    refine mG_iconst (v := nI 1) dX2_mayBe_18 (by decide) ?_
    refine mG_iandN dX2_mayBe_19 ?_
    refine mG_aload_n dX2_mayBe_20 rfl ?_
    refine mG_get fX2_15 dX2_mayBe_21 e16 (Nat.le_of_ble_eq_true rfl) rfl ?_
    refine mG_iload_n dX2_mayBe_24 rfl ?_
    refine mG_ialdA dX2_mayBe_25 e18 (Nat.le_of_ble_eq_true rfl) (by decide) (by omega) ?_
    refine mG_icmp_eqN dX2_mayBe_26 (by omega) (by omega) (fun c26 => ?_) (fun c26 => ?_)
    · refine mG_iincN dX2_mayBe_31 rfl (Nat.le_of_ble_eq_true rfl) rfl rfl ?_
      refine mG_goto dX2_mayBe_34 ?_
      exact ih (i + 1) (by omega) (by rw [hr]; simp only [allF, decide_eq_true c26, Bool.true_and])
    · refine mG_iconst (v := mb false) dX2_mayBe_29 (by decide) ?_
      exact mG_zret dX2_mayBe_30 rfl (mX_of (by rw [hr]; simp only [allF, decide_eq_false c26, Bool.false_and]) rfl)
set_option maxRecDepth 100000 in
set_option maxHeartbeats 4000000 in
theorem ok_X2_mayBe {E : mE} {h : mH} {n f : Nat} {sf st : Nat → Nat} (e16 : h 16 = oSeen n) (e17 : h 17 = mAr 6 sf) (e18 : h 18 = mAr 6 st) (hn : n ≤ 6) (hsf : ∀ j, j < n → sf j < 10) (hst : ∀ j, j < n → st j < 2) (hf : f < 1024) : mOk E 1 zX2_mayBe [.ref 16, vN f] h (mX (some (vB (mayB sf st n f))) h) := by
  refine mOk_w (L := [some (.ref 16), some (vN f), none]) pn_X2 rfl (Nat.le_of_ble_eq_true rfl) rfl ?_
  refine mG_iconst (v := nI 0) dX2_mayBe_0 (by decide) ?_
  refine mG_istore_n dX2_mayBe_1 (Nat.le_of_ble_eq_true rfl) rfl rfl ?_
  exact lp_X2_mayBe e16 e17 e18 hn hsf hst hf n 0 (Nat.zero_add _) rfl
/-- WHICH -/
def wch (nf sf st : Nat → Nat) (n : Nat) : Nat → Nat
  | 0 => 0
  | c + 1 => if mayB sf st n (fgs nf c 6) = true then wch nf sf st n c ||| 1 <<< c else wch nf sf st n c
theorem wch_lt (nf sf st : Nat → Nat) (n : Nat) : ∀ c, wch nf sf st n c < 2 ^ c := by
  intro c
  induction c with
  | zero => show (0 : Nat) < 2 ^ 0; decide
  | succ c ih =>
    have h1 : wch nf sf st n c < 2 ^ (c + 1) := Nat.lt_trans ih (Nat.pow_lt_pow_right (by decide) (by omega))
    unfold wch
    split
    · refine Nat.or_lt_two_pow h1 ?_
      rw [Nat.one_shiftLeft]
      exact Nat.pow_lt_pow_right (by decide) (by omega)
    · exact h1
/-- how many of some CUBES have a FIGURE -/
def hmh (nf : Nat → Nat) (f left : Nat) : Nat → Nat
  | 0 => 0
  | c + 1 => if left >>> c &&& 1 = 1 then hmh nf f left c + (fgs nf c 6 >>> f &&& 1) else hmh nf f left c
theorem hmh_le (nf : Nat → Nat) (f left : Nat) : ∀ c, hmh nf f left c ≤ popc left c := by
  intro c
  induction c with
  | zero => exact Nat.le_refl _
  | succ c ih =>
    unfold hmh popc
    have h1 : fgs nf c 6 >>> f &&& 1 ≤ 1 := Nat.and_le_right
    split <;> omega
theorem popc_le (x : Nat) : ∀ k, popc x k ≤ k := by
  intro k
  induction k with
  | zero => exact Nat.le_refl _
  | succ k ih =>
    unfold popc
    have h1 : x >>> k &&& 1 ≤ 1 := Nat.and_le_right
    omega
theorem popc_mono (x : Nat) {a b : Nat} (hab : a ≤ b) : popc x a ≤ popc x b := by
  induction b with
  | zero => rw [Nat.le_zero.mp hab]; exact Nat.le_refl _
  | succ b ih =>
    rcases Nat.eq_or_lt_of_le hab with e | e
    · rw [e]; exact Nat.le_refl _
    · show popc x a ≤ popc x b + (x >>> b &&& 1)
      have := ih (by omega)
      omega
set_option maxRecDepth 100000 in
set_option maxHeartbeats 4000000 in
theorem lp_X2_cubes {E : mE} {h : mH} {n cu dn wk : Nat} {nf sf st : Nat → Nat} (e9 : h 9 = oNow dn wk) (e10 : h 10 = mAr 24 nf) (e16 : h 16 = oSeen n) (e17 : h 17 = mAr 6 sf) (e18 : h 18 = mAr 6 st) (hn : n ≤ 6) (hsf : ∀ j, j < n → sf j < 10) (hst : ∀ j, j < n → st j < 2) (hc : cu ≤ 4) (hf : ∀ j, j < cu * 6 → nf j < 10) : ∀ (k i : Nat), i + k = cu → mG E (mR 2, zX2_cubesThatMayBe) (mKq E (mR 2) mN (mX (some (vN (wch nf sf st n cu))) h)) 5 [some (.ref 16), some (vN cu), some (.ref 9), some (vN (wch nf sf st n i)), some (vN i)] [] (mN, 0, 0) h := by
  intro k
  induction k with
  | zero =>
    intro i hk
    refine mG_iload dX2_cubesThatMayBe_5 rfl ?_
    refine mG_iload_n dX2_cubesThatMayBe_7 rfl ?_
    refine mG_icmp_geN dX2_cubesThatMayBe_8 (by omega) (by omega) (fun c8 => ?_) (fun c8 => absurd c8 (by omega))
    refine mG_iload_n dX2_cubesThatMayBe_37 rfl ?_
    exact mG_iret dX2_cubesThatMayBe_38 rfl (mX_of (by rw [show i = cu by omega]) rfl)
  | succ k ih =>
    intro i hk
    refine mG_iload dX2_cubesThatMayBe_5 rfl ?_
    refine mG_iload_n dX2_cubesThatMayBe_7 rfl ?_
    have hfi : ∀ j, j < 6 → nf (i * 6 + j) < 10 := fun j hj => hf _ (by omega)
    refine mG_icmp_geN dX2_cubesThatMayBe_8 (by omega) (by omega) (fun c8 => absurd c8 (by omega)) (fun c8 => ?_)
    refine mG_aload_n dX2_cubesThatMayBe_11 rfl ?_
    refine mG_aload_n dX2_cubesThatMayBe_12 rfl ?_
    refine mG_iload dX2_cubesThatMayBe_13 rfl ?_
    refine mG_cv1 vX2_22 dX2_cubesThatMayBe_15 (mLe_of rfl) (Nat.le_of_ble_eq_true rfl) e9 (Nat.le_of_ble_eq_true rfl) (ok_X3_figuresOf e9 e10 (by omega) hfi) ?_
    refine mG_cv1 vX2_28 dX2_cubesThatMayBe_18 (mLe_of rfl) (Nat.le_of_ble_eq_true rfl) e16 (Nat.le_of_ble_eq_true rfl) (ok_X2_mayBe e16 e17 e18 hn hsf hst (fgs_lt 6 hfi)) ?_
    refine mG_if_eqB dX2_cubesThatMayBe_21 (fun c21 => ?_) (fun c21 => ?_)
    · refine mG_iincN dX2_cubesThatMayBe_31 rfl (Nat.le_of_ble_eq_true rfl) rfl rfl ?_
      refine mG_goto dX2_cubesThatMayBe_34 ?_
      have q := ih (i + 1) (by omega)
      simp only [wch, c21, if_true, if_false, Bool.false_eq_true] at q
      exact q
    · refine mG_iload_n dX2_cubesThatMayBe_24 rfl ?_
      refine mG_iconst (v := nI 1) dX2_cubesThatMayBe_25 (by decide) ?_
      refine mG_iload dX2_cubesThatMayBe_26 rfl ?_
      refine mG_ishlN dX2_cubesThatMayBe_28 (by omega) (shl1_lt2 (by omega)) ?_
      refine mG_iorN dX2_cubesThatMayBe_29 ?_
      refine mG_istore_n dX2_cubesThatMayBe_30 (Nat.le_of_ble_eq_true rfl) rfl rfl ?_
      refine mG_iincN dX2_cubesThatMayBe_31 rfl (Nat.le_of_ble_eq_true rfl) rfl rfl ?_
      refine mG_goto dX2_cubesThatMayBe_34 ?_
      have q := ih (i + 1) (by omega)
      simp only [wch, c21, if_true, if_false, Bool.false_eq_true] at q
      exact q
set_option maxRecDepth 100000 in
set_option maxHeartbeats 4000000 in
theorem ok_X2_cubes {E : mE} {h : mH} {n cu dn wk : Nat} {nf sf st : Nat → Nat} (e9 : h 9 = oNow dn wk) (e10 : h 10 = mAr 24 nf) (e16 : h 16 = oSeen n) (e17 : h 17 = mAr 6 sf) (e18 : h 18 = mAr 6 st) (hn : n ≤ 6) (hsf : ∀ j, j < n → sf j < 10) (hst : ∀ j, j < n → st j < 2) (hc : cu ≤ 4) (hf : ∀ j, j < cu * 6 → nf j < 10) : mOk E 2 zX2_cubesThatMayBe [.ref 16, vN cu, .ref 9] h (mX (some (vN (wch nf sf st n cu))) h) := by
  refine mOk_w (L := [some (.ref 16), some (vN cu), some (.ref 9), none, none]) pn_X2 rfl (Nat.le_of_ble_eq_true rfl) rfl ?_
  refine mG_iconst (v := nI 0) dX2_cubesThatMayBe_0 (by decide) ?_
  refine mG_istore_n dX2_cubesThatMayBe_1 (Nat.le_of_ble_eq_true rfl) rfl rfl ?_
  refine mG_iconst (v := nI 0) dX2_cubesThatMayBe_2 (by decide) ?_
  refine mG_istore dX2_cubesThatMayBe_3 (Nat.le_of_ble_eq_true rfl) rfl rfl ?_
  exact lp_X2_cubes e9 e10 e16 e17 e18 hn hsf hst hc hf cu 0 (Nat.zero_add _)
set_option maxRecDepth 100000 in
set_option maxHeartbeats 4000000 in
theorem lp_X2_howMany {E : mE} {h : mH} {cu dn wk f left : Nat} {nf : Nat → Nat} (e9 : h 9 = oNow dn wk) (e10 : h 10 = mAr 24 nf) (hc : cu ≤ 4) (hf : ∀ j, j < cu * 6 → nf j < 10) (hfl : f < 10) (hl : left < 16) : ∀ (k i : Nat), i + k = cu → mG E (mR 2, zX2_howManyHave) (mKq E (mR 2) mN (mX (some (vN (hmh nf f left cu))) h)) 6 [some (vN f), some (vN left), some (vN cu), some (.ref 9), some (vN (hmh nf f left i)), some (vN i)] [] (mN, 0, 0) h := by
  intro k
  induction k with
  | zero =>
    intro i hk
    refine mG_iload dX2_howManyHave_6 rfl ?_
    refine mG_iload_n dX2_howManyHave_8 rfl ?_
    refine mG_icmp_geN dX2_howManyHave_9 (by omega) (by omega) (fun c9 => ?_) (fun c9 => absurd c9 (by omega))
    refine mG_iload dX2_howManyHave_43 rfl ?_
    exact mG_iret dX2_howManyHave_45 rfl (mX_of (by rw [show i = cu by omega]) rfl)
  | succ k ih =>
    intro i hk
    refine mG_iload dX2_howManyHave_6 rfl ?_
    refine mG_iload_n dX2_howManyHave_8 rfl ?_
    have hfi : ∀ j, j < 6 → nf (i * 6 + j) < 10 := fun j hj => hf _ (by omega)
    have hb1 : left >>> i &&& 1 ≤ 1 := Nat.and_le_right
    have hb2 := fgs_lt 6 hfi
    refine mG_icmp_geN dX2_howManyHave_9 (by omega) (by omega) (fun c9 => absurd c9 (by omega)) (fun c9 => ?_)
    refine mG_iload_n dX2_howManyHave_12 rfl ?_
    refine mG_iload dX2_howManyHave_13 rfl ?_
    refine mG_ishrN dX2_howManyHave_15 (by omega) (by omega) ?_
    refine mG_iconst (v := nI 1) dX2_howManyHave_16 (by decide) ?_
    refine mG_iandN dX2_howManyHave_17 ?_
    refine mG_iconst (v := nI 1) dX2_howManyHave_18 (by decide) ?_
    refine mG_icmp_neN dX2_howManyHave_19 (by omega) (by omega) (fun c19 => ?_) (fun c19 => ?_)
    · refine mG_iincN dX2_howManyHave_37 rfl (Nat.le_of_ble_eq_true rfl) rfl rfl ?_
      refine mG_goto dX2_howManyHave_40 ?_
      have q := ih (i + 1) (by omega)
      simp only [hmh, c19, if_true, if_false] at q
      exact q
    · refine mG_iload dX2_howManyHave_22 rfl ?_
      refine mG_aload_n dX2_howManyHave_24 rfl ?_
      refine mG_iload dX2_howManyHave_25 rfl ?_
      refine mG_cv1 vX2_22 dX2_howManyHave_27 (mLe_of rfl) (Nat.le_of_ble_eq_true rfl) e9 (Nat.le_of_ble_eq_true rfl) (ok_X3_figuresOf e9 e10 (by omega) hfi) ?_
      refine mG_iload_n dX2_howManyHave_30 rfl ?_
      refine mG_ishrN dX2_howManyHave_31 (by omega) (by omega) ?_
      refine mG_iconst (v := nI 1) dX2_howManyHave_32 (by decide) ?_
      refine mG_iandN dX2_howManyHave_33 ?_
      refine mG_iaddN dX2_howManyHave_34 ?_
      refine mG_istore dX2_howManyHave_35 (Nat.le_of_ble_eq_true rfl) rfl rfl ?_
      refine mG_iincN dX2_howManyHave_37 rfl (Nat.le_of_ble_eq_true rfl) rfl rfl ?_
      refine mG_goto dX2_howManyHave_40 ?_
      have q := ih (i + 1) (by omega)
      simp only [hmh, c19, if_true, if_false] at q
      exact q
set_option maxRecDepth 100000 in
set_option maxHeartbeats 4000000 in
theorem ok_X2_howMany {E : mE} {h : mH} {cu dn wk f left : Nat} {nf : Nat → Nat} (e9 : h 9 = oNow dn wk) (e10 : h 10 = mAr 24 nf) (hc : cu ≤ 4) (hf : ∀ j, j < cu * 6 → nf j < 10) (hfl : f < 10) (hl : left < 16) : mOk E 2 zX2_howManyHave [vN f, vN left, vN cu, .ref 9] h (mX (some (vN (hmh nf f left cu))) h) := by
  refine mOk_w (L := [some (vN f), some (vN left), some (vN cu), some (.ref 9), none, none]) pn_X2 rfl (Nat.le_of_ble_eq_true rfl) rfl ?_
  refine mG_iconst (v := nI 0) dX2_howManyHave_0 (by decide) ?_
  refine mG_istore dX2_howManyHave_1 (Nat.le_of_ble_eq_true rfl) rfl rfl ?_
  refine mG_iconst (v := nI 0) dX2_howManyHave_3 (by decide) ?_
  refine mG_istore dX2_howManyHave_4 (Nat.le_of_ble_eq_true rfl) rfl rfl ?_
  exact lp_X2_howMany e9 e10 hc hf hfl hl cu 0 (Nat.zero_add _)
/-- LOOK: what was best, and how great its greater part, behind so many FIGURES -/
def lk (nf : Nat → Nat) (left all cu : Nat) : Nat → Int32 × Nat
  | 0 => (-9, all)
  | f + 1 => if max (hmh nf f left cu) (all - hmh nf f left cu) < (lk nf left all cu f).2 then (nI f, max (hmh nf f left cu) (all - hmh nf f left cu)) else lk nf left all cu f
theorem lk_le (nf : Nat → Nat) (left all cu : Nat) : ∀ f, (lk nf left all cu f).2 ≤ all := by
  intro f
  induction f with
  | zero => exact Nat.le_refl _
  | succ f ih =>
    unfold lk
    split
    · rename_i q
      show max _ _ ≤ all
      omega
    · exact ih
def look (nf sf st : Nat → Nat) (n cu : Nat) : Int32 := (lk nf (wch nf sf st n cu) (popc (wch nf sf st n cu) 10) cu 10).1
set_option maxRecDepth 100000 in
set_option maxHeartbeats 4000000 in
theorem lp_X2_best {E : mE} {h : mH} {cu dn wk left all : Nat} {nf : Nat → Nat} (e9 : h 9 = oNow dn wk) (e10 : h 10 = mAr 24 nf) (hc : cu ≤ 4) (hf : ∀ j, j < cu * 6 → nf j < 10) (hl : left < 16) (ha : all = popc left 10) : ∀ (k i : Nat) (x8 x9 : Option Value), i + k = 10 → mOkS [some (.ref 16), some (vN cu), some (.ref 9), some (vN left), some (vN all), none, none, none, x8, x9] 9 = true → mG E (mR 3, zX2_bestToLookFor) (mKq E (mR 3) mN (mX (some (.int (lk nf left all cu 10).1)) h)) 24 [some (.ref 16), some (vN cu), some (.ref 9), some (vN left), some (vN all), some (.int (lk nf left all cu i).1), some (vN (lk nf left all cu i).2), some (vN i), x8, x9] [] (mN, 0, 0) h := by
  intro k
  induction k with
  | zero =>
    intro i x8 x9 hk hok
    refine mG_iload dX2_bestToLookFor_24 rfl ?_
    refine mG_bipush (v := nI 10) dX2_bestToLookFor_26 (by decide) ?_
    refine mG_icmp_geN dX2_bestToLookFor_28 (by omega) (by omega) (fun c28 => ?_) (fun c28 => absurd c28 (by omega))
    refine mG_iload dX2_bestToLookFor_74 rfl ?_
    exact mG_iret dX2_bestToLookFor_76 rfl (mX_of (by rw [show i = 10 by omega]) rfl)
  | succ k ih =>
    intro i x8 x9 hk hok
    refine mG_iload dX2_bestToLookFor_24 rfl ?_
    refine mG_bipush (v := nI 10) dX2_bestToLookFor_26 (by decide) ?_
    have b1 := hmh_le nf i left cu
    have b2 := popc_mono left (show cu ≤ 10 by omega)
    have b3 := popc_le left 10
    have b4 := lk_le nf left all cu i
    refine mG_icmp_geN dX2_bestToLookFor_28 (by omega) (by omega) (fun c28 => absurd c28 (by omega)) (fun c28 => ?_)
    refine mG_iload dX2_bestToLookFor_31 rfl ?_
    refine mG_iload_n dX2_bestToLookFor_33 rfl ?_
    refine mG_iload_n dX2_bestToLookFor_34 rfl ?_
    refine mG_aload_n dX2_bestToLookFor_35 rfl ?_
    refine mG_cs4 sX2_41 dX2_bestToLookFor_36 (mLe_of rfl) (Nat.le_of_ble_eq_true rfl) (ok_X2_howMany e9 e10 hc hf (by omega) hl) ?_
    refine mG_istore dX2_bestToLookFor_39 (Nat.le_of_ble_eq_true rfl) rfl rfl ?_
    refine mG_iload dX2_bestToLookFor_41 rfl ?_
    refine mG_iload dX2_bestToLookFor_43 rfl ?_
    refine mG_iload dX2_bestToLookFor_45 rfl ?_
    refine mG_isubN dX2_bestToLookFor_47 (by omega) ?_
    refine mG_mmaxN dX2_bestToLookFor_48 aX2_45 w_max.1 w_max.2.1 w_max.2.2 (by decide) (Nat.le_of_ble_eq_true rfl) (Nat.zero_le _) (Nat.zero_le _) (by omega) (by omega) ?_
    refine mG_istore dX2_bestToLookFor_51 (Nat.le_of_ble_eq_true rfl) rfl rfl ?_
    refine mG_iload dX2_bestToLookFor_53 rfl ?_
    refine mG_iload dX2_bestToLookFor_55 rfl ?_
    refine mG_icmp_geN dX2_bestToLookFor_57 (by omega) (by omega) (fun c57 => ?_) (fun c57 => ?_)
    · refine mG_iincN dX2_bestToLookFor_68 rfl (Nat.le_of_ble_eq_true rfl) rfl rfl ?_
      refine mG_goto dX2_bestToLookFor_71 ?_
      have q := ih (i + 1) (some (vN (hmh nf i left cu))) (some (vN (max (hmh nf i left cu) (all - hmh nf i left cu)))) (by omega) rfl
      first
        | (simp only [lk, if_pos c57] at q; exact q)
        | (simp only [lk, if_neg (Nat.not_lt.mpr c57)] at q; exact q)
    · refine mG_iload dX2_bestToLookFor_60 rfl ?_
      refine mG_istore dX2_bestToLookFor_62 (Nat.le_of_ble_eq_true rfl) rfl rfl ?_
      refine mG_iload dX2_bestToLookFor_64 rfl ?_
      refine mG_istore dX2_bestToLookFor_66 (Nat.le_of_ble_eq_true rfl) rfl rfl ?_
      refine mG_iincN dX2_bestToLookFor_68 rfl (Nat.le_of_ble_eq_true rfl) rfl rfl ?_
      refine mG_goto dX2_bestToLookFor_71 ?_
      have q := ih (i + 1) (some (vN (hmh nf i left cu))) (some (vN (max (hmh nf i left cu) (all - hmh nf i left cu)))) (by omega) rfl
      first
        | (simp only [lk, if_pos c57] at q; exact q)
        | (simp only [lk, if_neg (Nat.not_lt.mpr c57)] at q; exact q)
set_option maxRecDepth 100000 in
set_option maxHeartbeats 4000000 in
theorem ok_X2_best {E : mE} {h : mH} {n cu dn wk : Nat} {nf sf st : Nat → Nat} (e9 : h 9 = oNow dn wk) (e10 : h 10 = mAr 24 nf) (e16 : h 16 = oSeen n) (e17 : h 17 = mAr 6 sf) (e18 : h 18 = mAr 6 st) (hn : n ≤ 6) (hsf : ∀ j, j < n → sf j < 10) (hst : ∀ j, j < n → st j < 2) (hc : cu ≤ 4) (hf : ∀ j, j < cu * 6 → nf j < 10) : mOk E 3 zX2_bestToLookFor [.ref 16, vN cu, .ref 9] h (mX (some (.int (look nf sf st n cu))) h) := by
  have hw : wch nf sf st n cu < 16 := Nat.lt_of_lt_of_le (wch_lt nf sf st n cu) (Nat.pow_le_pow_right (by decide) hc)
  refine mOk_w (L := [some (.ref 16), some (vN cu), some (.ref 9), none, none, none, none, none, none, none]) pn_X2 rfl (Nat.le_of_ble_eq_true rfl) rfl ?_
  refine mG_aload_n dX2_bestToLookFor_0 rfl ?_
  refine mG_iload_n dX2_bestToLookFor_1 rfl ?_
  refine mG_aload_n dX2_bestToLookFor_2 rfl ?_
  refine mG_cv2 vX2_32 dX2_bestToLookFor_3 (mLe_of rfl) (Nat.le_of_ble_eq_true rfl) e16 (Nat.le_of_ble_eq_true rfl) (ok_X2_cubes e9 e10 e16 e17 e18 hn hsf hst hc hf) ?_
  refine mG_istore_n dX2_bestToLookFor_6 (Nat.le_of_ble_eq_true rfl) rfl rfl ?_
  refine mG_iload_n dX2_bestToLookFor_7 rfl ?_
  refine mG_cs1 sX2_36 dX2_bestToLookFor_8 (mLe_of rfl) (Nat.le_of_ble_eq_true rfl) (ok_bitCount (by omega)) ?_
  refine mG_istore dX2_bestToLookFor_11 (Nat.le_of_ble_eq_true rfl) rfl rfl ?_
  refine mG_bipush (v := (-9)) dX2_bestToLookFor_13 (by decide) ?_
  refine mG_istore dX2_bestToLookFor_15 (Nat.le_of_ble_eq_true rfl) rfl rfl ?_
  refine mG_iload dX2_bestToLookFor_17 rfl ?_
  refine mG_istore dX2_bestToLookFor_19 (Nat.le_of_ble_eq_true rfl) rfl rfl ?_
  refine mG_iconst (v := nI 0) dX2_bestToLookFor_21 (by decide) ?_
  refine mG_istore dX2_bestToLookFor_22 (Nat.le_of_ble_eq_true rfl) rfl rfl ?_
  exact lp_X2_best e9 e10 hc hf hw rfl 10 0 none none rfl rfl
end
section
/-! Tellers -/
abbrev oTell (cu : Nat) : mC := mOb 4 [.ref 20, vN cu]
def SW : Nat → Nat
  | 0 => 0x5555
  | 1 => 0x3333
  | 2 => 0x0F0F
  | _ => 0x00FF
theorem mTF_sw (E : mE) {c : Nat} (hc : c < 4) : mTF E 4 c = nI (SW c) := by
  rcases (show c = 0 ∨ c = 1 ∨ c = 2 ∨ c = 3 by omega) with rfl | rfl | rfl | rfl <;> rfl
theorem sw_lt (s : Nat) {c : Nat} (hc : c < 4) : 1 <<< c ≤ 8 ∧ (s &&& SW c) <<< (1 <<< c) < 65536 := by
  have h1 : s &&& SW c ≤ SW c := Nat.and_le_right
  generalize s &&& SW c = x at h1
  rcases (show c = 0 ∨ c = 1 ∨ c = 2 ∨ c = 3 by omega) with rfl | rfl | rfl | rfl <;> simp only [SW, Nat.shiftLeft_eq] at h1 ⊢ <;> omega
/-- what sets of CUBES become if one more CUBE of each tells a FIGURE -/
def wom (cw : Nat → Nat) (s fg : Nat) : Nat → Nat
  | 0 => 0
  | c + 1 => if cw fg >>> c &&& 1 = 1 then wom cw s fg c ||| (s &&& SW c) <<< (1 <<< c) else wom cw s fg c
theorem wom_lt (cw : Nat → Nat) (s fg : Nat) : ∀ c, c ≤ 4 → wom cw s fg c < 65536 := by
  intro c
  induction c with
  | zero => intro _; show (0 : Nat) < 65536; decide
  | succ c ih =>
    intro hc
    unfold wom
    split
    · exact Nat.or_lt_two_pow (n := 16) (ih (by omega)) (sw_lt s (by omega)).2
    · exact ih (by omega)
/-- the sets behind k figures of r -/
def cTs (cw : Nat → Nat) (cu : Nat) : Nat → Nat → Nat → Nat
  | 0, s, _ => s
  | k + 1, s, r => cTs cw cu k (wom cw s (r % 10) cu) (r / 10)
/-- CAN, as the class has it -/
def canT (cw : Nat → Nat) (cu n : Nat) : Bool := decide (¬ cTs cw cu cu 1 n = 0)
set_option maxRecDepth 100000 in
set_option maxHeartbeats 4000000 in
theorem lp_X4_one {E : mE} {h : mH} {cu s fg : Nat} {cw : Nat → Nat} (e19 : h 19 = oTell cu) (e20 : h 20 = mAr 10 cw) (hc : cu ≤ 4) (hs : s < 65536) (hg : fg < 10) (hw : cw fg < 16) : ∀ (k i : Nat), i + k = cu → mG E (mR 1, zX4_withOneMore) (mKq E (mR 1) mN (mX (some (vN (wom cw s fg cu))) h)) 5 [some (.ref 19), some (vN s), some (vN fg), some (vN (wom cw s fg i)), some (vN i)] [] (mN, 0, 0) h := by
  intro k
  induction k with
  | zero =>
    intro i hk
    refine mG_iload dX4_withOneMore_5 rfl ?_
    refine mG_aload_n dX4_withOneMore_7 rfl ?_
    refine mG_get fX4_21 dX4_withOneMore_8 e19 (Nat.le_of_ble_eq_true rfl) rfl ?_
    refine mG_icmp_geN dX4_withOneMore_11 (by omega) (by omega) (fun c11 => ?_) (fun c11 => absurd c11 (by omega))
    refine mG_iload_n dX4_withOneMore_51 rfl ?_
    exact mG_iret dX4_withOneMore_52 rfl (mX_of (by rw [show i = cu by omega]) rfl)
  | succ k ih =>
    intro i hk
    refine mG_iload dX4_withOneMore_5 rfl ?_
    refine mG_aload_n dX4_withOneMore_7 rfl ?_
    refine mG_get fX4_21 dX4_withOneMore_8 e19 (Nat.le_of_ble_eq_true rfl) rfl ?_
    have hb : cw fg >>> i &&& 1 ≤ 1 := Nat.and_le_right
    have hsw := sw_lt s (show i < 4 by omega)
    refine mG_icmp_geN dX4_withOneMore_11 (by omega) (by omega) (fun c11 => absurd c11 (by omega)) (fun c11 => ?_)
    refine mG_aload_n dX4_withOneMore_14 rfl ?_
    refine mG_get fX4_9 dX4_withOneMore_15 e19 (Nat.le_of_ble_eq_true rfl) rfl ?_
    refine mG_iload_n dX4_withOneMore_18 rfl ?_
    refine mG_ialdA dX4_withOneMore_19 e20 (Nat.le_of_ble_eq_true rfl) (by decide) (by omega) ?_
    refine mG_iload dX4_withOneMore_20 rfl ?_
    refine mG_ishrN dX4_withOneMore_22 (by omega) (by omega) ?_
    refine mG_iconst (v := nI 1) dX4_withOneMore_23 (by decide) ?_
    refine mG_iandN dX4_withOneMore_24 ?_
    refine mG_iconst (v := nI 1) dX4_withOneMore_25 (by decide) ?_
    refine mG_icmp_neN dX4_withOneMore_26 (by omega) (by omega) (fun c26 => ?_) (fun c26 => ?_)
    · refine mG_iincN dX4_withOneMore_45 rfl (Nat.le_of_ble_eq_true rfl) rfl rfl ?_
      refine mG_goto dX4_withOneMore_48 ?_
      have q := ih (i + 1) (by omega)
      simp only [wom, c26, if_true, if_false] at q
      exact q
    · refine mG_iload_n dX4_withOneMore_29 rfl ?_
      refine mG_iload_n dX4_withOneMore_30 rfl ?_
      refine mG_gets (t := 4) dX4_withOneMore_31 (by decide) gX4_69 ?_
      refine mG_iload dX4_withOneMore_34 rfl ?_
      refine mG_tald (t := 4) dX4_withOneMore_36 (by decide) (Nat.le_of_ble_eq_true rfl) (by show i < 4; omega) ?_
      rw [mTF_sw E (by omega)]
      refine mG_iandN dX4_withOneMore_37 ?_
      refine mG_iconst (v := nI 1) dX4_withOneMore_38 (by decide) ?_
      refine mG_iload dX4_withOneMore_39 rfl ?_
      refine mG_ishlN dX4_withOneMore_41 (by omega) (shl1_lt2 (by omega)) ?_
      refine mG_ishlN dX4_withOneMore_42 (by omega) (by omega) ?_
      refine mG_iorN dX4_withOneMore_43 ?_
      refine mG_istore_n dX4_withOneMore_44 (Nat.le_of_ble_eq_true rfl) rfl rfl ?_
      refine mG_iincN dX4_withOneMore_45 rfl (Nat.le_of_ble_eq_true rfl) rfl rfl ?_
      refine mG_goto dX4_withOneMore_48 ?_
      have q := ih (i + 1) (by omega)
      simp only [wom, c26, if_true, if_false] at q
      exact q
set_option maxRecDepth 100000 in
set_option maxHeartbeats 4000000 in
theorem ok_X4_one {E : mE} {h : mH} {cu s fg : Nat} {cw : Nat → Nat} (e19 : h 19 = oTell cu) (e20 : h 20 = mAr 10 cw) (hc : cu ≤ 4) (hs : s < 65536) (hg : fg < 10) (hw : cw fg < 16) : mOk E 1 zX4_withOneMore [.ref 19, vN s, vN fg] h (mX (some (vN (wom cw s fg cu))) h) := by
  refine mOk_w (L := [some (.ref 19), some (vN s), some (vN fg), none, none]) pn_X4 rfl (Nat.le_of_ble_eq_true rfl) rfl ?_
  refine mG_iconst (v := nI 0) dX4_withOneMore_0 (by decide) ?_
  refine mG_istore_n dX4_withOneMore_1 (Nat.le_of_ble_eq_true rfl) rfl rfl ?_
  refine mG_iconst (v := nI 0) dX4_withOneMore_2 (by decide) ?_
  refine mG_istore dX4_withOneMore_3 (Nat.le_of_ble_eq_true rfl) rfl rfl ?_
  exact lp_X4_one e19 e20 hc hs hg hw cu 0 (Nat.zero_add _)
set_option maxRecDepth 100000 in
set_option maxHeartbeats 4000000 in
theorem lp_X4_can {E : mE} {h : mH} {cu n T : Nat} {cw : Nat → Nat} (e19 : h 19 = oTell cu) (e20 : h 20 = mAr 10 cw) (hc : cu ≤ 4) (hw : ∀ j, j < 10 → cw j < 16) : ∀ (k i s r : Nat), i + k = cu → s < 65536 → r < 2 ^ 31 → T = cTs cw cu k s r → mG E (mR 2, zX4_canTell) (mKq E (mR 2) mN (mX (some (vB (decide (¬ T = 0)))) h)) 7 [some (.ref 19), some (vN n), some (vN s), some (vN r), some (vN i)] [] (mN, 0, 0) h := by
  intro k
  induction k with
  | zero =>
    intro i s r hk hs hr hT
    refine mG_iload dX4_canTell_7 rfl ?_
    refine mG_aload_n dX4_canTell_9 rfl ?_
    refine mG_get fX4_21 dX4_canTell_10 e19 (Nat.le_of_ble_eq_true rfl) rfl ?_
    refine mG_icmp_geN dX4_canTell_13 (by omega) (by omega) (fun c13 => ?_) (fun c13 => absurd c13 (by omega))
    obtain rfl : T = s := hT
    refine mG_iload_n dX4_canTell_37 rfl ?_
    refine mG_if_eqN dX4_canTell_38 (by omega) (fun c38 => ?_) (fun c38 => ?_)
    · refine mG_iconst (v := mb false) dX4_canTell_45 (by decide) ?_
      exact mG_zret dX4_canTell_46 rfl (mX_of (by simp [c38]) rfl)
    · refine mG_iconst (v := mb true) dX4_canTell_41 (by decide) ?_
      refine mG_goto dX4_canTell_42 ?_
      exact mG_zret dX4_canTell_46 rfl (mX_of (by simp [c38]) rfl)
  | succ k ih =>
    intro i s r hk hs hr hT
    refine mG_iload dX4_canTell_7 rfl ?_
    refine mG_aload_n dX4_canTell_9 rfl ?_
    refine mG_get fX4_21 dX4_canTell_10 e19 (Nat.le_of_ble_eq_true rfl) rfl ?_
    refine mG_icmp_geN dX4_canTell_13 (by omega) (by omega) (fun c13 => absurd c13 (by omega)) (fun c13 => ?_)
    refine mG_aload_n dX4_canTell_16 rfl ?_
    refine mG_iload_n dX4_canTell_17 rfl ?_
    refine mG_iload_n dX4_canTell_18 rfl ?_
    refine mG_bipush (v := nI 10) dX4_canTell_19 (by decide) ?_
    refine mG_iremN dX4_canTell_21 (by omega) (by omega) (by omega) ?_
    refine mG_cv2 vX4_37 dX4_canTell_22 (mLe_of rfl) (Nat.le_of_ble_eq_true rfl) e19 (Nat.le_of_ble_eq_true rfl) (ok_X4_one e19 e20 hc hs (by omega) (hw _ (by omega))) ?_
    refine mG_istore_n dX4_canTell_25 (Nat.le_of_ble_eq_true rfl) rfl rfl ?_
    refine mG_iload_n dX4_canTell_26 rfl ?_
    refine mG_bipush (v := nI 10) dX4_canTell_27 (by decide) ?_
    refine mG_idivN dX4_canTell_29 (by omega) (by omega) (by omega) ?_
    refine mG_istore_n dX4_canTell_30 (Nat.le_of_ble_eq_true rfl) rfl rfl ?_
    refine mG_iincN dX4_canTell_31 rfl (Nat.le_of_ble_eq_true rfl) rfl rfl ?_
    refine mG_goto dX4_canTell_34 ?_
    exact ih (i + 1) _ _ (by omega) (wom_lt _ _ _ _ hc) (by omega) hT
set_option maxRecDepth 100000 in
set_option maxHeartbeats 4000000 in
theorem ok_X4_can {E : mE} {h : mH} {cu n : Nat} {cw : Nat → Nat} (e19 : h 19 = oTell cu) (e20 : h 20 = mAr 10 cw) (hc : cu ≤ 4) (hw : ∀ j, j < 10 → cw j < 16) (hn : n < 2 ^ 31) : mOk E 2 zX4_canTell [.ref 19, vN n] h (mX (some (vB (canT cw cu n))) h) := by
  refine mOk_w (L := [some (.ref 19), some (vN n), none, none, none]) pn_X4 rfl (Nat.le_of_ble_eq_true rfl) rfl ?_
  refine mG_iconst (v := nI 1) dX4_canTell_0 (by decide) ?_
  refine mG_istore_n dX4_canTell_1 (Nat.le_of_ble_eq_true rfl) rfl rfl ?_
  refine mG_iload_n dX4_canTell_2 rfl ?_
  refine mG_istore_n dX4_canTell_3 (Nat.le_of_ble_eq_true rfl) rfl rfl ?_
  refine mG_iconst (v := nI 0) dX4_canTell_4 (by decide) ?_
  refine mG_istore dX4_canTell_5 (Nat.le_of_ble_eq_true rfl) rfl rfl ?_
  exact lp_X4_can e19 e20 hc hw cu 0 1 n (Nat.zero_add _) (by decide) hn rfl
/-- DONE -/
def dd (cw td : Nat → Nat) (cu : Nat) : Nat → Nat
  | 0 => 0
  | d + 1 => if canT cw cu (td d) = true then dd cw td cu d ||| 1 <<< d else dd cw td cu d
theorem dd_lt (cw td : Nat → Nat) (cu : Nat) : ∀ d, dd cw td cu d < 2 ^ d := by
  intro d
  induction d with
  | zero => show (0 : Nat) < 2 ^ 0; decide
  | succ d ih =>
    have h1 : dd cw td cu d < 2 ^ (d + 1) := Nat.lt_trans ih (Nat.pow_lt_pow_right (by decide) (by omega))
    unfold dd
    split
    · refine Nat.or_lt_two_pow h1 ?_
      rw [Nat.one_shiftLeft]
      exact Nat.pow_lt_pow_right (by decide) (by omega)
    · exact h1
set_option maxRecDepth 100000 in
set_option maxHeartbeats 4000000 in
theorem lp_X4_done {E : mE} {h : mH} {cu cu2 dc it : Nat} {bo : Bool} {cw td : Nat → Nat} (e3 : h 3 = oTold cu2 dc it bo) (e5 : h 5 = mAr 6 td) (e19 : h 19 = oTell cu) (e20 : h 20 = mAr 10 cw) (hc : cu ≤ 4) (hw : ∀ j, j < 10 → cw j < 16) (hd : dc ≤ 6) (htd : ∀ j, j < dc → td j < 2 ^ 31) : ∀ (k i : Nat), i + k = dc → mG E (mR 3, zX4_daysDone) (mKq E (mR 3) mN (mX (some (vN (dd cw td cu dc))) h)) 4 [some (.ref 19), some (.ref 3), some (vN (dd cw td cu i)), some (vN i)] [] (mN, 0, 0) h := by
  intro k
  induction k with
  | zero =>
    intro i hk
    refine mG_iload_n dX4_daysDone_4 rfl ?_
    refine mG_aload_n dX4_daysDone_5 rfl ?_
    refine mG_get fX4_41 dX4_daysDone_6 e3 (Nat.le_of_ble_eq_true rfl) rfl ?_
    refine mG_icmp_geN dX4_daysDone_9 (by omega) (by omega) (fun c9 => ?_) (fun c9 => absurd c9 (by omega))
    refine mG_iload_n dX4_daysDone_37 rfl ?_
    exact mG_iret dX4_daysDone_38 rfl (mX_of (by rw [show i = dc by omega]) rfl)
  | succ k ih =>
    intro i hk
    refine mG_iload_n dX4_daysDone_4 rfl ?_
    refine mG_aload_n dX4_daysDone_5 rfl ?_
    refine mG_get fX4_41 dX4_daysDone_6 e3 (Nat.le_of_ble_eq_true rfl) rfl ?_
    refine mG_icmp_geN dX4_daysDone_9 (by omega) (by omega) (fun c9 => absurd c9 (by omega)) (fun c9 => ?_)
    refine mG_aload_n dX4_daysDone_12 rfl ?_
    refine mG_aload_n dX4_daysDone_13 rfl ?_
    refine mG_get fX4_44 dX4_daysDone_14 e3 (Nat.le_of_ble_eq_true rfl) rfl ?_
    refine mG_iload_n dX4_daysDone_17 rfl ?_
    refine mG_ialdA dX4_daysDone_18 e5 (Nat.le_of_ble_eq_true rfl) (by decide) (by omega) ?_
    refine mG_cv1 vX4_47 dX4_daysDone_19 (mLe_of rfl) (Nat.le_of_ble_eq_true rfl) e19 (Nat.le_of_ble_eq_true rfl) (ok_X4_can e19 e20 hc hw (htd i (by omega))) ?_
    refine mG_if_eqB dX4_daysDone_22 (fun c22 => ?_) (fun c22 => ?_)
    · refine mG_iincN dX4_daysDone_31 rfl (Nat.le_of_ble_eq_true rfl) rfl rfl ?_
      refine mG_goto dX4_daysDone_34 ?_
      have q := ih (i + 1) (by omega)
      simp only [dd, c22, if_true, if_false, Bool.false_eq_true] at q
      exact q
    · refine mG_iload_n dX4_daysDone_25 rfl ?_
      refine mG_iconst (v := nI 1) dX4_daysDone_26 (by decide) ?_
      refine mG_iload_n dX4_daysDone_27 rfl ?_
      refine mG_ishlN dX4_daysDone_28 (by omega) (shl1_lt2 (by omega)) ?_
      refine mG_iorN dX4_daysDone_29 ?_
      refine mG_istore_n dX4_daysDone_30 (Nat.le_of_ble_eq_true rfl) rfl rfl ?_
      refine mG_iincN dX4_daysDone_31 rfl (Nat.le_of_ble_eq_true rfl) rfl rfl ?_
      refine mG_goto dX4_daysDone_34 ?_
      have q := ih (i + 1) (by omega)
      simp only [dd, c22, if_true, if_false, Bool.false_eq_true] at q
      exact q
set_option maxRecDepth 100000 in
set_option maxHeartbeats 4000000 in
theorem ok_X4_done {E : mE} {h : mH} {cu cu2 dc it : Nat} {bo : Bool} {cw td : Nat → Nat} (e3 : h 3 = oTold cu2 dc it bo) (e5 : h 5 = mAr 6 td) (e19 : h 19 = oTell cu) (e20 : h 20 = mAr 10 cw) (hc : cu ≤ 4) (hw : ∀ j, j < 10 → cw j < 16) (hd : dc ≤ 6) (htd : ∀ j, j < dc → td j < 2 ^ 31) : mOk E 3 zX4_daysDone [.ref 19, .ref 3] h (mX (some (vN (dd cw td cu dc))) h) := by
  refine mOk_w (L := [some (.ref 19), some (.ref 3), none, none]) pn_X4 rfl (Nat.le_of_ble_eq_true rfl) rfl ?_
  refine mG_iconst (v := nI 0) dX4_daysDone_0 (by decide) ?_
  refine mG_istore_n dX4_daysDone_1 (Nat.le_of_ble_eq_true rfl) rfl rfl ?_
  refine mG_iconst (v := nI 0) dX4_daysDone_2 (by decide) ?_
  refine mG_istore_n dX4_daysDone_3 (Nat.le_of_ble_eq_true rfl) rfl rfl ?_
  exact lp_X4_done e3 e5 e19 e20 hc hw hd htd dc 0 (Nat.zero_add _)
/-- LEAST from n on, k numbers -/
def lu (cw : Nat → Nat) (cu : Nat) : Nat → Nat → Int32
  | 0, _ => -9
  | k + 1, n => if canT cw cu n = true then lu cw cu k (n + 1) else nI n
theorem ten_le {cu : Nat} (hc : cu ≤ 4) : 10 ^ cu ≤ 10000 := by
  rcases (show cu = 0 ∨ cu = 1 ∨ cu = 2 ∨ cu = 3 ∨ cu = 4 by omega) with rfl | rfl | rfl | rfl | rfl <;> decide
set_option maxRecDepth 100000 in
set_option maxHeartbeats 4000000 in
theorem lp_X4_least {E : mE} {h : mH} {R : Int32} {cu : Nat} {cw : Nat → Nat} (e19 : h 19 = oTell cu) (e20 : h 20 = mAr 10 cw) (hc : cu ≤ 4) (hw : ∀ j, j < 10 → cw j < 16) : ∀ (k i : Nat), i + k = 10 ^ cu → R = lu cw cu k i → mG E (mR 3, zX4_leastUntold) (mKq E (mR 3) mN (mX (some (.int R)) h)) 2 [some (.ref 19), some (vN i)] [] (mN, 0, 0) h := by
  intro k
  induction k with
  | zero =>
    intro i hk hR
    refine mG_iload_n dX4_leastUntold_2 rfl ?_
    refine mG_getsN (t := 0) dX4_leastUntold_3 (by decide) (by decide) ?_
    refine mG_aload_n dX4_leastUntold_6 rfl ?_
    refine mG_get fX4_21 dX4_leastUntold_7 e19 (Nat.le_of_ble_eq_true rfl) rfl ?_
    have ht := ten_le hc
    refine mG_tald (t := 0) dX4_leastUntold_10 (by decide) (Nat.le_of_ble_eq_true rfl) (by show cu < 5; omega) ?_
    rw [mTF_ten E hc]
    refine mG_icmp_geN dX4_leastUntold_11 (by omega) (by omega) (fun c11 => ?_) (fun c11 => absurd c11 (by omega))
    refine mG_bipush (v := (-9)) dX4_leastUntold_30 (by decide) ?_
    exact mG_iret dX4_leastUntold_32 rfl (mX_of (by rw [hR]; rfl) rfl)
  | succ k ih =>
    intro i hk hR
    refine mG_iload_n dX4_leastUntold_2 rfl ?_
    refine mG_getsN (t := 0) dX4_leastUntold_3 (by decide) (by decide) ?_
    refine mG_aload_n dX4_leastUntold_6 rfl ?_
    refine mG_get fX4_21 dX4_leastUntold_7 e19 (Nat.le_of_ble_eq_true rfl) rfl ?_
    have ht := ten_le hc
    refine mG_tald (t := 0) dX4_leastUntold_10 (by decide) (Nat.le_of_ble_eq_true rfl) (by show cu < 5; omega) ?_
    rw [mTF_ten E hc]
    refine mG_icmp_geN dX4_leastUntold_11 (by omega) (by omega) (fun c11 => absurd c11 (by omega)) (fun c11 => ?_)
    refine mG_aload_n dX4_leastUntold_14 rfl ?_
    refine mG_iload_n dX4_leastUntold_15 rfl ?_
    refine mG_cv1 vX4_47 dX4_leastUntold_16 (mLe_of rfl) (Nat.le_of_ble_eq_true rfl) e19 (Nat.le_of_ble_eq_true rfl) (ok_X4_can e19 e20 hc hw (by omega)) ?_
    refine mG_if_neB dX4_leastUntold_19 (fun c19 => ?_) (fun c19 => ?_)
    · refine mG_iincN dX4_leastUntold_24 rfl (Nat.le_of_ble_eq_true rfl) rfl rfl ?_
      refine mG_goto dX4_leastUntold_27 ?_
      exact ih (i + 1) (by omega) (by rw [hR]; simp [lu, c19])
    · refine mG_iload_n dX4_leastUntold_22 rfl ?_
      exact mG_iret dX4_leastUntold_23 rfl (mX_of (by rw [hR]; simp [lu, c19]) rfl)
set_option maxRecDepth 100000 in
set_option maxHeartbeats 4000000 in
theorem ok_X4_least {E : mE} {h : mH} {cu : Nat} {cw : Nat → Nat} (e19 : h 19 = oTell cu) (e20 : h 20 = mAr 10 cw) (hc : cu ≤ 4) (hw : ∀ j, j < 10 → cw j < 16) : mOk E 3 zX4_leastUntold [.ref 19] h (mX (some (.int (lu cw cu (10 ^ cu) 0))) h) := by
  refine mOk_w (L := [some (.ref 19), none]) pn_X4 rfl (Nat.le_of_ble_eq_true rfl) rfl ?_
  refine mG_iconst (v := nI 0) dX4_leastUntold_0 (by decide) ?_
  refine mG_istore_n dX4_leastUntold_1 (Nat.le_of_ble_eq_true rfl) rfl rfl ?_
  exact lp_X4_least e19 e20 hc hw (10 ^ cu) 0 (Nat.zero_add _) rfl
/-- PASTES: the sets of CUBES that tell some of k figures of r -/
def fpS (cw : Nat → Nat) (cu : Nat) : Nat → Nat → Nat → Nat
  | 0, s, _ => s
  | k + 1, s, r => fpS cw cu k (s ||| wom cw s (r % 10) cu) (r / 10)
def mxs (s : Nat) : Nat → Nat
  | 0 => 0
  | i + 1 => if s >>> i &&& 1 = 1 then max (mxs s i) (popc i 10) else mxs s i
theorem mxs_le (s : Nat) : ∀ i, mxs s i ≤ 10 := by
  intro i
  induction i with
  | zero => exact Nat.zero_le _
  | succ i ih =>
    have := popc_le i 10
    unfold mxs
    split <;> omega
theorem fpS_lt (cw : Nat → Nat) {cu : Nat} (hc : cu ≤ 4) : ∀ k s r, s < 65536 → fpS cw cu k s r < 65536 := by
  intro k
  induction k with
  | zero => intro s r hs; exact hs
  | succ k ih => intro s r hs; exact ih _ _ (Nat.or_lt_two_pow (n := 16) hs (wom_lt _ _ _ _ hc))
set_option maxRecDepth 100000 in
set_option maxHeartbeats 4000000 in
theorem lp_X4_fp2 {E : mE} {h : mH} {cu n s r : Nat} (e19 : h 19 = oTell cu) (hs : s < 65536) : ∀ (k i : Nat), i + k = 16 → mG E (mR 2, zX4_fewestPastes) (mKq E (mR 2) mN (mX (some (.int (nI cu - nI (mxs s 16)))) h)) 45 [some (.ref 19), some (vN n), some (vN s), some (vN r), some (vN (mxs s i)), some (vN i)] [] (mN, 0, 0) h := by
  intro k
  induction k with
  | zero =>
    intro i hk
    refine mG_iload dX4_fewestPastes_45 rfl ?_
    refine mG_bipush (v := nI 16) dX4_fewestPastes_47 (by decide) ?_
    refine mG_icmp_geN dX4_fewestPastes_49 (by omega) (by omega) (fun c49 => ?_) (fun c49 => absurd c49 (by omega))
    refine mG_aload_n dX4_fewestPastes_80 rfl ?_
    refine mG_get fX4_21 dX4_fewestPastes_81 e19 (Nat.le_of_ble_eq_true rfl) rfl ?_
    refine mG_iload dX4_fewestPastes_84 rfl ?_
    refine mG_isub dX4_fewestPastes_86 ?_
    exact mG_iret dX4_fewestPastes_87 rfl (mX_of (by rw [show i = 16 by omega]) rfl)
  | succ k ih =>
    intro i hk
    refine mG_iload dX4_fewestPastes_45 rfl ?_
    refine mG_bipush (v := nI 16) dX4_fewestPastes_47 (by decide) ?_
    have hb : s >>> i &&& 1 ≤ 1 := Nat.and_le_right
    have hm := mxs_le s i
    have hp := popc_le i 10
    refine mG_icmp_geN dX4_fewestPastes_49 (by omega) (by omega) (fun c49 => absurd c49 (by omega)) (fun c49 => ?_)
    refine mG_iload_n dX4_fewestPastes_52 rfl ?_
    refine mG_iload dX4_fewestPastes_53 rfl ?_
    refine mG_ishrN dX4_fewestPastes_55 (by omega) (by omega) ?_
    refine mG_iconst (v := nI 1) dX4_fewestPastes_56 (by decide) ?_
    refine mG_iandN dX4_fewestPastes_57 ?_
    refine mG_iconst (v := nI 1) dX4_fewestPastes_58 (by decide) ?_
    refine mG_icmp_neN dX4_fewestPastes_59 (by omega) (by omega) (fun c59 => ?_) (fun c59 => ?_)
    · refine mG_iincN dX4_fewestPastes_74 rfl (Nat.le_of_ble_eq_true rfl) rfl rfl ?_
      refine mG_goto dX4_fewestPastes_77 ?_
      have q := ih (i + 1) (by omega)
      simp only [mxs, c59, if_true, if_false] at q
      exact q
    · refine mG_iload dX4_fewestPastes_62 rfl ?_
      refine mG_iload dX4_fewestPastes_64 rfl ?_
      refine mG_cs1 sX4_54 dX4_fewestPastes_66 (mLe_of rfl) (Nat.le_of_ble_eq_true rfl) (ok_bitCount (by omega)) ?_
      refine mG_mmaxN dX4_fewestPastes_69 aX4_60 w_max.1 w_max.2.1 w_max.2.2 (by decide) (Nat.le_of_ble_eq_true rfl) (Nat.zero_le _) (Nat.zero_le _) (by omega) (by omega) ?_
      refine mG_istore dX4_fewestPastes_72 (Nat.le_of_ble_eq_true rfl) rfl rfl ?_
      refine mG_iincN dX4_fewestPastes_74 rfl (Nat.le_of_ble_eq_true rfl) rfl rfl ?_
      refine mG_goto dX4_fewestPastes_77 ?_
      have q := ih (i + 1) (by omega)
      simp only [mxs, c59, if_true, if_false] at q
      exact q
set_option maxRecDepth 100000 in
set_option maxHeartbeats 4000000 in
theorem lp_X4_fp1 {E : mE} {h : mH} {cu n T : Nat} {cw : Nat → Nat} {x5 : Option Value} (e19 : h 19 = oTell cu) (e20 : h 20 = mAr 10 cw) (hc : cu ≤ 4) (hw : ∀ j, j < 10 → cw j < 16) (hTl : T < 65536) : ∀ (k i s r : Nat), i + k = cu → s < 65536 → r < 2 ^ 31 → T = fpS cw cu k s r → mG E (mR 2, zX4_fewestPastes) (mKq E (mR 2) mN (mX (some (.int (nI cu - nI (mxs T 16)))) h)) 7 [some (.ref 19), some (vN n), some (vN s), some (vN r), some (vN i), x5] [] (mN, 0, 0) h := by
  intro k
  induction k with
  | zero =>
    intro i s r hk hs hr hT
    refine mG_iload dX4_fewestPastes_7 rfl ?_
    refine mG_aload_n dX4_fewestPastes_9 rfl ?_
    refine mG_get fX4_21 dX4_fewestPastes_10 e19 (Nat.le_of_ble_eq_true rfl) rfl ?_
    obtain rfl : T = s := hT
    refine mG_icmp_geN dX4_fewestPastes_13 (by omega) (by omega) (fun c13 => ?_) (fun c13 => absurd c13 (by omega))
    refine mG_iconst (v := nI 0) dX4_fewestPastes_39 (by decide) ?_
    refine mG_istore dX4_fewestPastes_40 (Nat.le_of_ble_eq_true rfl) rfl rfl ?_
    refine mG_iconst (v := nI 0) dX4_fewestPastes_42 (by decide) ?_
    refine mG_istore dX4_fewestPastes_43 (Nat.le_of_ble_eq_true rfl) rfl rfl ?_
    exact lp_X4_fp2 e19 hTl 16 0 rfl
  | succ k ih =>
    intro i s r hk hs hr hT
    refine mG_iload dX4_fewestPastes_7 rfl ?_
    refine mG_aload_n dX4_fewestPastes_9 rfl ?_
    refine mG_get fX4_21 dX4_fewestPastes_10 e19 (Nat.le_of_ble_eq_true rfl) rfl ?_
    refine mG_icmp_geN dX4_fewestPastes_13 (by omega) (by omega) (fun c13 => absurd c13 (by omega)) (fun c13 => ?_)
    refine mG_iload_n dX4_fewestPastes_16 rfl ?_
    refine mG_aload_n dX4_fewestPastes_17 rfl ?_
    refine mG_iload_n dX4_fewestPastes_18 rfl ?_
    refine mG_iload_n dX4_fewestPastes_19 rfl ?_
    refine mG_bipush (v := nI 10) dX4_fewestPastes_20 (by decide) ?_
    refine mG_iremN dX4_fewestPastes_22 (by omega) (by omega) (by omega) ?_
    refine mG_cv2 vX4_37 dX4_fewestPastes_23 (mLe_of rfl) (Nat.le_of_ble_eq_true rfl) e19 (Nat.le_of_ble_eq_true rfl) (ok_X4_one e19 e20 hc hs (by omega) (hw _ (by omega))) ?_
    refine mG_iorN dX4_fewestPastes_26 ?_
    refine mG_istore_n dX4_fewestPastes_27 (Nat.le_of_ble_eq_true rfl) rfl rfl ?_
    refine mG_iload_n dX4_fewestPastes_28 rfl ?_
    refine mG_bipush (v := nI 10) dX4_fewestPastes_29 (by decide) ?_
    refine mG_idivN dX4_fewestPastes_31 (by omega) (by omega) (by omega) ?_
    refine mG_istore_n dX4_fewestPastes_32 (Nat.le_of_ble_eq_true rfl) rfl rfl ?_
    refine mG_iincN dX4_fewestPastes_33 rfl (Nat.le_of_ble_eq_true rfl) rfl rfl ?_
    refine mG_goto dX4_fewestPastes_36 ?_
    exact ih (i + 1) _ _ (by omega) (Nat.or_lt_two_pow (n := 16) hs (wom_lt _ _ _ _ hc)) (by omega) hT
set_option maxRecDepth 100000 in
set_option maxHeartbeats 4000000 in
theorem ok_X4_fp {E : mE} {h : mH} {cu n : Nat} {cw : Nat → Nat} (e19 : h 19 = oTell cu) (e20 : h 20 = mAr 10 cw) (hc : cu ≤ 4) (hw : ∀ j, j < 10 → cw j < 16) (hn : n < 2 ^ 31) : mOk E 2 zX4_fewestPastes [.ref 19, vN n] h (mX (some (.int (nI cu - nI (mxs (fpS cw cu cu 1 n) 16)))) h) := by
  refine mOk_w (L := [some (.ref 19), some (vN n), none, none, none, none]) pn_X4 rfl (Nat.le_of_ble_eq_true rfl) rfl ?_
  refine mG_iconst (v := nI 1) dX4_fewestPastes_0 (by decide) ?_
  refine mG_istore_n dX4_fewestPastes_1 (Nat.le_of_ble_eq_true rfl) rfl rfl ?_
  refine mG_iload_n dX4_fewestPastes_2 rfl ?_
  refine mG_istore_n dX4_fewestPastes_3 (Nat.le_of_ble_eq_true rfl) rfl rfl ?_
  refine mG_iconst (v := nI 0) dX4_fewestPastes_4 (by decide) ?_
  refine mG_istore dX4_fewestPastes_5 (Nat.le_of_ble_eq_true rfl) rfl rfl ?_
  exact lp_X4_fp1 e19 e20 hc hw (fpS_lt cw hc _ _ _ (by decide)) cu 0 1 n (Nat.zero_add _) (by decide) hn rfl
end
section
/-- MANY: numbers whose figures never fall, from so many on, each for all its orders -/
def mnF (cw : Nat → Nat) (cu : Nat) : Nat → Nat → Nat → Nat → Nat → Nat → Nat
  | 0, _, s, _, _, ord => if s = 0 then 0 else ord
  | r + 1, len, s, last, alike, ord => if s = 0 then 0 else sumF (fun fg => mnF cw cu r (len + 1) (wom cw s fg cu) fg (if fg = last then alike + 1 else 1) (ord * (len + 1) / (if fg = last then alike + 1 else 1))) last (10 - last)
theorem ord_le {ord len run : Nat} (ho : ord ≤ 4 ^ len) (hl : len < 4) : ord * (len + 1) ≤ 1024 ∧ ord * (len + 1) / run ≤ 4 ^ (len + 1) := by
  have h1 : ord * (len + 1) ≤ 4 ^ len * 4 := Nat.mul_le_mul ho (by omega)
  have h2 : 4 ^ len ≤ 4 ^ 3 := Nat.pow_le_pow_right (by decide) (by omega)
  have h3 : ord * (len + 1) / run ≤ ord * (len + 1) := Nat.div_le_self _ _
  rw [Nat.pow_succ]
  omega
set_option maxRecDepth 100000 in
set_option maxHeartbeats 4000000 in
theorem lp_X4_mF {E : mE} {h : mH} {cu r len s last alike ord T : Nat} {cw : Nat → Nat} {G : Nat → Nat → Nat → Nat → Nat} (e19 : h 19 = oTell cu) (e20 : h 20 = mAr 10 cw) (hc : cu ≤ 4) (hw : ∀ j, j < 10 → cw j < 16) (hl : len < cu) (hs : s < 65536) (hla : last < 10) (hal : alike ≤ len) (ho : ord ≤ 4 ^ len) (hrec : ∀ s last alike ord, s < 65536 → last < 10 → alike ≤ len + 1 → ord ≤ 4 ^ (len + 1) → mOk E (r + 2) zX4_manyFrom [.ref 19, vN (len + 1), vN s, vN last, vN alike, vN ord] h (mX (some (vN (G s last alike ord))) h)) : ∀ (k i m : Nat) (x8 x9 : Option Value), i + k = 10 → last ≤ i → mOkS [x8] 1 = true → mOkS [x9] 1 = true → T = m + sumF (fun fg => G (wom cw s fg cu) fg (if fg = last then alike + 1 else 1) (ord * (len + 1) / (if fg = last then alike + 1 else 1))) i k → mG E (mR (r + 3), zX4_manyFrom) (mKq E (mR (r + 3)) mN (mX (some (vN T)) h)) 23 [some (.ref 19), some (vN len), some (vN s), some (vN last), some (vN alike), some (vN ord), some (vN m), some (vN i), x8, x9] [] (mN, 0, 0) h := by
  intro k
  induction k with
  | zero =>
    intro i m x8 x9 hk hi hx8 hx9 hT
    refine mG_iload dX4_manyFrom_23 rfl ?_
    refine mG_bipush (v := nI 10) dX4_manyFrom_25 (by decide) ?_
    refine mG_icmp_geN dX4_manyFrom_27 (by omega) (by omega) (fun c27 => ?_) (fun c27 => absurd c27 (by omega))
    refine mG_iload dX4_manyFrom_88 rfl ?_
    exact mG_iret dX4_manyFrom_90 rfl (mX_of (by rw [hT]; simp [sumF]) rfl)
  | succ k ih =>
    intro i m x8 x9 hk hi hx8 hx9 hT
    refine mG_iload dX4_manyFrom_23 rfl ?_
    refine mG_bipush (v := nI 10) dX4_manyFrom_25 (by decide) ?_
    refine mG_icmp_geN dX4_manyFrom_27 (by omega) (by omega) (fun c27 => absurd c27 (by omega)) (fun c27 => ?_)
    refine mG_iload dX4_manyFrom_30 rfl ?_
    refine mG_iload_n dX4_manyFrom_32 rfl ?_
    have hb := ord_le (run := if i = last then alike + 1 else 1) ho (show len < 4 by omega)
    refine mG_icmp_neN dX4_manyFrom_33 (by omega) (by omega) (fun c33 => ?_) (fun c33 => ?_)
    · refine mG_iconst (v := nI 1) dX4_manyFrom_43 (by decide) ?_
      refine mG_istore dX4_manyFrom_44 (Nat.le_of_ble_eq_true rfl) rfl rfl ?_
      refine mG_iload dX4_manyFrom_46 rfl ?_
      refine mG_iload_n dX4_manyFrom_48 rfl ?_
      refine mG_iconst (v := nI 1) dX4_manyFrom_49 (by decide) ?_
      refine mG_iaddN dX4_manyFrom_50 ?_
      refine mG_imulN dX4_manyFrom_51 ?_
      refine mG_iload dX4_manyFrom_52 rfl ?_
      refine mG_idivN dX4_manyFrom_54 (by omega) (by omega) (by omega) ?_
      refine mG_istore dX4_manyFrom_55 (Nat.le_of_ble_eq_true rfl) rfl rfl ?_
      refine mG_iload dX4_manyFrom_57 rfl ?_
      refine mG_aload_n dX4_manyFrom_59 rfl ?_
      refine mG_iload_n dX4_manyFrom_60 rfl ?_
      refine mG_iconst (v := nI 1) dX4_manyFrom_61 (by decide) ?_
      refine mG_iaddN dX4_manyFrom_62 ?_
      refine mG_aload_n dX4_manyFrom_63 rfl ?_
      refine mG_iload_n dX4_manyFrom_64 rfl ?_
      refine mG_iload dX4_manyFrom_65 rfl ?_
      refine mG_cv2 vX4_37 dX4_manyFrom_67 (mLe_s (by omega) (by decide)) (Nat.le_of_ble_eq_true rfl) e19 (Nat.le_of_ble_eq_true rfl) (ok_X4_one e19 e20 hc hs (by omega) (hw _ (by omega))) ?_
      refine mG_iload dX4_manyFrom_70 rfl ?_
      refine mG_iload dX4_manyFrom_72 rfl ?_
      refine mG_iload dX4_manyFrom_74 rfl ?_
      refine mG_cv5 vX4_65 dX4_manyFrom_76 (mLe_s (by omega) (by decide)) (Nat.le_of_ble_eq_true rfl) e19 (Nat.le_of_ble_eq_true rfl) (hrec _ _ _ _ (wom_lt _ _ _ _ hc) (by omega) (by omega) (by first | (rw [if_neg c33] at hb; exact hb.2) | (rw [if_pos c33] at hb; exact hb.2))) ?_
      refine mG_iaddN dX4_manyFrom_79 ?_
      refine mG_istore dX4_manyFrom_80 (Nat.le_of_ble_eq_true rfl) rfl rfl ?_
      refine mG_iincN dX4_manyFrom_82 rfl (Nat.le_of_ble_eq_true rfl) rfl rfl ?_
      refine mG_goto dX4_manyFrom_85 ?_
      refine ih (i + 1) _ _ _ (by omega) (by omega) rfl rfl ?_
      rw [hT]
      first
        | (simp only [sumF, if_neg c33]; omega)
        | (simp only [sumF, if_pos c33]; omega)
    · refine mG_iload dX4_manyFrom_36 rfl ?_
      refine mG_iconst (v := nI 1) dX4_manyFrom_38 (by decide) ?_
      refine mG_iaddN dX4_manyFrom_39 ?_
      refine mG_goto dX4_manyFrom_40 ?_
      refine mG_istore dX4_manyFrom_44 (Nat.le_of_ble_eq_true rfl) rfl rfl ?_
      refine mG_iload dX4_manyFrom_46 rfl ?_
      refine mG_iload_n dX4_manyFrom_48 rfl ?_
      refine mG_iconst (v := nI 1) dX4_manyFrom_49 (by decide) ?_
      refine mG_iaddN dX4_manyFrom_50 ?_
      refine mG_imulN dX4_manyFrom_51 ?_
      refine mG_iload dX4_manyFrom_52 rfl ?_
      refine mG_idivN dX4_manyFrom_54 (by omega) (by omega) (by omega) ?_
      refine mG_istore dX4_manyFrom_55 (Nat.le_of_ble_eq_true rfl) rfl rfl ?_
      refine mG_iload dX4_manyFrom_57 rfl ?_
      refine mG_aload_n dX4_manyFrom_59 rfl ?_
      refine mG_iload_n dX4_manyFrom_60 rfl ?_
      refine mG_iconst (v := nI 1) dX4_manyFrom_61 (by decide) ?_
      refine mG_iaddN dX4_manyFrom_62 ?_
      refine mG_aload_n dX4_manyFrom_63 rfl ?_
      refine mG_iload_n dX4_manyFrom_64 rfl ?_
      refine mG_iload dX4_manyFrom_65 rfl ?_
      refine mG_cv2 vX4_37 dX4_manyFrom_67 (mLe_s (by omega) (by decide)) (Nat.le_of_ble_eq_true rfl) e19 (Nat.le_of_ble_eq_true rfl) (ok_X4_one e19 e20 hc hs (by omega) (hw _ (by omega))) ?_
      refine mG_iload dX4_manyFrom_70 rfl ?_
      refine mG_iload dX4_manyFrom_72 rfl ?_
      refine mG_iload dX4_manyFrom_74 rfl ?_
      refine mG_cv5 vX4_65 dX4_manyFrom_76 (mLe_s (by omega) (by decide)) (Nat.le_of_ble_eq_true rfl) e19 (Nat.le_of_ble_eq_true rfl) (hrec _ _ _ _ (wom_lt _ _ _ _ hc) (by omega) (by omega) (by first | (rw [if_neg c33] at hb; exact hb.2) | (rw [if_pos c33] at hb; exact hb.2))) ?_
      refine mG_iaddN dX4_manyFrom_79 ?_
      refine mG_istore dX4_manyFrom_80 (Nat.le_of_ble_eq_true rfl) rfl rfl ?_
      refine mG_iincN dX4_manyFrom_82 rfl (Nat.le_of_ble_eq_true rfl) rfl rfl ?_
      refine mG_goto dX4_manyFrom_85 ?_
      refine ih (i + 1) _ _ _ (by omega) (by omega) rfl rfl ?_
      rw [hT]
      first
        | (simp only [sumF, if_neg c33]; omega)
        | (simp only [sumF, if_pos c33]; omega)
set_option maxRecDepth 100000 in
set_option maxHeartbeats 4000000 in
theorem ok_X4_manyFrom {E : mE} {h : mH} {cu : Nat} {cw : Nat → Nat} (e19 : h 19 = oTell cu) (e20 : h 20 = mAr 10 cw) (hc : cu ≤ 4) (hw : ∀ j, j < 10 → cw j < 16) : ∀ (r len s last alike ord : Nat), len + r = cu → s < 65536 → last < 10 → alike ≤ len → ord ≤ 4 ^ len → mOk E (r + 2) zX4_manyFrom [.ref 19, vN len, vN s, vN last, vN alike, vN ord] h (mX (some (vN (mnF cw cu r len s last alike ord))) h) := by
  intro r
  induction r with
  | zero =>
    intro len s last alike ord hk hs hla hal ho
    refine mOk_w (L := [some (.ref 19), some (vN len), some (vN s), some (vN last), some (vN alike), some (vN ord), none, none, none, none]) pn_X4 rfl (Nat.le_of_ble_eq_true rfl) rfl ?_
    refine mG_iload_n dX4_manyFrom_0 rfl ?_
    refine mG_if_neN dX4_manyFrom_1 (by omega) (fun c1 => ?_) (fun c1 => ?_)
    · refine mG_iload_n dX4_manyFrom_6 rfl ?_
      refine mG_aload_n dX4_manyFrom_7 rfl ?_
      refine mG_get fX4_21 dX4_manyFrom_8 e19 (Nat.le_of_ble_eq_true rfl) rfl ?_
      refine mG_icmp_ltN dX4_manyFrom_11 (by omega) (by omega) (fun c11 => absurd c11 (by omega)) (fun c11 => ?_)
      refine mG_iload dX4_manyFrom_14 rfl ?_
      exact mG_iret dX4_manyFrom_16 rfl (mX_of (by simp [mnF, c1]) rfl)
    · refine mG_iconst (v := nI 0) dX4_manyFrom_4 (by decide) ?_
      exact mG_iret dX4_manyFrom_5 rfl (mX_of (by simp [mnF, c1]) rfl)
  | succ r ih =>
    intro len s last alike ord hk hs hla hal ho
    refine mOk_w (L := [some (.ref 19), some (vN len), some (vN s), some (vN last), some (vN alike), some (vN ord), none, none, none, none]) pn_X4 rfl (Nat.le_of_ble_eq_true rfl) rfl ?_
    refine mG_iload_n dX4_manyFrom_0 rfl ?_
    refine mG_if_neN dX4_manyFrom_1 (by omega) (fun c1 => ?_) (fun c1 => ?_)
    · refine mG_iload_n dX4_manyFrom_6 rfl ?_
      refine mG_aload_n dX4_manyFrom_7 rfl ?_
      refine mG_get fX4_21 dX4_manyFrom_8 e19 (Nat.le_of_ble_eq_true rfl) rfl ?_
      refine mG_icmp_ltN dX4_manyFrom_11 (by omega) (by omega) (fun c11 => ?_) (fun c11 => absurd c11 (by omega))
      refine mG_iconst (v := nI 0) dX4_manyFrom_17 (by decide) ?_
      refine mG_istore dX4_manyFrom_18 (Nat.le_of_ble_eq_true rfl) rfl rfl ?_
      refine mG_iload_n dX4_manyFrom_20 rfl ?_
      refine mG_istore dX4_manyFrom_21 (Nat.le_of_ble_eq_true rfl) rfl rfl ?_
      exact lp_X4_mF (G := mnF cw cu r (len + 1)) e19 e20 hc hw (by omega) hs hla hal ho (fun s' l' a' o' q1 q2 q3 q4 => ih (len + 1) s' l' a' o' (by omega) q1 q2 q3 q4) (10 - last) last 0 none none (by omega) (Nat.le_refl _) rfl rfl (by simp [mnF, c1])
    · refine mG_iconst (v := nI 0) dX4_manyFrom_4 (by decide) ?_
      exact mG_iret dX4_manyFrom_5 rfl (mX_of (by simp [mnF, c1]) rfl)
set_option maxRecDepth 100000 in
set_option maxHeartbeats 4000000 in
theorem ok_X4_many {E : mE} {h : mH} {cu : Nat} {cw : Nat → Nat} (e19 : h 19 = oTell cu) (e20 : h 20 = mAr 10 cw) (hc : cu ≤ 4) (hw : ∀ j, j < 10 → cw j < 16) : mOk E 7 zX4_many [.ref 19] h (mX (some (vN (mnF cw cu cu 0 1 0 0 1))) h) := by
  refine mOk_w (L := [some (.ref 19)]) pn_X4 rfl (Nat.le_of_ble_eq_true rfl) rfl ?_
  refine mG_aload_n dX4_many_0 rfl ?_
  refine mG_iconst (v := nI 0) dX4_many_1 (by decide) ?_
  refine mG_iconst (v := nI 1) dX4_many_2 (by decide) ?_
  refine mG_iconst (v := nI 0) dX4_many_3 (by decide) ?_
  refine mG_iconst (v := nI 0) dX4_many_4 (by decide) ?_
  refine mG_iconst (v := nI 1) dX4_many_5 (by decide) ?_
  refine mG_cv5 vX4_65 dX4_many_6 (mLe_s (by omega) (by decide)) (Nat.le_of_ble_eq_true rfl) e19 (Nat.le_of_ble_eq_true rfl) (ok_X4_manyFrom e19 e20 hc hw cu 0 1 0 0 1 (Nat.zero_add _) (by decide) (by decide) (Nat.le_refl _) (by decide)) ?_
  exact mG_iret dX4_many_9 rfl (mX_of rfl rfl)
/-- which CUBES have a FIGURE on a SIDE (as bits), a SIDE being blank -/
def cwA (nf : Nat → Nat) (bl : Int32) : Nat → Nat → Nat
  | 0 => fun _ => 0
  | i + 1 => if nI i = bl then cwA nf bl i else mUp (cwA nf bl i) (nf i) (cwA nf bl i (nf i) ||| 1 <<< (i / 6))
def cwB (bo : Bool) (g : Nat → Nat) : Nat → Nat := if bo = true then mUp (mUp g 6 (g 6 ||| g 9)) 9 (mUp g 6 (g 6 ||| g 9) 6) else g
def cwT (nf : Nat → Nat) (bo : Bool) (bl : Int32) (cu : Nat) : Nat → Nat := cwB bo (cwA nf bl (cu * 6))
theorem cwA_lt (nf : Nat → Nat) (bl : Int32) : ∀ i, i ≤ 24 → ∀ j, cwA nf bl i j < 16 := by
  intro i
  induction i with
  | zero => intro _ j; show (0 : Nat) < 16; decide
  | succ i ih =>
    intro hi j
    unfold cwA
    split
    · exact ih (by omega) j
    · by_cases q : j = nf i
      · rw [q, mUp_eq]
        refine Nat.or_lt_two_pow (n := 4) (ih (by omega) _) ?_
        rw [Nat.one_shiftLeft]
        exact Nat.pow_lt_pow_right (by decide) (by omega)
      · rw [mUp_ne _ _ q]
        exact ih (by omega) j
theorem cwT_lt (nf : Nat → Nat) (bo : Bool) (bl : Int32) {cu : Nat} (hc : cu ≤ 4) (j : Nat) : cwT nf bo bl cu j < 16 := by
  have h1 := cwA_lt nf bl (cu * 6) (by omega)
  unfold cwT cwB
  split
  · have h2 : cwA nf bl (cu * 6) 6 ||| cwA nf bl (cu * 6) 9 < 16 := Nat.or_lt_two_pow (n := 4) (h1 6) (h1 9)
    by_cases q : j = 9
    · rw [q, mUp_eq, mUp_eq]; exact h2
    · rw [mUp_ne _ _ q]
      by_cases q6 : j = 6
      · rw [q6, mUp_eq]; exact h2
      · rw [mUp_ne _ _ q6]; exact h1 j
  · exact h1 j
set_option maxRecDepth 100000 in
set_option maxHeartbeats 4000000 in
theorem lp_X4_take {E : mE} {h : mH} {cu dc it dn wk : Nat} {bo : Bool} {nf : Nat → Nat} {bl : Int32} (e3 : h 3 = oTold cu dc it bo) (e9 : h 9 = oNow dn wk) (e10 : h 10 = mAr 24 nf) (hc : cu ≤ 4) (hf : ∀ j, j < cu * 6 → nf j < 10) : ∀ (k i : Nat), i + k = cu * 6 → mG E (mR 2, zX4_take) (mKq E (mR 2) mN (mX none (mU (mU h 19 (oTell cu)) 20 (mAr 10 (cwT nf bo bl cu))))) 19 [some (.ref 19), some (.ref 3), some (.ref 9), some (.int bl), some (vN i)] [] (mN, 0, 0) (mU (mU h 19 (oTell cu)) 20 (mAr 10 (cwA nf bl i))) := by
  intro k
  induction k with
  | zero =>
    intro i hk
    refine mG_iload dX4_take_19 rfl ?_
    refine mG_aload_n dX4_take_21 rfl ?_
    refine mG_get fX4_21 dX4_take_22 rfl (Nat.le_of_ble_eq_true rfl) rfl ?_
    refine mG_bipush (v := nI 6) dX4_take_25 (by decide) ?_
    refine mG_imulN dX4_take_27 ?_
    refine mG_icmp_geN dX4_take_28 (by omega) (by omega) (fun c28 => ?_) (fun c28 => absurd c28 (by omega))
    refine mG_aload_n dX4_take_65 rfl ?_
    refine mG_get fX4_33 dX4_take_66 e3 (Nat.le_of_ble_eq_true rfl) rfl ?_
    refine mG_if_eqB dX4_take_69 (fun c69 => ?_) (fun c69 => ?_)
    · exact mG_vret dX4_take_103 rfl (mX_of rfl (by rw [show i = cu * 6 by omega]; first | (simp only [mU_same, cwT, cwB, c69]; rfl) | simp [cwT, cwB, c69]))
    · refine mG_aload_n dX4_take_72 rfl ?_
      refine mG_get fX4_9 dX4_take_73 rfl (Nat.le_of_ble_eq_true rfl) rfl ?_
      refine mG_bipush (v := nI 6) dX4_take_76 (by decide) ?_
      refine mG_dup2 dX4_take_78 rfl rfl ?_
      refine mG_ialdA dX4_take_79 rfl (Nat.le_of_ble_eq_true rfl) (by decide) (by omega) ?_
      refine mG_aload_n dX4_take_80 rfl ?_
      refine mG_get fX4_9 dX4_take_81 rfl (Nat.le_of_ble_eq_true rfl) rfl ?_
      refine mG_bipush (v := nI 9) dX4_take_84 (by decide) ?_
      refine mG_ialdA dX4_take_86 rfl (Nat.le_of_ble_eq_true rfl) (by decide) (by omega) ?_
      refine mG_iorN dX4_take_87 ?_
      refine mG_iastA dX4_take_88 rfl (Nat.le_of_ble_eq_true rfl) (by decide) (by omega) ?_
      refine mG_aload_n dX4_take_89 rfl ?_
      refine mG_get fX4_9 dX4_take_90 rfl (Nat.le_of_ble_eq_true rfl) rfl ?_
      refine mG_bipush (v := nI 9) dX4_take_93 (by decide) ?_
      refine mG_aload_n dX4_take_95 rfl ?_
      refine mG_get fX4_9 dX4_take_96 rfl (Nat.le_of_ble_eq_true rfl) rfl ?_
      refine mG_bipush (v := nI 6) dX4_take_99 (by decide) ?_
      refine mG_ialdA dX4_take_101 rfl (Nat.le_of_ble_eq_true rfl) (by decide) (by omega) ?_
      refine mG_iastA dX4_take_102 rfl (Nat.le_of_ble_eq_true rfl) (by decide) (by omega) ?_
      exact mG_vret dX4_take_103 rfl (mX_of rfl (by rw [show i = cu * 6 by omega]; first | (simp only [mU_same, cwT, cwB, c69]; rfl) | simp [cwT, cwB, c69]))
  | succ k ih =>
    intro i hk
    refine mG_iload dX4_take_19 rfl ?_
    refine mG_aload_n dX4_take_21 rfl ?_
    refine mG_get fX4_21 dX4_take_22 rfl (Nat.le_of_ble_eq_true rfl) rfl ?_
    refine mG_bipush (v := nI 6) dX4_take_25 (by decide) ?_
    refine mG_imulN dX4_take_27 ?_
    have hfi := hf i (by omega)
    refine mG_icmp_geN dX4_take_28 (by omega) (by omega) (fun c28 => absurd c28 (by omega)) (fun c28 => ?_)
    refine mG_iload dX4_take_31 rfl ?_
    refine mG_iload_n dX4_take_33 rfl ?_
    refine mG_icmp_eq dX4_take_34 (fun c34 => ?_) (fun c34 => ?_)
    · refine mG_iincN dX4_take_59 rfl (Nat.le_of_ble_eq_true rfl) rfl rfl ?_
      refine mG_goto dX4_take_62 ?_
      have q := ih (i + 1) (by omega)
      first
        | (simp only [cwA, if_pos c34] at q; exact q)
        | (rw [mU_same]; simp only [cwA, if_neg c34] at q; exact q)
    · refine mG_aload_n dX4_take_37 rfl ?_
      refine mG_get fX4_9 dX4_take_38 rfl (Nat.le_of_ble_eq_true rfl) rfl ?_
      refine mG_aload_n dX4_take_41 rfl ?_
      refine mG_get fX4_28 dX4_take_42 e9 (Nat.le_of_ble_eq_true rfl) rfl ?_
      refine mG_iload dX4_take_45 rfl ?_
      refine mG_ialdA dX4_take_47 e10 (Nat.le_of_ble_eq_true rfl) (by decide) (by omega) ?_
      refine mG_dup2 dX4_take_48 rfl rfl ?_
      refine mG_ialdA dX4_take_49 rfl (Nat.le_of_ble_eq_true rfl) (by decide) (by omega) ?_
      refine mG_iconst (v := nI 1) dX4_take_50 (by decide) ?_
      refine mG_iload dX4_take_51 rfl ?_
      refine mG_bipush (v := nI 6) dX4_take_53 (by decide) ?_
      refine mG_idivN dX4_take_55 (by omega) (by omega) (by omega) ?_
      refine mG_ishlN dX4_take_56 (by omega) (shl1_lt2 (by omega)) ?_
      refine mG_iorN dX4_take_57 ?_
      refine mG_iastA dX4_take_58 rfl (Nat.le_of_ble_eq_true rfl) (by decide) (by omega) ?_
      refine mG_iincN dX4_take_59 rfl (Nat.le_of_ble_eq_true rfl) rfl rfl ?_
      refine mG_goto dX4_take_62 ?_
      have q := ih (i + 1) (by omega)
      first
        | (simp only [cwA, if_pos c34] at q; exact q)
        | (rw [mU_same]; simp only [cwA, if_neg c34] at q; exact q)
set_option maxRecDepth 100000 in
set_option maxHeartbeats 4000000 in
theorem ok_X4_take {E : mE} {h : mH} {cu dc it dn wk c0 : Nat} {bo : Bool} {nf g0 : Nat → Nat} {bl : Int32} (e3 : h 3 = oTold cu dc it bo) (e9 : h 9 = oNow dn wk) (e10 : h 10 = mAr 24 nf) (e19 : h 19 = oTell c0) (e20 : h 20 = mAr 10 g0) (hc : cu ≤ 4) (hf : ∀ j, j < cu * 6 → nf j < 10) : mOk E 2 zX4_take [.ref 19, .ref 3, .ref 9, .int bl] h (mX none (mU (mU h 19 (oTell cu)) 20 (mAr 10 (cwT nf bo bl cu)))) := by
  refine mOk_w (L := [some (.ref 19), some (.ref 3), some (.ref 9), some (.int bl), none]) pn_X4 rfl (Nat.le_of_ble_eq_true rfl) rfl ?_
  refine mG_aload_n dX4_take_0 rfl ?_
  refine mG_aload_n dX4_take_1 rfl ?_
  refine mG_get fX4_15 dX4_take_2 e3 (Nat.le_of_ble_eq_true rfl) rfl ?_
  refine mG_putI pX4_21 dX4_take_5 e19 (Nat.le_of_ble_eq_true rfl) (Nat.le_of_ble_eq_true rfl) ?_
  refine mG_aload_n dX4_take_8 rfl ?_
  refine mG_get fX4_9 dX4_take_9 rfl (Nat.le_of_ble_eq_true rfl) rfl ?_
  refine mG_iconst (v := nI 0) dX4_take_12 (by decide) ?_
  refine mG_ct2 sX4_22 dX4_take_13 (mLe_of rfl) (Nat.le_of_ble_eq_true rfl) (ok_fill20 e20) ?_
  refine mG_iconst (v := nI 0) dX4_take_16 (by decide) ?_
  refine mG_istore dX4_take_17 (Nat.le_of_ble_eq_true rfl) rfl rfl ?_
  exact lp_X4_take e3 e9 e10 hc hf (cu * 6) 0 (Nat.zero_add _)
end
