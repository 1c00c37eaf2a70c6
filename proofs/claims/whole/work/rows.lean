section
/-- a private method of a class that the tables say can be made, by its rows of tables_1 -/
def lw_okq (q : MethodName × Nat) : Prop := (q.1.cls ≠ "java/lang/invoke/MethodHandle" ∧ q.1.cls ≠ "java/lang/invoke/VarHandle") ∧ Cond.instantiable q.1.cls q.2 ∈ tables_1 ∧ Cond.privateMethod q.1 ∈ tables_1 ∧ Cond.instanceMethod q.1 ∈ tables_1
theorem lw_p0 : lw_okq (⟨"DayCubes$Reader", "nextToken", "()V"⟩, 6) := ⟨⟨by decide +kernel, by decide +kernel⟩, List.mem_of_getElem? (i := 23) (by decide +kernel), List.mem_of_getElem? (i := 282) (by decide +kernel), List.mem_of_getElem? (i := 283) (by decide +kernel)⟩
theorem lw_p1 : lw_okq (⟨"DayCubes$Reader", "takeLetters", "()V"⟩, 6) := ⟨⟨by decide +kernel, by decide +kernel⟩, List.mem_of_getElem? (i := 23) (by decide +kernel), List.mem_of_getElem? (i := 289) (by decide +kernel), List.mem_of_getElem? (i := 290) (by decide +kernel)⟩
theorem lw_p2 : lw_okq (⟨"DayCubes$Reader", "takeDigits", "()V"⟩, 6) := ⟨⟨by decide +kernel, by decide +kernel⟩, List.mem_of_getElem? (i := 23) (by decide +kernel), List.mem_of_getElem? (i := 296) (by decide +kernel), List.mem_of_getElem? (i := 297) (by decide +kernel)⟩
theorem lw_p3 : lw_okq (⟨"DayCubes$Reader", "readItem", "(LDayCubes$Told;)Z"⟩, 6) := ⟨⟨by decide +kernel, by decide +kernel⟩, List.mem_of_getElem? (i := 23) (by decide +kernel), List.mem_of_getElem? (i := 303) (by decide +kernel), List.mem_of_getElem? (i := 304) (by decide +kernel)⟩
theorem lw_p4 : lw_okq (⟨"DayCubes$Reader", "readBoth", "(LDayCubes$Told;)Z"⟩, 6) := ⟨⟨by decide +kernel, by decide +kernel⟩, List.mem_of_getElem? (i := 23) (by decide +kernel), List.mem_of_getElem? (i := 307) (by decide +kernel), List.mem_of_getElem? (i := 308) (by decide +kernel)⟩
theorem lw_p5 : lw_okq (⟨"DayCubes$Reader", "readCube", "(LDayCubes$Told;)Z"⟩, 6) := ⟨⟨by decide +kernel, by decide +kernel⟩, List.mem_of_getElem? (i := 23) (by decide +kernel), List.mem_of_getElem? (i := 311) (by decide +kernel), List.mem_of_getElem? (i := 312) (by decide +kernel)⟩
theorem lw_p6 : lw_okq (⟨"DayCubes$Reader", "isNumberBelow", "(I)Z"⟩, 6) := ⟨⟨by decide +kernel, by decide +kernel⟩, List.mem_of_getElem? (i := 23) (by decide +kernel), List.mem_of_getElem? (i := 315) (by decide +kernel), List.mem_of_getElem? (i := 316) (by decide +kernel)⟩
theorem lw_p7 : lw_okq (⟨"DayCubes$Reader", "readDay", "(LDayCubes$Told;)Z"⟩, 6) := ⟨⟨by decide +kernel, by decide +kernel⟩, List.mem_of_getElem? (i := 23) (by decide +kernel), List.mem_of_getElem? (i := 319) (by decide +kernel), List.mem_of_getElem? (i := 320) (by decide +kernel)⟩
theorem lw_p8 : lw_okq (⟨"DayCubes", "isCube", "(I)Z"⟩, 11) := ⟨⟨by decide +kernel, by decide +kernel⟩, List.mem_of_getElem? (i := 15) (by decide +kernel), List.mem_of_getElem? (i := 343) (by decide +kernel), List.mem_of_getElem? (i := 344) (by decide +kernel)⟩
theorem lw_p9 : lw_okq (⟨"DayCubes", "sidesNeeded", "(I)I"⟩, 11) := ⟨⟨by decide +kernel, by decide +kernel⟩, List.mem_of_getElem? (i := 15) (by decide +kernel), List.mem_of_getElem? (i := 362) (by decide +kernel), List.mem_of_getElem? (i := 363) (by decide +kernel)⟩
theorem lw_p10 : lw_okq (⟨"DayCubes", "tellersBut", "(I)LDayCubes$Tellers;"⟩, 11) := ⟨⟨by decide +kernel, by decide +kernel⟩, List.mem_of_getElem? (i := 15) (by decide +kernel), List.mem_of_getElem? (i := 366) (by decide +kernel), List.mem_of_getElem? (i := 367) (by decide +kernel)⟩
theorem lw_p11 : lw_okq (⟨"DayCubes$Tellers", "withOneMore", "(II)I"⟩, 2) := ⟨⟨by decide +kernel, by decide +kernel⟩, List.mem_of_getElem? (i := 147) (by decide +kernel), List.mem_of_getElem? (i := 385) (by decide +kernel), List.mem_of_getElem? (i := 386) (by decide +kernel)⟩
theorem lw_p12 : lw_okq (⟨"DayCubes", "isPlace", "(I)Z"⟩, 11) := ⟨⟨by decide +kernel, by decide +kernel⟩, List.mem_of_getElem? (i := 15) (by decide +kernel), List.mem_of_getElem? (i := 395) (by decide +kernel), List.mem_of_getElem? (i := 396) (by decide +kernel)⟩
theorem lw_p13 : lw_okq (⟨"DayCubes$Stand", "remember", "(III)V"⟩, 6) := ⟨⟨by decide +kernel, by decide +kernel⟩, List.mem_of_getElem? (i := 93) (by decide +kernel), List.mem_of_getElem? (i := 411) (by decide +kernel), List.mem_of_getElem? (i := 412) (by decide +kernel)⟩
theorem lw_p14 : lw_okq (⟨"DayCubes$Stand", "addWork", "(I)V"⟩, 6) := ⟨⟨by decide +kernel, by decide +kernel⟩, List.mem_of_getElem? (i := 93) (by decide +kernel), List.mem_of_getElem? (i := 418) (by decide +kernel), List.mem_of_getElem? (i := 419) (by decide +kernel)⟩
theorem lw_p15 : lw_okq (⟨"DayCubes$Stand", "exchange", "(II)V"⟩, 6) := ⟨⟨by decide +kernel, by decide +kernel⟩, List.mem_of_getElem? (i := 93) (by decide +kernel), List.mem_of_getElem? (i := 431) (by decide +kernel), List.mem_of_getElem? (i := 432) (by decide +kernel)⟩
def lw_privs_1 : List (MethodName × Nat) := [(⟨"DayCubes$Reader", "nextToken", "()V"⟩, 6), (⟨"DayCubes$Reader", "takeLetters", "()V"⟩, 6), (⟨"DayCubes$Reader", "takeDigits", "()V"⟩, 6), (⟨"DayCubes$Reader", "readItem", "(LDayCubes$Told;)Z"⟩, 6), (⟨"DayCubes$Reader", "readBoth", "(LDayCubes$Told;)Z"⟩, 6), (⟨"DayCubes$Reader", "readCube", "(LDayCubes$Told;)Z"⟩, 6), (⟨"DayCubes$Reader", "isNumberBelow", "(I)Z"⟩, 6), (⟨"DayCubes$Reader", "readDay", "(LDayCubes$Told;)Z"⟩, 6), (⟨"DayCubes", "isCube", "(I)Z"⟩, 11), (⟨"DayCubes", "sidesNeeded", "(I)I"⟩, 11), (⟨"DayCubes", "tellersBut", "(I)LDayCubes$Tellers;"⟩, 11), (⟨"DayCubes$Tellers", "withOneMore", "(II)I"⟩, 2), (⟨"DayCubes", "isPlace", "(I)Z"⟩, 11), (⟨"DayCubes$Stand", "remember", "(III)V"⟩, 6), (⟨"DayCubes$Stand", "addWork", "(I)V"⟩, 6), (⟨"DayCubes$Stand", "exchange", "(II)V"⟩, 6)]
theorem lw_r1 : ∀ q ∈ lw_privs_1, lw_okq q := List.forall_mem_cons.mpr ⟨lw_p0, List.forall_mem_cons.mpr ⟨lw_p1, List.forall_mem_cons.mpr ⟨lw_p2, List.forall_mem_cons.mpr ⟨lw_p3, List.forall_mem_cons.mpr ⟨lw_p4, List.forall_mem_cons.mpr ⟨lw_p5, List.forall_mem_cons.mpr ⟨lw_p6, List.forall_mem_cons.mpr ⟨lw_p7, List.forall_mem_cons.mpr ⟨lw_p8, List.forall_mem_cons.mpr ⟨lw_p9, List.forall_mem_cons.mpr ⟨lw_p10, List.forall_mem_cons.mpr ⟨lw_p11, List.forall_mem_cons.mpr ⟨lw_p12, List.forall_mem_cons.mpr ⟨lw_p13, List.forall_mem_cons.mpr ⟨lw_p14, List.forall_mem_cons.mpr ⟨lw_p15, fun _ h => absurd h List.not_mem_nil⟩⟩⟩⟩⟩⟩⟩⟩⟩⟩⟩⟩⟩⟩⟩⟩
theorem lw_p16 : lw_okq (⟨"DayCubes", "numberInFront", "()I"⟩, 11) := ⟨⟨by decide +kernel, by decide +kernel⟩, List.mem_of_getElem? (i := 15) (by decide +kernel), List.mem_of_getElem? (i := 458) (by decide +kernel), List.mem_of_getElem? (i := 459) (by decide +kernel)⟩
theorem lw_p17 : lw_okq (⟨"DayCubes$Tellers", "manyFrom", "(IIIII)I"⟩, 2) := ⟨⟨by decide +kernel, by decide +kernel⟩, List.mem_of_getElem? (i := 147) (by decide +kernel), List.mem_of_getElem? (i := 470) (by decide +kernel), List.mem_of_getElem? (i := 471) (by decide +kernel)⟩
theorem lw_p18 : lw_okq (⟨"DayCubes", "isNumber", "(I)Z"⟩, 11) := ⟨⟨by decide +kernel, by decide +kernel⟩, List.mem_of_getElem? (i := 15) (by decide +kernel), List.mem_of_getElem? (i := 483) (by decide +kernel), List.mem_of_getElem? (i := 484) (by decide +kernel)⟩
theorem lw_p19 : lw_okq (⟨"DayCubes", "isTold", "(I)Z"⟩, 11) := ⟨⟨by decide +kernel, by decide +kernel⟩, List.mem_of_getElem? (i := 15) (by decide +kernel), List.mem_of_getElem? (i := 488) (by decide +kernel), List.mem_of_getElem? (i := 489) (by decide +kernel)⟩
theorem lw_p20 : lw_okq (⟨"DayCubes", "leastWork", "(II)I"⟩, 11) := ⟨⟨by decide +kernel, by decide +kernel⟩, List.mem_of_getElem? (i := 15) (by decide +kernel), List.mem_of_getElem? (i := 501) (by decide +kernel), List.mem_of_getElem? (i := 502) (by decide +kernel)⟩
theorem lw_p21 : lw_okq (⟨"DayCubes$Walk", "takeWanted", "(II)V"⟩, 11) := ⟨⟨by decide +kernel, by decide +kernel⟩, List.mem_of_getElem? (i := 160) (by decide +kernel), List.mem_of_getElem? (i := 509) (by decide +kernel), List.mem_of_getElem? (i := 510) (by decide +kernel)⟩
theorem lw_p22 : lw_okq (⟨"DayCubes$Walk", "reckonTurns", "(I)V"⟩, 11) := ⟨⟨by decide +kernel, by decide +kernel⟩, List.mem_of_getElem? (i := 160) (by decide +kernel), List.mem_of_getElem? (i := 513) (by decide +kernel), List.mem_of_getElem? (i := 514) (by decide +kernel)⟩
theorem lw_p23 : lw_okq (⟨"DayCubes$Walk", "reckonPathsFrom", "(III)V"⟩, 11) := ⟨⟨by decide +kernel, by decide +kernel⟩, List.mem_of_getElem? (i := 160) (by decide +kernel), List.mem_of_getElem? (i := 517) (by decide +kernel), List.mem_of_getElem? (i := 518) (by decide +kernel)⟩
theorem lw_p24 : lw_okq (⟨"DayCubes$Walk", "reckonSides", "(III)I"⟩, 11) := ⟨⟨by decide +kernel, by decide +kernel⟩, List.mem_of_getElem? (i := 160) (by decide +kernel), List.mem_of_getElem? (i := 524) (by decide +kernel), List.mem_of_getElem? (i := 525) (by decide +kernel)⟩
theorem lw_p25 : lw_okq (⟨"DayCubes$Walk", "choose", "(IIII)V"⟩, 11) := ⟨⟨by decide +kernel, by decide +kernel⟩, List.mem_of_getElem? (i := 160) (by decide +kernel), List.mem_of_getElem? (i := 531) (by decide +kernel), List.mem_of_getElem? (i := 532) (by decide +kernel)⟩
theorem lw_p26 : lw_okq (⟨"DayCubes$Walk", "changesTo", "(I)I"⟩, 11) := ⟨⟨by decide +kernel, by decide +kernel⟩, List.mem_of_getElem? (i := 160) (by decide +kernel), List.mem_of_getElem? (i := 535) (by decide +kernel), List.mem_of_getElem? (i := 536) (by decide +kernel)⟩
theorem lw_p27 : lw_okq (⟨"DayCubes$Walk", "goOn", "(II)V"⟩, 11) := ⟨⟨by decide +kernel, by decide +kernel⟩, List.mem_of_getElem? (i := 160) (by decide +kernel), List.mem_of_getElem? (i := 539) (by decide +kernel), List.mem_of_getElem? (i := 540) (by decide +kernel)⟩
theorem lw_p28 : lw_okq (⟨"DayCubes$Fall", "fallsFrom", "(I)I"⟩, 5) := ⟨⟨by decide +kernel, by decide +kernel⟩, List.mem_of_getElem? (i := 200) (by decide +kernel), List.mem_of_getElem? (i := 570) (by decide +kernel), List.mem_of_getElem? (i := 571) (by decide +kernel)⟩
theorem lw_p29 : lw_okq (⟨"DayCubes$Fall", "reduce", "()V"⟩, 5) := ⟨⟨by decide +kernel, by decide +kernel⟩, List.mem_of_getElem? (i := 200) (by decide +kernel), List.mem_of_getElem? (i := 576) (by decide +kernel), List.mem_of_getElem? (i := 577) (by decide +kernel)⟩
theorem lw_p30 : lw_okq (⟨"DayCubes$Fall", "reduceBy", "(I)V"⟩, 5) := ⟨⟨by decide +kernel, by decide +kernel⟩, List.mem_of_getElem? (i := 200) (by decide +kernel), List.mem_of_getElem? (i := 580) (by decide +kernel), List.mem_of_getElem? (i := 581) (by decide +kernel)⟩
theorem lw_p31 : lw_okq (⟨"DayCubes$Seen", "mayBe", "(I)Z"⟩, 3) := ⟨⟨by decide +kernel, by decide +kernel⟩, List.mem_of_getElem? (i := 129) (by decide +kernel), List.mem_of_getElem? (i := 605) (by decide +kernel), List.mem_of_getElem? (i := 606) (by decide +kernel)⟩
def lw_privs_2 : List (MethodName × Nat) := [(⟨"DayCubes", "numberInFront", "()I"⟩, 11), (⟨"DayCubes$Tellers", "manyFrom", "(IIIII)I"⟩, 2), (⟨"DayCubes", "isNumber", "(I)Z"⟩, 11), (⟨"DayCubes", "isTold", "(I)Z"⟩, 11), (⟨"DayCubes", "leastWork", "(II)I"⟩, 11), (⟨"DayCubes$Walk", "takeWanted", "(II)V"⟩, 11), (⟨"DayCubes$Walk", "reckonTurns", "(I)V"⟩, 11), (⟨"DayCubes$Walk", "reckonPathsFrom", "(III)V"⟩, 11), (⟨"DayCubes$Walk", "reckonSides", "(III)I"⟩, 11), (⟨"DayCubes$Walk", "choose", "(IIII)V"⟩, 11), (⟨"DayCubes$Walk", "changesTo", "(I)I"⟩, 11), (⟨"DayCubes$Walk", "goOn", "(II)V"⟩, 11), (⟨"DayCubes$Fall", "fallsFrom", "(I)I"⟩, 5), (⟨"DayCubes$Fall", "reduce", "()V"⟩, 5), (⟨"DayCubes$Fall", "reduceBy", "(I)V"⟩, 5), (⟨"DayCubes$Seen", "mayBe", "(I)Z"⟩, 3)]
theorem lw_r2 : ∀ q ∈ lw_privs_2, lw_okq q := List.forall_mem_cons.mpr ⟨lw_p16, List.forall_mem_cons.mpr ⟨lw_p17, List.forall_mem_cons.mpr ⟨lw_p18, List.forall_mem_cons.mpr ⟨lw_p19, List.forall_mem_cons.mpr ⟨lw_p20, List.forall_mem_cons.mpr ⟨lw_p21, List.forall_mem_cons.mpr ⟨lw_p22, List.forall_mem_cons.mpr ⟨lw_p23, List.forall_mem_cons.mpr ⟨lw_p24, List.forall_mem_cons.mpr ⟨lw_p25, List.forall_mem_cons.mpr ⟨lw_p26, List.forall_mem_cons.mpr ⟨lw_p27, List.forall_mem_cons.mpr ⟨lw_p28, List.forall_mem_cons.mpr ⟨lw_p29, List.forall_mem_cons.mpr ⟨lw_p30, List.forall_mem_cons.mpr ⟨lw_p31, fun _ h => absurd h List.not_mem_nil⟩⟩⟩⟩⟩⟩⟩⟩⟩⟩⟩⟩⟩⟩⟩⟩
theorem lw_p32 : lw_okq (⟨"DayCubes", "markAs", "(II)I"⟩, 11) := ⟨⟨by decide +kernel, by decide +kernel⟩, List.mem_of_getElem? (i := 15) (by decide +kernel), List.mem_of_getElem? (i := 628) (by decide +kernel), List.mem_of_getElem? (i := 629) (by decide +kernel)⟩
theorem lw_p33 : lw_okq (⟨"DayCubesModel", "begin", "()V"⟩, 25) := ⟨⟨by decide +kernel, by decide +kernel⟩, List.mem_of_getElem? (i := 660) (by decide +kernel), List.mem_of_getElem? (i := 666) (by decide +kernel), List.mem_of_getElem? (i := 667) (by decide +kernel)⟩
theorem lw_p34 : lw_okq (⟨"DayCubesModel", "tellOrders", "()V"⟩, 25) := ⟨⟨by decide +kernel, by decide +kernel⟩, List.mem_of_getElem? (i := 660) (by decide +kernel), List.mem_of_getElem? (i := 670) (by decide +kernel), List.mem_of_getElem? (i := 671) (by decide +kernel)⟩
theorem lw_p35 : lw_okq (⟨"DayCubesModel", "codes", "()I"⟩, 25) := ⟨⟨by decide +kernel, by decide +kernel⟩, List.mem_of_getElem? (i := 660) (by decide +kernel), List.mem_of_getElem? (i := 674) (by decide +kernel), List.mem_of_getElem? (i := 675) (by decide +kernel)⟩
theorem lw_p36 : lw_okq (⟨"DayCubesModel", "isOrder", "(I)Z"⟩, 25) := ⟨⟨by decide +kernel, by decide +kernel⟩, List.mem_of_getElem? (i := 660) (by decide +kernel), List.mem_of_getElem? (i := 678) (by decide +kernel), List.mem_of_getElem? (i := 679) (by decide +kernel)⟩
theorem lw_p37 : lw_okq (⟨"DayCubesModel", "read", "()V"⟩, 25) := ⟨⟨by decide +kernel, by decide +kernel⟩, List.mem_of_getElem? (i := 660) (by decide +kernel), List.mem_of_getElem? (i := 777) (by decide +kernel), List.mem_of_getElem? (i := 778) (by decide +kernel)⟩
theorem lw_p38 : lw_okq (⟨"DayCubesModel", "step", "()V"⟩, 25) := ⟨⟨by decide +kernel, by decide +kernel⟩, List.mem_of_getElem? (i := 660) (by decide +kernel), List.mem_of_getElem? (i := 781) (by decide +kernel), List.mem_of_getElem? (i := 782) (by decide +kernel)⟩
theorem lw_p39 : lw_okq (⟨"DayCubesModel", "here", "()I"⟩, 25) := ⟨⟨by decide +kernel, by decide +kernel⟩, List.mem_of_getElem? (i := 660) (by decide +kernel), List.mem_of_getElem? (i := 785) (by decide +kernel), List.mem_of_getElem? (i := 786) (by decide +kernel)⟩
theorem lw_p40 : lw_okq (⟨"DayCubesModel", "may", "(I)Z"⟩, 25) := ⟨⟨by decide +kernel, by decide +kernel⟩, List.mem_of_getElem? (i := 660) (by decide +kernel), List.mem_of_getElem? (i := 789) (by decide +kernel), List.mem_of_getElem? (i := 790) (by decide +kernel)⟩
theorem lw_p41 : lw_okq (⟨"DayCubesModel", "due", "(Z)V"⟩, 25) := ⟨⟨by decide +kernel, by decide +kernel⟩, List.mem_of_getElem? (i := 660) (by decide +kernel), List.mem_of_getElem? (i := 793) (by decide +kernel), List.mem_of_getElem? (i := 794) (by decide +kernel)⟩
theorem lw_p42 : lw_okq (⟨"DayCubesModel", "item", "(I)V"⟩, 25) := ⟨⟨by decide +kernel, by decide +kernel⟩, List.mem_of_getElem? (i := 660) (by decide +kernel), List.mem_of_getElem? (i := 797) (by decide +kernel), List.mem_of_getElem? (i := 798) (by decide +kernel)⟩
theorem lw_p43 : lw_okq (⟨"DayCubesModel", "amount", "(II)I"⟩, 25) := ⟨⟨by decide +kernel, by decide +kernel⟩, List.mem_of_getElem? (i := 660) (by decide +kernel), List.mem_of_getElem? (i := 801) (by decide +kernel), List.mem_of_getElem? (i := 802) (by decide +kernel)⟩
theorem lw_p44 : lw_okq (⟨"DayCubesModel", "isCube", "(I)Z"⟩, 25) := ⟨⟨by decide +kernel, by decide +kernel⟩, List.mem_of_getElem? (i := 660) (by decide +kernel), List.mem_of_getElem? (i := 812) (by decide +kernel), List.mem_of_getElem? (i := 813) (by decide +kernel)⟩
theorem lw_p45 : lw_okq (⟨"DayCubesModel", "placeOf", "(I)I"⟩, 25) := ⟨⟨by decide +kernel, by decide +kernel⟩, List.mem_of_getElem? (i := 660) (by decide +kernel), List.mem_of_getElem? (i := 823) (by decide +kernel), List.mem_of_getElem? (i := 824) (by decide +kernel)⟩
theorem lw_p46 : lw_okq (⟨"DayCubesModel", "figuresOf", "(I)I"⟩, 25) := ⟨⟨by decide +kernel, by decide +kernel⟩, List.mem_of_getElem? (i := 660) (by decide +kernel), List.mem_of_getElem? (i := 827) (by decide +kernel), List.mem_of_getElem? (i := 828) (by decide +kernel)⟩
theorem lw_p47 : lw_okq (⟨"DayCubesModel", "neededOf", "(I)I"⟩, 25) := ⟨⟨by decide +kernel, by decide +kernel⟩, List.mem_of_getElem? (i := 660) (by decide +kernel), List.mem_of_getElem? (i := 831) (by decide +kernel), List.mem_of_getElem? (i := 832) (by decide +kernel)⟩
def lw_privs_3 : List (MethodName × Nat) := [(⟨"DayCubes", "markAs", "(II)I"⟩, 11), (⟨"DayCubesModel", "begin", "()V"⟩, 25), (⟨"DayCubesModel", "tellOrders", "()V"⟩, 25), (⟨"DayCubesModel", "codes", "()I"⟩, 25), (⟨"DayCubesModel", "isOrder", "(I)Z"⟩, 25), (⟨"DayCubesModel", "read", "()V"⟩, 25), (⟨"DayCubesModel", "step", "()V"⟩, 25), (⟨"DayCubesModel", "here", "()I"⟩, 25), (⟨"DayCubesModel", "may", "(I)Z"⟩, 25), (⟨"DayCubesModel", "due", "(Z)V"⟩, 25), (⟨"DayCubesModel", "item", "(I)V"⟩, 25), (⟨"DayCubesModel", "amount", "(II)I"⟩, 25), (⟨"DayCubesModel", "isCube", "(I)Z"⟩, 25), (⟨"DayCubesModel", "placeOf", "(I)I"⟩, 25), (⟨"DayCubesModel", "figuresOf", "(I)I"⟩, 25), (⟨"DayCubesModel", "neededOf", "(I)I"⟩, 25)]
theorem lw_r3 : ∀ q ∈ lw_privs_3, lw_okq q := List.forall_mem_cons.mpr ⟨lw_p32, List.forall_mem_cons.mpr ⟨lw_p33, List.forall_mem_cons.mpr ⟨lw_p34, List.forall_mem_cons.mpr ⟨lw_p35, List.forall_mem_cons.mpr ⟨lw_p36, List.forall_mem_cons.mpr ⟨lw_p37, List.forall_mem_cons.mpr ⟨lw_p38, List.forall_mem_cons.mpr ⟨lw_p39, List.forall_mem_cons.mpr ⟨lw_p40, List.forall_mem_cons.mpr ⟨lw_p41, List.forall_mem_cons.mpr ⟨lw_p42, List.forall_mem_cons.mpr ⟨lw_p43, List.forall_mem_cons.mpr ⟨lw_p44, List.forall_mem_cons.mpr ⟨lw_p45, List.forall_mem_cons.mpr ⟨lw_p46, List.forall_mem_cons.mpr ⟨lw_p47, fun _ h => absurd h List.not_mem_nil⟩⟩⟩⟩⟩⟩⟩⟩⟩⟩⟩⟩⟩⟩⟩⟩
theorem lw_p48 : lw_okq (⟨"DayCubesModel", "doneNow", "()I"⟩, 25) := ⟨⟨by decide +kernel, by decide +kernel⟩, List.mem_of_getElem? (i := 660) (by decide +kernel), List.mem_of_getElem? (i := 835) (by decide +kernel), List.mem_of_getElem? (i := 836) (by decide +kernel)⟩
theorem lw_p49 : lw_okq (⟨"DayCubesModel", "can", "(III)Z"⟩, 25) := ⟨⟨by decide +kernel, by decide +kernel⟩, List.mem_of_getElem? (i := 660) (by decide +kernel), List.mem_of_getElem? (i := 839) (by decide +kernel), List.mem_of_getElem? (i := 840) (by decide +kernel)⟩
theorem lw_p50 : lw_okq (⟨"DayCubesModel", "figureOf", "(II)I"⟩, 25) := ⟨⟨by decide +kernel, by decide +kernel⟩, List.mem_of_getElem? (i := 660) (by decide +kernel), List.mem_of_getElem? (i := 843) (by decide +kernel), List.mem_of_getElem? (i := 844) (by decide +kernel)⟩
theorem lw_p51 : lw_okq (⟨"DayCubesModel", "hasFit", "(III)Z"⟩, 25) := ⟨⟨by decide +kernel, by decide +kernel⟩, List.mem_of_getElem? (i := 660) (by decide +kernel), List.mem_of_getElem? (i := 847) (by decide +kernel), List.mem_of_getElem? (i := 848) (by decide +kernel)⟩
theorem lw_p52 : lw_okq (⟨"DayCubesModel", "fits", "(II)Z"⟩, 25) := ⟨⟨by decide +kernel, by decide +kernel⟩, List.mem_of_getElem? (i := 660) (by decide +kernel), List.mem_of_getElem? (i := 851) (by decide +kernel), List.mem_of_getElem? (i := 852) (by decide +kernel)⟩
theorem lw_p53 : lw_okq (⟨"DayCubesModel", "know", "()V"⟩, 25) := ⟨⟨by decide +kernel, by decide +kernel⟩, List.mem_of_getElem? (i := 660) (by decide +kernel), List.mem_of_getElem? (i := 870) (by decide +kernel), List.mem_of_getElem? (i := 871) (by decide +kernel)⟩
theorem lw_p54 : lw_okq (⟨"DayCubesModel", "worked", "(I)I"⟩, 25) := ⟨⟨by decide +kernel, by decide +kernel⟩, List.mem_of_getElem? (i := 660) (by decide +kernel), List.mem_of_getElem? (i := 877) (by decide +kernel), List.mem_of_getElem? (i := 878) (by decide +kernel)⟩
theorem lw_p55 : lw_okq (⟨"DayCubesModel", "inFront", "(I)I"⟩, 25) := ⟨⟨by decide +kernel, by decide +kernel⟩, List.mem_of_getElem? (i := 660) (by decide +kernel), List.mem_of_getElem? (i := 897) (by decide +kernel), List.mem_of_getElem? (i := 898) (by decide +kernel)⟩
theorem lw_p56 : lw_okq (⟨"DayCubesModel", "isNumber", "(I)Z"⟩, 25) := ⟨⟨by decide +kernel, by decide +kernel⟩, List.mem_of_getElem? (i := 660) (by decide +kernel), List.mem_of_getElem? (i := 905) (by decide +kernel), List.mem_of_getElem? (i := 906) (by decide +kernel)⟩
theorem lw_p57 : lw_okq (⟨"DayCubesModel", "isTold", "(I)Z"⟩, 25) := ⟨⟨by decide +kernel, by decide +kernel⟩, List.mem_of_getElem? (i := 660) (by decide +kernel), List.mem_of_getElem? (i := 909) (by decide +kernel), List.mem_of_getElem? (i := 910) (by decide +kernel)⟩
theorem lw_p58 : lw_okq (⟨"DayCubesModel", "workFor", "(II)I"⟩, 25) := ⟨⟨by decide +kernel, by decide +kernel⟩, List.mem_of_getElem? (i := 660) (by decide +kernel), List.mem_of_getElem? (i := 913) (by decide +kernel), List.mem_of_getElem? (i := 914) (by decide +kernel)⟩
theorem lw_p59 : lw_okq (⟨"DayCubesModel", "tellTurns", "(II)V"⟩, 25) := ⟨⟨by decide +kernel, by decide +kernel⟩, List.mem_of_getElem? (i := 660) (by decide +kernel), List.mem_of_getElem? (i := 917) (by decide +kernel), List.mem_of_getElem? (i := 918) (by decide +kernel)⟩
theorem lw_p60 : lw_okq (⟨"DayCubesModel", "turnsFor", "(IIIII)I"⟩, 25) := ⟨⟨by decide +kernel, by decide +kernel⟩, List.mem_of_getElem? (i := 660) (by decide +kernel), List.mem_of_getElem? (i := 921) (by decide +kernel), List.mem_of_getElem? (i := 922) (by decide +kernel)⟩
theorem lw_p61 : lw_okq (⟨"DayCubesModel", "orderNow", "()I"⟩, 25) := ⟨⟨by decide +kernel, by decide +kernel⟩, List.mem_of_getElem? (i := 660) (by decide +kernel), List.mem_of_getElem? (i := 926) (by decide +kernel), List.mem_of_getElem? (i := 927) (by decide +kernel)⟩
theorem lw_p62 : lw_okq (⟨"DayCubesModel", "changesTo", "(II)I"⟩, 25) := ⟨⟨by decide +kernel, by decide +kernel⟩, List.mem_of_getElem? (i := 660) (by decide +kernel), List.mem_of_getElem? (i := 930) (by decide +kernel), List.mem_of_getElem? (i := 931) (by decide +kernel)⟩
theorem lw_p63 : lw_okq (⟨"DayCubesModel", "workBy", "(III)I"⟩, 25) := ⟨⟨by decide +kernel, by decide +kernel⟩, List.mem_of_getElem? (i := 660) (by decide +kernel), List.mem_of_getElem? (i := 934) (by decide +kernel), List.mem_of_getElem? (i := 935) (by decide +kernel)⟩
def lw_privs_4 : List (MethodName × Nat) := [(⟨"DayCubesModel", "doneNow", "()I"⟩, 25), (⟨"DayCubesModel", "can", "(III)Z"⟩, 25), (⟨"DayCubesModel", "figureOf", "(II)I"⟩, 25), (⟨"DayCubesModel", "hasFit", "(III)Z"⟩, 25), (⟨"DayCubesModel", "fits", "(II)Z"⟩, 25), (⟨"DayCubesModel", "know", "()V"⟩, 25), (⟨"DayCubesModel", "worked", "(I)I"⟩, 25), (⟨"DayCubesModel", "inFront", "(I)I"⟩, 25), (⟨"DayCubesModel", "isNumber", "(I)Z"⟩, 25), (⟨"DayCubesModel", "isTold", "(I)Z"⟩, 25), (⟨"DayCubesModel", "workFor", "(II)I"⟩, 25), (⟨"DayCubesModel", "tellTurns", "(II)V"⟩, 25), (⟨"DayCubesModel", "turnsFor", "(IIIII)I"⟩, 25), (⟨"DayCubesModel", "orderNow", "()I"⟩, 25), (⟨"DayCubesModel", "changesTo", "(II)I"⟩, 25), (⟨"DayCubesModel", "workBy", "(III)I"⟩, 25)]
theorem lw_r4 : ∀ q ∈ lw_privs_4, lw_okq q := List.forall_mem_cons.mpr ⟨lw_p48, List.forall_mem_cons.mpr ⟨lw_p49, List.forall_mem_cons.mpr ⟨lw_p50, List.forall_mem_cons.mpr ⟨lw_p51, List.forall_mem_cons.mpr ⟨lw_p52, List.forall_mem_cons.mpr ⟨lw_p53, List.forall_mem_cons.mpr ⟨lw_p54, List.forall_mem_cons.mpr ⟨lw_p55, List.forall_mem_cons.mpr ⟨lw_p56, List.forall_mem_cons.mpr ⟨lw_p57, List.forall_mem_cons.mpr ⟨lw_p58, List.forall_mem_cons.mpr ⟨lw_p59, List.forall_mem_cons.mpr ⟨lw_p60, List.forall_mem_cons.mpr ⟨lw_p61, List.forall_mem_cons.mpr ⟨lw_p62, List.forall_mem_cons.mpr ⟨lw_p63, fun _ h => absurd h List.not_mem_nil⟩⟩⟩⟩⟩⟩⟩⟩⟩⟩⟩⟩⟩⟩⟩⟩
theorem lw_p64 : lw_okq (⟨"DayCubesModel", "placeIn", "(II)I"⟩, 25) := ⟨⟨by decide +kernel, by decide +kernel⟩, List.mem_of_getElem? (i := 660) (by decide +kernel), List.mem_of_getElem? (i := 938) (by decide +kernel), List.mem_of_getElem? (i := 939) (by decide +kernel)⟩
theorem lw_p65 : lw_okq (⟨"DayCubesModel", "pastesFor", "(I)I"⟩, 25) := ⟨⟨by decide +kernel, by decide +kernel⟩, List.mem_of_getElem? (i := 660) (by decide +kernel), List.mem_of_getElem? (i := 942) (by decide +kernel), List.mem_of_getElem? (i := 943) (by decide +kernel)⟩
theorem lw_p66 : lw_okq (⟨"DayCubesModel", "isBy", "(II)Z"⟩, 25) := ⟨⟨by decide +kernel, by decide +kernel⟩, List.mem_of_getElem? (i := 660) (by decide +kernel), List.mem_of_getElem? (i := 954) (by decide +kernel), List.mem_of_getElem? (i := 955) (by decide +kernel)⟩
def lw_privs_5 : List (MethodName × Nat) := [(⟨"DayCubesModel", "placeIn", "(II)I"⟩, 25), (⟨"DayCubesModel", "pastesFor", "(I)I"⟩, 25), (⟨"DayCubesModel", "isBy", "(II)Z"⟩, 25)]
theorem lw_r5 : ∀ q ∈ lw_privs_5, lw_okq q := List.forall_mem_cons.mpr ⟨lw_p64, List.forall_mem_cons.mpr ⟨lw_p65, List.forall_mem_cons.mpr ⟨lw_p66, fun _ h => absurd h List.not_mem_nil⟩⟩⟩
def lw_privs : List (MethodName × Nat) := lw_privs_1 ++ (lw_privs_2 ++ (lw_privs_3 ++ (lw_privs_4 ++ (lw_privs_5))))
def lw_tbl : List Cond := k2_sels lw_privs ++ tables_1
theorem lw_privs_ok : ∀ q ∈ lw_privs, lw_okq q := by
  show ∀ q ∈ lw_privs_1 ++ (lw_privs_2 ++ (lw_privs_3 ++ (lw_privs_4 ++ (lw_privs_5)))), lw_okq q
  exact List.forall_mem_append.mpr ⟨lw_r1, List.forall_mem_append.mpr ⟨lw_r2, List.forall_mem_append.mpr ⟨lw_r3, List.forall_mem_append.mpr ⟨lw_r4, lw_r5⟩⟩⟩⟩
end
section
def RX0 : String := "DayCubes$Fall"
def TX0 : u_T := fun k => match k with
  | 0 => ("DayCubes$Fall", "missing", "[I", true)
  | 1 => ("DayCubes$Fall", "told", "LDayCubes$Told;", false)
  | 2 => ("DayCubes$Fall", "now", "LDayCubes$Stand;", false)
  | 3 => ("DayCubes$Fall", "upper", "I", false)
  | _ => ("DayCubes$Fall", "lower", "I", false)
def tyX0 : Nat → FieldType := fun k => match k with
  | 0 => .array .int
  | 1 => .object "DayCubes$Told"
  | 2 => .object "DayCubes$Stand"
  | 3 => .int
  | _ => .int
abbrev wsX00 : List Cond := u_ws RX0 TX0 5
theorem nmX0 : ∀ a, a < 5 → ∀ b, b < 5 → a ≠ b → (TX0 a).2.1 ≠ (TX0 b).2.1 := by decide +kernel
theorem tyX0_ok : ∀ k, k < 5 → parseFieldDescriptor (TX0 k).2.2.1 = some (tyX0 k) := by decide +kernel
abbrev cX0_init : ByteArray := prog_2_method_1_code
def yX0_init : MethodName := ⟨RX0, "<init>", "()V"⟩
abbrev cX0_reckon : ByteArray := prog_2_method_2_code
def yX0_reckon : MethodName := ⟨RX0, "reckon", "(LDayCubes$Told;LDayCubes$Stand;I)V"⟩
abbrev cX0_fallsFrom : ByteArray := prog_2_method_3_code
def yX0_fallsFrom : MethodName := ⟨RX0, "fallsFrom", "(I)I"⟩
abbrev cX0_reduce : ByteArray := prog_2_method_4_code
def yX0_reduce : MethodName := ⟨RX0, "reduce", "()V"⟩
abbrev cX0_reduceBy : ByteArray := prog_2_method_5_code
def yX0_reduceBy : MethodName := ⟨RX0, "reduceBy", "(I)V"⟩
def RX1 : String := "DayCubes$Reader"
def TX1 : u_T := fun k => match k with
  | 0 => ("DayCubes$Reader", "bytes", "[I", true)
  | 1 => ("DayCubes$Reader", "length", "I", false)
  | 2 => ("DayCubes$Reader", "at", "I", false)
  | 3 => ("DayCubes$Reader", "token", "I", false)
  | 4 => ("DayCubes$Reader", "start", "I", false)
  | _ => ("DayCubes$Reader", "value", "I", false)
def tyX1 : Nat → FieldType := fun k => match k with
  | 0 => .array .int
  | 1 => .int
  | 2 => .int
  | 3 => .int
  | 4 => .int
  | _ => .int
abbrev wsX10 : List Cond := u_ws RX1 TX1 6
theorem nmX1 : ∀ a, a < 6 → ∀ b, b < 6 → a ≠ b → (TX1 a).2.1 ≠ (TX1 b).2.1 := by decide +kernel
theorem tyX1_ok : ∀ k, k < 6 → parseFieldDescriptor (TX1 k).2.2.1 = some (tyX1 k) := by decide +kernel
abbrev cX1_init : ByteArray := prog_3_method_1_code
def yX1_init : MethodName := ⟨RX1, "<init>", "()V"⟩
abbrev cX1_append : ByteArray := prog_3_method_2_code
def yX1_append : MethodName := ⟨RX1, "append", "(I)V"⟩
abbrev cX1_read : ByteArray := prog_3_method_3_code
def yX1_read : MethodName := ⟨RX1, "read", "(LDayCubes$Told;)I"⟩
abbrev cX1_readItem : ByteArray := prog_3_method_4_code
def yX1_readItem : MethodName := ⟨RX1, "readItem", "(LDayCubes$Told;)Z"⟩
abbrev cX1_readBoth : ByteArray := prog_3_method_5_code
def yX1_readBoth : MethodName := ⟨RX1, "readBoth", "(LDayCubes$Told;)Z"⟩
abbrev cX1_readCube : ByteArray := prog_3_method_6_code
def yX1_readCube : MethodName := ⟨RX1, "readCube", "(LDayCubes$Told;)Z"⟩
abbrev cX1_readDay : ByteArray := prog_3_method_7_code
def yX1_readDay : MethodName := ⟨RX1, "readDay", "(LDayCubes$Told;)Z"⟩
abbrev cX1_isNumberBelow : ByteArray := prog_3_method_8_code
def yX1_isNumberBelow : MethodName := ⟨RX1, "isNumberBelow", "(I)Z"⟩
abbrev cX1_nextToken : ByteArray := prog_3_method_9_code
def yX1_nextToken : MethodName := ⟨RX1, "nextToken", "()V"⟩
abbrev cX1_takeLetters : ByteArray := prog_3_method_10_code
def yX1_takeLetters : MethodName := ⟨RX1, "takeLetters", "()V"⟩
abbrev cX1_takeDigits : ByteArray := prog_3_method_11_code
def yX1_takeDigits : MethodName := ⟨RX1, "takeDigits", "()V"⟩
abbrev cX1_isLetter : ByteArray := prog_3_method_12_code
def yX1_isLetter : MethodName := ⟨RX1, "isLetter", "(I)Z"⟩
abbrev cX1_isDigit : ByteArray := prog_3_method_13_code
def yX1_isDigit : MethodName := ⟨RX1, "isDigit", "(I)Z"⟩
def RX2 : String := "DayCubes$Seen"
def TX2 : u_T := fun k => match k with
  | 0 => ("DayCubes$Seen", "figure", "[I", true)
  | 1 => ("DayCubes$Seen", "there", "[I", true)
  | _ => ("DayCubes$Seen", "size", "I", false)
def tyX2 : Nat → FieldType := fun k => match k with
  | 0 => .array .int
  | 1 => .array .int
  | _ => .int
abbrev wsX20 : List Cond := u_ws RX2 TX2 3
theorem nmX2 : ∀ a, a < 3 → ∀ b, b < 3 → a ≠ b → (TX2 a).2.1 ≠ (TX2 b).2.1 := by decide +kernel
theorem tyX2_ok : ∀ k, k < 3 → parseFieldDescriptor (TX2 k).2.2.1 = some (tyX2 k) := by decide +kernel
abbrev cX2_init : ByteArray := prog_4_method_1_code
def yX2_init : MethodName := ⟨RX2, "<init>", "()V"⟩
abbrev cX2_append : ByteArray := prog_4_method_2_code
def yX2_append : MethodName := ⟨RX2, "append", "(II)V"⟩
abbrev cX2_cubesThatMayBe : ByteArray := prog_4_method_3_code
def yX2_cubesThatMayBe : MethodName := ⟨RX2, "cubesThatMayBe", "(ILDayCubes$Stand;)I"⟩
abbrev cX2_mayBe : ByteArray := prog_4_method_4_code
def yX2_mayBe : MethodName := ⟨RX2, "mayBe", "(I)Z"⟩
abbrev cX2_bestToLookFor : ByteArray := prog_4_method_5_code
def yX2_bestToLookFor : MethodName := ⟨RX2, "bestToLookFor", "(ILDayCubes$Stand;)I"⟩
abbrev cX2_howManyHave : ByteArray := prog_4_method_6_code
def yX2_howManyHave : MethodName := ⟨RX2, "howManyHave", "(IIILDayCubes$Stand;)I"⟩
def RX3 : String := "DayCubes$Stand"
def TX3 : u_T := fun k => match k with
  | 0 => ("DayCubes$Stand", "figures", "[I", true)
  | 1 => ("DayCubes$Stand", "cubeAt", "[I", true)
  | 2 => ("DayCubes$Stand", "front", "[I", true)
  | 3 => ("DayCubes$Stand", "deeds", "[I", true)
  | 4 => ("DayCubes$Stand", "deedCount", "I", false)
  | _ => ("DayCubes$Stand", "work", "I", false)
def tyX3 : Nat → FieldType := fun k => match k with
  | 0 => .array .int
  | 1 => .array .int
  | 2 => .array .int
  | 3 => .array .int
  | 4 => .int
  | _ => .int
abbrev wsX30 : List Cond := u_ws RX3 TX3 6
theorem nmX3 : ∀ a, a < 6 → ∀ b, b < 6 → a ≠ b → (TX3 a).2.1 ≠ (TX3 b).2.1 := by decide +kernel
theorem tyX3_ok : ∀ k, k < 6 → parseFieldDescriptor (TX3 k).2.2.1 = some (tyX3 k) := by decide +kernel
abbrev cX3_init : ByteArray := prog_5_method_1_code
def yX3_init : MethodName := ⟨RX3, "<init>", "()V"⟩
abbrev cX3_begin : ByteArray := prog_5_method_2_code
def yX3_begin : MethodName := ⟨RX3, "begin", "(LDayCubes$Told;)V"⟩
abbrev cX3_copy : ByteArray := prog_5_method_3_code
def yX3_copy : MethodName := ⟨RX3, "copy", "(LDayCubes$Stand;)V"⟩
abbrev cX3_placeOf : ByteArray := prog_5_method_4_code
def yX3_placeOf : MethodName := ⟨RX3, "placeOf", "(I)I"⟩
abbrev cX3_figureInFront : ByteArray := prog_5_method_5_code
def yX3_figureInFront : MethodName := ⟨RX3, "figureInFront", "(I)I"⟩
abbrev cX3_figuresOf : ByteArray := prog_5_method_6_code
def yX3_figuresOf : MethodName := ⟨RX3, "figuresOf", "(I)I"⟩
abbrev cX3_turnCube : ByteArray := prog_5_method_7_code
def yX3_turnCube : MethodName := ⟨RX3, "turnCube", "(II)V"⟩
abbrev cX3_changePlaces : ByteArray := prog_5_method_8_code
def yX3_changePlaces : MethodName := ⟨RX3, "changePlaces", "(II)V"⟩
abbrev cX3_pasteFigure : ByteArray := prog_5_method_9_code
def yX3_pasteFigure : MethodName := ⟨RX3, "pasteFigure", "(II)V"⟩
abbrev cX3_takeBack : ByteArray := prog_5_method_10_code
def yX3_takeBack : MethodName := ⟨RX3, "takeBack", "()V"⟩
abbrev cX3_turnWork : ByteArray := prog_5_method_11_code
def yX3_turnWork : MethodName := ⟨RX3, "turnWork", "(II)I"⟩
abbrev cX3_remember : ByteArray := prog_5_method_12_code
def yX3_remember : MethodName := ⟨RX3, "remember", "(III)V"⟩
abbrev cX3_addWork : ByteArray := prog_5_method_13_code
def yX3_addWork : MethodName := ⟨RX3, "addWork", "(I)V"⟩
abbrev cX3_exchange : ByteArray := prog_5_method_14_code
def yX3_exchange : MethodName := ⟨RX3, "exchange", "(II)V"⟩
def RX4 : String := "DayCubes$Tellers"
def TX4 : u_T := fun k => match k with
  | 0 => ("DayCubes$Tellers", "cubesWith", "[I", true)
  | _ => ("DayCubes$Tellers", "cubes", "I", false)
def tyX4 : Nat → FieldType := fun k => match k with
  | 0 => .array .int
  | _ => .int
abbrev wsX40 : List Cond := u_ws RX4 TX4 2
theorem nmX4 : ∀ a, a < 2 → ∀ b, b < 2 → a ≠ b → (TX4 a).2.1 ≠ (TX4 b).2.1 := by decide +kernel
theorem tyX4_ok : ∀ k, k < 2 → parseFieldDescriptor (TX4 k).2.2.1 = some (tyX4 k) := by decide +kernel
abbrev cX4_init : ByteArray := prog_6_method_1_code
def yX4_init : MethodName := ⟨RX4, "<init>", "()V"⟩
abbrev cX4_take : ByteArray := prog_6_method_2_code
def yX4_take : MethodName := ⟨RX4, "take", "(LDayCubes$Told;LDayCubes$Stand;I)V"⟩
abbrev cX4_canTell : ByteArray := prog_6_method_3_code
def yX4_canTell : MethodName := ⟨RX4, "canTell", "(I)Z"⟩
abbrev cX4_daysDone : ByteArray := prog_6_method_4_code
def yX4_daysDone : MethodName := ⟨RX4, "daysDone", "(LDayCubes$Told;)I"⟩
abbrev cX4_leastUntold : ByteArray := prog_6_method_5_code
def yX4_leastUntold : MethodName := ⟨RX4, "leastUntold", "()I"⟩
abbrev cX4_fewestPastes : ByteArray := prog_6_method_6_code
def yX4_fewestPastes : MethodName := ⟨RX4, "fewestPastes", "(I)I"⟩
abbrev cX4_many : ByteArray := prog_6_method_7_code
def yX4_many : MethodName := ⟨RX4, "many", "()I"⟩
abbrev cX4_manyFrom : ByteArray := prog_6_method_8_code
def yX4_manyFrom : MethodName := ⟨RX4, "manyFrom", "(IIIII)I"⟩
abbrev cX4_withOneMore : ByteArray := prog_6_method_9_code
def yX4_withOneMore : MethodName := ⟨RX4, "withOneMore", "(II)I"⟩
def RX5 : String := "DayCubes$Told"
def TX5 : u_T := fun k => match k with
  | 0 => ("DayCubes$Told", "figures", "[I", true)
  | 1 => ("DayCubes$Told", "days", "[I", true)
  | 2 => ("DayCubes$Told", "cubes", "I", false)
  | 3 => ("DayCubes$Told", "dayCount", "I", false)
  | 4 => ("DayCubes$Told", "items", "I", false)
  | _ => ("DayCubes$Told", "both", "Z", false)
def tyX5 : Nat → FieldType := fun k => match k with
  | 0 => .array .int
  | 1 => .array .int
  | 2 => .int
  | 3 => .int
  | 4 => .int
  | _ => .boolean
abbrev wsX50 : List Cond := u_ws RX5 TX5 6
theorem nmX5 : ∀ a, a < 6 → ∀ b, b < 6 → a ≠ b → (TX5 a).2.1 ≠ (TX5 b).2.1 := by decide +kernel
theorem tyX5_ok : ∀ k, k < 6 → parseFieldDescriptor (TX5 k).2.2.1 = some (tyX5 k) := by decide +kernel
abbrev cX5_init : ByteArray := prog_7_method_1_code
def yX5_init : MethodName := ⟨RX5, "<init>", "()V"⟩
abbrev cX5_empty : ByteArray := prog_7_method_2_code
def yX5_empty : MethodName := ⟨RX5, "empty", "()V"⟩
abbrev cX5_howManyNumbers : ByteArray := prog_7_method_3_code
def yX5_howManyNumbers : MethodName := ⟨RX5, "howManyNumbers", "()I"⟩
abbrev cX5_upright : ByteArray := prog_7_method_4_code
def yX5_upright : MethodName := ⟨RX5, "upright", "(I)I"⟩
abbrev cX5_fits : ByteArray := prog_7_method_5_code
def yX5_fits : MethodName := ⟨RX5, "fits", "(II)Z"⟩
def RX6 : String := "DayCubes$Walk"
def TX6 : u_T := fun k => match k with
  | 0 => ("DayCubes$Walk", "wanted", "[I", true)
  | 1 => ("DayCubes$Walk", "cubeAt", "[I", true)
  | 2 => ("DayCubes$Walk", "placeOf", "[I", true)
  | 3 => ("DayCubes$Walk", "path", "[I", true)
  | 4 => ("DayCubes$Walk", "till", "[I", true)
  | 5 => ("DayCubes$Walk", "turnsOf", "[I", true)
  | 6 => ("DayCubes$Walk", "told", "LDayCubes$Told;", false)
  | 7 => ("DayCubes$Walk", "now", "LDayCubes$Stand;", false)
  | 8 => ("DayCubes$Walk", "cubes", "I", false)
  | 9 => ("DayCubes$Walk", "last", "I", false)
  | _ => ("DayCubes$Walk", "best", "I", false)
def tyX6 : Nat → FieldType := fun k => match k with
  | 0 => .array .int
  | 1 => .array .int
  | 2 => .array .int
  | 3 => .array .int
  | 4 => .array .int
  | 5 => .array .int
  | 6 => .object "DayCubes$Told"
  | 7 => .object "DayCubes$Stand"
  | 8 => .int
  | 9 => .int
  | _ => .int
abbrev wsX60 : List Cond := u_ws RX6 TX6 11
theorem nmX6 : ∀ a, a < 11 → ∀ b, b < 11 → a ≠ b → (TX6 a).2.1 ≠ (TX6 b).2.1 := by decide +kernel
theorem tyX6_ok : ∀ k, k < 11 → parseFieldDescriptor (TX6 k).2.2.1 = some (tyX6 k) := by decide +kernel
abbrev cX6_init : ByteArray := prog_8_method_1_code
def yX6_init : MethodName := ⟨RX6, "<init>", "()V"⟩
abbrev cX6_leastThrough : ByteArray := prog_8_method_2_code
def yX6_leastThrough : MethodName := ⟨RX6, "leastThrough", "(LDayCubes$Told;LDayCubes$Stand;II)I"⟩
abbrev cX6_takeWanted : ByteArray := prog_8_method_3_code
def yX6_takeWanted : MethodName := ⟨RX6, "takeWanted", "(II)V"⟩
abbrev cX6_reckonTurns : ByteArray := prog_8_method_4_code
def yX6_reckonTurns : MethodName := ⟨RX6, "reckonTurns", "(I)V"⟩
abbrev cX6_reckonPathsFrom : ByteArray := prog_8_method_5_code
def yX6_reckonPathsFrom : MethodName := ⟨RX6, "reckonPathsFrom", "(III)V"⟩
abbrev cX6_reckonSides : ByteArray := prog_8_method_6_code
def yX6_reckonSides : MethodName := ⟨RX6, "reckonSides", "(III)I"⟩
abbrev cX6_longerPath : ByteArray := prog_8_method_7_code
def yX6_longerPath : MethodName := ⟨RX6, "longerPath", "(II)I"⟩
abbrev cX6_choose : ByteArray := prog_8_method_8_code
def yX6_choose : MethodName := ⟨RX6, "choose", "(IIII)V"⟩
abbrev cX6_goOn : ByteArray := prog_8_method_9_code
def yX6_goOn : MethodName := ⟨RX6, "goOn", "(II)V"⟩
abbrev cX6_changesTo : ByteArray := prog_8_method_10_code
def yX6_changesTo : MethodName := ⟨RX6, "changesTo", "(I)I"⟩
def RX7 : String := "DayCubes"
def TX7 : u_T := fun k => match k with
  | 0 => ("DayCubes", "reader", "LDayCubes$Reader;", true)
  | 1 => ("DayCubes", "told", "LDayCubes$Told;", false)
  | 2 => ("DayCubes", "draft", "LDayCubes$Told;", false)
  | 3 => ("DayCubes", "now", "LDayCubes$Stand;", true)
  | 4 => ("DayCubes", "images", "[LDayCubes$Stand;", true)
  | 5 => ("DayCubes", "kept", "[Z", true)
  | 6 => ("DayCubes", "seen", "LDayCubes$Seen;", true)
  | 7 => ("DayCubes", "tellers", "LDayCubes$Tellers;", true)
  | 8 => ("DayCubes", "walk", "LDayCubes$Walk;", true)
  | 9 => ("DayCubes", "fall", "LDayCubes$Fall;", true)
  | _ => ("DayCubes", "trace", "J", false)
def tyX7 : Nat → FieldType := fun k => match k with
  | 0 => .object "DayCubes$Reader"
  | 1 => .object "DayCubes$Told"
  | 2 => .object "DayCubes$Told"
  | 3 => .object "DayCubes$Stand"
  | 4 => .array (.object "DayCubes$Stand")
  | 5 => .array .boolean
  | 6 => .object "DayCubes$Seen"
  | 7 => .object "DayCubes$Tellers"
  | 8 => .object "DayCubes$Walk"
  | 9 => .object "DayCubes$Fall"
  | _ => .long
abbrev wsX70 : List Cond := u_ws RX7 TX7 11
theorem nmX7 : ∀ a, a < 11 → ∀ b, b < 11 → a ≠ b → (TX7 a).2.1 ≠ (TX7 b).2.1 := by decide +kernel
theorem tyX7_ok : ∀ k, k < 11 → parseFieldDescriptor (TX7 k).2.2.1 = some (tyX7 k) := by decide +kernel
abbrev cX7_init : ByteArray := prog_1_method_1_code
def yX7_init : MethodName := ⟨RX7, "<init>", "()V"⟩
abbrev cX7_type : ByteArray := prog_1_method_2_code
def yX7_type : MethodName := ⟨RX7, "type", "(I)I"⟩
abbrev cX7_clear : ByteArray := prog_1_method_3_code
def yX7_clear : MethodName := ⟨RX7, "clear", "()I"⟩
abbrev cX7_desk : ByteArray := prog_1_method_4_code
def yX7_desk : MethodName := ⟨RX7, "desk", "()I"⟩
abbrev cX7_side : ByteArray := prog_1_method_5_code
def yX7_side : MethodName := ⟨RX7, "side", "(II)I"⟩
abbrev cX7_cube : ByteArray := prog_1_method_6_code
def yX7_cube : MethodName := ⟨RX7, "cube", "(II)I"⟩
abbrev cX7_place : ByteArray := prog_1_method_7_code
def yX7_place : MethodName := ⟨RX7, "place", "(I)I"⟩
abbrev cX7_day : ByteArray := prog_1_method_8_code
def yX7_day : MethodName := ⟨RX7, "day", "(I)I"⟩
abbrev cX7_turn : ByteArray := prog_1_method_9_code
def yX7_turn : MethodName := ⟨RX7, "turn", "(II)I"⟩
abbrev cX7_changes : ByteArray := prog_1_method_10_code
def yX7_changes : MethodName := ⟨RX7, "changes", "(II)I"⟩
abbrev cX7_pastes : ByteArray := prog_1_method_11_code
def yX7_pastes : MethodName := ⟨RX7, "pastes", "(III)I"⟩
abbrev cX7_undo : ByteArray := prog_1_method_12_code
def yX7_undo : MethodName := ⟨RX7, "undo", "()I"⟩
abbrev cX7_now : ByteArray := prog_1_method_13_code
def yX7_now : MethodName := ⟨RX7, "now", "(I)I"⟩
abbrev cX7_number : ByteArray := prog_1_method_14_code
def yX7_number : MethodName := ⟨RX7, "number", "(II)I"⟩
abbrev cX7_through : ByteArray := prog_1_method_15_code
def yX7_through : MethodName := ⟨RX7, "through", "(II)I"⟩
abbrev cX7_odds : ByteArray := prog_1_method_16_code
def yX7_odds : MethodName := ⟨RX7, "odds", "(II)I"⟩
abbrev cX7_sees : ByteArray := prog_1_method_17_code
def yX7_sees : MethodName := ⟨RX7, "sees", "(II)I"⟩
abbrev cX7_forget : ByteArray := prog_1_method_18_code
def yX7_forget : MethodName := ⟨RX7, "forget", "()I"⟩
abbrev cX7_which : ByteArray := prog_1_method_19_code
def yX7_which : MethodName := ⟨RX7, "which", "()I"⟩
abbrev cX7_look : ByteArray := prog_1_method_20_code
def yX7_look : MethodName := ⟨RX7, "look", "()I"⟩
abbrev cX7_mark : ByteArray := prog_1_method_21_code
def yX7_mark : MethodName := ⟨RX7, "mark", "(II)I"⟩
abbrev cX7_keep : ByteArray := prog_1_method_22_code
def yX7_keep : MethodName := ⟨RX7, "keep", "(I)I"⟩
abbrev cX7_back : ByteArray := prog_1_method_23_code
def yX7_back : MethodName := ⟨RX7, "back", "(I)I"⟩
abbrev cX7_count : ByteArray := prog_1_method_24_code
def yX7_count : MethodName := ⟨RX7, "count", "(I)I"⟩
abbrev cX7_trace : ByteArray := prog_1_method_25_code
def yX7_trace : MethodName := ⟨RX7, "trace", "()J"⟩
abbrev cX7_isCube : ByteArray := prog_1_method_26_code
def yX7_isCube : MethodName := ⟨RX7, "isCube", "(I)Z"⟩
abbrev cX7_isPlace : ByteArray := prog_1_method_27_code
def yX7_isPlace : MethodName := ⟨RX7, "isPlace", "(I)Z"⟩
abbrev cX7_isNumber : ByteArray := prog_1_method_28_code
def yX7_isNumber : MethodName := ⟨RX7, "isNumber", "(I)Z"⟩
abbrev cX7_isSide : ByteArray := prog_1_method_29_code
def yX7_isSide : MethodName := ⟨RX7, "isSide", "(I)Z"⟩
abbrev cX7_isFigure : ByteArray := prog_1_method_30_code
def yX7_isFigure : MethodName := ⟨RX7, "isFigure", "(I)Z"⟩
abbrev cX7_isImage : ByteArray := prog_1_method_31_code
def yX7_isImage : MethodName := ⟨RX7, "isImage", "(I)Z"⟩
abbrev cX7_tellersBut : ByteArray := prog_1_method_32_code
def yX7_tellersBut : MethodName := ⟨RX7, "tellersBut", "(I)LDayCubes$Tellers;"⟩
abbrev cX7_numberInFront : ByteArray := prog_1_method_33_code
def yX7_numberInFront : MethodName := ⟨RX7, "numberInFront", "()I"⟩
abbrev cX7_isTold : ByteArray := prog_1_method_34_code
def yX7_isTold : MethodName := ⟨RX7, "isTold", "(I)Z"⟩
abbrev cX7_leastWork : ByteArray := prog_1_method_35_code
def yX7_leastWork : MethodName := ⟨RX7, "leastWork", "(II)I"⟩
abbrev cX7_sidesNeeded : ByteArray := prog_1_method_36_code
def yX7_sidesNeeded : MethodName := ⟨RX7, "sidesNeeded", "(I)I"⟩
abbrev cX7_markAs : ByteArray := prog_1_method_37_code
def yX7_markAs : MethodName := ⟨RX7, "markAs", "(II)I"⟩
def RX8 : String := "DayCubesModel"
def TX8 : u_T := fun k => match k with
  | 0 => ("DayCubesModel", "text", "[B", true)
  | 1 => ("DayCubesModel", "typed", "I", false)
  | 2 => ("DayCubesModel", "cubes", "[I", true)
  | 3 => ("DayCubesModel", "days", "[I", true)
  | 4 => ("DayCubesModel", "both", "[I", true)
  | 5 => ("DayCubesModel", "figure", "[I", true)
  | 6 => ("DayCubesModel", "day", "[I", true)
  | 7 => ("DayCubesModel", "at", "I", false)
  | 8 => ("DayCubesModel", "stands", "I", false)
  | 9 => ("DayCubesModel", "sort", "I", false)
  | 10 => ("DayCubesModel", "value", "I", false)
  | 11 => ("DayCubesModel", "isWrong", "Z", false)
  | 12 => ("DayCubesModel", "items", "I", false)
  | 13 => ("DayCubesModel", "now", "[I", true)
  | 14 => ("DayCubesModel", "known", "[I", true)
  | 15 => ("DayCubesModel", "before", "[I", true)
  | 16 => ("DayCubesModel", "store", "[I", true)
  | 17 => ("DayCubesModel", "isKept", "[Z", true)
  | 18 => ("DayCubesModel", "least", "[I", true)
  | 19 => ("DayCubesModel", "orders", "[I", true)
  | 20 => ("DayCubesModel", "manyOrders", "I", false)
  | 21 => ("DayCubesModel", "factOf", "[I", true)
  | 22 => ("DayCubesModel", "factIs", "[I", true)
  | 23 => ("DayCubesModel", "facts", "I", false)
  | _ => ("DayCubesModel", "trace", "J", false)
def tyX8 : Nat → FieldType := fun k => match k with
  | 0 => .array .byte
  | 1 => .int
  | 2 => .array .int
  | 3 => .array .int
  | 4 => .array .int
  | 5 => .array .int
  | 6 => .array .int
  | 7 => .int
  | 8 => .int
  | 9 => .int
  | 10 => .int
  | 11 => .boolean
  | 12 => .int
  | 13 => .array .int
  | 14 => .array .int
  | 15 => .array .int
  | 16 => .array .int
  | 17 => .array .boolean
  | 18 => .array .int
  | 19 => .array .int
  | 20 => .int
  | 21 => .array .int
  | 22 => .array .int
  | 23 => .int
  | _ => .long
abbrev wsX80 : List Cond := u_ws RX8 TX8 25
theorem nmX8 : ∀ a, a < 25 → ∀ b, b < 25 → a ≠ b → (TX8 a).2.1 ≠ (TX8 b).2.1 := by decide +kernel
theorem tyX8_ok : ∀ k, k < 25 → parseFieldDescriptor (TX8 k).2.2.1 = some (tyX8 k) := by decide +kernel
abbrev cX8_init : ByteArray := prog_10_method_1_code
def yX8_init : MethodName := ⟨RX8, "<init>", "()V"⟩
abbrev cX8_in : ByteArray := prog_10_method_3_code
def yX8_in : MethodName := ⟨RX8, "in", "(III)Z"⟩
abbrev cX8_has : ByteArray := prog_10_method_4_code
def yX8_has : MethodName := ⟨RX8, "has", "(II)Z"⟩
abbrev cX8_bitsOf : ByteArray := prog_10_method_5_code
def yX8_bitsOf : MethodName := ⟨RX8, "bitsOf", "(I)I"⟩
abbrev cX8_type : ByteArray := prog_10_method_6_code
def yX8_type : MethodName := ⟨RX8, "type", "(I)I"⟩
abbrev cX8_clear : ByteArray := prog_10_method_7_code
def yX8_clear : MethodName := ⟨RX8, "clear", "()I"⟩
abbrev cX8_here : ByteArray := prog_10_method_8_code
def yX8_here : MethodName := ⟨RX8, "here", "()I"⟩
abbrev cX8_step : ByteArray := prog_10_method_9_code
def yX8_step : MethodName := ⟨RX8, "step", "()V"⟩
abbrev cX8_due : ByteArray := prog_10_method_10_code
def yX8_due : MethodName := ⟨RX8, "due", "(Z)V"⟩
abbrev cX8_amount : ByteArray := prog_10_method_11_code
def yX8_amount : MethodName := ⟨RX8, "amount", "(II)I"⟩
abbrev cX8_power : ByteArray := prog_10_method_12_code
def yX8_power : MethodName := ⟨RX8, "power", "(I)I"⟩
abbrev cX8_item : ByteArray := prog_10_method_13_code
def yX8_item : MethodName := ⟨RX8, "item", "(I)V"⟩
abbrev cX8_may : ByteArray := prog_10_method_14_code
def yX8_may : MethodName := ⟨RX8, "may", "(I)Z"⟩
abbrev cX8_read : ByteArray := prog_10_method_15_code
def yX8_read : MethodName := ⟨RX8, "read", "()V"⟩
abbrev cX8_desk : ByteArray := prog_10_method_16_code
def yX8_desk : MethodName := ⟨RX8, "desk", "()I"⟩
abbrev cX8_begin : ByteArray := prog_10_method_17_code
def yX8_begin : MethodName := ⟨RX8, "begin", "()V"⟩
abbrev cX8_isCube : ByteArray := prog_10_method_18_code
def yX8_isCube : MethodName := ⟨RX8, "isCube", "(I)Z"⟩
abbrev cX8_isSide : ByteArray := prog_10_method_19_code
def yX8_isSide : MethodName := ⟨RX8, "isSide", "(I)Z"⟩
abbrev cX8_isNumber : ByteArray := prog_10_method_20_code
def yX8_isNumber : MethodName := ⟨RX8, "isNumber", "(I)Z"⟩
abbrev cX8_figureOf : ByteArray := prog_10_method_21_code
def yX8_figureOf : MethodName := ⟨RX8, "figureOf", "(II)I"⟩
abbrev cX8_fits : ByteArray := prog_10_method_22_code
def yX8_fits : MethodName := ⟨RX8, "fits", "(II)Z"⟩
abbrev cX8_hasFit : ByteArray := prog_10_method_23_code
def yX8_hasFit : MethodName := ⟨RX8, "hasFit", "(III)Z"⟩
abbrev cX8_placeOf : ByteArray := prog_10_method_24_code
def yX8_placeOf : MethodName := ⟨RX8, "placeOf", "(I)I"⟩
abbrev cX8_cubeIn : ByteArray := prog_10_method_25_code
def yX8_cubeIn : MethodName := ⟨RX8, "cubeIn", "(II)I"⟩
abbrev cX8_codes : ByteArray := prog_10_method_26_code
def yX8_codes : MethodName := ⟨RX8, "codes", "()I"⟩
abbrev cX8_isOrder : ByteArray := prog_10_method_27_code
def yX8_isOrder : MethodName := ⟨RX8, "isOrder", "(I)Z"⟩
abbrev cX8_orderNow : ByteArray := prog_10_method_28_code
def yX8_orderNow : MethodName := ⟨RX8, "orderNow", "()I"⟩
abbrev cX8_changesTo : ByteArray := prog_10_method_29_code
def yX8_changesTo : MethodName := ⟨RX8, "changesTo", "(II)I"⟩
abbrev cX8_turnsTo : ByteArray := prog_10_method_30_code
def yX8_turnsTo : MethodName := ⟨RX8, "turnsTo", "(II)I"⟩
abbrev cX8_can : ByteArray := prog_10_method_31_code
def yX8_can : MethodName := ⟨RX8, "can", "(III)Z"⟩
abbrev cX8_doneNow : ByteArray := prog_10_method_32_code
def yX8_doneNow : MethodName := ⟨RX8, "doneNow", "()I"⟩
abbrev cX8_neededOf : ByteArray := prog_10_method_33_code
def yX8_neededOf : MethodName := ⟨RX8, "neededOf", "(I)I"⟩
abbrev cX8_figuresOf : ByteArray := prog_10_method_34_code
def yX8_figuresOf : MethodName := ⟨RX8, "figuresOf", "(I)I"⟩
abbrev cX8_side : ByteArray := prog_10_method_35_code
def yX8_side : MethodName := ⟨RX8, "side", "(II)I"⟩
abbrev cX8_cube : ByteArray := prog_10_method_36_code
def yX8_cube : MethodName := ⟨RX8, "cube", "(II)I"⟩
abbrev cX8_place : ByteArray := prog_10_method_37_code
def yX8_place : MethodName := ⟨RX8, "place", "(I)I"⟩
abbrev cX8_day : ByteArray := prog_10_method_38_code
def yX8_day : MethodName := ⟨RX8, "day", "(I)I"⟩
abbrev cX8_know : ByteArray := prog_10_method_39_code
def yX8_know : MethodName := ⟨RX8, "know", "()V"⟩
abbrev cX8_worked : ByteArray := prog_10_method_40_code
def yX8_worked : MethodName := ⟨RX8, "worked", "(I)I"⟩
abbrev cX8_turn : ByteArray := prog_10_method_41_code
def yX8_turn : MethodName := ⟨RX8, "turn", "(II)I"⟩
abbrev cX8_changes : ByteArray := prog_10_method_42_code
def yX8_changes : MethodName := ⟨RX8, "changes", "(II)I"⟩
abbrev cX8_pastes : ByteArray := prog_10_method_43_code
def yX8_pastes : MethodName := ⟨RX8, "pastes", "(III)I"⟩
abbrev cX8_undo : ByteArray := prog_10_method_44_code
def yX8_undo : MethodName := ⟨RX8, "undo", "()I"⟩
abbrev cX8_inFront : ByteArray := prog_10_method_45_code
def yX8_inFront : MethodName := ⟨RX8, "inFront", "(I)I"⟩
abbrev cX8_now : ByteArray := prog_10_method_46_code
def yX8_now : MethodName := ⟨RX8, "now", "(I)I"⟩
abbrev cX8_isTold : ByteArray := prog_10_method_47_code
def yX8_isTold : MethodName := ⟨RX8, "isTold", "(I)Z"⟩
abbrev cX8_turnsFor : ByteArray := prog_10_method_48_code
def yX8_turnsFor : MethodName := ⟨RX8, "turnsFor", "(IIIII)I"⟩
abbrev cX8_tellTurns : ByteArray := prog_10_method_49_code
def yX8_tellTurns : MethodName := ⟨RX8, "tellTurns", "(II)V"⟩
abbrev cX8_tellOrders : ByteArray := prog_10_method_50_code
def yX8_tellOrders : MethodName := ⟨RX8, "tellOrders", "()V"⟩
abbrev cX8_placeIn : ByteArray := prog_10_method_51_code
def yX8_placeIn : MethodName := ⟨RX8, "placeIn", "(II)I"⟩
abbrev cX8_workBy : ByteArray := prog_10_method_52_code
def yX8_workBy : MethodName := ⟨RX8, "workBy", "(III)I"⟩
abbrev cX8_workFor : ByteArray := prog_10_method_53_code
def yX8_workFor : MethodName := ⟨RX8, "workFor", "(II)I"⟩
abbrev cX8_pastesFor : ByteArray := prog_10_method_54_code
def yX8_pastesFor : MethodName := ⟨RX8, "pastesFor", "(I)I"⟩
abbrev cX8_number : ByteArray := prog_10_method_55_code
def yX8_number : MethodName := ⟨RX8, "number", "(II)I"⟩
abbrev cX8_through : ByteArray := prog_10_method_56_code
def yX8_through : MethodName := ⟨RX8, "through", "(II)I"⟩
abbrev cX8_isBy : ByteArray := prog_10_method_57_code
def yX8_isBy : MethodName := ⟨RX8, "isBy", "(II)Z"⟩
abbrev cX8_odds : ByteArray := prog_10_method_58_code
def yX8_odds : MethodName := ⟨RX8, "odds", "(II)I"⟩
abbrev cX8_sees : ByteArray := prog_10_method_59_code
def yX8_sees : MethodName := ⟨RX8, "sees", "(II)I"⟩
abbrev cX8_forget : ByteArray := prog_10_method_60_code
def yX8_forget : MethodName := ⟨RX8, "forget", "()I"⟩
abbrev cX8_which : ByteArray := prog_10_method_61_code
def yX8_which : MethodName := ⟨RX8, "which", "()I"⟩
abbrev cX8_look : ByteArray := prog_10_method_62_code
def yX8_look : MethodName := ⟨RX8, "look", "()I"⟩
abbrev cX8_bodiesOf : ByteArray := prog_10_method_63_code
def yX8_bodiesOf : MethodName := ⟨RX8, "bodiesOf", "(I)I"⟩
abbrev cX8_mark : ByteArray := prog_10_method_64_code
def yX8_mark : MethodName := ⟨RX8, "mark", "(II)I"⟩
abbrev cX8_trace : ByteArray := prog_10_method_65_code
def yX8_trace : MethodName := ⟨RX8, "trace", "()J"⟩
abbrev cX8_keep : ByteArray := prog_10_method_66_code
def yX8_keep : MethodName := ⟨RX8, "keep", "(I)I"⟩
abbrev cX8_back : ByteArray := prog_10_method_67_code
def yX8_back : MethodName := ⟨RX8, "back", "(I)I"⟩
abbrev cX8_count : ByteArray := prog_10_method_68_code
def yX8_count : MethodName := ⟨RX8, "count", "(I)I"⟩
def RJ6 : String := "java/lang/Integer"
abbrev cJ6_bitCount_0f7a4 : ByteArray := prog_11_method_49_code
def yJ6_bitCount_0f7a4 : MethodName := ⟨RJ6, "bitCount", "(I)I"⟩
def RJ9 : String := "java/lang/Math"
abbrev cJ9_max_7cf53 : ByteArray := prog_12_method_65_code
def yJ9_max_7cf53 : MethodName := ⟨RJ9, "max", "(II)I"⟩
abbrev cJ9_min_7cf53 : ByteArray := prog_12_method_69_code
def yJ9_min_7cf53 : MethodName := ⟨RJ9, "min", "(II)I"⟩
def RJ10 : String := "java/lang/System"
def RJ7 : String := "java/util/Arrays"
abbrev cJ7_fill_53178 : ByteArray := prog_14_method_103_code
def yJ7_fill_53178 : MethodName := ⟨RJ7, "fill", "([II)V"⟩
abbrev cJ7_fill_49daa : ByteArray := prog_14_method_111_code
def yJ7_fill_49daa : MethodName := ⟨RJ7, "fill", "([ZZ)V"⟩
def RL : String := "DayCubesLaw"
abbrev cL_law : ByteArray := code
def yL_law : MethodName := ⟨RL, "law", "([I)Z"⟩
/-- the classes whose objects the heaps hold -/
def mCl : List vw_C := [(RX0, TX0, 5), (RX1, TX1, 6), (RX2, TX2, 3), (RX3, TX3, 6), (RX4, TX4, 2), (RX5, TX5, 6), (RX6, TX6, 11), (RX7, TX7, 11), (RX8, TX8, 25)]
end
section
/-! THE PURE LAYER: heaps of numbered cells, and a judgement mG over them that is proved once over the machine, an instruction a row. -/
abbrev mC : Type := (Nat × Nat × (Nat → Int32)) ⊕ ((Nat × (Nat → Option Nat)) ⊕ (Nat × List Value))
abbrev mH : Type := Nat → mC
/-- launch; classes and slots; array classes; first address; tables' addresses; script; whether cells 3, 4, 5 and 6, 7, 8 have changed places -/
abbrev mE : Type := Launch × va_G × (Nat → ClassId) × Nat × (Nat → Nat) × (Nat × (Nat → Int32)) × Bool
abbrev mY : Type := MethodName × ByteArray × Nat × Option FieldType
abbrev mM : Type := Room × mY
abbrev mKt : Type := List Frame → Array Value → State → State → Prop
def mSw (b : Bool) (k : Nat) : Nat := if b = true then (if 3 ≤ k ∧ k < 6 then k + 3 else if 6 ≤ k ∧ k < 9 then k - 3 else k) else k
theorem mSw_inj {b : Bool} {i j : Nat} (h : mSw b i = mSw b j) : i = j := by
  unfold mSw at h
  cases b <;> simp at h
  · exact h
  · split at h <;> split at h <;> (try split at h) <;> (try split at h) <;> omega
def mra (E : mE) (k : Nat) : Nat := if k < 1000 then E.2.2.2.1 + mSw E.2.2.2.2.2.2 k else E.2.2.2.2.1 (k - 1000)
def mrv (E : mE) : Value → Value
  | .ref k => .ref (mra E k)
  | v => v
theorem mrv_cat (E : mE) (v : Value) : (mrv E v).category = v.category := by cases v <;> rfl
def mEn (E : mE) : mC → va_E
  | .inl x => .inl (E.2.2.1 x.1, (x.2.1, .inl x.2.2))
  | .inr (.inl x) => .inl (E.2.2.1 3, (x.1, .inr (.inr (.inr (.inr (fun j => (x.2 j).map (mra E)))))))
  | .inr (.inr x) => .inr (x.1, x.2.map (mrv E))
def mWs (E : mE) (n : Nat) (h : mH) : va_W := (List.range n).map (fun k => (E.2.2.2.1 + mSw E.2.2.2.2.2.2 k, mEn E (h k)))
def mA (E : mE) : Nat → Prop := fun q => E.2.2.2.1 ≤ q
def mU (h : mH) (a : Nat) (c : mC) : mH := fun j => if j = a then c else h j
theorem mU_same (h : mH) (a : Nat) (c d : mC) : mU (mU h a c) a d = mU h a d := by
  funext j
  unfold mU
  by_cases e : j = a <;> simp [e]
theorem mU_self (h : mH) (a : Nat) (c : mC) (e : h a = c) : mU h a c = h := by
  funext j
  unfold mU
  by_cases q : j = a
  · rw [if_pos q, q, e]
  · rw [if_neg q]
theorem mU_comm (h : mH) {a b : Nat} (hab : a ≠ b) (c d : mC) : mU (mU h a c) b d = mU (mU h b d) a c := by
  funext j
  unfold mU
  by_cases q : j = a
  · subst q
    simp [hab]
  · by_cases r : j = b
    · subst r
      simp [q]
    · simp [q, r]
theorem mWs_get {E : mE} {n : Nat} {h : mH} {a : Nat} (ha : a < n) {c : mC} (hc : h a = c) : (mWs E n h)[a]? = some (E.2.2.2.1 + mSw E.2.2.2.2.2.2 a, mEn E c) := by
  unfold mWs
  rw [List.getElem?_map, List.getElem?_range ha, ← hc]
  rfl
theorem mWs_set {E : mE} {n : Nat} {h : mH} {a : Nat} (c : mC) : (mWs E n h).set a (E.2.2.2.1 + mSw E.2.2.2.2.2.2 a, mEn E c) = mWs E n (mU h a c) := by
  apply List.ext_getElem?
  intro i
  unfold mWs
  rw [List.getElem?_set]
  by_cases hi : i < n
  · by_cases e : a = i
    · subst e
      simp [hi, mU, List.getElem?_map, List.getElem?_range hi]
    · simp [e, mU, Ne.symm e, List.getElem?_map, List.getElem?_range hi]
  · by_cases e : a = i
    · subst e
      simp [hi, List.getElem?_map]
    · simp [e, hi, List.getElem?_map]
theorem mWs_D (E : mE) (n : Nat) (h : mH) : va_D (mA E) (mWs E n h) := by
  constructor
  · intro i j p q hp hq e
    unfold mWs at hp hq
    rw [List.getElem?_map] at hp hq
    cases hi : (List.range n)[i]? with
    | none => rw [hi] at hp; cases hp
    | some i' =>
      cases hj : (List.range n)[j]? with
      | none => rw [hj] at hq; cases hq
      | some j' =>
        rw [hi] at hp
        rw [hj] at hq
        cases hp
        cases hq
        have e1 := (List.getElem?_eq_some_iff.mp hi)
        have e2 := (List.getElem?_eq_some_iff.mp hj)
        obtain ⟨_, e1⟩ := e1
        obtain ⟨_, e2⟩ := e2
        simp at e1 e2
        subst e1
        subst e2
        exact mSw_inj (Nat.add_left_cancel e)
  · intro k q hk
    obtain ⟨i, -, hi⟩ := List.mem_map.mp (List.mem_of_getElem? hk)
    rw [← hi]
    exact Nat.le_add_right _ _
/-! the words that every method takes along -/
def mw : List Cond := lw_tbl.filter goodWord
theorem mw_of {w : Cond} (i : Nat) (h : lw_tbl[i]? = some w) (g : goodWord w = true) : w ∈ mw := List.mem_filter.mpr ⟨List.mem_of_getElem? h, g⟩
theorem mGood {w : Cond} (hw : w ∈ mw) : GoodIn mw (w :: mw) := fun x hx => by
  have hx' : x ∈ mw := (List.mem_cons.mp hx).elim (fun e => e ▸ hw) id
  exact ⟨hx', good_of_word (List.mem_filter.mp hx').2⟩
/-! what isn't among them: nest mates, arrays over a class -/
def mNf : List (String × Nat × String) := [("DayCubes$Told", 32, "POWERS_OF_TEN"), ("DayCubes$Tellers", 51, "POWERS_OF_TEN"), ("DayCubes$Fall", 45, "POWERS_OF_SIX")]
def mNm : List (Nat × String) := [(9, "DayCubes$Reader"), (18, "DayCubes$Told"), (28, "DayCubes$Stand"), (43, "DayCubes$Seen"), (50, "DayCubes$Tellers"), (57, "DayCubes$Walk"), (64, "DayCubes$Fall")]
def mTys (E : mE) : List (ClassId × FieldType) := [(E.2.2.1 0, .int), (E.2.2.1 1, .byte), (E.2.2.1 2, .boolean), (E.2.2.1 3, .object "DayCubes$Stand")]
def mKn (E : mE) (U : State) : Prop := va_K E.2.1 mCl (mTys E) U ∧ va_AO "DayCubes$Stand" U ∧ (∀ q ∈ mNf, va_Nw (.fieldLinkNest q.1 q.2.1 "DayCubes" q.2.2 "[I" "DayCubes") U) ∧ ∀ q ∈ mNm, va_Nw (.methodLinkNest "DayCubes" q.1 ⟨q.2, "<init>", "()V"⟩ "DayCubes") U
theorem mKn.warm {E : mE} {s U : State} (hW : s.WarmedH U.vm) (h : mKn E s) : mKn E U := ⟨va_K.moved hW.alike h.1, va_AO.moved hW.alike h.2.1, fun q hq => va_Nw.warmF hW (h.2.2.1 q hq), fun q hq => va_Nw.warmM hW (h.2.2.2 q hq)⟩
theorem mKn.same {E : mE} {s U : State} (hv : s.vm = U.vm) (h : mKn E s) : mKn E U := ⟨va_K.moved (by rw [hv]; exact Vm.Alike.refl _) h.1, va_AO.moved (by rw [hv]; exact Vm.Alike.refl _) h.2.1, fun q hq => va_Nw.same rfl hv (h.2.2.1 q hq), fun q hq => va_Nw.same rfl hv (h.2.2.2 q hq)⟩
/-! tables: 0 POWERS_OF_TEN, 1 POWERS_OF_SIX, 2 KIND_ABOVE, 3 KIND_TRACE, 4 SETS_WITHOUT, 5 the script -/
def mSC : Nat → String := fun i => if i = 4 then "DayCubes$Tellers" else "DayCubes"
def mSN : Nat → String := fun i => match i with
  | 0 => "POWERS_OF_TEN"
  | 1 => "POWERS_OF_SIX"
  | 2 => "KIND_ABOVE"
  | 3 => "KIND_TRACE"
  | _ => "SETS_WITHOUT"
def mTab : Nat → List Int32 := fun i => match i with
  | 0 => [1, 10, 100, 1000, 10000]
  | 1 => [1, 6, 36, 216, 1296]
  | 2 => [0, 0, 0, 1, 2, 0]
  | 3 => [1, 10, 100, 1000, 10000, 100000]
  | _ => [0x5555, 0x3333, 0x0F0F, 0x00FF]
def mTL (E : mE) (i : Nat) : Nat := if i < 5 then (mTab i).length else E.2.2.2.2.2.1.1
def mTF (E : mE) (i j : Nat) : Int32 := if i < 5 then (mTab i).getD j 0 else E.2.2.2.2.2.1.2 j
def mSt (E : mE) (U : State) (H : Heap) : Prop := (∀ i, i < 5 → va_Z (mSC i) (mSN i) "[I" (.ref (E.2.2.2.2.1 i)) (mA E) U H) ∧ ∀ i, i < 6 → va_T .int (E.2.2.2.2.1 i) (mTL E i) (fun j => .int (mTF E i j)) (mA E) U H
theorem mSt.kept {E : mE} {u U : State} {H H1 : Heap} (hv : u.vm.Alike U.vm) (h : mSt E u H) (hq : ∀ a : Nat, a < H.size → ¬ mA E a → H1[a]? = H[a]?) : mSt E U H1 := ⟨fun i hi => va_Z.moved hv ((h.1 i hi).kept hq), fun i hi => va_T.moved hv ((h.2 i hi).kept hq)⟩
def mRep (E : mE) (n : Nat) (h : mH) (H : Heap) : Prop := n ≤ 1000 ∧ va_P E.2.1 mCl (mWs E n h) H
def mRs (E : mE) (s : State) (a : Nat × Nat × Nat) (h : mH) (H : Heap) : Prop := s.heap.size + a.2.1 = E.2.2.2.1 + a.1 ∧ mRep E a.1 h H
theorem mRep.size {E : mE} {n : Nat} {h : mH} {H : Heap} (R : mRep E n h H) (hE : E.2.2.2.2.2.2 = true → 9 ≤ n) : n = 0 ∨ E.2.2.2.1 + n ≤ H.size := by
  rcases Nat.eq_zero_or_pos n with h0 | h0
  · exact Or.inl h0
  · right
    have key : ∀ i, i < n → E.2.2.2.1 + mSw E.2.2.2.2.2.2 i < H.size := fun i hi => (R.2 i _ (mWs_get hi rfl)).lt
    cases hb : E.2.2.2.2.2.2 with
    | false =>
      have := key (n - 1) (by omega)
      rw [hb] at this
      simp [mSw] at this
      omega
    | true =>
      have h9 := hE hb
      by_cases h10 : 10 ≤ n
      · have := key (n - 1) (by omega)
        rw [hb] at this
        unfold mSw at this
        rw [if_pos rfl, if_neg (by omega), if_neg (by omega)] at this
        omega
      · have e9 : n = 9 := by omega
        have := key 5 (by omega)
        rw [hb] at this
        unfold mSw at this
        rw [if_pos rfl, if_pos (by omega)] at this
        omega
/-! locals -/
def mPr (E : mE) (L : List (Option Value)) : List (Nat × Value) := (List.range L.length).filterMap (fun i => match L[i]? with
  | some (some v) => some (i, mrv E v)
  | _ => none)
theorem mPr_mem {E : mE} {L : List (Option Value)} {i : Nat} {w : Value} : (i, w) ∈ mPr E L ↔ ∃ v, L[i]? = some (some v) ∧ w = mrv E v := by
  unfold mPr
  rw [List.mem_filterMap]
  constructor
  · rintro ⟨j, -, hj⟩
    split at hj
    · rename_i v hv
      simp at hj
      obtain ⟨rfl, rfl⟩ := hj
      exact ⟨v, hv, rfl⟩
    · cases hj
  · rintro ⟨v, hv, rfl⟩
    refine ⟨i, List.mem_range.mpr (List.getElem?_eq_some_iff.mp hv).1, ?_⟩
    rw [hv]
theorem mHas_at {E : mE} {ls : Array Slot} {nL : Nat} {L : List (Option Value)} (V : lv_has ls nL (mPr E L)) {i : Nat} {v : Value} (hi : L[i]? = some (some v)) : ls[i]? = some (.val (mrv E v)) := V.2.2 (i, mrv E v) (mPr_mem.mpr ⟨v, hi, rfl⟩)
/-- a store of one word at i leaves the others, if the one ahead isn't a long -/
def mOkS (L : List (Option Value)) (i : Nat) : Bool := match i with
  | 0 => true
  | j + 1 => match L[j]? with
    | some (some v) => v.category == 1
    | _ => true
theorem mHas_set {E : mE} {ls : Array Slot} {nL : Nat} {L : List (Option Value)} {i : Nat} {v : Value} (V : lv_has ls nL ((i, mrv E v) :: (mPr E L).filter (fun q => !(q.1 == i) && !(q.1 + 1 == i && q.2.category == 2)))) (hok : mOkS L i = true) : lv_has ls nL (mPr E (L.set i (some v))) := by
  refine ⟨V.1, V.2.1, ?_⟩
  rintro ⟨j, w⟩ hq
  obtain ⟨u, hu, rfl⟩ := mPr_mem.mp hq
  rw [List.getElem?_set] at hu
  by_cases e : i = j
  · subst e
    rw [if_pos rfl] at hu
    split at hu
    · cases hu
      exact V.2.2 (i, mrv E v) List.mem_cons_self
    · cases hu
  · rw [if_neg e] at hu
    refine V.2.2 (j, mrv E u) (List.mem_cons_of_mem _ (List.mem_filter.mpr ⟨mPr_mem.mpr ⟨u, hu, rfl⟩, ?_⟩))
    have e1 : ¬ j = i := fun z => e z.symm
    simp only [Bool.and_eq_true, Bool.not_eq_true', beq_eq_false_iff_ne, ne_eq, e1, not_false_iff, true_and, Bool.and_eq_false_iff]
    by_cases e2 : j + 1 = i
    · right
      subst e2
      simp [mOkS, hu] at hok
      rw [mrv_cat]
      omega
    · left
      exact e2
theorem mHas_set2 {E : mE} {ls : Array Slot} {nL : Nat} {L : List (Option Value)} {i : Nat} {v : Value} (V : lv_has ls nL ((i, mrv E v) :: (mPr E L).filter (fun q => !(q.1 == i) && (!(q.1 == i + 1) && !(q.1 + 1 == i && q.2.category == 2))))) (hok : mOkS L i = true) : lv_has ls nL (mPr E ((L.set i (some v)).set (i + 1) none)) := by
  refine ⟨V.1, V.2.1, ?_⟩
  rintro ⟨j, w⟩ hq
  obtain ⟨u, hu, rfl⟩ := mPr_mem.mp hq
  rw [List.getElem?_set] at hu
  by_cases e0 : i + 1 = j
  · rw [if_pos e0] at hu
    split at hu <;> cases hu
  · rw [if_neg e0, List.getElem?_set] at hu
    by_cases e : i = j
    · subst e
      rw [if_pos rfl] at hu
      split at hu
      · cases hu
        exact V.2.2 (i, mrv E v) List.mem_cons_self
      · cases hu
    · rw [if_neg e] at hu
      refine V.2.2 (j, mrv E u) (List.mem_cons_of_mem _ (List.mem_filter.mpr ⟨mPr_mem.mpr ⟨u, hu, rfl⟩, ?_⟩))
      have e1 : ¬ j = i := fun z => e z.symm
      have e3 : ¬ j = i + 1 := fun z => e0 z.symm
      simp only [Bool.and_eq_true, Bool.not_eq_true', beq_eq_false_iff_ne, ne_eq, e1, e3, not_false_iff, true_and, Bool.and_eq_false_iff]
      by_cases e2 : j + 1 = i
      · right
        subst e2
        simp [mOkS, hu] at hok
        rw [mrv_cat]
        omega
      · left
        exact e2
/-! the judgement -/
def mCx (E : mE) (M : mM) (p : Program) (s : State) (m : MethodId) (args : Array Value) (meth : Method) (c : Code) : Prop :=
  p.tables.exec = Jvm.exec ∧ c.code = M.2.2.1 ∧ c.maxLocals = M.2.2.2.1 ∧ meth.sig.returnType = M.2.2.2.2 ∧ meth.locks = false ∧ s.vm.findClass M.2.1.cls = some m.cls ∧ meth.name = M.2.1.name ∧ (∀ w ∈ mw, w.before args s = true) ∧ mKn E s ∧ mSt E s s.heap ∧ E.2.2.2.1 ≤ s.heap.size
def mG (E : mE) (M : mM) (K : mKt) (pc : Nat) (L : List (Option Value)) (st : List Value) (a : Nat × Nat × Nat) (h : mH) : Prop :=
  ∀ (p : Program) (e : Env) (s : State) (m : MethodId) (args : Array Value) (below : List Frame) (meth : Method) (c : Code) (H : Heap) (locs : List Loc) (ls : Array Slot), mCx E M p s m args meth c → mRs E s a h H → va_S (mA E) s.heap H locs → lv_has ls M.2.2.2.1 (mPr E L) →
    W p E.1 e M.1 s m args below meth c H locs a.2.1 a.2.2 (K below args s) (F0 m pc ls (st.map (mrv E)))
/-- an instruction at pc, and where the next one is -/
def mD (cc : ByteArray) (pc : Nat) (i : Instr) (len pc' : Nat) : Prop := decode cc pc = .ok (i, len) ∧ pc + len = pc'
/-- a jump at pc: the next one, and where it goes -/
def mJ (cc : ByteArray) (pc : Nat) (i : Int → Instr) (pc' tgt : Nat) : Prop := ∃ off, decode cc pc = .ok (i off, 3) ∧ pc + 3 = pc' ∧ (pc : Int) + off = (tgt : Int)
theorem mJ.of {cc : ByteArray} {pc : Nat} {i : Int → Instr} {pc' tgt : Nat} (off : Int) (h : decode cc pc = .ok (i off, 3)) (h1 : pc + 3 = pc') (h2 : (pc : Int) + off = (tgt : Int)) : mJ cc pc i pc' tgt := ⟨off, h, h1, h2⟩
def mR (d : Nat) : Room := { frames := d, cells := 0, slots := 0, locals := 60 * d }
def mRa (d mc ms : Nat) : Room := { frames := d, cells := mc, slots := ms, locals := 60 * d }
def mPc (E : mE) (av : List Value) (n : Nat) (h : mH) : Array Value → State → Prop := fun v U => v = (av.map (mrv E)).toArray ∧ mRep E n h U.heap ∧ mKn E U ∧ mSt E U U.heap ∧ U.heap.size = E.2.2.2.1 + n
def mQc (E : mE) (n' : Nat) (Q : Option Value → mH → Prop) : Array Value → State → Outcome → State → Prop := fun _ st o t => (∃ (r : Option Value) (h' : mH), o = .returned (r.map (mrv E)) ∧ Q r h' ∧ mRep E n' h' t.heap) ∧ va_F (mA E) st t
def mKq (E : mE) (R : Room) (n' : Nat) (Q : Option Value → mH → Prop) : mKt := fun below args s => MQ below (mQc E n' Q) args s R.cells R.slots (mA E)
def mOkR (E : mE) (R : Room) (Y : mY) (av : List Value) (n n' : Nat) (h : mH) (Q : Option Value → mH → Prop) : Prop :=
  Met E.1 Y.1 (.code Y.1 Y.2.1 Y.2.2.1 Y.2.2.2 :: mw) R (mPc E av n h) (mQc E n' Q) R.cells R.slots (mA E)
/-- all cells of a run: 40 of the class, 16 of the reference -/
abbrev mN : Nat := 56
abbrev mOk (E : mE) (d : Nat) (Y : mY) (av : List Value) (h : mH) (Q : Option Value → mH → Prop) : Prop := mOkR E (mR d) Y av mN mN h Q
abbrev mKn0 (E : mE) (d : Nat) (Q : Option Value → mH → Prop) : mKt := mKq E (mR d) mN Q
theorem mPr_args (E : mE) (av : List Value) (hc : ∀ v ∈ av, v.category = 1) (k : Nat) {nL : Nat} {ls : Array Slot} (V : lv_has ls nL (lv_args 0 (av.map (mrv E)))) : lv_has ls nL (mPr E (av.map some ++ List.replicate k none)) := by
  have key : ∀ (av : List Value), (∀ v ∈ av, v.category = 1) → ∀ (o i : Nat) (v : Value), av[i]? = some v → (o + i, mrv E v) ∈ lv_args o (av.map (mrv E)) := by
    intro av
    induction av with
    | nil => intro _ o i v h; simp at h
    | cons x t ih =>
      intro hc o i v h
      have hx : (mrv E x).category = 1 := by rw [mrv_cat]; exact hc x List.mem_cons_self
      cases i with
      | zero =>
        simp at h
        subst h
        simp [lv_args]
      | succ j =>
        simp at h
        have := ih (fun v hv => hc v (List.mem_cons_of_mem _ hv)) (o + 1) j v h
        have e : o + (j + 1) = o + 1 + j := by omega
        rw [e]
        simp only [List.map_cons, lv_args, hx]
        exact List.mem_cons_of_mem _ this
  refine ⟨V.1, V.2.1, ?_⟩
  rintro ⟨i, w⟩ hq
  obtain ⟨v, hv, rfl⟩ := mPr_mem.mp hq
  have hav : av[i]? = some v := by
    rw [List.getElem?_append] at hv
    split at hv
    · rw [List.getElem?_map] at hv
      cases ha : av[i]? with
      | none => rw [ha] at hv; cases hv
      | some u =>
        rw [ha] at hv
        cases hv
        rfl
    · rw [List.getElem?_replicate] at hv
      split at hv <;> cases hv
  have := key av hc 0 i v hav
  rw [Nat.zero_add] at this
  exact V.2.2 _ this
end
section
section MR
variable {E : mE} {M : mM} {K : mKt} {pc pc' : Nat} {L L' : List (Option Value)} {st : List Value} {a : Nat × Nat × Nat} {h h' : mH}
theorem mG_pc {pc2 : Nat} (e : pc = pc2) (k : mG E M K pc2 L st a h) : mG E M K pc L st a h := e ▸ k
theorem mI_ofInt (n : Nat) : Int32.ofInt (n : Int) = nI n := by
  first | rfl | exact Int32.ofInt_eq_ofNat | simp [nI]
theorem mG_iconst {n : Int} {v : Int32} (hd : mD M.2.2.1 pc (.iconst n) 1 pc') (hv : Int32.ofInt n = v) (k : mG E M K pc' L (.int v :: st) a h) : mG E M K pc L (st) a h := by
  obtain ⟨hd, rfl⟩ := hd
  exact fun p e s m args below meth c H locs ls C R S V => lv_iconst C.1 C.2.1 hd hv (k p e s m args below meth c H locs ls C R S V)
theorem mG_bipush {n : Int} {v : Int32} (hd : mD M.2.2.1 pc (.bipush n) 2 pc') (hv : (Int8.ofInt n).toInt32 = v) (k : mG E M K pc' L (.int v :: st) a h) : mG E M K pc L (st) a h := by
  obtain ⟨hd, rfl⟩ := hd
  exact fun p e s m args below meth c H locs ls C R S V => lv_bipush C.1 C.2.1 hd hv (k p e s m args below meth c H locs ls C R S V)
theorem mG_sipush {n : Int} {v : Int32} (hd : mD M.2.2.1 pc (.sipush n) 3 pc') (hv : (Int16.ofInt n).toInt32 = v) (k : mG E M K pc' L (.int v :: st) a h) : mG E M K pc L (st) a h := by
  obtain ⟨hd, rfl⟩ := hd
  exact fun p e s m args below meth c H locs ls C R S V => lv_sipush C.1 C.2.1 hd hv (k p e s m args below meth c H locs ls C R S V)
theorem mG_lconst {n : Fin 2} {v : Int64} (hd : mD M.2.2.1 pc (.lconst n) 1 pc') (hv : Int64.ofNat (n : Nat) = v) (k : mG E M K pc' L (.long v :: st) a h) : mG E M K pc L (st) a h := by
  obtain ⟨hd, rfl⟩ := hd
  exact fun p e s m args below meth c H locs ls C R S V => lv_lconst C.1 C.2.1 hd hv (k p e s m args below meth c H locs ls C R S V)
theorem mG_ldc {i : Nat} {v : Int32} (hd : mD M.2.2.1 pc (.ldc i) 2 pc') (hw : Cond.constant M.2.1.cls i v ∈ mw) (k : mG E M K pc' L (.int v :: st) a h) : mG E M K pc L (st) a h := by
  obtain ⟨hd, rfl⟩ := hd
  exact fun p e s m args below meth c H locs ls C R S V => lv_ldc C.1 C.2.1 C.2.2.2.2.2.1 (C.2.2.2.2.2.2.2.1 _ hw) hd (k p e s m args below meth c H locs ls C R S V)
theorem mG_ldcw {i : Nat} {v : Int32} (hd : mD M.2.2.1 pc (.ldc_w i) 3 pc') (hw : Cond.constant M.2.1.cls i v ∈ mw) (k : mG E M K pc' L (.int v :: st) a h) : mG E M K pc L (st) a h := by
  obtain ⟨hd, rfl⟩ := hd
  exact fun p e s m args below meth c H locs ls C R S V => lv_ldcw C.1 C.2.1 C.2.2.2.2.2.1 (C.2.2.2.2.2.2.2.1 _ hw) hd (k p e s m args below meth c H locs ls C R S V)
theorem mG_ldc2 {i : Nat} {v : Int64} (hd : mD M.2.2.1 pc (.ldc2_w i) 3 pc') (hw : Cond.constantLong M.2.1.cls i v ∈ mw) (k : mG E M K pc' L (.long v :: st) a h) : mG E M K pc L (st) a h := by
  obtain ⟨hd, rfl⟩ := hd
  exact fun p e s m args below meth c H locs ls C R S V => lv_ldc2 C.1 C.2.1 C.2.2.2.2.2.1 (C.2.2.2.2.2.2.2.1 _ hw) hd (k p e s m args below meth c H locs ls C R S V)
theorem mG_iload_n {k : Fin 4} {x : Int32} (hd : mD M.2.2.1 pc (.iload_n k) 1 pc') (hl : L[(k : Nat)]? = some (some (.int x))) (k : mG E M K pc' L (.int x :: st) a h) : mG E M K pc L (st) a h := by
  obtain ⟨hd, rfl⟩ := hd
  exact fun p e s m args below meth c H locs ls C R S V => lv_iload_n C.1 C.2.1 hd rfl (mHas_at V hl) (k p e s m args below meth c H locs ls C R S V)
theorem mG_iload {i : Nat} {x : Int32} (hd : mD M.2.2.1 pc (.iload i) 2 pc') (hl : L[i]? = some (some (.int x))) (k : mG E M K pc' L (.int x :: st) a h) : mG E M K pc L (st) a h := by
  obtain ⟨hd, rfl⟩ := hd
  exact fun p e s m args below meth c H locs ls C R S V => lv_iload C.1 C.2.1 hd (mHas_at V hl) (k p e s m args below meth c H locs ls C R S V)
theorem mG_lload {i : Nat} {x : Int64} (hd : mD M.2.2.1 pc (.lload i) 2 pc') (hl : L[i]? = some (some (.long x))) (k : mG E M K pc' L (.long x :: st) a h) : mG E M K pc L (st) a h := by
  obtain ⟨hd, rfl⟩ := hd
  exact fun p e s m args below meth c H locs ls C R S V => lv_lload C.1 C.2.1 hd (mHas_at V hl) (k p e s m args below meth c H locs ls C R S V)
theorem mG_aload_n {k : Fin 4} {x : Nat} (hd : mD M.2.2.1 pc (.aload_n k) 1 pc') (hl : L[(k : Nat)]? = some (some (.ref x))) (k : mG E M K pc' L (.ref x :: st) a h) : mG E M K pc L (st) a h := by
  obtain ⟨hd, rfl⟩ := hd
  exact fun p e s m args below meth c H locs ls C R S V => lv_aload_n C.1 C.2.1 hd rfl (mHas_at V hl) (k p e s m args below meth c H locs ls C R S V)
theorem mG_aload {i : Nat} {x : Nat} (hd : mD M.2.2.1 pc (.aload i) 2 pc') (hl : L[i]? = some (some (.ref x))) (k : mG E M K pc' L (.ref x :: st) a h) : mG E M K pc L (st) a h := by
  obtain ⟨hd, rfl⟩ := hd
  exact fun p e s m args below meth c H locs ls C R S V => lv_aload C.1 C.2.1 hd (mHas_at V hl) (k p e s m args below meth c H locs ls C R S V)
theorem mG_iadd {x y : Int32} (hd : mD M.2.2.1 pc (.iadd) 1 pc')  (k : mG E M K pc' L (.int (x + y) :: st) a h) : mG E M K pc L (.int y :: .int x :: st) a h := by
  obtain ⟨hd, rfl⟩ := hd
  exact fun p e s m args below meth c H locs ls C R S V => lv_iadd C.1 C.2.1 hd (k p e s m args below meth c H locs ls C R S V)
theorem mG_isub {x y : Int32} (hd : mD M.2.2.1 pc (.isub) 1 pc')  (k : mG E M K pc' L (.int (x - y) :: st) a h) : mG E M K pc L (.int y :: .int x :: st) a h := by
  obtain ⟨hd, rfl⟩ := hd
  exact fun p e s m args below meth c H locs ls C R S V => lv_isub C.1 C.2.1 hd (k p e s m args below meth c H locs ls C R S V)
theorem mG_imul {x y : Int32} (hd : mD M.2.2.1 pc (.imul) 1 pc')  (k : mG E M K pc' L (.int (x * y) :: st) a h) : mG E M K pc L (.int y :: .int x :: st) a h := by
  obtain ⟨hd, rfl⟩ := hd
  exact fun p e s m args below meth c H locs ls C R S V => lv_imul C.1 C.2.1 hd (k p e s m args below meth c H locs ls C R S V)
theorem mG_iand {x y : Int32} (hd : mD M.2.2.1 pc (.iand) 1 pc')  (k : mG E M K pc' L (.int (x &&& y) :: st) a h) : mG E M K pc L (.int y :: .int x :: st) a h := by
  obtain ⟨hd, rfl⟩ := hd
  exact fun p e s m args below meth c H locs ls C R S V => lv_iand C.1 C.2.1 hd (k p e s m args below meth c H locs ls C R S V)
theorem mG_ior {x y : Int32} (hd : mD M.2.2.1 pc (.ior) 1 pc')  (k : mG E M K pc' L (.int (x ||| y) :: st) a h) : mG E M K pc L (.int y :: .int x :: st) a h := by
  obtain ⟨hd, rfl⟩ := hd
  exact fun p e s m args below meth c H locs ls C R S V => lv_ior C.1 C.2.1 hd (k p e s m args below meth c H locs ls C R S V)
theorem mG_ixor {x y : Int32} (hd : mD M.2.2.1 pc (.ixor) 1 pc')  (k : mG E M K pc' L (.int (x ^^^ y) :: st) a h) : mG E M K pc L (.int y :: .int x :: st) a h := by
  obtain ⟨hd, rfl⟩ := hd
  exact fun p e s m args below meth c H locs ls C R S V => lv_ixor C.1 C.2.1 hd (k p e s m args below meth c H locs ls C R S V)
theorem mG_ishl {x y : Int32} (hd : mD M.2.2.1 pc (.ishl) 1 pc')  (k : mG E M K pc' L (.int (x <<< (y &&& 31)) :: st) a h) : mG E M K pc L (.int y :: .int x :: st) a h := by
  obtain ⟨hd, rfl⟩ := hd
  exact fun p e s m args below meth c H locs ls C R S V => lv_ishl C.1 C.2.1 hd (k p e s m args below meth c H locs ls C R S V)
theorem mG_ishr {x y : Int32} (hd : mD M.2.2.1 pc (.ishr) 1 pc')  (k : mG E M K pc' L (.int (x >>> (y &&& 31)) :: st) a h) : mG E M K pc L (.int y :: .int x :: st) a h := by
  obtain ⟨hd, rfl⟩ := hd
  exact fun p e s m args below meth c H locs ls C R S V => lv_ishr C.1 C.2.1 hd (k p e s m args below meth c H locs ls C R S V)
theorem mG_iushr {x y v : Int32} (hd : mD M.2.2.1 pc (.iushr) 1 pc') (hv : (x.toUInt32 >>> (y.toUInt32 &&& Int32.toUInt32 31)).toInt32 = v) (k : mG E M K pc' L (.int v :: st) a h) : mG E M K pc L (.int y :: .int x :: st) a h := by
  obtain ⟨hd, rfl⟩ := hd
  exact fun p e s m args below meth c H locs ls C R S V => lv_iushr C.1 C.2.1 hd hv (k p e s m args below meth c H locs ls C R S V)
theorem mG_idiv {x y : Int32} (hd : mD M.2.2.1 pc (.idiv) 1 pc') (hne : ¬ y = 0) (k : mG E M K pc' L (.int (x / y) :: st) a h) : mG E M K pc L (.int y :: .int x :: st) a h := by
  obtain ⟨hd, rfl⟩ := hd
  exact fun p e s m args below meth c H locs ls C R S V => lv_idiv C.1 C.2.1 hd hne (k p e s m args below meth c H locs ls C R S V)
theorem mG_irem {x y : Int32} (hd : mD M.2.2.1 pc (.irem) 1 pc') (hne : ¬ y = 0) (k : mG E M K pc' L (.int (x - x / y * y) :: st) a h) : mG E M K pc L (.int y :: .int x :: st) a h := by
  obtain ⟨hd, rfl⟩ := hd
  exact fun p e s m args below meth c H locs ls C R S V => lv_irem C.1 C.2.1 hd hne (k p e s m args below meth c H locs ls C R S V)
theorem mG_ladd {x y : Int64} (hd : mD M.2.2.1 pc (.ladd) 1 pc')  (k : mG E M K pc' L (.long (x + y) :: st) a h) : mG E M K pc L (.long y :: .long x :: st) a h := by
  obtain ⟨hd, rfl⟩ := hd
  exact fun p e s m args below meth c H locs ls C R S V => lv_ladd C.1 C.2.1 hd (k p e s m args below meth c H locs ls C R S V)
theorem mG_lmul {x y : Int64} (hd : mD M.2.2.1 pc (.lmul) 1 pc')  (k : mG E M K pc' L (.long (x * y) :: st) a h) : mG E M K pc L (.long y :: .long x :: st) a h := by
  obtain ⟨hd, rfl⟩ := hd
  exact fun p e s m args below meth c H locs ls C R S V => lv_lmul C.1 C.2.1 hd (k p e s m args below meth c H locs ls C R S V)
theorem mG_lcmp {x y : Int64} (hd : mD M.2.2.1 pc (.lcmp) 1 pc')  (k : mG E M K pc' L (.int (lg_cmp x y) :: st) a h) : mG E M K pc L (.long y :: .long x :: st) a h := by
  obtain ⟨hd, rfl⟩ := hd
  exact fun p e s m args below meth c H locs ls C R S V => W.lcmp C.1 C.2.1 hd (k p e s m args below meth c H locs ls C R S V)
theorem mG_i2l {x : Int32} (hd : mD M.2.2.1 pc (.i2l) 1 pc')  (k : mG E M K pc' L (.long x.toInt64 :: st) a h) : mG E M K pc L (.int x :: st) a h := by
  obtain ⟨hd, rfl⟩ := hd
  exact fun p e s m args below meth c H locs ls C R S V => lv_i2l C.1 C.2.1 hd rfl (k p e s m args below meth c H locs ls C R S V)
theorem mG_i2b {x : Int32} (hd : mD M.2.2.1 pc (.i2b) 1 pc')  (k : mG E M K pc' L (.int x.toInt8.toInt32 :: st) a h) : mG E M K pc L (.int x :: st) a h := by
  obtain ⟨hd, rfl⟩ := hd
  exact fun p e s m args below meth c H locs ls C R S V => lv_i2b C.1 C.2.1 hd rfl (k p e s m args below meth c H locs ls C R S V)
theorem mG_dup {v : Value} (hd : mD M.2.2.1 pc (.dup) 1 pc') (hv : v.category = 1) (k : mG E M K pc' L (v :: v :: st) a h) : mG E M K pc L (v :: st) a h := by
  obtain ⟨hd, rfl⟩ := hd
  exact fun p e s m args below meth c H locs ls C R S V => lv_dup C.1 C.2.1 hd ((mrv_cat E v).trans hv) (k p e s m args below meth c H locs ls C R S V)
theorem mG_pop {v : Value} (hd : mD M.2.2.1 pc (.pop) 1 pc') (hv : v.category = 1) (k : mG E M K pc' L (st) a h) : mG E M K pc L (v :: st) a h := by
  obtain ⟨hd, rfl⟩ := hd
  exact fun p e s m args below meth c H locs ls C R S V => lv_pop C.1 C.2.1 hd ((mrv_cat E v).trans hv) (k p e s m args below meth c H locs ls C R S V)
theorem mG_dup2 {v w : Value} (hd : mD M.2.2.1 pc (.dup2) 1 pc') (hv : v.category = 1) (hw : w.category = 1) (k : mG E M K pc' L (v :: w :: v :: w :: st) a h) : mG E M K pc L (v :: w :: st) a h := by
  obtain ⟨hd, rfl⟩ := hd
  exact fun p e s m args below meth c H locs ls C R S V => lv_dup2_11 C.1 C.2.1 hd ((mrv_cat E v).trans hv) ((mrv_cat E w).trans hw) (k p e s m args below meth c H locs ls C R S V)
/-! numbers that are naturals -/
theorem mG_iaddN {x y : Nat} (hd : mD M.2.2.1 pc .iadd 1 pc')  (k : mG E M K pc' L (.int (nI (x + y)) :: st) a h) : mG E M K pc L (.int (nI y) :: .int (nI x) :: st) a h := by
  refine mG_iadd hd ?_
  rw [nI_add]
  exact k
theorem mG_imulN {x y : Nat} (hd : mD M.2.2.1 pc .imul 1 pc')  (k : mG E M K pc' L (.int (nI (x * y)) :: st) a h) : mG E M K pc L (.int (nI y) :: .int (nI x) :: st) a h := by
  refine mG_imul hd ?_
  rw [pk_mul]
  exact k
theorem mG_isubN {x y : Nat} (hd : mD M.2.2.1 pc .isub 1 pc') (hle : y ≤ x) (k : mG E M K pc' L (.int (nI (x - y)) :: st) a h) : mG E M K pc L (.int (nI y) :: .int (nI x) :: st) a h := by
  refine mG_isub hd ?_
  rw [pk_sub hle]
  exact k
theorem nI_ne {y : Nat} (h0 : 0 < y) (hy : y < 2 ^ 31) : ¬ nI y = 0 := nI_ne0 h0 hy
theorem mG_idivN {x y : Nat} (hd : mD M.2.2.1 pc .idiv 1 pc') (hx : x < 2 ^ 31) (h0 : 0 < y) (hy : y < 2 ^ 31) (k : mG E M K pc' L (.int (nI (x / y)) :: st) a h) : mG E M K pc L (.int (nI y) :: .int (nI x) :: st) a h := by
  refine mG_idiv hd (nI_ne h0 hy) ?_
  rw [pk_div hx h0 hy]
  exact k
theorem mG_iremN {x y : Nat} (hd : mD M.2.2.1 pc .irem 1 pc') (hx : x < 2 ^ 31) (h0 : 0 < y) (hy : y < 2 ^ 31) (k : mG E M K pc' L (.int (nI (x % y)) :: st) a h) : mG E M K pc L (.int (nI y) :: .int (nI x) :: st) a h := by
  refine mG_irem hd (nI_ne h0 hy) ?_
  rw [pk_rem hx h0 hy]
  exact k
theorem mG_istore_n {j : Fin 4} {x : Int32} (hd : mD M.2.2.1 pc (.istore_n j) 1 pc') (hn : (j : Nat) < M.2.2.2.1) (hok : mOkS L (j : Nat) = true) (hL : L.set (j : Nat) (some (.int x)) = L') (k : mG E M K pc' L' st a h) : mG E M K pc L (.int x :: st) a h := by
  obtain ⟨hd, rfl⟩ := hd
  subst hL
  exact fun p e s m args below meth c H locs ls C R S V => lv_istore_n C.1 C.2.1 hd rfl V hn rfl (fun ls V' => k p e s m args below meth c H locs ls C R S (mHas_set (v := .int x) V' hok))
theorem mG_istore {i : Nat} {x : Int32} (hd : mD M.2.2.1 pc (.istore i) 2 pc') (hn : i < M.2.2.2.1) (hok : mOkS L i = true) (hL : L.set i (some (.int x)) = L') (k : mG E M K pc' L' st a h) : mG E M K pc L (.int x :: st) a h := by
  obtain ⟨hd, rfl⟩ := hd
  subst hL
  exact fun p e s m args below meth c H locs ls C R S V => lv_istore C.1 C.2.1 hd V hn rfl (fun ls V' => k p e s m args below meth c H locs ls C R S (mHas_set (v := .int x) V' hok))
theorem mG_astore_n {j : Fin 4} {x : Nat} (hd : mD M.2.2.1 pc (.astore_n j) 1 pc') (hn : (j : Nat) < M.2.2.2.1) (hok : mOkS L (j : Nat) = true) (hL : L.set (j : Nat) (some (.ref x)) = L') (k : mG E M K pc' L' st a h) : mG E M K pc L (.ref x :: st) a h := by
  obtain ⟨hd, rfl⟩ := hd
  subst hL
  exact fun p e s m args below meth c H locs ls C R S V => lv_astore_n C.1 C.2.1 hd rfl V hn rfl (fun ls V' => k p e s m args below meth c H locs ls C R S (mHas_set (v := .ref x) V' hok))
theorem mG_lstore {i : Nat} {x : Int64} (hd : mD M.2.2.1 pc (.lstore i) 2 pc') (hn : i + 1 < M.2.2.2.1) (hok : mOkS L i = true) (hL : (L.set i (some (.long x))).set (i + 1) none = L') (k : mG E M K pc' L' st a h) : mG E M K pc L (.long x :: st) a h := by
  obtain ⟨hd, rfl⟩ := hd
  subst hL
  exact fun p e s m args below meth c H locs ls C R S V => lv_lstore C.1 C.2.1 hd V hn rfl (fun ls V' => k p e s m args below meth c H locs ls C R S (mHas_set2 (v := .long x) V' hok))
theorem mG_iinc {i : Nat} {n : Int} {x v : Int32} (hd : mD M.2.2.1 pc (.iinc i n) 3 pc') (hl : L[i]? = some (some (.int x))) (hv : x + Int32.ofInt n = v) (hn : i < M.2.2.2.1) (hok : mOkS L i = true) (hL : L.set i (some (.int v)) = L') (k : mG E M K pc' L' st a h) : mG E M K pc L st a h := by
  obtain ⟨hd, rfl⟩ := hd
  subst hL
  intro p e s m args below meth c H locs ls C R S V
  obtain ⟨q, hq⟩ := List.getElem?_of_mem (mPr_mem.mpr ⟨.int x, hl, rfl⟩ : (i, mrv E (.int x)) ∈ mPr E L)
  exact lv_iinc C.1 C.2.1 hd V hq hv hn rfl (fun ls V' => k p e s m args below meth c H locs ls C R S (mHas_set (v := .int v) V' hok))
theorem mG_iincN {i : Nat} {x : Nat} (hd : mD M.2.2.1 pc (.iinc i 1) 3 pc') (hl : L[i]? = some (some (.int (nI x)))) (hn : i < M.2.2.2.1) (hok : mOkS L i = true) (hL : L.set i (some (.int (nI (x + 1)))) = L') (k : mG E M K pc' L' st a h) : mG E M K pc L st a h :=
  mG_iinc hd hl (show nI x + Int32.ofInt 1 = nI (x + 1) from nI_1 x) hn hok hL k
theorem mG_goto {tgt : Nat} (hd : mJ M.2.2.1 pc .goto pc' tgt) (k : mG E M K tgt L st a h) : mG E M K pc L st a h := by
  obtain ⟨off, hd, -, ht⟩ := hd
  exact fun p e s m args below meth c H locs ls C R S V => lv_goto C.1 C.2.1 hd ht (k p e s m args below meth c H locs ls C R S V)
theorem mG_icmp_eq {x y : Int32} {tgt : Nat} (hd : mJ M.2.2.1 pc (.if_icmp .eq) pc' tgt) (kt : x = y → mG E M K tgt L st a h) (kf : ¬ x = y → mG E M K pc' L st a h) : mG E M K pc L (.int y :: .int x :: st) a h := by
  obtain ⟨off, hd, rfl, ht⟩ := hd
  exact fun p e s m args below meth c H locs ls C R S V => lv_icmp_eq C.1 C.2.1 hd ht (fun q => kt q p e s m args below meth c H locs ls C R S V) (fun q => kf q p e s m args below meth c H locs ls C R S V)
theorem mG_if_eq {x : Int32} {tgt : Nat} (hd : mJ M.2.2.1 pc (.ifCond .eq) pc' tgt) (kt : x = 0 → mG E M K tgt L st a h) (kf : ¬ x = 0 → mG E M K pc' L st a h) : mG E M K pc L (.int x :: st) a h := by
  obtain ⟨off, hd, rfl, ht⟩ := hd
  exact fun p e s m args below meth c H locs ls C R S V => lv_if_eq C.1 C.2.1 hd ht (fun q => kt q p e s m args below meth c H locs ls C R S V) (fun q => kf q p e s m args below meth c H locs ls C R S V)
theorem mG_icmp_ne {x y : Int32} {tgt : Nat} (hd : mJ M.2.2.1 pc (.if_icmp .ne) pc' tgt) (kt : ¬ x = y → mG E M K tgt L st a h) (kf : x = y → mG E M K pc' L st a h) : mG E M K pc L (.int y :: .int x :: st) a h := by
  obtain ⟨off, hd, rfl, ht⟩ := hd
  exact fun p e s m args below meth c H locs ls C R S V => lv_icmp_ne C.1 C.2.1 hd ht (fun q => kt q p e s m args below meth c H locs ls C R S V) (fun q => kf q p e s m args below meth c H locs ls C R S V)
theorem mG_if_ne {x : Int32} {tgt : Nat} (hd : mJ M.2.2.1 pc (.ifCond .ne) pc' tgt) (kt : ¬ x = 0 → mG E M K tgt L st a h) (kf : x = 0 → mG E M K pc' L st a h) : mG E M K pc L (.int x :: st) a h := by
  obtain ⟨off, hd, rfl, ht⟩ := hd
  exact fun p e s m args below meth c H locs ls C R S V => lv_if_ne C.1 C.2.1 hd ht (fun q => kt q p e s m args below meth c H locs ls C R S V) (fun q => kf q p e s m args below meth c H locs ls C R S V)
theorem mG_icmp_lt {x y : Int32} {tgt : Nat} (hd : mJ M.2.2.1 pc (.if_icmp .lt) pc' tgt) (kt : x < y → mG E M K tgt L st a h) (kf : ¬ x < y → mG E M K pc' L st a h) : mG E M K pc L (.int y :: .int x :: st) a h := by
  obtain ⟨off, hd, rfl, ht⟩ := hd
  exact fun p e s m args below meth c H locs ls C R S V => lv_icmp_lt C.1 C.2.1 hd ht (fun q => kt q p e s m args below meth c H locs ls C R S V) (fun q => kf q p e s m args below meth c H locs ls C R S V)
theorem mG_if_lt {x : Int32} {tgt : Nat} (hd : mJ M.2.2.1 pc (.ifCond .lt) pc' tgt) (kt : x < 0 → mG E M K tgt L st a h) (kf : ¬ x < 0 → mG E M K pc' L st a h) : mG E M K pc L (.int x :: st) a h := by
  obtain ⟨off, hd, rfl, ht⟩ := hd
  exact fun p e s m args below meth c H locs ls C R S V => lv_if_lt C.1 C.2.1 hd ht (fun q => kt q p e s m args below meth c H locs ls C R S V) (fun q => kf q p e s m args below meth c H locs ls C R S V)
theorem mG_icmp_ge {x y : Int32} {tgt : Nat} (hd : mJ M.2.2.1 pc (.if_icmp .ge) pc' tgt) (kt : y ≤ x → mG E M K tgt L st a h) (kf : ¬ y ≤ x → mG E M K pc' L st a h) : mG E M K pc L (.int y :: .int x :: st) a h := by
  obtain ⟨off, hd, rfl, ht⟩ := hd
  exact fun p e s m args below meth c H locs ls C R S V => lv_icmp_ge C.1 C.2.1 hd ht (fun q => kt q p e s m args below meth c H locs ls C R S V) (fun q => kf q p e s m args below meth c H locs ls C R S V)
theorem mG_if_ge {x : Int32} {tgt : Nat} (hd : mJ M.2.2.1 pc (.ifCond .ge) pc' tgt) (kt : 0 ≤ x → mG E M K tgt L st a h) (kf : ¬ 0 ≤ x → mG E M K pc' L st a h) : mG E M K pc L (.int x :: st) a h := by
  obtain ⟨off, hd, rfl, ht⟩ := hd
  exact fun p e s m args below meth c H locs ls C R S V => lv_if_ge C.1 C.2.1 hd ht (fun q => kt q p e s m args below meth c H locs ls C R S V) (fun q => kf q p e s m args below meth c H locs ls C R S V)
theorem mG_icmp_gt {x y : Int32} {tgt : Nat} (hd : mJ M.2.2.1 pc (.if_icmp .gt) pc' tgt) (kt : y < x → mG E M K tgt L st a h) (kf : ¬ y < x → mG E M K pc' L st a h) : mG E M K pc L (.int y :: .int x :: st) a h := by
  obtain ⟨off, hd, rfl, ht⟩ := hd
  exact fun p e s m args below meth c H locs ls C R S V => lv_icmp_gt C.1 C.2.1 hd ht (fun q => kt q p e s m args below meth c H locs ls C R S V) (fun q => kf q p e s m args below meth c H locs ls C R S V)
theorem mG_if_gt {x : Int32} {tgt : Nat} (hd : mJ M.2.2.1 pc (.ifCond .gt) pc' tgt) (kt : 0 < x → mG E M K tgt L st a h) (kf : ¬ 0 < x → mG E M K pc' L st a h) : mG E M K pc L (.int x :: st) a h := by
  obtain ⟨off, hd, rfl, ht⟩ := hd
  exact fun p e s m args below meth c H locs ls C R S V => lv_if_gt C.1 C.2.1 hd ht (fun q => kt q p e s m args below meth c H locs ls C R S V) (fun q => kf q p e s m args below meth c H locs ls C R S V)
theorem mG_icmp_le {x y : Int32} {tgt : Nat} (hd : mJ M.2.2.1 pc (.if_icmp .le) pc' tgt) (kt : x ≤ y → mG E M K tgt L st a h) (kf : ¬ x ≤ y → mG E M K pc' L st a h) : mG E M K pc L (.int y :: .int x :: st) a h := by
  obtain ⟨off, hd, rfl, ht⟩ := hd
  exact fun p e s m args below meth c H locs ls C R S V => lv_icmp_le C.1 C.2.1 hd ht (fun q => kt q p e s m args below meth c H locs ls C R S V) (fun q => kf q p e s m args below meth c H locs ls C R S V)
theorem mG_if_le {x : Int32} {tgt : Nat} (hd : mJ M.2.2.1 pc (.ifCond .le) pc' tgt) (kt : x ≤ 0 → mG E M K tgt L st a h) (kf : ¬ x ≤ 0 → mG E M K pc' L st a h) : mG E M K pc L (.int x :: st) a h := by
  obtain ⟨off, hd, rfl, ht⟩ := hd
  exact fun p e s m args below meth c H locs ls C R S V => lv_if_le C.1 C.2.1 hd ht (fun q => kt q p e s m args below meth c H locs ls C R S V) (fun q => kf q p e s m args below meth c H locs ls C R S V)
theorem mG_icmp_eqN {x y : Nat} {tgt : Nat} (hd : mJ M.2.2.1 pc (.if_icmp .eq) pc' tgt) (hx : x < 2 ^ 31) (hy : y < 2 ^ 31) (kt : x = y → mG E M K tgt L st a h) (kf : ¬ x = y → mG E M K pc' L st a h) : mG E M K pc L (.int (nI y) :: .int (nI x) :: st) a h :=
  mG_icmp_eq hd (fun q => kt ((nI_eq hx hy).mp q)) (fun q => kf (fun z => q ((nI_eq hx hy).mpr z)))
theorem mG_icmp_neN {x y : Nat} {tgt : Nat} (hd : mJ M.2.2.1 pc (.if_icmp .ne) pc' tgt) (hx : x < 2 ^ 31) (hy : y < 2 ^ 31) (kt : ¬ x = y → mG E M K tgt L st a h) (kf : x = y → mG E M K pc' L st a h) : mG E M K pc L (.int (nI y) :: .int (nI x) :: st) a h :=
  mG_icmp_ne hd (fun q => kt (fun z => q ((nI_eq hx hy).mpr z))) (fun q => kf ((nI_eq hx hy).mp q))
theorem mG_icmp_ltN {x y : Nat} {tgt : Nat} (hd : mJ M.2.2.1 pc (.if_icmp .lt) pc' tgt) (hx : x < 2 ^ 31) (hy : y < 2 ^ 31) (kt : x < y → mG E M K tgt L st a h) (kf : y ≤ x → mG E M K pc' L st a h) : mG E M K pc L (.int (nI y) :: .int (nI x) :: st) a h :=
  mG_icmp_lt hd (fun q => kt ((nI_ltI hx hy).mp q)) (fun q => kf (Nat.not_lt.mp (fun z => q ((nI_ltI hx hy).mpr z))))
theorem mG_icmp_geN {x y : Nat} {tgt : Nat} (hd : mJ M.2.2.1 pc (.if_icmp .ge) pc' tgt) (hx : x < 2 ^ 31) (hy : y < 2 ^ 31) (kt : y ≤ x → mG E M K tgt L st a h) (kf : x < y → mG E M K pc' L st a h) : mG E M K pc L (.int (nI y) :: .int (nI x) :: st) a h :=
  mG_icmp_ge hd (fun q => kt ((nI_leI hy hx).mp q)) (fun q => kf (Nat.not_le.mp (fun z => q ((nI_leI hy hx).mpr z))))
theorem mG_icmp_gtN {x y : Nat} {tgt : Nat} (hd : mJ M.2.2.1 pc (.if_icmp .gt) pc' tgt) (hx : x < 2 ^ 31) (hy : y < 2 ^ 31) (kt : y < x → mG E M K tgt L st a h) (kf : x ≤ y → mG E M K pc' L st a h) : mG E M K pc L (.int (nI y) :: .int (nI x) :: st) a h :=
  mG_icmp_gt hd (fun q => kt ((nI_ltI hy hx).mp q)) (fun q => kf (Nat.not_lt.mp (fun z => q ((nI_ltI hy hx).mpr z))))
theorem mG_icmp_leN {x y : Nat} {tgt : Nat} (hd : mJ M.2.2.1 pc (.if_icmp .le) pc' tgt) (hx : x < 2 ^ 31) (hy : y < 2 ^ 31) (kt : x ≤ y → mG E M K tgt L st a h) (kf : y < x → mG E M K pc' L st a h) : mG E M K pc L (.int (nI y) :: .int (nI x) :: st) a h :=
  mG_icmp_le hd (fun q => kt ((nI_leI hx hy).mp q)) (fun q => kf (Nat.not_le.mp (fun z => q ((nI_leI hx hy).mpr z))))
theorem mG_if_eqN {x : Nat} {tgt : Nat} (hd : mJ M.2.2.1 pc (.ifCond .eq) pc' tgt) (hx : x < 2 ^ 31) (kt : x = 0 → mG E M K tgt L st a h) (kf : ¬ x = 0 → mG E M K pc' L st a h) : mG E M K pc L (.int (nI x) :: st) a h :=
  have h0 : (0 : Nat) < 2 ^ 31 := by decide
  mG_if_eq hd (fun q => kt ((nI_eq hx h0).mp q)) (fun q => kf (fun z => q ((nI_eq hx h0).mpr z)))
theorem mG_if_neN {x : Nat} {tgt : Nat} (hd : mJ M.2.2.1 pc (.ifCond .ne) pc' tgt) (hx : x < 2 ^ 31) (kt : ¬ x = 0 → mG E M K tgt L st a h) (kf : x = 0 → mG E M K pc' L st a h) : mG E M K pc L (.int (nI x) :: st) a h :=
  have h0 : (0 : Nat) < 2 ^ 31 := by decide
  mG_if_ne hd (fun q => kt (fun z => q ((nI_eq hx h0).mpr z))) (fun q => kf ((nI_eq hx h0).mp q))
theorem mG_if_ltN {x : Nat} {tgt : Nat} (hd : mJ M.2.2.1 pc (.ifCond .lt) pc' tgt) (hx : x < 2 ^ 31) (kt : False → mG E M K tgt L st a h) (kf : True → mG E M K pc' L st a h) : mG E M K pc L (.int (nI x) :: st) a h :=
  have h0 : (0 : Nat) < 2 ^ 31 := by decide
  mG_if_lt hd (fun q => kt (nI_pos hx q)) (fun q => kf (trivial))
theorem mG_if_geN {x : Nat} {tgt : Nat} (hd : mJ M.2.2.1 pc (.ifCond .ge) pc' tgt) (hx : x < 2 ^ 31) (kt : True → mG E M K tgt L st a h) (kf : False → mG E M K pc' L st a h) : mG E M K pc L (.int (nI x) :: st) a h :=
  have h0 : (0 : Nat) < 2 ^ 31 := by decide
  mG_if_ge hd (fun q => kt (trivial)) (fun q => kf (q (nI_pos' hx)))
theorem mG_if_gtN {x : Nat} {tgt : Nat} (hd : mJ M.2.2.1 pc (.ifCond .gt) pc' tgt) (hx : x < 2 ^ 31) (kt : 0 < x → mG E M K tgt L st a h) (kf : x = 0 → mG E M K pc' L st a h) : mG E M K pc L (.int (nI x) :: st) a h :=
  have h0 : (0 : Nat) < 2 ^ 31 := by decide
  mG_if_gt hd (fun q => kt ((nI_ltI h0 hx).mp q)) (fun q => kf (Nat.eq_zero_of_not_pos (fun z => q ((nI_ltI h0 hx).mpr z))))
theorem mG_if_leN {x : Nat} {tgt : Nat} (hd : mJ M.2.2.1 pc (.ifCond .le) pc' tgt) (hx : x < 2 ^ 31) (kt : x = 0 → mG E M K tgt L st a h) (kf : 0 < x → mG E M K pc' L st a h) : mG E M K pc L (.int (nI x) :: st) a h :=
  have h0 : (0 : Nat) < 2 ^ 31 := by decide
  mG_if_le hd (fun q => kt (Nat.le_zero.mp ((nI_leI hx h0).mp q))) (fun q => kf (Nat.not_le.mp (fun z => q ((nI_leI hx h0).mpr z))))
/-- what a boolean is on the stack -/
def mb (b : Bool) : Int32 := nI b.toNat
theorem mG_if_eqB {b : Bool} {tgt : Nat} (hd : mJ M.2.2.1 pc (.ifCond .eq) pc' tgt) (kt : b = false → mG E M K tgt L st a h) (kf : b = true → mG E M K pc' L st a h) : mG E M K pc L (.int (mb b) :: st) a h := by
  cases b
  · exact mG_if_eq hd (fun _ => kt rfl) (fun q => absurd (by decide) q)
  · exact mG_if_eq hd (fun q => absurd q (by decide)) (fun _ => kf rfl)
theorem mG_if_neB {b : Bool} {tgt : Nat} (hd : mJ M.2.2.1 pc (.ifCond .ne) pc' tgt) (kt : b = true → mG E M K tgt L st a h) (kf : b = false → mG E M K pc' L st a h) : mG E M K pc L (.int (mb b) :: st) a h := by
  cases b
  · exact mG_if_ne hd (fun q => absurd (by decide) q) (fun _ => kf rfl)
  · exact mG_if_ne hd (fun _ => kt rfl) (fun q => absurd q (by decide))
theorem mG_tableIn {dflt lo hi : Int} {offs : Array Int} {len tgt : Nat} {x : Int32} {off : Int} (hd : decode M.2.2.1 pc = .ok (.tableswitch dflt lo hi offs, len)) (h1 : ¬ x.toInt < lo) (h2 : ¬ hi < x.toInt) (ho : offs[(x.toInt - lo).toNat]? = some off) (ht : (pc : Int) + off = (tgt : Int)) (k : mG E M K tgt L st a h) : mG E M K pc L (.int x :: st) a h :=
  fun p e s m args below meth c H locs ls C R S V => lv_tableIn C.1 C.2.1 hd h1 h2 ho ht (k p e s m args below meth c H locs ls C R S V)
theorem mG_tableOut {dflt lo hi : Int} {offs : Array Int} {len tgt : Nat} {x : Int32} (hd : decode M.2.2.1 pc = .ok (.tableswitch dflt lo hi offs, len)) (h1 : x.toInt < lo ∨ hi < x.toInt) (ht : (pc : Int) + dflt = (tgt : Int)) (k : mG E M K tgt L st a h) : mG E M K pc L (.int x :: st) a h :=
  fun p e s m args below meth c H locs ls C R S V => lv_tableOut C.1 C.2.1 hd h1 ht (k p e s m args below meth c H locs ls C R S V)
theorem mG_lookup {dflt : Int} {ps : Array (Int × Int)} {len tgt : Nat} {x : Int32} {off : Int} (hd : decode M.2.2.1 pc = .ok (.lookupswitch dflt ps, len)) (hp : (ps.toList.zip (ps.toList.drop 1)).all (fun (a, next) => a.1 < next.1) = true) (ho : Op.lookupswitch.offset ps.toList dflt x.toInt = off) (ht : (pc : Int) + off = (tgt : Int)) (k : mG E M K tgt L st a h) : mG E M K pc L (.int x :: st) a h :=
  fun p e s m args below meth c H locs ls C R S V => lv_lookup C.1 C.2.1 hd hp ho ht (k p e s m args below meth c H locs ls C R S V)
end MR
end
section
section MM
variable {E : mE} {M : mM} {K : mKt} {pc pc' : Nat} {L L' : List (Option Value)} {st : List Value} {a : Nat × Nat × Nat} {h h' : mH}
theorem mra_lt {E : mE} {k : Nat} (hk : k < 1000) : mra E k = E.2.2.2.1 + mSw E.2.2.2.2.2.2 k := if_pos hk
/-! fields -/
def mFd (own : String) (idx ci k : Nat) : Prop := ∃ (C : String) (T : u_T) (N : Nat), mCl[ci]? = some (C, T, N) ∧ (∀ w ∈ u_ws C T N, w ∈ mw) ∧ k < N ∧ Cond.fieldLink own idx (T k).1 (T k).2.1 (T k).2.2.1 ∈ mw
def mPd (own : String) (idx ci k : Nat) (ty : FieldType) (fin : Bool) : Prop := ∃ (C : String) (T : u_T) (N : Nat) (tf : Nat → FieldType), mCl[ci]? = some (C, T, N) ∧ (∀ w ∈ u_ws C T N, w ∈ mw) ∧ k < N ∧ Cond.fieldLink own idx (T k).1 (T k).2.1 (T k).2.2.1 ∈ mw ∧
  (∀ k, k < N → parseFieldDescriptor (T k).2.2.1 = some (tf k)) ∧ (∀ a, a < N → ∀ b, b < N → a ≠ b → (T a).2.1 ≠ (T b).2.1) ∧ (T k).2.2.2 = fin ∧ tf k = ty ∧ (fin = true → (T k).1 = own)
theorem mG_get {i ci k b : Nat} {fs : List Value} {v : Value} (hf : mFd M.2.1.cls i ci k) (hd : mD M.2.2.1 pc (.getfield i) 3 pc') (hh : h b = .inr (.inr (ci, fs))) (hn : b < a.1) (hv : fs[k]? = some v) (kk : mG E M K pc' L (v :: st) a h) : mG E M K pc L (.ref b :: st) a h := by
  obtain ⟨hd, rfl⟩ := hd
  obtain ⟨C0, T, N, hc, hin, hk, hl⟩ := hf
  intro p e s m args below meth c H locs ls C R S V
  obtain ⟨hx, hb, hml, hr, hlk, hown, hnm, hts, hK, hT, hB⟩ := id C
  show W _ _ _ _ _ _ _ _ _ _ _ _ _ _ _ (F0 m pc ls (.ref (mra E b) :: st.map (mrv E)))
  rw [mra_lt (Nat.lt_of_lt_of_le hn R.2.1)]
  exact va_get (C := C0) (T := T) (N := N) hx hb hts hin hown hK.1 R.2.2 b (mWs_get hn hh) hc k hk (hts _ hl) (fun _ q => q) (show (fs.map (mrv E))[k]? = some (mrv E v) by rw [List.getElem?_map, hv]; rfl) hd (kk p e s m args below meth c H locs ls C R S V)
theorem mG_put {i ci k b : Nat} {fs : List Value} {v : Value} {ty : FieldType} (hf : mPd M.2.1.cls i ci k ty false) (hd : mD M.2.2.1 pc (.putfield i) 3 pc') (hh : h b = .inr (.inr (ci, fs))) (hn : b < a.1) (hl : k < fs.length) (hna : narrow ty (mrv E v) = mrv E v) (hfi : fits ty (mrv E v) = true) (kk : mG E M K pc' L st a (mU h b (.inr (.inr (ci, fs.set k v))))) : mG E M K pc L (v :: .ref b :: st) a h := by
  obtain ⟨hd, rfl⟩ := hd
  obtain ⟨C0, T, N, tf, hc, hin, hk, hlk2, htf, hnm2, hfin, hty, -⟩ := hf
  intro p e s m args below meth c H locs ls C R S V
  obtain ⟨hx, hb, hml, hr, hlk, hown, hnm, hts, hK, hT, hB⟩ := id C
  show W _ _ _ _ _ _ _ _ _ _ _ _ _ _ _ (F0 m pc ls (mrv E v :: .ref (mra E b) :: st.map (mrv E)))
  rw [mra_lt (Nat.lt_of_lt_of_le hn R.2.1)]
  refine va_put (C := C0) (T := T) (N := N) hx hb hts hin tf htf hnm2 hown hK.1 R.2.2 (mWs_D E a.1 h) S b (mWs_get hn hh) hc k hk (hts _ hlk2) (fun _ q => q) hfin (hty ▸ htf k hk) hna hfi (by rw [List.length_map]; exact hl) hd (fun H1 locs1 hP hD hS => ?_)
  have e1 : (fs.map (mrv E)).set k (mrv E v) = (fs.set k v).map (mrv E) := by rw [List.map_set]
  rw [e1] at hP
  exact kk p e s m args below meth c H1 locs1 ls C ⟨R.1, R.2.1, by rw [← mWs_set]; exact hP⟩ hS V
theorem mG_putF {i ci k b : Nat} {fs : List Value} {v : Value} {ty : FieldType} (hf : mPd M.2.1.cls i ci k ty true) (hd : mD M.2.2.1 pc (.putfield i) 3 pc') (hi : M.2.1.name = "<init>") (hh : h b = .inr (.inr (ci, fs))) (hn : b < a.1) (hl : k < fs.length) (hna : narrow ty (mrv E v) = mrv E v) (hfi : fits ty (mrv E v) = true) (kk : mG E M K pc' L st a (mU h b (.inr (.inr (ci, fs.set k v))))) : mG E M K pc L (v :: .ref b :: st) a h := by
  obtain ⟨hd, rfl⟩ := hd
  obtain ⟨C0, T, N, tf, hc, hin, hk, hlk2, htf, hnm2, hfin, hty, hown2⟩ := hf
  intro p e s m args below meth c H locs ls C R S V
  obtain ⟨hx, hb, hml, hr, hlk, hown, hnm, hts, hK, hT, hB⟩ := id C
  show W _ _ _ _ _ _ _ _ _ _ _ _ _ _ _ (F0 m pc ls (mrv E v :: .ref (mra E b) :: st.map (mrv E)))
  rw [mra_lt (Nat.lt_of_lt_of_le hn R.2.1)]
  refine va_putF (C := C0) (T := T) (N := N) hx hb hts hin tf htf hnm2 hown hK.1 R.2.2 (mWs_D E a.1 h) S b (mWs_get hn hh) hc k hk (hts _ hlk2) (fun _ q => q) hfin (hnm.trans hi) (hown2 rfl) (hty ▸ htf k hk) hna hfi (by rw [List.length_map]; exact hl) hd (fun H1 locs1 hP hD hS => ?_)
  have e1 : (fs.map (mrv E)).set k (mrv E v) = (fs.set k v).map (mrv E) := by rw [List.map_set]
  rw [e1] at hP
  exact kk p e s m args below meth c H1 locs1 ls C ⟨R.1, R.2.1, by rw [← mWs_set]; exact hP⟩ hS V
theorem mG_putI {i ci k b : Nat} {fs : List Value} {x : Int32} (hf : mPd M.2.1.cls i ci k .int false) (hd : mD M.2.2.1 pc (.putfield i) 3 pc') (hh : h b = .inr (.inr (ci, fs))) (hn : b < a.1) (hl : k < fs.length) (kk : mG E M K pc' L st a (mU h b (.inr (.inr (ci, fs.set k (.int x)))))) : mG E M K pc L (.int x :: .ref b :: st) a h := mG_put hf hd hh hn hl rfl rfl kk
theorem mG_putJ {i ci k b : Nat} {fs : List Value} {x : Int64} (hf : mPd M.2.1.cls i ci k .long false) (hd : mD M.2.2.1 pc (.putfield i) 3 pc') (hh : h b = .inr (.inr (ci, fs))) (hn : b < a.1) (hl : k < fs.length) (kk : mG E M K pc' L st a (mU h b (.inr (.inr (ci, fs.set k (.long x)))))) : mG E M K pc L (.long x :: .ref b :: st) a h := mG_put hf hd hh hn hl rfl rfl kk
theorem mb_nar (x : Bool) : narrow .boolean (.int (mb x)) = .int (mb x) ∧ fits .boolean (.int (mb x)) = true := by cases x <;> decide
theorem mG_putZ {i ci k b : Nat} {fs : List Value} {x : Bool} (hf : mPd M.2.1.cls i ci k .boolean false) (hd : mD M.2.2.1 pc (.putfield i) 3 pc') (hh : h b = .inr (.inr (ci, fs))) (hn : b < a.1) (hl : k < fs.length) (kk : mG E M K pc' L st a (mU h b (.inr (.inr (ci, fs.set k (.int (mb x))))))) : mG E M K pc L (.int (mb x) :: .ref b :: st) a h := mG_put hf hd hh hn hl (mb_nar x).1 (mb_nar x).2 kk
theorem mG_putO {i ci k b q : Nat} {fs : List Value} {D : String} (hf : mPd M.2.1.cls i ci k (.object D) false) (hd : mD M.2.2.1 pc (.putfield i) 3 pc') (hh : h b = .inr (.inr (ci, fs))) (hn : b < a.1) (hl : k < fs.length) (kk : mG E M K pc' L st a (mU h b (.inr (.inr (ci, fs.set k (.ref q)))))) : mG E M K pc L (.ref q :: .ref b :: st) a h := mG_put hf hd hh hn hl rfl rfl kk
theorem mG_putFO {i ci k b q : Nat} {fs : List Value} {D : FieldType} (hf : mPd M.2.1.cls i ci k D true) (hd : mD M.2.2.1 pc (.putfield i) 3 pc') (hi : M.2.1.name = "<init>") (hh : h b = .inr (.inr (ci, fs))) (hn : b < a.1) (hl : k < fs.length) (hna : narrow D (.ref (mra E q)) = .ref (mra E q)) (hfi : fits D (.ref (mra E q)) = true) (kk : mG E M K pc' L st a (mU h b (.inr (.inr (ci, fs.set k (.ref q)))))) : mG E M K pc L (.ref q :: .ref b :: st) a h := mG_putF hf hd hi hh hn hl hna hfi kk
/-! arrays -/
theorem mTys_at (E : mE) : (mTys E)[0]? = some (E.2.2.1 0, .int) ∧ (mTys E)[1]? = some (E.2.2.1 1, .byte) ∧ (mTys E)[2]? = some (E.2.2.1 2, .boolean) ∧ (mTys E)[3]? = some (E.2.2.1 3, .object "DayCubes$Stand") := ⟨rfl, rfl, rfl, rfl⟩
theorem mG_iald {b n : Nat} {f : Nat → Int32} {i : Int32} (hd : mD M.2.2.1 pc .iaload 1 pc') (hh : h b = .inl (0, n, f)) (hn : b < a.1) (hi : vp_in i n) (kk : mG E M K pc' L (.int (f i.toNatClampNeg) :: st) a h) : mG E M K pc L (.int i :: .ref b :: st) a h := by
  obtain ⟨hd, rfl⟩ := hd
  intro p e s m args below meth c H locs ls C R S V
  obtain ⟨hx, hb, hml, hr, hlk, hown, hnm, hts, hK, hT, hB⟩ := id C
  show W _ _ _ _ _ _ _ _ _ _ _ _ _ _ _ (F0 m pc ls (.int i :: .ref (mra E b) :: st.map (mrv E)))
  rw [mra_lt (Nat.lt_of_lt_of_le hn R.2.1)]
  exact va_iald hx hb hK.1 R.2.2 b 0 (mWs_get hn hh) rfl hi hd (kk p e s m args below meth c H locs ls C R S V)
theorem mG_bald {b n : Nat} {f : Nat → Int32} {i : Int32} (hd : mD M.2.2.1 pc .baload 1 pc') (hh : h b = .inl (1, n, f)) (hn : b < a.1) (hi : vp_in i n) (kk : mG E M K pc' L (.int (f i.toNatClampNeg) :: st) a h) : mG E M K pc L (.int i :: .ref b :: st) a h := by
  obtain ⟨hd, rfl⟩ := hd
  intro p e s m args below meth c H locs ls C R S V
  obtain ⟨hx, hb, hml, hr, hlk, hown, hnm, hts, hK, hT, hB⟩ := id C
  show W _ _ _ _ _ _ _ _ _ _ _ _ _ _ _ (F0 m pc ls (.int i :: .ref (mra E b) :: st.map (mrv E)))
  rw [mra_lt (Nat.lt_of_lt_of_le hn R.2.1)]
  exact va_bald hx hb hK.1 R.2.2 b 1 (mWs_get hn hh) rfl hi hd (kk p e s m args below meth c H locs ls C R S V)
theorem mG_zald {b n : Nat} {f : Nat → Int32} {i : Int32} (hd : mD M.2.2.1 pc .baload 1 pc') (hh : h b = .inl (2, n, f)) (hn : b < a.1) (hi : vp_in i n) (kk : mG E M K pc' L (.int (f i.toNatClampNeg) :: st) a h) : mG E M K pc L (.int i :: .ref b :: st) a h := by
  obtain ⟨hd, rfl⟩ := hd
  intro p e s m args below meth c H locs ls C R S V
  obtain ⟨hx, hb, hml, hr, hlk, hown, hnm, hts, hK, hT, hB⟩ := id C
  show W _ _ _ _ _ _ _ _ _ _ _ _ _ _ _ (F0 m pc ls (.int i :: .ref (mra E b) :: st.map (mrv E)))
  rw [mra_lt (Nat.lt_of_lt_of_le hn R.2.1)]
  exact va_zald hx hb hK.1 R.2.2 b 2 (mWs_get hn hh) rfl hi hd (kk p e s m args below meth c H locs ls C R S V)
theorem mIn {i n : Nat} (hi : i < n) (hn : n < 2 ^ 31) : vp_in (nI i) n ∧ (nI i).toNatClampNeg = i := ⟨vp_in_nI hi hn, nI_clamp (Nat.lt_trans hi hn)⟩
theorem mG_ialdN {b n i : Nat} {f : Nat → Int32} (hd : mD M.2.2.1 pc .iaload 1 pc') (hh : h b = .inl (0, n, f)) (hn : b < a.1) (hm : n < 2 ^ 31) (hi : i < n) (kk : mG E M K pc' L (.int (f i) :: st) a h) : mG E M K pc L (.int (nI i) :: .ref b :: st) a h :=
  mG_iald hd hh hn (mIn hi hm).1 (by rw [(mIn hi hm).2]; exact kk)
theorem mG_baldN {b n i : Nat} {f : Nat → Int32} (hd : mD M.2.2.1 pc .baload 1 pc') (hh : h b = .inl (1, n, f)) (hn : b < a.1) (hm : n < 2 ^ 31) (hi : i < n) (kk : mG E M K pc' L (.int (f i) :: st) a h) : mG E M K pc L (.int (nI i) :: .ref b :: st) a h :=
  mG_bald hd hh hn (mIn hi hm).1 (by rw [(mIn hi hm).2]; exact kk)
theorem mG_zaldN {b n i : Nat} {f : Nat → Int32} (hd : mD M.2.2.1 pc .baload 1 pc') (hh : h b = .inl (2, n, f)) (hn : b < a.1) (hm : n < 2 ^ 31) (hi : i < n) (kk : mG E M K pc' L (.int (f i) :: st) a h) : mG E M K pc L (.int (nI i) :: .ref b :: st) a h :=
  mG_zald hd hh hn (mIn hi hm).1 (by rw [(mIn hi hm).2]; exact kk)
theorem mG_iastN {b n i : Nat} {f : Nat → Int32} {x : Int32} (hd : mD M.2.2.1 pc .iastore 1 pc') (hh : h b = .inl (0, n, f)) (hn : b < a.1) (hm : n < 2 ^ 31) (hi : i < n) (kk : mG E M K pc' L st a (mU h b (.inl (0, n, upd f i x)))) : mG E M K pc L (.int x :: .int (nI i) :: .ref b :: st) a h := by
  obtain ⟨hd, rfl⟩ := hd
  intro p e s m args below meth c H locs ls C R S V
  obtain ⟨hx, hb, hml, hr, hlk, hown, hnm, hts, hK, hT, hB⟩ := id C
  show W _ _ _ _ _ _ _ _ _ _ _ _ _ _ _ (F0 m pc ls (.int x :: .int (nI i) :: .ref (mra E b) :: st.map (mrv E)))
  rw [mra_lt (Nat.lt_of_lt_of_le hn R.2.1)]
  refine va_iast hx hb hK.1 R.2.2 (mWs_D E a.1 h) S b 0 (mWs_get hn hh) rfl (mIn hi hm).1 hd (fun H1 locs1 hP hD hS => ?_)
  rw [(mIn hi hm).2] at hP
  exact kk p e s m args below meth c H1 locs1 ls C ⟨R.1, R.2.1, by rw [← mWs_set]; exact hP⟩ hS V
theorem mG_bastN {b n i : Nat} {f : Nat → Int32} {x : Int32} (hd : mD M.2.2.1 pc .bastore 1 pc') (hh : h b = .inl (1, n, f)) (hn : b < a.1) (hm : n < 2 ^ 31) (hi : i < n) (kk : mG E M K pc' L st a (mU h b (.inl (1, n, upd f i (vp_nar .byte x))))) : mG E M K pc L (.int x :: .int (nI i) :: .ref b :: st) a h := by
  obtain ⟨hd, rfl⟩ := hd
  intro p e s m args below meth c H locs ls C R S V
  obtain ⟨hx, hb, hml, hr, hlk, hown, hnm, hts, hK, hT, hB⟩ := id C
  show W _ _ _ _ _ _ _ _ _ _ _ _ _ _ _ (F0 m pc ls (.int x :: .int (nI i) :: .ref (mra E b) :: st.map (mrv E)))
  rw [mra_lt (Nat.lt_of_lt_of_le hn R.2.1)]
  refine va_bast hx hb hK.1 R.2.2 (mWs_D E a.1 h) S b 1 (mWs_get hn hh) rfl (mIn hi hm).1 hd (fun H1 locs1 hP hD hS => ?_)
  rw [(mIn hi hm).2] at hP
  exact kk p e s m args below meth c H1 locs1 ls C ⟨R.1, R.2.1, by rw [← mWs_set]; exact hP⟩ hS V
theorem mb_vp (x : Bool) : vp_nar .boolean (mb x) = mb x := by cases x <;> decide
theorem mG_zastN {b n i : Nat} {f : Nat → Int32} {x : Bool} (hd : mD M.2.2.1 pc .bastore 1 pc') (hh : h b = .inl (2, n, f)) (hn : b < a.1) (hm : n < 2 ^ 31) (hi : i < n) (kk : mG E M K pc' L st a (mU h b (.inl (2, n, upd f i (mb x))))) : mG E M K pc L (.int (mb x) :: .int (nI i) :: .ref b :: st) a h := by
  obtain ⟨hd, rfl⟩ := hd
  intro p e s m args below meth c H locs ls C R S V
  obtain ⟨hx, hb, hml, hr, hlk, hown, hnm, hts, hK, hT, hB⟩ := id C
  show W _ _ _ _ _ _ _ _ _ _ _ _ _ _ _ (F0 m pc ls (.int (mb x) :: .int (nI i) :: .ref (mra E b) :: st.map (mrv E)))
  rw [mra_lt (Nat.lt_of_lt_of_le hn R.2.1)]
  refine va_zast hx hb hK.1 R.2.2 (mWs_D E a.1 h) S b 2 (mWs_get hn hh) rfl (mIn hi hm).1 hd (fun H1 locs1 hP hD hS => ?_)
  rw [(mIn hi hm).2, mb_vp] at hP
  exact kk p e s m args below meth c H1 locs1 ls C ⟨R.1, R.2.1, by rw [← mWs_set]; exact hP⟩ hS V
theorem mG_alen {b t n : Nat} {f : Nat → Int32} (hd : mD M.2.2.1 pc .arraylength 1 pc') (hh : h b = .inl (t, n, f)) (hn : b < a.1) (ht : t < 3) (kk : mG E M K pc' L (.int (nI n) :: st) a h) : mG E M K pc L (.ref b :: st) a h := by
  obtain ⟨hd, rfl⟩ := hd
  intro p e s m args below meth c H locs ls C R S V
  obtain ⟨hx, hb, hml, hr, hlk, hown, hnm, hts, hK, hT, hB⟩ := id C
  show W _ _ _ _ _ _ _ _ _ _ _ _ _ _ _ (F0 m pc ls (.ref (mra E b) :: st.map (mrv E)))
  rw [mra_lt (Nat.lt_of_lt_of_le hn R.2.1)]
  have hty : ∃ ty, (mTys E)[t]? = some (E.2.2.1 t, ty) := by
    rcases (show t = 0 ∨ t = 1 ∨ t = 2 by omega) with rfl | rfl | rfl
    · exact ⟨_, rfl⟩
    · exact ⟨_, rfl⟩
    · exact ⟨_, rfl⟩
  obtain ⟨ty, hty⟩ := hty
  exact va_alen hx hb hK.1 R.2.2 b t (mWs_get hn hh) hty rfl hd (kk p e s m args below meth c H locs ls C R S V)
theorem mG_aaldN {b n i q : Nat} {g : Nat → Option Nat} (hd : mD M.2.2.1 pc .aaload 1 pc') (hh : h b = .inr (.inl (n, g))) (hn : b < a.1) (hm : n < 2 ^ 31) (hi : i < n) (hg : g i = some q) (kk : mG E M K pc' L (.ref q :: st) a h) : mG E M K pc L (.int (nI i) :: .ref b :: st) a h := by
  obtain ⟨hd, rfl⟩ := hd
  intro p e s m args below meth c H locs ls C R S V
  obtain ⟨hx, hb, hml, hr, hlk, hown, hnm, hts, hK, hT, hB⟩ := id C
  show W _ _ _ _ _ _ _ _ _ _ _ _ _ _ _ (F0 m pc ls (.int (nI i) :: .ref (mra E b) :: st.map (mrv E)))
  rw [mra_lt (Nat.lt_of_lt_of_le hn R.2.1)]
  refine va_aldq (C := "DayCubes$Stand") hx hb hK.1 R.2.2 b 3 (mWs_get hn hh) rfl (mIn hi hm).1 hd ?_
  rw [(mIn hi hm).2, show (n, g).snd i = some q from hg]
  exact kk p e s m args below meth c H locs ls C R S V
theorem mG_aastN {b n i q : Nat} {g : Nat → Option Nat} {fs : List Value} (hd : mD M.2.2.1 pc .aastore 1 pc') (hh : h b = .inr (.inl (n, g))) (hn : b < a.1) (hm : n < 2 ^ 31) (hi : i < n) (hq : h q = .inr (.inr (3, fs))) (hqn : q < a.1) (kk : mG E M K pc' L st a (mU h b (.inr (.inl (n, va_up g i (some q)))))) : mG E M K pc L (.ref q :: .int (nI i) :: .ref b :: st) a h := by
  obtain ⟨hd, rfl⟩ := hd
  intro p e s m args below meth c H locs ls C R S V
  obtain ⟨hx, hb, hml, hr, hlk, hown, hnm, hts, hK, hT, hB⟩ := id C
  show W _ _ _ _ _ _ _ _ _ _ _ _ _ _ _ (F0 m pc ls (.ref (mra E q) :: .int (nI i) :: .ref (mra E b) :: st.map (mrv E)))
  rw [mra_lt (Nat.lt_of_lt_of_le hn R.2.1), mra_lt (Nat.lt_of_lt_of_le hqn R.2.1)]
  refine va_astq (r := (RX3, TX3, 6)) hx hb hK.1 R.2.2 (mWs_D E a.1 h) S b 3 q 3 (mWs_get hn hh) rfl (mWs_get hqn hq) rfl (mIn hi hm).1 hd (fun H1 locs1 hP hD hS => ?_)
  rw [(mIn hi hm).2] at hP
  have e1 : va_up (fun j => (g j).map (mra E)) i (some (E.2.2.2.1 + mSw E.2.2.2.2.2.2 q)) = fun j => (va_up g i (some q) j).map (mra E) := by
    funext j
    unfold va_up
    by_cases e : j = i
    · rw [if_pos e, if_pos e]
      show some _ = some (mra E q)
      rw [mra_lt (Nat.lt_of_lt_of_le hqn R.2.1)]
    · rw [if_neg e, if_neg e]
  rw [e1] at hP
  exact kk p e s m args below meth c H1 locs1 ls C ⟨R.1, R.2.1, by rw [← mWs_set]; exact hP⟩ hS V
/-! tables -/
theorem mG_tald {t i : Nat} (hd : mD M.2.2.1 pc .iaload 1 pc') (ht : t < 6) (hm : mTL E t < 2 ^ 31) (hi : i < mTL E t) (kk : mG E M K pc' L (.int (mTF E t i) :: st) a h) : mG E M K pc L (.int (nI i) :: .ref (1000 + t) :: st) a h := by
  obtain ⟨hd, rfl⟩ := hd
  intro p e s m args below meth c H locs ls C R S V
  obtain ⟨hx, hb, hml, hr, hlk, hown, hnm, hts, hK, hT, hB⟩ := id C
  show W _ _ _ _ _ _ _ _ _ _ _ _ _ _ _ (F0 m pc ls (.int (nI i) :: .ref (mra E (1000 + t)) :: st.map (mrv E)))
  rw [show mra E (1000 + t) = E.2.2.2.2.1 t by unfold mra; rw [if_neg (by omega), Nat.add_sub_cancel_left]]
  exact va_ti hx hb (hT.2 t ht) S (mIn hi hm).1 (by rw [(mIn hi hm).2]; rfl) hd (kk p e s m args below meth c H locs ls C R S V)
theorem mG_tlen {t : Nat} (hd : mD M.2.2.1 pc .arraylength 1 pc') (ht : t < 6) (kk : mG E M K pc' L (.int (nI (mTL E t)) :: st) a h) : mG E M K pc L (.ref (1000 + t) :: st) a h := by
  obtain ⟨hd, rfl⟩ := hd
  intro p e s m args below meth c H locs ls C R S V
  obtain ⟨hx, hb, hml, hr, hlk, hown, hnm, hts, hK, hT, hB⟩ := id C
  show W _ _ _ _ _ _ _ _ _ _ _ _ _ _ _ (F0 m pc ls (.ref (mra E (1000 + t)) :: st.map (mrv E)))
  rw [show mra E (1000 + t) = E.2.2.2.2.1 t by unfold mra; rw [if_neg (by omega), Nat.add_sub_cancel_left]]
  exact va_tlen hx hb (hT.2 t ht) S rfl hd (kk p e s m args below meth c H locs ls C R S V)
theorem mG_gets {i t : Nat} (hd : mD M.2.2.1 pc (.getstatic i) 3 pc') (ht : t < 5) (hl : Cond.fieldLink M.2.1.cls i (mSC t) (mSN t) "[I" ∈ mw) (kk : mG E M K pc' L (.ref (1000 + t) :: st) a h) : mG E M K pc L st a h := by
  obtain ⟨hd, rfl⟩ := hd
  intro p e s m args below meth c H locs ls C R S V
  obtain ⟨hx, hb, hml, hr, hlk, hown, hnm, hts, hK, hT, hB⟩ := id C
  refine va_gets hx hb (hT.1 t ht) S hown (hts _ hl) (fun _ q => q) hd ?_
  have := kk p e s m args below meth c H locs ls C R S V
  rw [show (Value.ref (1000 + t) :: st).map (mrv E) = .ref (mra E (1000 + t)) :: st.map (mrv E) from rfl, show mra E (1000 + t) = E.2.2.2.2.1 t by unfold mra; rw [if_neg (by omega), Nat.add_sub_cancel_left]] at this
  exact this
theorem mG_getsN {i t : Nat} (hd : mD M.2.2.1 pc (.getstatic i) 3 pc') (ht : t < 4) (hl : (M.2.1.cls, i, mSN t) ∈ mNf) (kk : mG E M K pc' L (.ref (1000 + t) :: st) a h) : mG E M K pc L st a h := by
  obtain ⟨hd, rfl⟩ := hd
  intro p e s m args below meth c H locs ls C R S V
  obtain ⟨hx, hb, hml, hr, hlk, hown, hnm, hts, hK, hT, hB⟩ := id C
  have hz := hT.1 t (by omega)
  rw [show mSC t = "DayCubes" from if_neg (by omega)] at hz
  refine va_getsN hx hb hz S hown (va_Nw.use rfl (hK.2.2.1 _ hl)) (fun _ q => q) hd ?_
  have := kk p e s m args below meth c H locs ls C R S V
  rw [show (Value.ref (1000 + t) :: st).map (mrv E) = .ref (mra E (1000 + t)) :: st.map (mrv E) from rfl, show mra E (1000 + t) = E.2.2.2.2.1 t by unfold mra; rw [if_neg (by omega), Nat.add_sub_cancel_left]] at this
  exact this
/-! the JDK's own -/
theorem mG_mmin {i : Nat} {x y : Int32} (hd : mD M.2.2.1 pc (.invokestatic i) 3 pc') (hl : Cond.methodLink M.2.1.cls i Lib.Math.min.name ∈ mw) (hs : Cond.static Lib.Math.min.name ∈ mw) (hi : Cond.initialized "java/lang/Math" ∈ mw) (hc : Cond.code Lib.Math.min.name Lib.Math.min.code 2 (some .int) ∈ mw) (hfr : 1 ≤ M.1.frames) (hlo : (st.map fun v => v.category).sum + 13 ≤ M.1.locals) (h1 : a.2.1 ≤ M.1.cells) (h2 : a.2.2 ≤ M.1.slots) (kk : mG E M K pc' L (.int (if y < x then y else x) :: st) a h) : mG E M K pc L (.int y :: .int x :: st) a h := by
  obtain ⟨hd, rfl⟩ := hd
  intro p e s m args below meth c H locs ls C R S V
  obtain ⟨hx, hb, hml, hr, hlk, hown, hnm, hts, hK, hT, hB⟩ := id C
  have e1 : ((st.map (mrv E)).map fun v => v.category) = st.map fun v => v.category := by rw [List.map_map]; exact List.map_congr_left (fun v _ => mrv_cat E v)
  exact va_mmin hx hb (by rw [hml]; exact V.1.symm) hown (hts _ hl) (hts _ hs) (hts _ hi) (hts _ hc) hfr (by rw [e1]; exact hlo) h1 h2 hd (kk p e s m args below meth c H locs ls C R S V)
theorem mG_mmax {i : Nat} {x y : Int32} (hd : mD M.2.2.1 pc (.invokestatic i) 3 pc') (hl : Cond.methodLink M.2.1.cls i Lib.Math.max.name ∈ mw) (hs : Cond.static Lib.Math.max.name ∈ mw) (hi : Cond.initialized "java/lang/Math" ∈ mw) (hc : Cond.code Lib.Math.max.name Lib.Math.max.code 2 (some .int) ∈ mw) (hfr : 1 ≤ M.1.frames) (hlo : (st.map fun v => v.category).sum + 13 ≤ M.1.locals) (h1 : a.2.1 ≤ M.1.cells) (h2 : a.2.2 ≤ M.1.slots) (kk : mG E M K pc' L (.int (if x < y then y else x) :: st) a h) : mG E M K pc L (.int y :: .int x :: st) a h := by
  obtain ⟨hd, rfl⟩ := hd
  intro p e s m args below meth c H locs ls C R S V
  obtain ⟨hx, hb, hml, hr, hlk, hown, hnm, hts, hK, hT, hB⟩ := id C
  have e1 : ((st.map (mrv E)).map fun v => v.category) = st.map fun v => v.category := by rw [List.map_map]; exact List.map_congr_left (fun v _ => mrv_cat E v)
  exact va_mmax hx hb (by rw [hml]; exact V.1.symm) hown (hts _ hl) (hts _ hs) (hts _ hi) (hts _ hc) hfr (by rw [e1]; exact hlo) h1 h2 hd (kk p e s m args below meth c H locs ls C R S V)
theorem mG_copy {i b b0 n0 n1 sp dp n : Nat} {f g : Nat → Int32} (hd : mD M.2.2.1 pc (.invokestatic i) 3 pc') (hl : Cond.methodLink M.2.1.cls i arraycopyName ∈ mw) (hna : Cond.native arraycopyName ∈ mw) (hs : Cond.static arraycopyName ∈ mw) (hi : Cond.initialized "java/lang/System" ∈ mw) (hh0 : h b0 = .inl (0, n0, f)) (hh : h b = .inl (0, n1, g)) (hn0 : b0 < a.1) (hn : b < a.1) (h4 : sp + n ≤ n0) (h5 : dp + n ≤ n1) (hm0 : n0 < 2 ^ 31) (hm1 : n1 < 2 ^ 31) (hfr : 1 ≤ M.1.frames) (hlo : (st.map fun v => v.category).sum + (nativeFrameWords "java/lang/System" "arraycopy" 5 + 11) ≤ M.1.locals)
    (kk : mG E M K pc' L st a (mU h b (.inl (0, n1, va_cpy f g sp dp n)))) : mG E M K pc L (.int (nI n) :: .int (nI dp) :: .ref b :: .int (nI sp) :: .ref b0 :: st) a h := by
  obtain ⟨hd, rfl⟩ := hd
  intro p e s m args below meth c H locs ls C R S V
  obtain ⟨hx, hb, hml, hr, hlk, hown, hnm, hts, hK, hT, hB⟩ := id C
  have e1 : ((st.map (mrv E)).map fun v => v.category) = st.map fun v => v.category := by rw [List.map_map]; exact List.map_congr_left (fun v _ => mrv_cat E v)
  have c1 : (nI sp).toNatClampNeg = sp := nI_clamp (by omega)
  have c2 : (nI dp).toNatClampNeg = dp := nI_clamp (by omega)
  have c3 : (nI n).toNatClampNeg = n := nI_clamp (by omega)
  show W _ _ _ _ _ _ _ _ _ _ _ _ _ _ _ (F0 m pc ls (.int (nI n) :: .int (nI dp) :: .ref (mra E b) :: .int (nI sp) :: .ref (mra E b0) :: st.map (mrv E)))
  rw [mra_lt (Nat.lt_of_lt_of_le hn R.2.1), mra_lt (Nat.lt_of_lt_of_le hn0 R.2.1)]
  refine va_copyi hx hb (by rw [hml]; exact V.1.symm) hown (hts _ hl) (hts _ hna) (hts _ hs) (hts _ hi) hK.1 R.2.2 (mWs_D E a.1 h) S b0 b 0 0 (mWs_get hn0 hh0) (mWs_get hn hh) (ty := .int) rfl rfl rfl (nI_pos (by omega)) (nI_pos (by omega)) (nI_pos (by omega)) (by rw [c1, c3]; exact h4) (by rw [c2, c3]; exact h5) (fun _ _ => rfl) hfr (by rw [e1]; exact hlo) hd (fun H1 locs1 hP hD hS => ?_)
  rw [c1, c2, c3] at hP
  exact kk p e s m args below meth c H1 locs1 ls C ⟨R.1, R.2.1, by rw [← mWs_set]; exact hP⟩ hS V
end MM
end
section
section MCa
variable {E : mE} {M : mM} {K : mKt} {pc pc' : Nat} {L L' : List (Option Value)} {st : List Value} {a : Nat × Nat × Nat} {h h' : mH}
/-! ends -/
theorem mEnd {E : mE} {s t : State} {args : Array Value} {H : Heap} {locs : List Loc} {n' : Nat} {Q : Option Value → mH → Prop} {r : Option Value} {h : mH} (S : va_S (mA E) s.heap H locs) (R : mRep E n' h H) (hq : Q r h) (ht : t.heap = H) : mQc E n' Q args s (.returned (r.map (mrv E))) t := ⟨⟨r, h, rfl, hq, by rw [ht]; exact R⟩, S.F ht⟩
theorem mG_iret {n' : Nat} {Q : Option Value → mH → Prop} {x : Int32} (hd : mD M.2.2.1 pc .ireturn 1 pc') (hr : M.2.2.2.2 = some .int) (hq : Q (some (.int x)) h) (h0 : a.1 = n' := by rfl) (h1 : a.2.1 ≤ M.1.cells := by first | exact Nat.zero_le _ | decide) (h2 : a.2.2 ≤ M.1.slots := by first | exact Nat.zero_le _ | decide) : mG E M (mKq E M.1 n' Q) pc L [.int x] a h := by
  obtain ⟨hd, rfl⟩ := hd
  subst h0
  intro p e s m args below meth c H locs ls C R S V
  refine W.widen h1 h2 (W.iret (Qc := mQc E a.1 Q) C.1 C.2.1 (C.2.2.2.1.trans hr) (fun t ht _ => mEnd S R.2 hq ht) S.2.2 hd C.2.2.2.2.1)
theorem mG_zret {n' : Nat} {Q : Option Value → mH → Prop} {x : Bool} (hd : mD M.2.2.1 pc .ireturn 1 pc') (hr : M.2.2.2.2 = some .boolean) (hq : Q (some (.int (mb x))) h) (h0 : a.1 = n' := by rfl) (h1 : a.2.1 ≤ M.1.cells := by first | exact Nat.zero_le _ | decide) (h2 : a.2.2 ≤ M.1.slots := by first | exact Nat.zero_le _ | decide) : mG E M (mKq E M.1 n' Q) pc L [.int (mb x)] a h := by
  obtain ⟨hd, rfl⟩ := hd
  subst h0
  intro p e s m args below meth c H locs ls C R S V
  refine W.widen h1 h2 (W.zret (Qc := mQc E a.1 Q) C.1 C.2.1 (C.2.2.2.1.trans hr) (mb_nar x).1 (fun t ht _ => mEnd S R.2 hq ht) S.2.2 hd C.2.2.2.2.1)
theorem mG_lret {n' : Nat} {Q : Option Value → mH → Prop} {x : Int64} (hd : mD M.2.2.1 pc .lreturn 1 pc') (hr : M.2.2.2.2 = some .long) (hq : Q (some (.long x)) h) (h0 : a.1 = n' := by rfl) (h1 : a.2.1 ≤ M.1.cells := by first | exact Nat.zero_le _ | decide) (h2 : a.2.2 ≤ M.1.slots := by first | exact Nat.zero_le _ | decide) : mG E M (mKq E M.1 n' Q) pc L [.long x] a h := by
  obtain ⟨hd, rfl⟩ := hd
  subst h0
  intro p e s m args below meth c H locs ls C R S V
  refine W.widen h1 h2 (W.lret (Qc := mQc E a.1 Q) C.1 C.2.1 (C.2.2.2.1.trans hr) (fun t ht _ => mEnd S R.2 hq ht) S.2.2 hd C.2.2.2.2.1)
theorem mG_vret {n' : Nat} {Q : Option Value → mH → Prop} (hd : mD M.2.2.1 pc .return_ 1 pc') (hr : M.2.2.2.2 = none) (hq : Q none h) (h0 : a.1 = n' := by rfl) (h1 : a.2.1 ≤ M.1.cells := by first | exact Nat.zero_le _ | decide) (h2 : a.2.2 ≤ M.1.slots := by first | exact Nat.zero_le _ | decide) : mG E M (mKq E M.1 n' Q) pc L [] a h := by
  obtain ⟨hd, rfl⟩ := hd
  subst h0
  intro p e s m args below meth c H locs ls C R S V
  refine W.widen h1 h2 (W.vret (Qc := mQc E a.1 Q) C.1 C.2.1 (C.2.2.2.1.trans hr) (fun t ht _ => mEnd (r := none) S R.2 hq ht) S.2.2 hd C.2.2.2.2.1)
theorem mG_aret {n' q : Nat} {Q : Option Value → mH → Prop} {D : String} (hd : mD M.2.2.1 pc .areturn 1 pc') (hr : M.2.2.2.2 = some (.object D)) (hq : Q (some (.ref q)) h) (h0 : a.1 = n' := by rfl) (h1 : a.2.1 ≤ M.1.cells := by first | exact Nat.zero_le _ | decide) (h2 : a.2.2 ≤ M.1.slots := by first | exact Nat.zero_le _ | decide) : mG E M (mKq E M.1 n' Q) pc L [.ref q] a h := by
  obtain ⟨hd, rfl⟩ := hd
  subst h0
  intro p e s m args below meth c H locs ls C R S V
  refine W.widen h1 h2 (W.aret (Qc := mQc E a.1 Q) (v := mrv E (.ref q)) C.1 C.2.1 (C.2.2.2.1.trans hr) (Or.inl ⟨_, rfl⟩) (Or.inr ⟨_, rfl⟩) (fun t ht _ => mEnd (r := some (.ref q)) S R.2 hq ht) S.2.2 hd C.2.2.2.2.1)
/-! a method's contract out of its walk -/
theorem mOkR_of {R : Room} {Y : mY} {av : List Value} {n n' : Nat} {Q : Option Value → mH → Prop} (hp : plainName Y.1.cls = true) (hc : ∀ v ∈ av, v.category = 1) (hl : av.length ≤ Y.2.2.1) (k : mG E (R, Y) (mKq E R n' Q) 0 (av.map some ++ List.replicate (Y.2.2.1 - av.length) none) [] (n, 0, 0) h) : mOkR E R Y av n n' h Q := by
  refine Met.ofW (cc := Y.2.1) (maxL := Y.2.2.1) (ret := Y.2.2.2) hp rfl ?_
  intro p e s m args below meth c s₁ B hml hv
  obtain ⟨rfl, hR, hK, hT, hz⟩ := hv
  have hts := atoms_spec (ws := Cond.code Y.1 Y.2.1 Y.2.2.1 Y.2.2.2 :: mw) B.pre
  have hslots : (lg_sl (av.map (mrv E))).length = av.length := by
    have : ∀ l : List Value, (∀ v ∈ l, v.category = 1) → (lg_sl (l.map (mrv E))).length = l.length := by
      intro l
      induction l with
      | nil => intro _; rfl
      | cons x t ih =>
        intro hx
        have h1 : (mrv E x).category = 1 := by rw [mrv_cat]; exact hx x List.mem_cons_self
        have h2 := ih (fun v hv => hx v (List.mem_cons_of_mem _ hv))
        simp only [lg_sl, List.map_cons, List.flatMap_cons, h1, List.length_append] at h2 ⊢
        simp [h2]
        omega
    exact this av hc
  have hl0 := lv_entry (av.map (mrv E)) (n := Y.2.2.1) (by rw [hslots]; exact hl)
  rw [lg_entry_eq]
  generalize (lg_sl (av.map (mrv E)) ++ List.replicate (Y.2.2.1 - (lg_sl (av.map (mrv E))).length) Slot.unset).toArray = ls at hl0 ⊢
  exact k p e s m _ below meth c s.heap [] ls ⟨B.exec, B.bytes, hml, B.returns, B.notSynchronized, findClass_of_methodNamed B.named, (name_of_methodNamed B.named B.method).1, fun w hw => hts w (List.mem_cons_of_mem _ hw), hK, hT, by omega⟩ ⟨by show s.heap.size + 0 = _; omega, hR⟩ va_S.rf (mPr_args E av hc _ hl0)
/-! calls -/
theorem mW_size {p : Program} {l : Launch} {e : Env} {R : Room} {s : State} {m : MethodId} {args : Array Value} {below : List Frame} {meth : Method} {c : Code} {H : Heap} {locs : List Loc} {cells slots : Nat} {Q : State → Prop} {g : JFrame} (k : H.size ≤ s.heap.size + cells → W p l e R s m args below meth c H locs cells slots Q g) : W p l e R s m args below meth c H locs cells slots Q g := fun T hT X => k (by rw [← hT]; exact X.heapSize) T hT X
theorem mPc_blind (E : mE) (av : List Value) (n : Nat) (h : mH) : FrameBlind (mPc E av n h) := fun a U g mk q => ⟨q.1, q.2.1, mKn.same (s := U) (U := U.calling g mk a) rfl q.2.2.1, mSt.kept (u := U) (U := U.calling g mk a) (Vm.Alike.refl U.vm) q.2.2.2.1 (fun _ _ _ => rfl), q.2.2.2.2⟩
theorem mPc_now {s U : State} {H : Heap} {locs : List Loc} {n cells : Nat} {av : List Value} (hW : s.WarmedH U.vm) (hU : U.heap = H) (hK : mKn E s) (hT : mSt E s s.heap) (S : va_S (mA E) s.heap H locs) (R : mRep E n h H) (hz : s.heap.size + cells = E.2.2.2.1 + n) (hz2 : H.size ≤ s.heap.size + cells) (hz3 : E.2.2.2.1 + n ≤ H.size) : mPc E av n h (av.map (mrv E)).toArray U :=
  ⟨rfl, by rw [hU]; exact R, hK.warm hW, by rw [hU]; exact hT.kept hW.alike S.2.1, by rw [hU]; omega⟩
/-- the words of a call -/
def mCy (Y : mY) (na : Nat) : Prop := Cond.code Y.1 Y.2.1 Y.2.2.1 Y.2.2.2 ∈ mw ∧ Cond.initialized Y.1.cls ∈ mw ∧ Y.1.cls ≠ "java/lang/invoke/MethodHandle" ∧ Y.1.cls ≠ "java/lang/invoke/VarHandle" ∧ (parseMethodDescriptor Y.1.desc).map (fun d => d.parameters.length) = some na
def mCv (own : String) (idx : Nat) (Y : mY) (na ci : Nat) : Prop := mCy Y na ∧ Cond.methodLink own idx Y.1 ∈ mw ∧ Cond.instanceMethod Y.1 ∈ mw ∧ Cond.selects Y.1.cls Y.1 Y.1 ∈ mw ∧ ∃ (T : u_T) (N : Nat), mCl[ci]? = some (Y.1.cls, T, N)
def mCs (own : String) (idx : Nat) (Y : mY) (na : Nat) : Prop := mCy Y na ∧ Cond.methodLink own idx Y.1 ∈ mw ∧ Cond.static Y.1 ∈ mw
def mLe (R' : Room) (nL : Nat) (R : Room) : Prop := R'.frames + 1 ≤ R.frames ∧ 8 + (nL + 11) + R'.locals ≤ R.locals
theorem mCallB {R' R : Room} {Y : mY} {na i : Nat} {own : String} {s : State} {args : Array Value} (hts : ∀ w ∈ mw, w.before args s = true) (hy : mCy Y na) (hl : Cond.methodLink own i Y.1 ∈ mw) (hR : mLe R' Y.2.2.1 R) : CallB R s args own i Y.1 Y.2.1 Y.2.2.1 Y.2.2.2 (Cond.code Y.1 Y.2.1 Y.2.2.1 Y.2.2.2 :: mw) R' R'.cells R'.slots na :=
  callB_of na hts (mGood hy.1) rfl rfl rfl (hts _ hy.2.1) (hts _ hl) hy.2.2 hR
theorem mCat (E : mE) (st : List Value) : ((st.map (mrv E)).map fun v => v.category) = st.map fun v => v.category := by rw [List.map_map]; exact List.map_congr_left (fun v _ => mrv_cat E v)
/-- behind a call -/
theorem mG_after {n n' cells slots : Nat} {R' : Room} {Q' : Option Value → mH → Prop} {st0 : List Value} {p : Program} {e : Env} {s : State} {m : MethodId} {args : Array Value} {below : List Frame} {meth : Method} {c : Code} {H : Heap} {locs : List Loc} {ls : Array Slot} {av : Array Value} (hn' : n' = n + R'.cells)
    (C : mCx E M p s m args meth c) (Rz : s.heap.size + cells = E.2.2.2.1 + n) (S : va_S (mA E) s.heap H locs) (V : lv_has ls M.2.2.2.1 (mPr E L))
    (hr : va_Run p E.1 e M.1 s m args below meth c H locs cells slots R'.cells R'.slots (F0 m pc ls st0) (st.map (mrv E)) (mQc E n' Q' av) (mA E))
    (k : ∀ r h', Q' r h' → mG E M K (pc + 3) L (r.toList ++ st) (n', cells + R'.cells, slots + R'.slots) h') : W p E.1 e M.1 s m args below meth c H locs cells slots (K below args s) (F0 m pc ls st0) := by
  intro T hT X
  obtain ⟨v, st₀, t, T', L2, h0, X', hL, e1, e2, ⟨⟨r, h', hv, hq, hrep⟩, hz, hk⟩, stp⟩ := hr T hT X
  cases hv
  rw [h0] at hz hk
  obtain ⟨t2, a1, b1⟩ := k r h' hq p e s m args below meth c T'.heap (locs ++ L2) ls C ⟨by show s.heap.size + (cells + R'.cells) = _ + n'; omega, by rw [e1]; exact hrep⟩
    ⟨Nat.le_trans S.1 (by rw [e1]; exact hz), fun q g1 g2 => by rw [e1, hk q (Nat.lt_of_lt_of_le g1 S.1) g2]; exact S.2.1 q g1 g2, fun q hq => by
      rcases List.mem_append.mp hq with g | g
      · exact S.2.2 q g
      · exact hL q g⟩ V T' rfl X'
  refine ⟨t2, stp t2 ?_, b1⟩
  have e3 : (r.toList ++ st).map (mrv E) = (r.map (mrv E)).toList ++ st.map (mrv E) := by cases r <;> simp
  rw [e3] at a1
  exact a1
theorem mG_callV {R' : Room} {Y : mY} {na i ci b n n' cells slots : Nat} {av fs : List Value} {Q' : Option Value → mH → Prop} (hc : mCv M.2.1.cls i Y na ci) (hd : mD M.2.2.1 pc (.invokevirtual i) 3 pc') (hR : mLe R' Y.2.2.1 M.1) (hcat : (st.map fun v => v.category).sum ≤ 8) (hf : cells + R'.cells ≤ M.1.cells ∧ slots + R'.slots ≤ M.1.slots) (hh : h b = .inr (.inr (ci, fs))) (hn : b < n) (hna : av.length = na) (hn' : n' = n + R'.cells) (hE : E.2.2.2.2.2.2 = true → 9 ≤ n)
    (hM : mOkR E R' Y (.ref b :: av) n n' h Q') (k : ∀ r h', Q' r h' → mG E M K pc' L (r.toList ++ st) (n', cells + R'.cells, slots + R'.slots) h') : mG E M K pc L (av.reverse ++ .ref b :: st) (n, cells, slots) h := by
  obtain ⟨hd, rfl⟩ := hd
  obtain ⟨hy, hl, hin, hse, T, N, hcl⟩ := hc
  intro p e s m args below meth c H locs ls C R S V
  obtain ⟨hx, hb, hml, hr, hlk, hown, hnm, hts, hK, hT, hB⟩ := id C
  refine mW_size (fun hz2 => ?_)
  have hz3 : E.2.2.2.1 + n ≤ H.size := (R.2.size hE).resolve_left (by omega)
  have hb1 : mra E b = E.2.2.2.1 + mSw E.2.2.2.2.2.2 b := mra_lt (Nat.lt_of_lt_of_le hn R.2.1)
  refine mG_after hn' C R.1 S V (va_runV (As := av.map (mrv E)) (b := mra E b) (rest := st.map (mrv E)) (C := Y.1.cls) ⟨hx, hb, rfl, hown, hts⟩ hM ⟨mCallB hts hy hl hR, hts _ hin, hts _ hse⟩ ⟨mPc_blind E _ n h, ?_, fun U hU hW => mPc_now hW hU hK hT S R.2 R.1 hz2 hz3⟩ rfl (by rw [List.length_map]; exact hna) (by rw [hml]; exact V.1) (by simp [mrv]) (lv_room (by rw [mCat]; exact hcat)) hd hf) k
  rw [hb1]
  exact va_recv hK.1 R.2.2 hcl (mWs_get hn hh)
theorem mG_callS {R' : Room} {Y : mY} {na i n n' cells slots : Nat} {av : List Value} {Q' : Option Value → mH → Prop} (hc : mCs M.2.1.cls i Y na) (hd : mD M.2.2.1 pc (.invokestatic i) 3 pc') (hR : mLe R' Y.2.2.1 M.1) (hcat : (st.map fun v => v.category).sum ≤ 8) (hf : cells + R'.cells ≤ M.1.cells ∧ slots + R'.slots ≤ M.1.slots) (hna : av.length = na) (hn' : n' = n + R'.cells) (h0 : 0 < n) (hE : E.2.2.2.2.2.2 = true → 9 ≤ n)
    (hM : mOkR E R' Y av n n' h Q') (k : ∀ r h', Q' r h' → mG E M K pc' L (r.toList ++ st) (n', cells + R'.cells, slots + R'.slots) h') : mG E M K pc L (av.reverse ++ st) (n, cells, slots) h := by
  obtain ⟨hd, rfl⟩ := hd
  obtain ⟨hy, hl, hst⟩ := hc
  intro p e s m args below meth c H locs ls C R S V
  obtain ⟨hx, hb, hml, hr, hlk, hown, hnm, hts, hK, hT, hB⟩ := id C
  refine mW_size (fun hz2 => ?_)
  have hz3 : E.2.2.2.1 + n ≤ H.size := (R.2.size hE).resolve_left (by omega)
  exact mG_after hn' C R.1 S V (va_runS (As := av.map (mrv E)) (rest := st.map (mrv E)) ⟨hx, hb, rfl, hown, hts⟩ hM ⟨mCallB hts hy hl hR, hts _ hst⟩ ⟨mPc_blind E _ n h, fun U hU hW => mPc_now hW hU hK hT S R.2 R.1 hz2 hz3⟩ rfl (by rw [List.length_map]; exact hna) (by rw [hml]; exact V.1) (by simp) (lv_room (by rw [mCat]; exact hcat)) hd hf) k
end MCa
end
