section
-- ===== PART A: goes FIRST, ahead of the names: the tables' words, and 'selects' of the private methods out of them =====
/-- a private method of a class that the tables say can be made, by its rows of tables_1 -/
def lw_okq (q : MethodName × Nat) : Prop := (q.1.cls ≠ "java/lang/invoke/MethodHandle" ∧ q.1.cls ≠ "java/lang/invoke/VarHandle") ∧ Cond.instantiable q.1.cls q.2 ∈ tables_1 ∧ Cond.privateMethod q.1 ∈ tables_1 ∧ Cond.instanceMethod q.1 ∈ tables_1
theorem lw_p0 : lw_okq (⟨"FieldAfterField$Marks", "add", "(IIII)I"⟩, 8) := ⟨⟨by decide +kernel, by decide +kernel⟩, List.mem_of_getElem? (i := 21) (by decide +kernel), List.mem_of_getElem? (i := 263) (by decide +kernel), List.mem_of_getElem? (i := 264) (by decide +kernel)⟩
theorem lw_p1 : lw_okq (⟨"FieldAfterField$Marks", "has", "(I)Z"⟩, 8) := ⟨⟨by decide +kernel, by decide +kernel⟩, List.mem_of_getElem? (i := 21) (by decide +kernel), List.mem_of_getElem? (i := 271) (by decide +kernel), List.mem_of_getElem? (i := 272) (by decide +kernel)⟩
theorem lw_p2 : lw_okq (⟨"FieldAfterField$Marks", "setReads", "(III)V"⟩, 8) := ⟨⟨by decide +kernel, by decide +kernel⟩, List.mem_of_getElem? (i := 21) (by decide +kernel), List.mem_of_getElem? (i := 276) (by decide +kernel), List.mem_of_getElem? (i := 277) (by decide +kernel)⟩
theorem lw_p3 : lw_okq (⟨"FieldAfterField$Marks", "forget", "(I)V"⟩, 8) := ⟨⟨by decide +kernel, by decide +kernel⟩, List.mem_of_getElem? (i := 21) (by decide +kernel), List.mem_of_getElem? (i := 287) (by decide +kernel), List.mem_of_getElem? (i := 288) (by decide +kernel)⟩
theorem lw_p4 : lw_okq (⟨"FieldAfterField$Marks", "counting", "()I"⟩, 8) := ⟨⟨by decide +kernel, by decide +kernel⟩, List.mem_of_getElem? (i := 21) (by decide +kernel), List.mem_of_getElem? (i := 306) (by decide +kernel), List.mem_of_getElem? (i := 307) (by decide +kernel)⟩
theorem lw_p5 : lw_okq (⟨"FieldAfterField$Marks", "notLost", "()I"⟩, 8) := ⟨⟨by decide +kernel, by decide +kernel⟩, List.mem_of_getElem? (i := 21) (by decide +kernel), List.mem_of_getElem? (i := 310) (by decide +kernel), List.mem_of_getElem? (i := 311) (by decide +kernel)⟩
theorem lw_p6 : lw_okq (⟨"FieldAfterField$Book", "howManyRead", "()I"⟩, 7) := ⟨⟨by decide +kernel, by decide +kernel⟩, List.mem_of_getElem? (i := 172) (by decide +kernel), List.mem_of_getElem? (i := 314) (by decide +kernel), List.mem_of_getElem? (i := 315) (by decide +kernel)⟩
theorem lw_p7 : lw_okq (⟨"FieldAfterField$Marks", "fieldsOf", "(I)I"⟩, 8) := ⟨⟨by decide +kernel, by decide +kernel⟩, List.mem_of_getElem? (i := 21) (by decide +kernel), List.mem_of_getElem? (i := 318) (by decide +kernel), List.mem_of_getElem? (i := 319) (by decide +kernel)⟩
theorem lw_p8 : lw_okq (⟨"FieldAfterField$Marks", "hasEarlierOfField", "(II)Z"⟩, 8) := ⟨⟨by decide +kernel, by decide +kernel⟩, List.mem_of_getElem? (i := 21) (by decide +kernel), List.mem_of_getElem? (i := 323) (by decide +kernel), List.mem_of_getElem? (i := 324) (by decide +kernel)⟩
theorem lw_p9 : lw_okq (⟨"FieldAfterField$Fit", "make", "(LFieldAfterField$Marks;II)Z"⟩, 4) := ⟨⟨by decide +kernel, by decide +kernel⟩, List.mem_of_getElem? (i := 66) (by decide +kernel), List.mem_of_getElem? (i := 332) (by decide +kernel), List.mem_of_getElem? (i := 333) (by decide +kernel)⟩
theorem lw_p10 : lw_okq (⟨"FieldAfterField$Table", "clear", "(I)V"⟩, 13) := ⟨⟨by decide +kernel, by decide +kernel⟩, List.mem_of_getElem? (i := 72) (by decide +kernel), List.mem_of_getElem? (i := 336) (by decide +kernel), List.mem_of_getElem? (i := 337) (by decide +kernel)⟩
theorem lw_p11 : lw_okq (⟨"FieldAfterField$Marks", "secondTerm", "(II)I"⟩, 8) := ⟨⟨by decide +kernel, by decide +kernel⟩, List.mem_of_getElem? (i := 21) (by decide +kernel), List.mem_of_getElem? (i := 341) (by decide +kernel), List.mem_of_getElem? (i := 342) (by decide +kernel)⟩
theorem lw_p12 : lw_okq (⟨"FieldAfterField$Marks", "thirdTerm", "(II)I"⟩, 8) := ⟨⟨by decide +kernel, by decide +kernel⟩, List.mem_of_getElem? (i := 21) (by decide +kernel), List.mem_of_getElem? (i := 345) (by decide +kernel), List.mem_of_getElem? (i := 346) (by decide +kernel)⟩
theorem lw_p13 : lw_okq (⟨"FieldAfterField$Table", "add", "(JJI)V"⟩, 13) := ⟨⟨by decide +kernel, by decide +kernel⟩, List.mem_of_getElem? (i := 72) (by decide +kernel), List.mem_of_getElem? (i := 349) (by decide +kernel), List.mem_of_getElem? (i := 350) (by decide +kernel)⟩
theorem lw_p14 : lw_okq (⟨"FieldAfterField$Table", "turnBack", "()V"⟩, 13) := ⟨⟨by decide +kernel, by decide +kernel⟩, List.mem_of_getElem? (i := 72) (by decide +kernel), List.mem_of_getElem? (i := 353) (by decide +kernel), List.mem_of_getElem? (i := 354) (by decide +kernel)⟩
theorem lw_p15 : lw_okq (⟨"FieldAfterField$Fit", "makeSums", "(LFieldAfterField$Marks;II)V"⟩, 4) := ⟨⟨by decide +kernel, by decide +kernel⟩, List.mem_of_getElem? (i := 66) (by decide +kernel), List.mem_of_getElem? (i := 357) (by decide +kernel), List.mem_of_getElem? (i := 358) (by decide +kernel)⟩
def lw_privs_1 : List (MethodName × Nat) := [(⟨"FieldAfterField$Marks", "add", "(IIII)I"⟩, 8), (⟨"FieldAfterField$Marks", "has", "(I)Z"⟩, 8), (⟨"FieldAfterField$Marks", "setReads", "(III)V"⟩, 8), (⟨"FieldAfterField$Marks", "forget", "(I)V"⟩, 8), (⟨"FieldAfterField$Marks", "counting", "()I"⟩, 8), (⟨"FieldAfterField$Marks", "notLost", "()I"⟩, 8), (⟨"FieldAfterField$Book", "howManyRead", "()I"⟩, 7), (⟨"FieldAfterField$Marks", "fieldsOf", "(I)I"⟩, 8), (⟨"FieldAfterField$Marks", "hasEarlierOfField", "(II)Z"⟩, 8), (⟨"FieldAfterField$Fit", "make", "(LFieldAfterField$Marks;II)Z"⟩, 4), (⟨"FieldAfterField$Table", "clear", "(I)V"⟩, 13), (⟨"FieldAfterField$Marks", "secondTerm", "(II)I"⟩, 8), (⟨"FieldAfterField$Marks", "thirdTerm", "(II)I"⟩, 8), (⟨"FieldAfterField$Table", "add", "(JJI)V"⟩, 13), (⟨"FieldAfterField$Table", "turnBack", "()V"⟩, 13), (⟨"FieldAfterField$Fit", "makeSums", "(LFieldAfterField$Marks;II)V"⟩, 4)]
theorem lw_r1 : ∀ q ∈ lw_privs_1, lw_okq q := List.forall_mem_cons.mpr ⟨lw_p0, List.forall_mem_cons.mpr ⟨lw_p1, List.forall_mem_cons.mpr ⟨lw_p2, List.forall_mem_cons.mpr ⟨lw_p3, List.forall_mem_cons.mpr ⟨lw_p4, List.forall_mem_cons.mpr ⟨lw_p5, List.forall_mem_cons.mpr ⟨lw_p6, List.forall_mem_cons.mpr ⟨lw_p7, List.forall_mem_cons.mpr ⟨lw_p8, List.forall_mem_cons.mpr ⟨lw_p9, List.forall_mem_cons.mpr ⟨lw_p10, List.forall_mem_cons.mpr ⟨lw_p11, List.forall_mem_cons.mpr ⟨lw_p12, List.forall_mem_cons.mpr ⟨lw_p13, List.forall_mem_cons.mpr ⟨lw_p14, List.forall_mem_cons.mpr ⟨lw_p15, fun _ h => absurd h List.not_mem_nil⟩⟩⟩⟩⟩⟩⟩⟩⟩⟩⟩⟩⟩⟩⟩⟩
theorem lw_p16 : lw_okq (⟨"FieldAfterField$Fit", "makeFactors", "(I)V"⟩, 4) := ⟨⟨by decide +kernel, by decide +kernel⟩, List.mem_of_getElem? (i := 66) (by decide +kernel), List.mem_of_getElem? (i := 361) (by decide +kernel), List.mem_of_getElem? (i := 362) (by decide +kernel)⟩
theorem lw_p17 : lw_okq (⟨"FieldAfterField$Fit", "restOf", "(LFieldAfterField$Marks;II)J"⟩, 4) := ⟨⟨by decide +kernel, by decide +kernel⟩, List.mem_of_getElem? (i := 66) (by decide +kernel), List.mem_of_getElem? (i := 390) (by decide +kernel), List.mem_of_getElem? (i := 391) (by decide +kernel)⟩
theorem lw_p18 : lw_okq (⟨"FieldAfterField$Fit", "sumOfSquares", "(I)J"⟩, 4) := ⟨⟨by decide +kernel, by decide +kernel⟩, List.mem_of_getElem? (i := 66) (by decide +kernel), List.mem_of_getElem? (i := 398) (by decide +kernel), List.mem_of_getElem? (i := 399) (by decide +kernel)⟩
theorem lw_p19 : lw_okq (⟨"FieldAfterField$Fit", "liars", "(LFieldAfterField$Marks;II)I"⟩, 4) := ⟨⟨by decide +kernel, by decide +kernel⟩, List.mem_of_getElem? (i := 66) (by decide +kernel), List.mem_of_getElem? (i := 408) (by decide +kernel), List.mem_of_getElem? (i := 409) (by decide +kernel)⟩
theorem lw_p20 : lw_okq (⟨"FieldAfterField$Fit", "above", "(LFieldAfterField$Marks;II)I"⟩, 4) := ⟨⟨by decide +kernel, by decide +kernel⟩, List.mem_of_getElem? (i := 66) (by decide +kernel), List.mem_of_getElem? (i := 414) (by decide +kernel), List.mem_of_getElem? (i := 415) (by decide +kernel)⟩
theorem lw_p21 : lw_okq (⟨"FieldAfterField$Fit", "greaterRestOf", "(LFieldAfterField$Marks;I)J"⟩, 4) := ⟨⟨by decide +kernel, by decide +kernel⟩, List.mem_of_getElem? (i := 66) (by decide +kernel), List.mem_of_getElem? (i := 418) (by decide +kernel), List.mem_of_getElem? (i := 419) (by decide +kernel)⟩
theorem lw_p22 : lw_okq (⟨"FieldAfterField$Fit", "worstOf", "(LFieldAfterField$Marks;I)I"⟩, 4) := ⟨⟨by decide +kernel, by decide +kernel⟩, List.mem_of_getElem? (i := 66) (by decide +kernel), List.mem_of_getElem? (i := 427) (by decide +kernel), List.mem_of_getElem? (i := 428) (by decide +kernel)⟩
theorem lw_p23 : lw_okq (⟨"FieldAfterField$Planner", "make", "(LFieldAfterField$Marks;II)Z"⟩, 5) := ⟨⟨by decide +kernel, by decide +kernel⟩, List.mem_of_getElem? (i := 145) (by decide +kernel), List.mem_of_getElem? (i := 435) (by decide +kernel), List.mem_of_getElem? (i := 436) (by decide +kernel)⟩
theorem lw_p24 : lw_okq (⟨"FieldAfterField$Planner", "choose", "(LFieldAfterField$Marks;III)V"⟩, 5) := ⟨⟨by decide +kernel, by decide +kernel⟩, List.mem_of_getElem? (i := 145) (by decide +kernel), List.mem_of_getElem? (i := 440) (by decide +kernel), List.mem_of_getElem? (i := 441) (by decide +kernel)⟩
theorem lw_p25 : lw_okq (⟨"FieldAfterField$Planner", "weigh", "(LFieldAfterField$Marks;I)V"⟩, 5) := ⟨⟨by decide +kernel, by decide +kernel⟩, List.mem_of_getElem? (i := 145) (by decide +kernel), List.mem_of_getElem? (i := 444) (by decide +kernel), List.mem_of_getElem? (i := 445) (by decide +kernel)⟩
theorem lw_p26 : lw_okq (⟨"FieldAfterField$Table", "formOf", "(JJ)J"⟩, 13) := ⟨⟨by decide +kernel, by decide +kernel⟩, List.mem_of_getElem? (i := 72) (by decide +kernel), List.mem_of_getElem? (i := 451) (by decide +kernel), List.mem_of_getElem? (i := 452) (by decide +kernel)⟩
theorem lw_p27 : lw_okq (⟨"FieldAfterField$Book", "add", "(II)I"⟩, 7) := ⟨⟨by decide +kernel, by decide +kernel⟩, List.mem_of_getElem? (i := 172) (by decide +kernel), List.mem_of_getElem? (i := 462) (by decide +kernel), List.mem_of_getElem? (i := 463) (by decide +kernel)⟩
theorem lw_p28 : lw_okq (⟨"FieldAfterField$Book", "has", "(I)Z"⟩, 7) := ⟨⟨by decide +kernel, by decide +kernel⟩, List.mem_of_getElem? (i := 172) (by decide +kernel), List.mem_of_getElem? (i := 470) (by decide +kernel), List.mem_of_getElem? (i := 471) (by decide +kernel)⟩
theorem lw_p29 : lw_okq (⟨"FieldAfterField$Book", "setRead", "(II)V"⟩, 7) := ⟨⟨by decide +kernel, by decide +kernel⟩, List.mem_of_getElem? (i := 172) (by decide +kernel), List.mem_of_getElem? (i := 474) (by decide +kernel), List.mem_of_getElem? (i := 475) (by decide +kernel)⟩
theorem lw_p30 : lw_okq (⟨"FieldAfterField$Book", "setMended", "(I)V"⟩, 7) := ⟨⟨by decide +kernel, by decide +kernel⟩, List.mem_of_getElem? (i := 172) (by decide +kernel), List.mem_of_getElem? (i := 482) (by decide +kernel), List.mem_of_getElem? (i := 483) (by decide +kernel)⟩
theorem lw_p31 : lw_okq (⟨"FieldAfterField$Book", "stateAhead", "(II)I"⟩, 7) := ⟨⟨by decide +kernel, by decide +kernel⟩, List.mem_of_getElem? (i := 172) (by decide +kernel), List.mem_of_getElem? (i := 494) (by decide +kernel), List.mem_of_getElem? (i := 495) (by decide +kernel)⟩
def lw_privs_2 : List (MethodName × Nat) := [(⟨"FieldAfterField$Fit", "makeFactors", "(I)V"⟩, 4), (⟨"FieldAfterField$Fit", "restOf", "(LFieldAfterField$Marks;II)J"⟩, 4), (⟨"FieldAfterField$Fit", "sumOfSquares", "(I)J"⟩, 4), (⟨"FieldAfterField$Fit", "liars", "(LFieldAfterField$Marks;II)I"⟩, 4), (⟨"FieldAfterField$Fit", "above", "(LFieldAfterField$Marks;II)I"⟩, 4), (⟨"FieldAfterField$Fit", "greaterRestOf", "(LFieldAfterField$Marks;I)J"⟩, 4), (⟨"FieldAfterField$Fit", "worstOf", "(LFieldAfterField$Marks;I)I"⟩, 4), (⟨"FieldAfterField$Planner", "make", "(LFieldAfterField$Marks;II)Z"⟩, 5), (⟨"FieldAfterField$Planner", "choose", "(LFieldAfterField$Marks;III)V"⟩, 5), (⟨"FieldAfterField$Planner", "weigh", "(LFieldAfterField$Marks;I)V"⟩, 5), (⟨"FieldAfterField$Table", "formOf", "(JJ)J"⟩, 13), (⟨"FieldAfterField$Book", "add", "(II)I"⟩, 7), (⟨"FieldAfterField$Book", "has", "(I)Z"⟩, 7), (⟨"FieldAfterField$Book", "setRead", "(II)V"⟩, 7), (⟨"FieldAfterField$Book", "setMended", "(I)V"⟩, 7), (⟨"FieldAfterField$Book", "stateAhead", "(II)I"⟩, 7)]
theorem lw_r2 : ∀ q ∈ lw_privs_2, lw_okq q := List.forall_mem_cons.mpr ⟨lw_p16, List.forall_mem_cons.mpr ⟨lw_p17, List.forall_mem_cons.mpr ⟨lw_p18, List.forall_mem_cons.mpr ⟨lw_p19, List.forall_mem_cons.mpr ⟨lw_p20, List.forall_mem_cons.mpr ⟨lw_p21, List.forall_mem_cons.mpr ⟨lw_p22, List.forall_mem_cons.mpr ⟨lw_p23, List.forall_mem_cons.mpr ⟨lw_p24, List.forall_mem_cons.mpr ⟨lw_p25, List.forall_mem_cons.mpr ⟨lw_p26, List.forall_mem_cons.mpr ⟨lw_p27, List.forall_mem_cons.mpr ⟨lw_p28, List.forall_mem_cons.mpr ⟨lw_p29, List.forall_mem_cons.mpr ⟨lw_p30, List.forall_mem_cons.mpr ⟨lw_p31, fun _ h => absurd h List.not_mem_nil⟩⟩⟩⟩⟩⟩⟩⟩⟩⟩⟩⟩⟩⟩⟩⟩
theorem lw_p32 : lw_okq (⟨"FieldAfterField$Router", "make", "(I)Z"⟩, 7) := ⟨⟨by decide +kernel, by decide +kernel⟩, List.mem_of_getElem? (i := 204) (by decide +kernel), List.mem_of_getElem? (i := 514) (by decide +kernel), List.mem_of_getElem? (i := 515) (by decide +kernel)⟩
theorem lw_p33 : lw_okq (⟨"FieldAfterField$Router", "send", "(III)V"⟩, 7) := ⟨⟨by decide +kernel, by decide +kernel⟩, List.mem_of_getElem? (i := 204) (by decide +kernel), List.mem_of_getElem? (i := 519) (by decide +kernel), List.mem_of_getElem? (i := 520) (by decide +kernel)⟩
theorem lw_p34 : lw_okq (⟨"FieldAfterField$Router", "stepTo", "(II)I"⟩, 7) := ⟨⟨by decide +kernel, by decide +kernel⟩, List.mem_of_getElem? (i := 204) (by decide +kernel), List.mem_of_getElem? (i := 526) (by decide +kernel), List.mem_of_getElem? (i := 527) (by decide +kernel)⟩
theorem lw_p35 : lw_okq (⟨"FieldAfterFieldModel", "isMark", "(I)Z"⟩, 23) := ⟨⟨by decide +kernel, by decide +kernel⟩, List.mem_of_getElem? (i := 538) (by decide +kernel), List.mem_of_getElem? (i := 631) (by decide +kernel), List.mem_of_getElem? (i := 632) (by decide +kernel)⟩
theorem lw_p36 : lw_okq (⟨"FieldAfterFieldModel", "counting", "()I"⟩, 23) := ⟨⟨by decide +kernel, by decide +kernel⟩, List.mem_of_getElem? (i := 538) (by decide +kernel), List.mem_of_getElem? (i := 651) (by decide +kernel), List.mem_of_getElem? (i := 652) (by decide +kernel)⟩
theorem lw_p37 : lw_okq (⟨"FieldAfterFieldModel", "counts", "(I)Z"⟩, 23) := ⟨⟨by decide +kernel, by decide +kernel⟩, List.mem_of_getElem? (i := 538) (by decide +kernel), List.mem_of_getElem? (i := 655) (by decide +kernel), List.mem_of_getElem? (i := 656) (by decide +kernel)⟩
theorem lw_p38 : lw_okq (⟨"FieldAfterFieldModel", "fieldsOf", "(I)I"⟩, 23) := ⟨⟨by decide +kernel, by decide +kernel⟩, List.mem_of_getElem? (i := 538) (by decide +kernel), List.mem_of_getElem? (i := 662) (by decide +kernel), List.mem_of_getElem? (i := 663) (by decide +kernel)⟩
theorem lw_p39 : lw_okq (⟨"FieldAfterFieldModel", "lay", "(II)V"⟩, 23) := ⟨⟨by decide +kernel, by decide +kernel⟩, List.mem_of_getElem? (i := 538) (by decide +kernel), List.mem_of_getElem? (i := 675) (by decide +kernel), List.mem_of_getElem? (i := 676) (by decide +kernel)⟩
theorem lw_p40 : lw_okq (⟨"FieldAfterFieldModel", "term", "(III)J"⟩, 23) := ⟨⟨by decide +kernel, by decide +kernel⟩, List.mem_of_getElem? (i := 538) (by decide +kernel), List.mem_of_getElem? (i := 682) (by decide +kernel), List.mem_of_getElem? (i := 683) (by decide +kernel)⟩
theorem lw_p41 : lw_okq (⟨"FieldAfterFieldModel", "minor", "(II)J"⟩, 23) := ⟨⟨by decide +kernel, by decide +kernel⟩, List.mem_of_getElem? (i := 538) (by decide +kernel), List.mem_of_getElem? (i := 686) (by decide +kernel), List.mem_of_getElem? (i := 687) (by decide +kernel)⟩
theorem lw_p42 : lw_okq (⟨"FieldAfterFieldModel", "findFit", "(III)V"⟩, 23) := ⟨⟨by decide +kernel, by decide +kernel⟩, List.mem_of_getElem? (i := 538) (by decide +kernel), List.mem_of_getElem? (i := 694) (by decide +kernel), List.mem_of_getElem? (i := 695) (by decide +kernel)⟩
theorem lw_p43 : lw_okq (⟨"FieldAfterFieldModel", "restOf", "(III)J"⟩, 23) := ⟨⟨by decide +kernel, by decide +kernel⟩, List.mem_of_getElem? (i := 538) (by decide +kernel), List.mem_of_getElem? (i := 710) (by decide +kernel), List.mem_of_getElem? (i := 711) (by decide +kernel)⟩
theorem lw_p44 : lw_okq (⟨"FieldAfterFieldModel", "findWorst", "(II)V"⟩, 23) := ⟨⟨by decide +kernel, by decide +kernel⟩, List.mem_of_getElem? (i := 538) (by decide +kernel), List.mem_of_getElem? (i := 723) (by decide +kernel), List.mem_of_getElem? (i := 724) (by decide +kernel)⟩
theorem lw_p45 : lw_okq (⟨"FieldAfterFieldModel", "worstOf", "(I)J"⟩, 23) := ⟨⟨by decide +kernel, by decide +kernel⟩, List.mem_of_getElem? (i := 538) (by decide +kernel), List.mem_of_getElem? (i := 733) (by decide +kernel), List.mem_of_getElem? (i := 734) (by decide +kernel)⟩
theorem lw_p46 : lw_okq (⟨"FieldAfterFieldModel", "stateOf", "(II)I"⟩, 23) := ⟨⟨by decide +kernel, by decide +kernel⟩, List.mem_of_getElem? (i := 538) (by decide +kernel), List.mem_of_getElem? (i := 766) (by decide +kernel), List.mem_of_getElem? (i := 767) (by decide +kernel)⟩
theorem lw_p47 : lw_okq (⟨"FieldAfterFieldModel", "layRoute", "(II)V"⟩, 23) := ⟨⟨by decide +kernel, by decide +kernel⟩, List.mem_of_getElem? (i := 538) (by decide +kernel), List.mem_of_getElem? (i := 787) (by decide +kernel), List.mem_of_getElem? (i := 788) (by decide +kernel)⟩
def lw_privs_3 : List (MethodName × Nat) := [(⟨"FieldAfterField$Router", "make", "(I)Z"⟩, 7), (⟨"FieldAfterField$Router", "send", "(III)V"⟩, 7), (⟨"FieldAfterField$Router", "stepTo", "(II)I"⟩, 7), (⟨"FieldAfterFieldModel", "isMark", "(I)Z"⟩, 23), (⟨"FieldAfterFieldModel", "counting", "()I"⟩, 23), (⟨"FieldAfterFieldModel", "counts", "(I)Z"⟩, 23), (⟨"FieldAfterFieldModel", "fieldsOf", "(I)I"⟩, 23), (⟨"FieldAfterFieldModel", "lay", "(II)V"⟩, 23), (⟨"FieldAfterFieldModel", "term", "(III)J"⟩, 23), (⟨"FieldAfterFieldModel", "minor", "(II)J"⟩, 23), (⟨"FieldAfterFieldModel", "findFit", "(III)V"⟩, 23), (⟨"FieldAfterFieldModel", "restOf", "(III)J"⟩, 23), (⟨"FieldAfterFieldModel", "findWorst", "(II)V"⟩, 23), (⟨"FieldAfterFieldModel", "worstOf", "(I)J"⟩, 23), (⟨"FieldAfterFieldModel", "stateOf", "(II)I"⟩, 23), (⟨"FieldAfterFieldModel", "layRoute", "(II)V"⟩, 23)]
theorem lw_r3 : ∀ q ∈ lw_privs_3, lw_okq q := List.forall_mem_cons.mpr ⟨lw_p32, List.forall_mem_cons.mpr ⟨lw_p33, List.forall_mem_cons.mpr ⟨lw_p34, List.forall_mem_cons.mpr ⟨lw_p35, List.forall_mem_cons.mpr ⟨lw_p36, List.forall_mem_cons.mpr ⟨lw_p37, List.forall_mem_cons.mpr ⟨lw_p38, List.forall_mem_cons.mpr ⟨lw_p39, List.forall_mem_cons.mpr ⟨lw_p40, List.forall_mem_cons.mpr ⟨lw_p41, List.forall_mem_cons.mpr ⟨lw_p42, List.forall_mem_cons.mpr ⟨lw_p43, List.forall_mem_cons.mpr ⟨lw_p44, List.forall_mem_cons.mpr ⟨lw_p45, List.forall_mem_cons.mpr ⟨lw_p46, List.forall_mem_cons.mpr ⟨lw_p47, fun _ h => absurd h List.not_mem_nil⟩⟩⟩⟩⟩⟩⟩⟩⟩⟩⟩⟩⟩⟩⟩⟩
theorem lw_p48 : lw_okq (⟨"FieldAfterFieldModel", "sumOf", "(I)I"⟩, 23) := ⟨⟨by decide +kernel, by decide +kernel⟩, List.mem_of_getElem? (i := 538) (by decide +kernel), List.mem_of_getElem? (i := 791) (by decide +kernel), List.mem_of_getElem? (i := 792) (by decide +kernel)⟩
def lw_privs_4 : List (MethodName × Nat) := [(⟨"FieldAfterFieldModel", "sumOf", "(I)I"⟩, 23)]
theorem lw_r4 : ∀ q ∈ lw_privs_4, lw_okq q := List.forall_mem_cons.mpr ⟨lw_p48, fun _ h => absurd h List.not_mem_nil⟩
def lw_privs : List (MethodName × Nat) := lw_privs_1 ++ (lw_privs_2 ++ (lw_privs_3 ++ (lw_privs_4)))
def lw_tbl : List Cond := k2_sels lw_privs ++ tables_1
theorem lw_privs_ok : ∀ q ∈ lw_privs, lw_okq q := by
  show ∀ q ∈ lw_privs_1 ++ (lw_privs_2 ++ (lw_privs_3 ++ (lw_privs_4))), lw_okq q
  exact List.forall_mem_append.mpr ⟨lw_r1, List.forall_mem_append.mpr ⟨lw_r2, List.forall_mem_append.mpr ⟨lw_r3, lw_r4⟩⟩⟩
end
section
def RX0 : String := "FieldAfterField$Book"
def TX0 : u_T := fun k => match k with
  | 0 => ("FieldAfterField$Book", "tools", "[I", true)
  | 1 => ("FieldAfterField$Book", "shifts", "[I", true)
  | 2 => ("FieldAfterField$Book", "reads", "[I", true)
  | 3 => ("FieldAfterField$Book", "isRead", "[Z", true)
  | 4 => ("FieldAfterField$Book", "mended", "[[I", true)
  | 5 => ("FieldAfterField$Book", "many", "I", false)
  | _ => ("FieldAfterField$Book", "gain", "I", false)
def tyX0 : Nat → FieldType := fun k => match k with
  | 0 => .array .int
  | 1 => .array .int
  | 2 => .array .int
  | 3 => .array .boolean
  | 4 => .array (.array .int)
  | 5 => .int
  | _ => .int
abbrev wsX00 : List Cond := u_ws RX0 TX0 7
theorem nmX0 : ∀ a, a < 7 → ∀ b, b < 7 → a ≠ b → (TX0 a).2.1 ≠ (TX0 b).2.1 := by decide +kernel
theorem tyX0_ok : ∀ k, k < 7 → parseFieldDescriptor (TX0 k).2.2.1 = some (tyX0 k) := by decide +kernel
abbrev cX0_init : ByteArray := prog_2_method_1_code
def yX0_init : MethodName := ⟨RX0, "<init>", "()V"⟩
abbrev cX0_has : ByteArray := prog_2_method_2_code
def yX0_has : MethodName := ⟨RX0, "has", "(I)Z"⟩
abbrev cX0_add : ByteArray := prog_2_method_3_code
def yX0_add : MethodName := ⟨RX0, "add", "(II)I"⟩
abbrev cX0_setRead : ByteArray := prog_2_method_4_code
def yX0_setRead : MethodName := ⟨RX0, "setRead", "(II)V"⟩
abbrev cX0_setMended : ByteArray := prog_2_method_5_code
def yX0_setMended : MethodName := ⟨RX0, "setMended", "(I)V"⟩
abbrev cX0_howManyRead : ByteArray := prog_2_method_6_code
def yX0_howManyRead : MethodName := ⟨RX0, "howManyRead", "()I"⟩
abbrev cX0_stateAhead : ByteArray := prog_2_method_7_code
def yX0_stateAhead : MethodName := ⟨RX0, "stateAhead", "(II)I"⟩
def RX1 : String := "FieldAfterField$Fit"
def TX1 : u_T := fun k => match k with
  | 0 => ("FieldAfterField$Fit", "table", "LFieldAfterField$Table;", true)
  | 1 => ("FieldAfterField$Fit", "sums", "[[J", true)
  | 2 => ("FieldAfterField$Fit", "factors", "[[J", true)
  | _ => ("FieldAfterField$Fit", "model", "I", false)
def tyX1 : Nat → FieldType := fun k => match k with
  | 0 => .object "FieldAfterField$Table"
  | 1 => .array (.array .long)
  | 2 => .array (.array .long)
  | _ => .int
abbrev wsX10 : List Cond := u_ws RX1 TX1 4
theorem nmX1 : ∀ a, a < 4 → ∀ b, b < 4 → a ≠ b → (TX1 a).2.1 ≠ (TX1 b).2.1 := by decide +kernel
theorem tyX1_ok : ∀ k, k < 4 → parseFieldDescriptor (TX1 k).2.2.1 = some (tyX1 k) := by decide +kernel
abbrev cX1_init : ByteArray := prog_3_method_1_code
def yX1_init : MethodName := ⟨RX1, "<init>", "()V"⟩
abbrev cX1_make : ByteArray := prog_3_method_2_code
def yX1_make : MethodName := ⟨RX1, "make", "(LFieldAfterField$Marks;II)Z"⟩
abbrev cX1_makeSums : ByteArray := prog_3_method_3_code
def yX1_makeSums : MethodName := ⟨RX1, "makeSums", "(LFieldAfterField$Marks;II)V"⟩
abbrev cX1_makeFactors : ByteArray := prog_3_method_4_code
def yX1_makeFactors : MethodName := ⟨RX1, "makeFactors", "(I)V"⟩
abbrev cX1_restOf : ByteArray := prog_3_method_5_code
def yX1_restOf : MethodName := ⟨RX1, "restOf", "(LFieldAfterField$Marks;II)J"⟩
abbrev cX1_greaterRestOf : ByteArray := prog_3_method_6_code
def yX1_greaterRestOf : MethodName := ⟨RX1, "greaterRestOf", "(LFieldAfterField$Marks;I)J"⟩
abbrev cX1_sumOfSquares : ByteArray := prog_3_method_7_code
def yX1_sumOfSquares : MethodName := ⟨RX1, "sumOfSquares", "(I)J"⟩
abbrev cX1_above : ByteArray := prog_3_method_8_code
def yX1_above : MethodName := ⟨RX1, "above", "(LFieldAfterField$Marks;II)I"⟩
abbrev cX1_liars : ByteArray := prog_3_method_9_code
def yX1_liars : MethodName := ⟨RX1, "liars", "(LFieldAfterField$Marks;II)I"⟩
abbrev cX1_worstOf : ByteArray := prog_3_method_10_code
def yX1_worstOf : MethodName := ⟨RX1, "worstOf", "(LFieldAfterField$Marks;I)I"⟩
def RX2 : String := "FieldAfterField$Marks"
def TX2 : u_T := fun k => match k with
  | 0 => ("FieldAfterField$Marks", "f", "[I", true)
  | 1 => ("FieldAfterField$Marks", "g", "[I", true)
  | 2 => ("FieldAfterField$Marks", "i", "[I", true)
  | 3 => ("FieldAfterField$Marks", "j", "[I", true)
  | 4 => ("FieldAfterField$Marks", "reads", "[[I", true)
  | 5 => ("FieldAfterField$Marks", "many", "I", false)
  | 6 => ("FieldAfterField$Marks", "lost", "I", false)
  | _ => ("FieldAfterField$Marks", "out", "I", false)
def tyX2 : Nat → FieldType := fun k => match k with
  | 0 => .array .int
  | 1 => .array .int
  | 2 => .array .int
  | 3 => .array .int
  | 4 => .array (.array .int)
  | 5 => .int
  | 6 => .int
  | _ => .int
abbrev wsX20 : List Cond := u_ws RX2 TX2 8
theorem nmX2 : ∀ a, a < 8 → ∀ b, b < 8 → a ≠ b → (TX2 a).2.1 ≠ (TX2 b).2.1 := by decide +kernel
theorem tyX2_ok : ∀ k, k < 8 → parseFieldDescriptor (TX2 k).2.2.1 = some (tyX2 k) := by decide +kernel
abbrev cX2_init : ByteArray := prog_4_method_1_code
def yX2_init : MethodName := ⟨RX2, "<init>", "()V"⟩
abbrev cX2_has : ByteArray := prog_4_method_2_code
def yX2_has : MethodName := ⟨RX2, "has", "(I)Z"⟩
abbrev cX2_add : ByteArray := prog_4_method_3_code
def yX2_add : MethodName := ⟨RX2, "add", "(IIII)I"⟩
abbrev cX2_setReads : ByteArray := prog_4_method_4_code
def yX2_setReads : MethodName := ⟨RX2, "setReads", "(III)V"⟩
abbrev cX2_forget : ByteArray := prog_4_method_5_code
def yX2_forget : MethodName := ⟨RX2, "forget", "(I)V"⟩
abbrev cX2_notLost : ByteArray := prog_4_method_6_code
def yX2_notLost : MethodName := ⟨RX2, "notLost", "()I"⟩
abbrev cX2_counting : ByteArray := prog_4_method_7_code
def yX2_counting : MethodName := ⟨RX2, "counting", "()I"⟩
abbrev cX2_secondTerm : ByteArray := prog_4_method_8_code
def yX2_secondTerm : MethodName := ⟨RX2, "secondTerm", "(II)I"⟩
abbrev cX2_thirdTerm : ByteArray := prog_4_method_9_code
def yX2_thirdTerm : MethodName := ⟨RX2, "thirdTerm", "(II)I"⟩
abbrev cX2_fieldsOf : ByteArray := prog_4_method_10_code
def yX2_fieldsOf : MethodName := ⟨RX2, "fieldsOf", "(I)I"⟩
abbrev cX2_hasEarlierOfField : ByteArray := prog_4_method_11_code
def yX2_hasEarlierOfField : MethodName := ⟨RX2, "hasEarlierOfField", "(II)Z"⟩
def RX3 : String := "FieldAfterField$Planner"
def TX3 : u_T := fun k => match k with
  | 0 => ("FieldAfterField$Planner", "table", "LFieldAfterField$Table;", true)
  | 1 => ("FieldAfterField$Planner", "model", "I", false)
  | 2 => ("FieldAfterField$Planner", "best", "I", false)
  | 3 => ("FieldAfterField$Planner", "bestUpper", "J", false)
  | _ => ("FieldAfterField$Planner", "bestLower", "J", false)
def tyX3 : Nat → FieldType := fun k => match k with
  | 0 => .object "FieldAfterField$Table"
  | 1 => .int
  | 2 => .int
  | 3 => .long
  | _ => .long
abbrev wsX30 : List Cond := u_ws RX3 TX3 5
theorem nmX3 : ∀ a, a < 5 → ∀ b, b < 5 → a ≠ b → (TX3 a).2.1 ≠ (TX3 b).2.1 := by decide +kernel
theorem tyX3_ok : ∀ k, k < 5 → parseFieldDescriptor (TX3 k).2.2.1 = some (tyX3 k) := by decide +kernel
abbrev cX3_init : ByteArray := prog_5_method_1_code
def yX3_init : MethodName := ⟨RX3, "<init>", "()V"⟩
abbrev cX3_make : ByteArray := prog_5_method_2_code
def yX3_make : MethodName := ⟨RX3, "make", "(LFieldAfterField$Marks;II)Z"⟩
abbrev cX3_choose : ByteArray := prog_5_method_3_code
def yX3_choose : MethodName := ⟨RX3, "choose", "(LFieldAfterField$Marks;III)V"⟩
abbrev cX3_weigh : ByteArray := prog_5_method_4_code
def yX3_weigh : MethodName := ⟨RX3, "weigh", "(LFieldAfterField$Marks;I)V"⟩
def RX4 : String := "FieldAfterField$Router"
def TX4 : u_T := fun k => match k with
  | 0 => ("FieldAfterField$Router", "offsets", "[[I", true)
  | 1 => ("FieldAfterField$Router", "tools", "[I", true)
  | 2 => ("FieldAfterField$Router", "best", "[I", true)
  | 3 => ("FieldAfterField$Router", "used", "[I", true)
  | 4 => ("FieldAfterField$Router", "budget", "I", false)
  | 5 => ("FieldAfterField$Router", "cap", "I", false)
  | _ => ("FieldAfterField$Router", "bestSum", "I", false)
def tyX4 : Nat → FieldType := fun k => match k with
  | 0 => .array (.array .int)
  | 1 => .array .int
  | 2 => .array .int
  | 3 => .array .int
  | 4 => .int
  | 5 => .int
  | _ => .int
abbrev wsX40 : List Cond := u_ws RX4 TX4 7
theorem nmX4 : ∀ a, a < 7 → ∀ b, b < 7 → a ≠ b → (TX4 a).2.1 ≠ (TX4 b).2.1 := by decide +kernel
theorem tyX4_ok : ∀ k, k < 7 → parseFieldDescriptor (TX4 k).2.2.1 = some (tyX4 k) := by decide +kernel
abbrev cX4_init : ByteArray := prog_6_method_1_code
def yX4_init : MethodName := ⟨RX4, "<init>", "()V"⟩
abbrev cX4_make : ByteArray := prog_6_method_2_code
def yX4_make : MethodName := ⟨RX4, "make", "(I)Z"⟩
abbrev cX4_send : ByteArray := prog_6_method_3_code
def yX4_send : MethodName := ⟨RX4, "send", "(III)V"⟩
abbrev cX4_stepTo : ByteArray := prog_6_method_4_code
def yX4_stepTo : MethodName := ⟨RX4, "stepTo", "(II)I"⟩
def RX5 : String := "FieldAfterField$Table"
def TX5 : u_T := fun k => match k with
  | 0 => ("FieldAfterField$Table", "s00", "J", false)
  | 1 => ("FieldAfterField$Table", "s01", "J", false)
  | 2 => ("FieldAfterField$Table", "s02", "J", false)
  | 3 => ("FieldAfterField$Table", "s11", "J", false)
  | 4 => ("FieldAfterField$Table", "s12", "J", false)
  | 5 => ("FieldAfterField$Table", "s22", "J", false)
  | 6 => ("FieldAfterField$Table", "v00", "J", false)
  | 7 => ("FieldAfterField$Table", "v01", "J", false)
  | 8 => ("FieldAfterField$Table", "v02", "J", false)
  | 9 => ("FieldAfterField$Table", "v11", "J", false)
  | 10 => ("FieldAfterField$Table", "v12", "J", false)
  | 11 => ("FieldAfterField$Table", "v22", "J", false)
  | _ => ("FieldAfterField$Table", "det", "J", false)
def tyX5 : Nat → FieldType := fun k => match k with
  | 0 => .long
  | 1 => .long
  | 2 => .long
  | 3 => .long
  | 4 => .long
  | 5 => .long
  | 6 => .long
  | 7 => .long
  | 8 => .long
  | 9 => .long
  | 10 => .long
  | 11 => .long
  | _ => .long
abbrev wsX50 : List Cond := u_ws RX5 TX5 13
theorem nmX5 : ∀ a, a < 13 → ∀ b, b < 13 → a ≠ b → (TX5 a).2.1 ≠ (TX5 b).2.1 := by decide +kernel
theorem tyX5_ok : ∀ k, k < 13 → parseFieldDescriptor (TX5 k).2.2.1 = some (tyX5 k) := by decide +kernel
abbrev cX5_init : ByteArray := prog_7_method_1_code
def yX5_init : MethodName := ⟨RX5, "<init>", "()V"⟩
abbrev cX5_clear : ByteArray := prog_7_method_2_code
def yX5_clear : MethodName := ⟨RX5, "clear", "(I)V"⟩
abbrev cX5_add : ByteArray := prog_7_method_3_code
def yX5_add : MethodName := ⟨RX5, "add", "(JJI)V"⟩
abbrev cX5_turnBack : ByteArray := prog_7_method_4_code
def yX5_turnBack : MethodName := ⟨RX5, "turnBack", "()V"⟩
abbrev cX5_formOf : ByteArray := prog_7_method_5_code
def yX5_formOf : MethodName := ⟨RX5, "formOf", "(JJ)J"⟩
def RX6 : String := "FieldAfterField"
def TX6 : u_T := fun k => match k with
  | 0 => ("FieldAfterField", "marks", "LFieldAfterField$Marks;", true)
  | 1 => ("FieldAfterField", "fitted", "LFieldAfterField$Fit;", true)
  | 2 => ("FieldAfterField", "planner", "LFieldAfterField$Planner;", true)
  | 3 => ("FieldAfterField", "book", "LFieldAfterField$Book;", true)
  | _ => ("FieldAfterField", "router", "LFieldAfterField$Router;", true)
def tyX6 : Nat → FieldType := fun k => match k with
  | 0 => .object "FieldAfterField$Marks"
  | 1 => .object "FieldAfterField$Fit"
  | 2 => .object "FieldAfterField$Planner"
  | 3 => .object "FieldAfterField$Book"
  | _ => .object "FieldAfterField$Router"
abbrev wsX60 : List Cond := u_ws RX6 TX6 5
theorem nmX6 : ∀ a, a < 5 → ∀ b, b < 5 → a ≠ b → (TX6 a).2.1 ≠ (TX6 b).2.1 := by decide +kernel
theorem tyX6_ok : ∀ k, k < 5 → parseFieldDescriptor (TX6 k).2.2.1 = some (tyX6 k) := by decide +kernel
abbrev cX6_init : ByteArray := prog_1_method_1_code
def yX6_init : MethodName := ⟨RX6, "<init>", "()V"⟩
abbrev cX6_mark : ByteArray := prog_1_method_2_code
def yX6_mark : MethodName := ⟨RX6, "mark", "(IIII)I"⟩
abbrev cX6_read : ByteArray := prog_1_method_3_code
def yX6_read : MethodName := ⟨RX6, "read", "(III)I"⟩
abbrev cX6_lose : ByteArray := prog_1_method_4_code
def yX6_lose : MethodName := ⟨RX6, "lose", "(I)I"⟩
abbrev cX6_told : ByteArray := prog_1_method_5_code
def yX6_told : MethodName := ⟨RX6, "told", "(II)I"⟩
abbrev cX6_count : ByteArray := prog_1_method_6_code
def yX6_count : MethodName := ⟨RX6, "count", "(I)I"⟩
abbrev cX6_det : ByteArray := prog_1_method_7_code
def yX6_det : MethodName := ⟨RX6, "det", "(I)J"⟩
abbrev cX6_fit : ByteArray := prog_1_method_8_code
def yX6_fit : MethodName := ⟨RX6, "fit", "(IIII)J"⟩
abbrev cX6_rest : ByteArray := prog_1_method_9_code
def yX6_rest : MethodName := ⟨RX6, "rest", "(IIII)J"⟩
abbrev cX6_spread : ByteArray := prog_1_method_10_code
def yX6_spread : MethodName := ⟨RX6, "spread", "(III)J"⟩
abbrev cX6_judge : ByteArray := prog_1_method_11_code
def yX6_judge : MethodName := ⟨RX6, "judge", "(II)I"⟩
abbrev cX6_plan : ByteArray := prog_1_method_12_code
def yX6_plan : MethodName := ⟨RX6, "plan", "(III)J"⟩
abbrev cX6_lot : ByteArray := prog_1_method_13_code
def yX6_lot : MethodName := ⟨RX6, "lot", "(II)I"⟩
abbrev cX6_back : ByteArray := prog_1_method_14_code
def yX6_back : MethodName := ⟨RX6, "back", "(II)I"⟩
abbrev cX6_mend : ByteArray := prog_1_method_15_code
def yX6_mend : MethodName := ⟨RX6, "mend", "(I)I"⟩
abbrev cX6_gain : ByteArray := prog_1_method_16_code
def yX6_gain : MethodName := ⟨RX6, "gain", "(I)I"⟩
abbrev cX6_state : ByteArray := prog_1_method_17_code
def yX6_state : MethodName := ⟨RX6, "state", "(II)I"⟩
abbrev cX6_advice : ByteArray := prog_1_method_18_code
def yX6_advice : MethodName := ⟨RX6, "advice", "(I)I"⟩
abbrev cX6_offset : ByteArray := prog_1_method_19_code
def yX6_offset : MethodName := ⟨RX6, "offset", "(III)I"⟩
abbrev cX6_rule : ByteArray := prog_1_method_20_code
def yX6_rule : MethodName := ⟨RX6, "rule", "(II)I"⟩
abbrev cX6_route : ByteArray := prog_1_method_21_code
def yX6_route : MethodName := ⟨RX6, "route", "(II)I"⟩
abbrev cX6_bad : ByteArray := prog_1_method_22_code
def yX6_bad : MethodName := ⟨RX6, "bad", "(III)I"⟩
abbrev cX6_outside : ByteArray := prog_1_method_23_code
def yX6_outside : MethodName := ⟨RX6, "outside", "(III)Z"⟩
abbrev cX6_outsideFit : ByteArray := prog_1_method_24_code
def yX6_outsideFit : MethodName := ⟨RX6, "outsideFit", "(III)Z"⟩
abbrev cX6_lastTerm : ByteArray := prog_1_method_25_code
def yX6_lastTerm : MethodName := ⟨RX6, "lastTerm", "(I)I"⟩
abbrev cX6_isIn : ByteArray := prog_1_method_26_code
def yX6_isIn : MethodName := ⟨RX6, "isIn", "(II)Z"⟩
abbrev cX6_partOf : ByteArray := prog_1_method_27_code
def yX6_partOf : MethodName := ⟨RX6, "partOf", "(JJI)J"⟩
abbrev cX6_commonDivisor : ByteArray := prog_1_method_28_code
def yX6_commonDivisor : MethodName := ⟨RX6, "commonDivisor", "(JJ)J"⟩
def RX7 : String := "FieldAfterFieldModel"
def TX7 : u_T := fun k => match k with
  | 0 => ("FieldAfterFieldModel", "marks", "I", false)
  | 1 => ("FieldAfterFieldModel", "places", "[I", true)
  | 2 => ("FieldAfterFieldModel", "reads", "[I", true)
  | 3 => ("FieldAfterFieldModel", "isLost", "[Z", true)
  | 4 => ("FieldAfterFieldModel", "isOut", "[Z", true)
  | 5 => ("FieldAfterFieldModel", "lots", "I", false)
  | 6 => ("FieldAfterFieldModel", "lotTool", "[I", true)
  | 7 => ("FieldAfterFieldModel", "lotShift", "[I", true)
  | 8 => ("FieldAfterFieldModel", "lotRead", "[I", true)
  | 9 => ("FieldAfterFieldModel", "hasRead", "[Z", true)
  | 10 => ("FieldAfterFieldModel", "mended", "[Z", true)
  | 11 => ("FieldAfterFieldModel", "gain", "I", false)
  | 12 => ("FieldAfterFieldModel", "offsets", "[I", true)
  | 13 => ("FieldAfterFieldModel", "budget", "I", false)
  | 14 => ("FieldAfterFieldModel", "cap", "I", false)
  | 15 => ("FieldAfterFieldModel", "sums", "[J", true)
  | 16 => ("FieldAfterFieldModel", "turned", "[J", true)
  | 17 => ("FieldAfterFieldModel", "det", "J", false)
  | 18 => ("FieldAfterFieldModel", "sides", "[J", true)
  | 19 => ("FieldAfterFieldModel", "factors", "[J", true)
  | 20 => ("FieldAfterFieldModel", "worst", "[J", true)
  | 21 => ("FieldAfterFieldModel", "tools", "[I", true)
  | _ => ("FieldAfterFieldModel", "loads", "[I", true)
def tyX7 : Nat → FieldType := fun k => match k with
  | 0 => .int
  | 1 => .array .int
  | 2 => .array .int
  | 3 => .array .boolean
  | 4 => .array .boolean
  | 5 => .int
  | 6 => .array .int
  | 7 => .array .int
  | 8 => .array .int
  | 9 => .array .boolean
  | 10 => .array .boolean
  | 11 => .int
  | 12 => .array .int
  | 13 => .int
  | 14 => .int
  | 15 => .array .long
  | 16 => .array .long
  | 17 => .long
  | 18 => .array .long
  | 19 => .array .long
  | 20 => .array .long
  | 21 => .array .int
  | _ => .array .int
abbrev wsX70 : List Cond := u_ws RX7 TX7 23
theorem nmX7 : ∀ a, a < 23 → ∀ b, b < 23 → a ≠ b → (TX7 a).2.1 ≠ (TX7 b).2.1 := by decide +kernel
theorem tyX7_ok : ∀ k, k < 23 → parseFieldDescriptor (TX7 k).2.2.1 = some (tyX7 k) := by decide +kernel
abbrev cX7_init : ByteArray := prog_9_method_1_code
def yX7_init : MethodName := ⟨RX7, "<init>", "()V"⟩
abbrev cX7_in : ByteArray := prog_9_method_3_code
def yX7_in : MethodName := ⟨RX7, "in", "(JJJ)Z"⟩
abbrev cX7_mark : ByteArray := prog_9_method_4_code
def yX7_mark : MethodName := ⟨RX7, "mark", "(IIII)I"⟩
abbrev cX7_isMark : ByteArray := prog_9_method_5_code
def yX7_isMark : MethodName := ⟨RX7, "isMark", "(I)Z"⟩
abbrev cX7_read : ByteArray := prog_9_method_6_code
def yX7_read : MethodName := ⟨RX7, "read", "(III)I"⟩
abbrev cX7_lose : ByteArray := prog_9_method_7_code
def yX7_lose : MethodName := ⟨RX7, "lose", "(I)I"⟩
abbrev cX7_told : ByteArray := prog_9_method_8_code
def yX7_told : MethodName := ⟨RX7, "told", "(II)I"⟩
abbrev cX7_counts : ByteArray := prog_9_method_9_code
def yX7_counts : MethodName := ⟨RX7, "counts", "(I)Z"⟩
abbrev cX7_counting : ByteArray := prog_9_method_10_code
def yX7_counting : MethodName := ⟨RX7, "counting", "()I"⟩
abbrev cX7_bits : ByteArray := prog_9_method_11_code
def yX7_bits : MethodName := ⟨RX7, "bits", "(I)I"⟩
abbrev cX7_fieldsOf : ByteArray := prog_9_method_12_code
def yX7_fieldsOf : MethodName := ⟨RX7, "fieldsOf", "(I)I"⟩
abbrev cX7_count : ByteArray := prog_9_method_13_code
def yX7_count : MethodName := ⟨RX7, "count", "(I)I"⟩
abbrev cX7_isModel : ByteArray := prog_9_method_14_code
def yX7_isModel : MethodName := ⟨RX7, "isModel", "(I)Z"⟩
abbrev cX7_termsOf : ByteArray := prog_9_method_15_code
def yX7_termsOf : MethodName := ⟨RX7, "termsOf", "(I)I"⟩
abbrev cX7_term : ByteArray := prog_9_method_16_code
def yX7_term : MethodName := ⟨RX7, "term", "(III)J"⟩
abbrev cX7_minor : ByteArray := prog_9_method_17_code
def yX7_minor : MethodName := ⟨RX7, "minor", "(II)J"⟩
abbrev cX7_lay : ByteArray := prog_9_method_18_code
def yX7_lay : MethodName := ⟨RX7, "lay", "(II)V"⟩
abbrev cX7_det : ByteArray := prog_9_method_19_code
def yX7_det : MethodName := ⟨RX7, "det", "(I)J"⟩
abbrev cX7_findFit : ByteArray := prog_9_method_20_code
def yX7_findFit : MethodName := ⟨RX7, "findFit", "(III)V"⟩
abbrev cX7_restOf : ByteArray := prog_9_method_21_code
def yX7_restOf : MethodName := ⟨RX7, "restOf", "(III)J"⟩
abbrev cX7_size : ByteArray := prog_9_method_22_code
def yX7_size : MethodName := ⟨RX7, "size", "(J)J"⟩
abbrev cX7_share : ByteArray := prog_9_method_23_code
def yX7_share : MethodName := ⟨RX7, "share", "(JJI)J"⟩
abbrev cX7_fit : ByteArray := prog_9_method_24_code
def yX7_fit : MethodName := ⟨RX7, "fit", "(IIII)J"⟩
abbrev cX7_rest : ByteArray := prog_9_method_25_code
def yX7_rest : MethodName := ⟨RX7, "rest", "(IIII)J"⟩
abbrev cX7_spread : ByteArray := prog_9_method_26_code
def yX7_spread : MethodName := ⟨RX7, "spread", "(III)J"⟩
abbrev cX7_findWorst : ByteArray := prog_9_method_27_code
def yX7_findWorst : MethodName := ⟨RX7, "findWorst", "(II)V"⟩
abbrev cX7_judge : ByteArray := prog_9_method_28_code
def yX7_judge : MethodName := ⟨RX7, "judge", "(II)I"⟩
abbrev cX7_worstOf : ByteArray := prog_9_method_29_code
def yX7_worstOf : MethodName := ⟨RX7, "worstOf", "(I)J"⟩
abbrev cX7_plan : ByteArray := prog_9_method_30_code
def yX7_plan : MethodName := ⟨RX7, "plan", "(III)J"⟩
abbrev cX7_isAhead : ByteArray := prog_9_method_31_code
def yX7_isAhead : MethodName := ⟨RX7, "isAhead", "(II)Z"⟩
abbrev cX7_isTool : ByteArray := prog_9_method_32_code
def yX7_isTool : MethodName := ⟨RX7, "isTool", "(I)Z"⟩
abbrev cX7_lot : ByteArray := prog_9_method_33_code
def yX7_lot : MethodName := ⟨RX7, "lot", "(II)I"⟩
abbrev cX7_back : ByteArray := prog_9_method_34_code
def yX7_back : MethodName := ⟨RX7, "back", "(II)I"⟩
abbrev cX7_mend : ByteArray := prog_9_method_35_code
def yX7_mend : MethodName := ⟨RX7, "mend", "(I)I"⟩
abbrev cX7_gain : ByteArray := prog_9_method_36_code
def yX7_gain : MethodName := ⟨RX7, "gain", "(I)I"⟩
abbrev cX7_stateOf : ByteArray := prog_9_method_37_code
def yX7_stateOf : MethodName := ⟨RX7, "stateOf", "(II)I"⟩
abbrev cX7_state : ByteArray := prog_9_method_38_code
def yX7_state : MethodName := ⟨RX7, "state", "(II)I"⟩
abbrev cX7_advice : ByteArray := prog_9_method_39_code
def yX7_advice : MethodName := ⟨RX7, "advice", "(I)I"⟩
abbrev cX7_offset : ByteArray := prog_9_method_40_code
def yX7_offset : MethodName := ⟨RX7, "offset", "(III)I"⟩
abbrev cX7_rule : ByteArray := prog_9_method_41_code
def yX7_rule : MethodName := ⟨RX7, "rule", "(II)I"⟩
abbrev cX7_sumOf : ByteArray := prog_9_method_42_code
def yX7_sumOf : MethodName := ⟨RX7, "sumOf", "(I)I"⟩
abbrev cX7_layRoute : ByteArray := prog_9_method_43_code
def yX7_layRoute : MethodName := ⟨RX7, "layRoute", "(II)V"⟩
abbrev cX7_route : ByteArray := prog_9_method_44_code
def yX7_route : MethodName := ⟨RX7, "route", "(II)I"⟩
abbrev cX7_bad : ByteArray := prog_9_method_45_code
def yX7_bad : MethodName := ⟨RX7, "bad", "(III)I"⟩
def RJ6 : String := "java/lang/Integer"
def TJ6 : u_T := fun k => match k with
  | _ => ("", "", "", false)
def tyJ6 : Nat → FieldType := fun k => match k with
  | _ => .int
abbrev wsJ60 : List Cond := u_ws RJ6 TJ6 0
theorem nmJ6 : ∀ a, a < 0 → ∀ b, b < 0 → a ≠ b → (TJ6 a).2.1 ≠ (TJ6 b).2.1 := by decide +kernel
theorem tyJ6_ok : ∀ k, k < 0 → parseFieldDescriptor (TJ6 k).2.2.1 = some (tyJ6 k) := by decide +kernel
abbrev cJ6_bitCount_0f7a4 : ByteArray := prog_10_method_49_code
def yJ6_bitCount_0f7a4 : MethodName := ⟨RJ6, "bitCount", "(I)I"⟩
def RJ9 : String := "java/lang/Math"
def TJ9 : u_T := fun k => match k with
  | _ => ("", "", "", false)
def tyJ9 : Nat → FieldType := fun k => match k with
  | _ => .int
abbrev wsJ90 : List Cond := u_ws RJ9 TJ9 0
theorem nmJ9 : ∀ a, a < 0 → ∀ b, b < 0 → a ≠ b → (TJ9 a).2.1 ≠ (TJ9 b).2.1 := by decide +kernel
theorem tyJ9_ok : ∀ k, k < 0 → parseFieldDescriptor (TJ9 k).2.2.1 = some (tyJ9 k) := by decide +kernel
abbrev cJ9_abs_0f7a4 : ByteArray := prog_11_method_59_code
def yJ9_abs_0f7a4 : MethodName := ⟨RJ9, "abs", "(I)I"⟩
abbrev cJ9_abs_067f4 : ByteArray := prog_11_method_61_code
def yJ9_abs_067f4 : MethodName := ⟨RJ9, "abs", "(J)J"⟩
abbrev cJ9_max_f86c9 : ByteArray := prog_11_method_66_code
def yJ9_max_f86c9 : MethodName := ⟨RJ9, "max", "(JJ)J"⟩
def RJ10 : String := "java/lang/System"
def TJ10 : u_T := fun k => match k with
  | _ => ("", "", "", false)
def tyJ10 : Nat → FieldType := fun k => match k with
  | _ => .int
abbrev wsJ100 : List Cond := u_ws RJ10 TJ10 0
theorem nmJ10 : ∀ a, a < 0 → ∀ b, b < 0 → a ≠ b → (TJ10 a).2.1 ≠ (TJ10 b).2.1 := by decide +kernel
theorem tyJ10_ok : ∀ k, k < 0 → parseFieldDescriptor (TJ10 k).2.2.1 = some (tyJ10 k) := by decide +kernel
def RL : String := "FieldAfterFieldLaw"
abbrev cL_law : ByteArray := code
def yL_law : MethodName := ⟨RL, "law", "([I)Z"⟩
abbrev vwCl : List vw_C := [(RX0, TX0, 7), (RX1, TX1, 4), (RX2, TX2, 8), (RX3, TX3, 5), (RX4, TX4, 7), (RX5, TX5, 13), (RX6, TX6, 5), (RX7, TX7, 23)]
/-- the good words of the tables: what every contract rests on -/
def WA : List Cond := lw_tbl.filter goodWord
theorem wa {w : Cond} (h : w ∈ tables_1) (g : goodWord w = true) : w ∈ WA := List.mem_filter.mpr ⟨List.mem_append_right _ h, g⟩
theorem was {w : Cond} (h : w ∈ k2_sels lw_privs) (g : goodWord w = true) : w ∈ WA := List.mem_filter.mpr ⟨List.mem_append_left _ h, g⟩
theorem WA_good : ∀ w ∈ WA, goodWord w = true := fun _ h => (List.mem_filter.mp h).2
theorem WA_in : ∀ w ∈ WA, w ∈ lw_tbl := fun _ h => (List.mem_filter.mp h).1
def nestW : Cond → Bool
  | .fieldLinkNest _ _ _ _ _ _ => true
  | .methodLinkNest _ _ _ _ => true
  | _ => false
/-- the words on nest mates -/
def nw (U : State) : Prop := ∀ w ∈ tables_1, nestW w = true → va_Nw w U
theorem nw.warm {s U : State} (hW : s.WarmedH U.vm) (h : nw s) : nw U := by
  intro w hw hn
  have h1 := h w hw hn
  cases w <;> first | (exact va_Nw.warmF hW h1) | (exact va_Nw.warmM hW h1) | (simp [nestW] at hn; done)
theorem nw.same {u U : State} (e : u.vm = U.vm) (h : nw u) : nw U := by
  intro w hw hn
  have h1 := h w hw hn
  cases w <;> first | (simp [nestW] at hn; done) | (exact va_Nw.same rfl e h1)
theorem nw.of {A : Array Value} {U : State} (h : ∀ w ∈ lw_tbl, w.before A U = true) : nw U := by
  intro w hw hn
  have h1 := h w (List.mem_append_right _ hw)
  cases w <;> first | (simp [nestW] at hn; done) | (exact va_Nw.of rfl h1)
theorem tw0 : (Cond.initialized "FieldAfterFieldLaw") ∈ tables_1 := List.mem_append_left _ (List.mem_of_getElem? (i := 0) rfl)
theorem tw1 : (Cond.initialized "FieldAfterField") ∈ tables_1 := List.mem_append_left _ (List.mem_of_getElem? (i := 1) rfl)
theorem tw2 : (Cond.initialized "FieldAfterField$Marks") ∈ tables_1 := List.mem_append_left _ (List.mem_of_getElem? (i := 2) rfl)
theorem tw3 : (Cond.initialized "FieldAfterField$Fit") ∈ tables_1 := List.mem_append_left _ (List.mem_of_getElem? (i := 3) rfl)
theorem tw4 : (Cond.initialized "FieldAfterField$Table") ∈ tables_1 := List.mem_append_left _ (List.mem_of_getElem? (i := 4) rfl)
theorem tw5 : (Cond.initialized "FieldAfterField$Planner") ∈ tables_1 := List.mem_append_left _ (List.mem_of_getElem? (i := 5) rfl)
theorem tw6 : (Cond.initialized "FieldAfterField$Book") ∈ tables_1 := List.mem_append_left _ (List.mem_of_getElem? (i := 6) rfl)
theorem tw7 : (Cond.initialized "FieldAfterField$Router") ∈ tables_1 := List.mem_append_left _ (List.mem_of_getElem? (i := 7) rfl)
theorem tw8 : (Cond.initialized "FieldAfterFieldModel") ∈ tables_1 := List.mem_append_left _ (List.mem_of_getElem? (i := 8) rfl)
theorem tw9 : (Cond.initialized "java/lang/Integer") ∈ tables_1 := List.mem_append_left _ (List.mem_of_getElem? (i := 9) rfl)
theorem tw10 : (Cond.initialized "java/lang/Math") ∈ tables_1 := List.mem_append_left _ (List.mem_of_getElem? (i := 10) rfl)
theorem tw11 : (Cond.initialized "java/lang/System") ∈ tables_1 := List.mem_append_left _ (List.mem_of_getElem? (i := 11) rfl)
theorem tw12 : (Cond.classLink "FieldAfterFieldLaw" 7 "FieldAfterField") ∈ tables_1 := List.mem_append_left _ (List.mem_of_getElem? (i := 12) rfl)
theorem tw13 : (Cond.instantiable "FieldAfterField" 5) ∈ tables_1 := List.mem_append_left _ (List.mem_of_getElem? (i := 13) rfl)
theorem tw14 : (Cond.methodLink "FieldAfterFieldLaw" 9 ⟨"FieldAfterField", "<init>", "()V"⟩) ∈ tables_1 := List.mem_append_left _ (List.mem_of_getElem? (i := 14) rfl)
theorem tw15 : (Cond.instanceMethod ⟨"FieldAfterField", "<init>", "()V"⟩) ∈ tables_1 := List.mem_append_left _ (List.mem_of_getElem? (i := 15) rfl)
theorem tw16 : (Cond.code ⟨"FieldAfterField", "<init>", "()V"⟩ prog_1_method_1_code 1 (none : Option Jvm.ClassFile.FieldType)) ∈ tables_1 := List.mem_append_left _ (List.mem_of_getElem? (i := 16) rfl)
theorem tw17 : (Cond.methodLink "FieldAfterField" 1 ⟨"java/lang/Object", "<init>", "()V"⟩) ∈ tables_1 := List.mem_append_left _ (List.mem_of_getElem? (i := 17) rfl)
theorem tw18 : (Cond.instanceMethod ⟨"java/lang/Object", "<init>", "()V"⟩) ∈ tables_1 := List.mem_append_left _ (List.mem_of_getElem? (i := 18) rfl)
theorem tw19 : (Cond.code ⟨"java/lang/Object", "<init>", "()V"⟩ object_method_1_code 1 (none : Option Jvm.ClassFile.FieldType)) ∈ tables_1 := List.mem_append_left _ (List.mem_of_getElem? (i := 19) rfl)
theorem tw20 : (Cond.classLink "FieldAfterField" 7 "FieldAfterField$Marks") ∈ tables_1 := List.mem_append_left _ (List.mem_of_getElem? (i := 20) rfl)
theorem tw21 : (Cond.instantiable "FieldAfterField$Marks" 8) ∈ tables_1 := List.mem_append_left _ (List.mem_of_getElem? (i := 21) rfl)
theorem tw22 : (Cond.methodLinkNest "FieldAfterField" 9 ⟨"FieldAfterField$Marks", "<init>", "()V"⟩ "FieldAfterField") ∈ tables_1 := List.mem_append_left _ (List.mem_of_getElem? (i := 22) rfl)
theorem tw23 : (Cond.instanceMethod ⟨"FieldAfterField$Marks", "<init>", "()V"⟩) ∈ tables_1 := List.mem_append_left _ (List.mem_of_getElem? (i := 23) rfl)
theorem tw24 : (Cond.code ⟨"FieldAfterField$Marks", "<init>", "()V"⟩ prog_4_method_1_code 1 (none : Option Jvm.ClassFile.FieldType)) ∈ tables_1 := List.mem_append_left _ (List.mem_of_getElem? (i := 24) rfl)
theorem tw25 : (Cond.methodLink "FieldAfterField$Marks" 3 ⟨"java/lang/Object", "<init>", "()V"⟩) ∈ tables_1 := List.mem_append_left _ (List.mem_of_getElem? (i := 25) rfl)
theorem tw26 : (Cond.classLink "FieldAfterField$Marks" 24 "[[I") ∈ tables_1 := List.mem_append_left _ (List.mem_of_getElem? (i := 26) rfl)
theorem tw27 : (Cond.arrayOver (.array .int)) ∈ tables_1 := List.mem_append_left _ (List.mem_of_getElem? (i := 27) rfl)
theorem tw28 : (Cond.fieldLink "FieldAfterField$Marks" 9 "FieldAfterField$Marks" "f" "[I") ∈ tables_1 := List.mem_append_left _ (List.mem_of_getElem? (i := 28) rfl)
theorem tw29 : (Cond.fieldLinkNest "FieldAfterField" 78 "FieldAfterField$Marks" "f" "[I" "FieldAfterField") ∈ tables_1 := List.mem_append_left _ (List.mem_of_getElem? (i := 29) rfl)
theorem tw30 : (Cond.fieldLink "FieldAfterField$Marks" 15 "FieldAfterField$Marks" "g" "[I") ∈ tables_1 := List.mem_append_left _ (List.mem_of_getElem? (i := 30) rfl)
theorem tw31 : (Cond.fieldLinkNest "FieldAfterField" 82 "FieldAfterField$Marks" "g" "[I" "FieldAfterField") ∈ tables_1 := List.mem_append_left _ (List.mem_of_getElem? (i := 31) rfl)
theorem tw32 : (Cond.fieldLink "FieldAfterField$Marks" 18 "FieldAfterField$Marks" "i" "[I") ∈ tables_1 := List.mem_append_left _ (List.mem_of_getElem? (i := 32) rfl)
theorem tw33 : (Cond.fieldLinkNest "FieldAfterField" 85 "FieldAfterField$Marks" "i" "[I" "FieldAfterField") ∈ tables_1 := List.mem_append_left _ (List.mem_of_getElem? (i := 33) rfl)
theorem tw34 : (Cond.fieldLink "FieldAfterField$Marks" 21 "FieldAfterField$Marks" "j" "[I") ∈ tables_1 := List.mem_append_left _ (List.mem_of_getElem? (i := 34) rfl)
theorem tw35 : (Cond.fieldLinkNest "FieldAfterField" 88 "FieldAfterField$Marks" "j" "[I" "FieldAfterField") ∈ tables_1 := List.mem_append_left _ (List.mem_of_getElem? (i := 35) rfl)
theorem tw36 : (Cond.fieldLink "FieldAfterField$Marks" 26 "FieldAfterField$Marks" "reads" "[[I") ∈ tables_1 := List.mem_append_left _ (List.mem_of_getElem? (i := 36) rfl)
theorem tw37 : (Cond.fieldLinkNest "FieldAfterField$Fit" 68 "FieldAfterField$Marks" "reads" "[[I" "FieldAfterField") ∈ tables_1 := List.mem_append_left _ (List.mem_of_getElem? (i := 37) rfl)
theorem tw38 : (Cond.fieldLinkNest "FieldAfterField" 91 "FieldAfterField$Marks" "reads" "[[I" "FieldAfterField") ∈ tables_1 := List.mem_append_left _ (List.mem_of_getElem? (i := 38) rfl)
theorem tw39 : (Cond.fieldLink "FieldAfterField$Marks" 29 "FieldAfterField$Marks" "many" "I") ∈ tables_1 := List.mem_append_left _ (List.mem_of_getElem? (i := 39) rfl)
theorem tw40 : (Cond.fieldLinkNest "FieldAfterField$Fit" 34 "FieldAfterField$Marks" "many" "I" "FieldAfterField") ∈ tables_1 := List.mem_append_left _ (List.mem_of_getElem? (i := 40) rfl)
theorem tw41 : (Cond.fieldLinkNest "FieldAfterField" 49 "FieldAfterField$Marks" "many" "I" "FieldAfterField") ∈ tables_1 := List.mem_append_left _ (List.mem_of_getElem? (i := 41) rfl)
theorem tw42 : (Cond.fieldLinkNest "FieldAfterField$Planner" 35 "FieldAfterField$Marks" "many" "I" "FieldAfterField") ∈ tables_1 := List.mem_append_left _ (List.mem_of_getElem? (i := 42) rfl)
theorem tw43 : (Cond.fieldLink "FieldAfterField$Marks" 33 "FieldAfterField$Marks" "lost" "I") ∈ tables_1 := List.mem_append_left _ (List.mem_of_getElem? (i := 43) rfl)
theorem tw44 : (Cond.fieldLinkNest "FieldAfterField" 67 "FieldAfterField$Marks" "lost" "I" "FieldAfterField") ∈ tables_1 := List.mem_append_left _ (List.mem_of_getElem? (i := 44) rfl)
theorem tw45 : (Cond.fieldLink "FieldAfterField$Marks" 36 "FieldAfterField$Marks" "out" "I") ∈ tables_1 := List.mem_append_left _ (List.mem_of_getElem? (i := 45) rfl)
theorem tw46 : (Cond.fieldLinkNest "FieldAfterField" 95 "FieldAfterField$Marks" "out" "I" "FieldAfterField") ∈ tables_1 := List.mem_append_left _ (List.mem_of_getElem? (i := 46) rfl)
theorem tw47 : (Cond.laysFinal "FieldAfterField$Marks" "FieldAfterField$Marks" "f" "[I") ∈ tables_1 := List.mem_append_left _ (List.mem_of_getElem? (i := 47) rfl)
theorem tw48 : (Cond.soleField "FieldAfterField$Marks" "f") ∈ tables_1 := List.mem_append_left _ (List.mem_of_getElem? (i := 48) rfl)
theorem tw49 : (Cond.laysFinal "FieldAfterField$Marks" "FieldAfterField$Marks" "g" "[I") ∈ tables_1 := List.mem_append_left _ (List.mem_of_getElem? (i := 49) rfl)
theorem tw50 : (Cond.soleField "FieldAfterField$Marks" "g") ∈ tables_1 := List.mem_append_left _ (List.mem_of_getElem? (i := 50) rfl)
theorem tw51 : (Cond.laysFinal "FieldAfterField$Marks" "FieldAfterField$Marks" "i" "[I") ∈ tables_1 := List.mem_append_left _ (List.mem_of_getElem? (i := 51) rfl)
theorem tw52 : (Cond.soleField "FieldAfterField$Marks" "i") ∈ tables_1 := List.mem_append_left _ (List.mem_of_getElem? (i := 52) rfl)
theorem tw53 : (Cond.laysFinal "FieldAfterField$Marks" "FieldAfterField$Marks" "j" "[I") ∈ tables_1 := List.mem_append_left _ (List.mem_of_getElem? (i := 53) rfl)
theorem tw54 : (Cond.soleField "FieldAfterField$Marks" "j") ∈ tables_1 := List.mem_append_left _ (List.mem_of_getElem? (i := 54) rfl)
theorem tw55 : (Cond.laysFinal "FieldAfterField$Marks" "FieldAfterField$Marks" "reads" "[[I") ∈ tables_1 := List.mem_append_left _ (List.mem_of_getElem? (i := 55) rfl)
theorem tw56 : (Cond.soleField "FieldAfterField$Marks" "reads") ∈ tables_1 := List.mem_append_left _ (List.mem_of_getElem? (i := 56) rfl)
theorem tw57 : (Cond.lays "FieldAfterField$Marks" "FieldAfterField$Marks" "many" "I") ∈ tables_1 := List.mem_append_left _ (List.mem_of_getElem? (i := 57) rfl)
theorem tw58 : (Cond.soleField "FieldAfterField$Marks" "many") ∈ tables_1 := List.mem_append_left _ (List.mem_of_getElem? (i := 58) rfl)
theorem tw59 : (Cond.lays "FieldAfterField$Marks" "FieldAfterField$Marks" "lost" "I") ∈ tables_1 := List.mem_append_left _ (List.mem_of_getElem? (i := 59) rfl)
theorem tw60 : (Cond.soleField "FieldAfterField$Marks" "lost") ∈ tables_1 := List.mem_append_left _ (List.mem_of_getElem? (i := 60) rfl)
theorem tw61 : (Cond.lays "FieldAfterField$Marks" "FieldAfterField$Marks" "out" "I") ∈ tables_1 := List.mem_append_left _ (List.mem_of_getElem? (i := 61) rfl)
theorem tw62 : (Cond.soleField "FieldAfterField$Marks" "out") ∈ tables_1 := List.mem_append_left _ (List.mem_of_getElem? (i := 62) rfl)
theorem tw63 : (Cond.superclass "FieldAfterField$Marks" "java/lang/Object") ∈ tables_1 := List.mem_append_left _ (List.mem_of_getElem? (i := 63) rfl)
theorem tw64 : (Cond.arrayClass .int) ∈ tables_1 := List.mem_append_left _ (List.mem_of_getElem? (i := 64) rfl)
theorem tw65 : (Cond.classLink "FieldAfterField" 16 "FieldAfterField$Fit") ∈ tables_1 := List.mem_append_left _ (List.mem_of_getElem? (i := 65) rfl)
theorem tw66 : (Cond.instantiable "FieldAfterField$Fit" 4) ∈ tables_1 := List.mem_append_left _ (List.mem_of_getElem? (i := 66) rfl)
theorem tw67 : (Cond.methodLinkNest "FieldAfterField" 18 ⟨"FieldAfterField$Fit", "<init>", "()V"⟩ "FieldAfterField") ∈ tables_1 := List.mem_append_left _ (List.mem_of_getElem? (i := 67) rfl)
theorem tw68 : (Cond.instanceMethod ⟨"FieldAfterField$Fit", "<init>", "()V"⟩) ∈ tables_1 := List.mem_append_left _ (List.mem_of_getElem? (i := 68) rfl)
theorem tw69 : (Cond.code ⟨"FieldAfterField$Fit", "<init>", "()V"⟩ prog_3_method_1_code 1 (none : Option Jvm.ClassFile.FieldType)) ∈ tables_1 := List.mem_append_left _ (List.mem_of_getElem? (i := 69) rfl)
theorem tw70 : (Cond.methodLink "FieldAfterField$Fit" 3 ⟨"java/lang/Object", "<init>", "()V"⟩) ∈ tables_1 := List.mem_append_left _ (List.mem_of_getElem? (i := 70) rfl)
theorem tw71 : (Cond.classLink "FieldAfterField$Fit" 9 "FieldAfterField$Table") ∈ tables_1 := List.mem_append_left _ (List.mem_of_getElem? (i := 71) rfl)
theorem tw72 : (Cond.instantiable "FieldAfterField$Table" 13) ∈ tables_1 := List.mem_append_left _ (List.mem_of_getElem? (i := 72) rfl)
theorem tw73 : (Cond.methodLinkNest "FieldAfterField$Fit" 11 ⟨"FieldAfterField$Table", "<init>", "()V"⟩ "FieldAfterField") ∈ tables_1 := List.mem_append_left _ (List.mem_of_getElem? (i := 73) rfl)
theorem tw74 : (Cond.instanceMethod ⟨"FieldAfterField$Table", "<init>", "()V"⟩) ∈ tables_1 := List.mem_append_left _ (List.mem_of_getElem? (i := 74) rfl)
theorem tw75 : (Cond.code ⟨"FieldAfterField$Table", "<init>", "()V"⟩ prog_7_method_1_code 1 (none : Option Jvm.ClassFile.FieldType)) ∈ tables_1 := List.mem_append_left _ (List.mem_of_getElem? (i := 75) rfl)
theorem tw76 : (Cond.methodLink "FieldAfterField$Table" 1 ⟨"java/lang/Object", "<init>", "()V"⟩) ∈ tables_1 := List.mem_append_left _ (List.mem_of_getElem? (i := 76) rfl)
theorem tw77 : (Cond.fieldLink "FieldAfterField$Table" 7 "FieldAfterField$Table" "s00" "J") ∈ tables_1 := List.mem_append_left _ (List.mem_of_getElem? (i := 77) rfl)
theorem tw78 : (Cond.fieldLink "FieldAfterField$Table" 13 "FieldAfterField$Table" "s01" "J") ∈ tables_1 := List.mem_append_left _ (List.mem_of_getElem? (i := 78) rfl)
theorem tw79 : (Cond.fieldLink "FieldAfterField$Table" 16 "FieldAfterField$Table" "s02" "J") ∈ tables_1 := List.mem_append_left _ (List.mem_of_getElem? (i := 79) rfl)
theorem tw80 : (Cond.fieldLink "FieldAfterField$Table" 22 "FieldAfterField$Table" "s11" "J") ∈ tables_1 := List.mem_append_left _ (List.mem_of_getElem? (i := 80) rfl)
theorem tw81 : (Cond.fieldLink "FieldAfterField$Table" 19 "FieldAfterField$Table" "s12" "J") ∈ tables_1 := List.mem_append_left _ (List.mem_of_getElem? (i := 81) rfl)
theorem tw82 : (Cond.fieldLink "FieldAfterField$Table" 25 "FieldAfterField$Table" "s22" "J") ∈ tables_1 := List.mem_append_left _ (List.mem_of_getElem? (i := 82) rfl)
theorem tw83 : (Cond.fieldLink "FieldAfterField$Table" 28 "FieldAfterField$Table" "v00" "J") ∈ tables_1 := List.mem_append_left _ (List.mem_of_getElem? (i := 83) rfl)
theorem tw84 : (Cond.fieldLinkNest "FieldAfterField$Fit" 72 "FieldAfterField$Table" "v00" "J" "FieldAfterField") ∈ tables_1 := List.mem_append_left _ (List.mem_of_getElem? (i := 84) rfl)
theorem tw85 : (Cond.fieldLinkNest "FieldAfterField$Fit" 75 "FieldAfterField$Table" "v01" "J" "FieldAfterField") ∈ tables_1 := List.mem_append_left _ (List.mem_of_getElem? (i := 85) rfl)
theorem tw86 : (Cond.fieldLink "FieldAfterField$Table" 31 "FieldAfterField$Table" "v01" "J") ∈ tables_1 := List.mem_append_left _ (List.mem_of_getElem? (i := 86) rfl)
theorem tw87 : (Cond.fieldLinkNest "FieldAfterField$Fit" 78 "FieldAfterField$Table" "v02" "J" "FieldAfterField") ∈ tables_1 := List.mem_append_left _ (List.mem_of_getElem? (i := 87) rfl)
theorem tw88 : (Cond.fieldLink "FieldAfterField$Table" 34 "FieldAfterField$Table" "v02" "J") ∈ tables_1 := List.mem_append_left _ (List.mem_of_getElem? (i := 88) rfl)
theorem tw89 : (Cond.fieldLinkNest "FieldAfterField$Fit" 81 "FieldAfterField$Table" "v11" "J" "FieldAfterField") ∈ tables_1 := List.mem_append_left _ (List.mem_of_getElem? (i := 89) rfl)
theorem tw90 : (Cond.fieldLink "FieldAfterField$Table" 37 "FieldAfterField$Table" "v11" "J") ∈ tables_1 := List.mem_append_left _ (List.mem_of_getElem? (i := 90) rfl)
theorem tw91 : (Cond.fieldLinkNest "FieldAfterField$Fit" 84 "FieldAfterField$Table" "v12" "J" "FieldAfterField") ∈ tables_1 := List.mem_append_left _ (List.mem_of_getElem? (i := 91) rfl)
theorem tw92 : (Cond.fieldLink "FieldAfterField$Table" 40 "FieldAfterField$Table" "v12" "J") ∈ tables_1 := List.mem_append_left _ (List.mem_of_getElem? (i := 92) rfl)
theorem tw93 : (Cond.fieldLinkNest "FieldAfterField$Fit" 87 "FieldAfterField$Table" "v22" "J" "FieldAfterField") ∈ tables_1 := List.mem_append_left _ (List.mem_of_getElem? (i := 93) rfl)
theorem tw94 : (Cond.fieldLink "FieldAfterField$Table" 43 "FieldAfterField$Table" "v22" "J") ∈ tables_1 := List.mem_append_left _ (List.mem_of_getElem? (i := 94) rfl)
theorem tw95 : (Cond.fieldLinkNest "FieldAfterField$Fit" 64 "FieldAfterField$Table" "det" "J" "FieldAfterField") ∈ tables_1 := List.mem_append_left _ (List.mem_of_getElem? (i := 95) rfl)
theorem tw96 : (Cond.fieldLinkNest "FieldAfterField$Planner" 54 "FieldAfterField$Table" "det" "J" "FieldAfterField") ∈ tables_1 := List.mem_append_left _ (List.mem_of_getElem? (i := 96) rfl)
theorem tw97 : (Cond.fieldLink "FieldAfterField$Table" 46 "FieldAfterField$Table" "det" "J") ∈ tables_1 := List.mem_append_left _ (List.mem_of_getElem? (i := 97) rfl)
theorem tw98 : (Cond.fieldLinkNest "FieldAfterField" 125 "FieldAfterField$Table" "det" "J" "FieldAfterField") ∈ tables_1 := List.mem_append_left _ (List.mem_of_getElem? (i := 98) rfl)
theorem tw99 : (Cond.lays "FieldAfterField$Table" "FieldAfterField$Table" "s00" "J") ∈ tables_1 := List.mem_append_left _ (List.mem_of_getElem? (i := 99) rfl)
theorem tw100 : (Cond.soleField "FieldAfterField$Table" "s00") ∈ tables_1 := List.mem_append_left _ (List.mem_of_getElem? (i := 100) rfl)
theorem tw101 : (Cond.lays "FieldAfterField$Table" "FieldAfterField$Table" "s01" "J") ∈ tables_1 := List.mem_append_left _ (List.mem_of_getElem? (i := 101) rfl)
theorem tw102 : (Cond.soleField "FieldAfterField$Table" "s01") ∈ tables_1 := List.mem_append_left _ (List.mem_of_getElem? (i := 102) rfl)
theorem tw103 : (Cond.lays "FieldAfterField$Table" "FieldAfterField$Table" "s02" "J") ∈ tables_1 := List.mem_append_left _ (List.mem_of_getElem? (i := 103) rfl)
theorem tw104 : (Cond.soleField "FieldAfterField$Table" "s02") ∈ tables_1 := List.mem_append_left _ (List.mem_of_getElem? (i := 104) rfl)
theorem tw105 : (Cond.lays "FieldAfterField$Table" "FieldAfterField$Table" "s11" "J") ∈ tables_1 := List.mem_append_left _ (List.mem_of_getElem? (i := 105) rfl)
theorem tw106 : (Cond.soleField "FieldAfterField$Table" "s11") ∈ tables_1 := List.mem_append_left _ (List.mem_of_getElem? (i := 106) rfl)
theorem tw107 : (Cond.lays "FieldAfterField$Table" "FieldAfterField$Table" "s12" "J") ∈ tables_1 := List.mem_append_left _ (List.mem_of_getElem? (i := 107) rfl)
theorem tw108 : (Cond.soleField "FieldAfterField$Table" "s12") ∈ tables_1 := List.mem_append_left _ (List.mem_of_getElem? (i := 108) rfl)
theorem tw109 : (Cond.lays "FieldAfterField$Table" "FieldAfterField$Table" "s22" "J") ∈ tables_1 := List.mem_append_left _ (List.mem_of_getElem? (i := 109) rfl)
theorem tw110 : (Cond.soleField "FieldAfterField$Table" "s22") ∈ tables_1 := List.mem_append_left _ (List.mem_of_getElem? (i := 110) rfl)
theorem tw111 : (Cond.lays "FieldAfterField$Table" "FieldAfterField$Table" "v00" "J") ∈ tables_1 := List.mem_append_left _ (List.mem_of_getElem? (i := 111) rfl)
theorem tw112 : (Cond.soleField "FieldAfterField$Table" "v00") ∈ tables_1 := List.mem_append_left _ (List.mem_of_getElem? (i := 112) rfl)
theorem tw113 : (Cond.lays "FieldAfterField$Table" "FieldAfterField$Table" "v01" "J") ∈ tables_1 := List.mem_append_left _ (List.mem_of_getElem? (i := 113) rfl)
theorem tw114 : (Cond.soleField "FieldAfterField$Table" "v01") ∈ tables_1 := List.mem_append_left _ (List.mem_of_getElem? (i := 114) rfl)
theorem tw115 : (Cond.lays "FieldAfterField$Table" "FieldAfterField$Table" "v02" "J") ∈ tables_1 := List.mem_append_left _ (List.mem_of_getElem? (i := 115) rfl)
theorem tw116 : (Cond.soleField "FieldAfterField$Table" "v02") ∈ tables_1 := List.mem_append_left _ (List.mem_of_getElem? (i := 116) rfl)
theorem tw117 : (Cond.lays "FieldAfterField$Table" "FieldAfterField$Table" "v11" "J") ∈ tables_1 := List.mem_append_left _ (List.mem_of_getElem? (i := 117) rfl)
theorem tw118 : (Cond.soleField "FieldAfterField$Table" "v11") ∈ tables_1 := List.mem_append_left _ (List.mem_of_getElem? (i := 118) rfl)
theorem tw119 : (Cond.lays "FieldAfterField$Table" "FieldAfterField$Table" "v12" "J") ∈ tables_1 := List.mem_append_left _ (List.mem_of_getElem? (i := 119) rfl)
theorem tw120 : (Cond.soleField "FieldAfterField$Table" "v12") ∈ tables_1 := List.mem_append_left _ (List.mem_of_getElem? (i := 120) rfl)
theorem tw121 : (Cond.lays "FieldAfterField$Table" "FieldAfterField$Table" "v22" "J") ∈ tables_1 := List.mem_append_left _ (List.mem_of_getElem? (i := 121) rfl)
theorem tw122 : (Cond.soleField "FieldAfterField$Table" "v22") ∈ tables_1 := List.mem_append_left _ (List.mem_of_getElem? (i := 122) rfl)
theorem tw123 : (Cond.lays "FieldAfterField$Table" "FieldAfterField$Table" "det" "J") ∈ tables_1 := List.mem_append_left _ (List.mem_of_getElem? (i := 123) rfl)
theorem tw124 : (Cond.soleField "FieldAfterField$Table" "det") ∈ tables_1 := List.mem_append_left _ (List.mem_of_getElem? (i := 124) rfl)
theorem tw125 : (Cond.superclass "FieldAfterField$Table" "java/lang/Object") ∈ tables_1 := List.mem_append_left _ (List.mem_of_getElem? (i := 125) rfl)
theorem tw126 : (Cond.classLink "FieldAfterField$Fit" 18 "[[J") ∈ tables_1 := List.mem_append_left _ (List.mem_of_getElem? (i := 126) rfl)
theorem tw127 : (Cond.arrayOver (.array .long)) ∈ tables_1 := List.mem_append_left _ (List.mem_of_getElem? (i := 127) rfl)
theorem tw128 : (Cond.fieldLink "FieldAfterField$Fit" 12 "FieldAfterField$Fit" "table" "LFieldAfterField$Table;") ∈ tables_1 := List.mem_append_left _ (List.mem_of_getElem? (i := 128) rfl)
theorem tw129 : (Cond.fieldLinkNest "FieldAfterField" 121 "FieldAfterField$Fit" "table" "LFieldAfterField$Table;" "FieldAfterField") ∈ tables_1 := List.mem_append_left _ (List.mem_of_getElem? (i := 129) rfl)
theorem tw130 : (Cond.fieldLink "FieldAfterField$Fit" 20 "FieldAfterField$Fit" "sums" "[[J") ∈ tables_1 := List.mem_append_left _ (List.mem_of_getElem? (i := 130) rfl)
theorem tw131 : (Cond.fieldLink "FieldAfterField$Fit" 23 "FieldAfterField$Fit" "factors" "[[J") ∈ tables_1 := List.mem_append_left _ (List.mem_of_getElem? (i := 131) rfl)
theorem tw132 : (Cond.fieldLinkNest "FieldAfterField" 139 "FieldAfterField$Fit" "factors" "[[J" "FieldAfterField") ∈ tables_1 := List.mem_append_left _ (List.mem_of_getElem? (i := 132) rfl)
theorem tw133 : (Cond.fieldLink "FieldAfterField$Fit" 26 "FieldAfterField$Fit" "model" "I") ∈ tables_1 := List.mem_append_left _ (List.mem_of_getElem? (i := 133) rfl)
theorem tw134 : (Cond.laysFinal "FieldAfterField$Fit" "FieldAfterField$Fit" "table" "LFieldAfterField$Table;") ∈ tables_1 := List.mem_append_left _ (List.mem_of_getElem? (i := 134) rfl)
theorem tw135 : (Cond.soleField "FieldAfterField$Fit" "table") ∈ tables_1 := List.mem_append_left _ (List.mem_of_getElem? (i := 135) rfl)
theorem tw136 : (Cond.laysFinal "FieldAfterField$Fit" "FieldAfterField$Fit" "sums" "[[J") ∈ tables_1 := List.mem_append_left _ (List.mem_of_getElem? (i := 136) rfl)
theorem tw137 : (Cond.soleField "FieldAfterField$Fit" "sums") ∈ tables_1 := List.mem_append_left _ (List.mem_of_getElem? (i := 137) rfl)
theorem tw138 : (Cond.laysFinal "FieldAfterField$Fit" "FieldAfterField$Fit" "factors" "[[J") ∈ tables_1 := List.mem_append_left _ (List.mem_of_getElem? (i := 138) rfl)
theorem tw139 : (Cond.soleField "FieldAfterField$Fit" "factors") ∈ tables_1 := List.mem_append_left _ (List.mem_of_getElem? (i := 139) rfl)
theorem tw140 : (Cond.lays "FieldAfterField$Fit" "FieldAfterField$Fit" "model" "I") ∈ tables_1 := List.mem_append_left _ (List.mem_of_getElem? (i := 140) rfl)
theorem tw141 : (Cond.soleField "FieldAfterField$Fit" "model") ∈ tables_1 := List.mem_append_left _ (List.mem_of_getElem? (i := 141) rfl)
theorem tw142 : (Cond.superclass "FieldAfterField$Fit" "java/lang/Object") ∈ tables_1 := List.mem_append_left _ (List.mem_of_getElem? (i := 142) rfl)
theorem tw143 : (Cond.arrayClass .long) ∈ tables_1 := List.mem_append_left _ (List.mem_of_getElem? (i := 143) rfl)
theorem tw144 : (Cond.classLink "FieldAfterField" 23 "FieldAfterField$Planner") ∈ tables_1 := List.mem_append_left _ (List.mem_of_getElem? (i := 144) rfl)
theorem tw145 : (Cond.instantiable "FieldAfterField$Planner" 5) ∈ tables_1 := List.mem_append_left _ (List.mem_of_getElem? (i := 145) rfl)
theorem tw146 : (Cond.methodLinkNest "FieldAfterField" 25 ⟨"FieldAfterField$Planner", "<init>", "()V"⟩ "FieldAfterField") ∈ tables_1 := List.mem_append_left _ (List.mem_of_getElem? (i := 146) rfl)
theorem tw147 : (Cond.instanceMethod ⟨"FieldAfterField$Planner", "<init>", "()V"⟩) ∈ tables_1 := List.mem_append_left _ (List.mem_of_getElem? (i := 147) rfl)
theorem tw148 : (Cond.code ⟨"FieldAfterField$Planner", "<init>", "()V"⟩ prog_5_method_1_code 1 (none : Option Jvm.ClassFile.FieldType)) ∈ tables_1 := List.mem_append_left _ (List.mem_of_getElem? (i := 148) rfl)
theorem tw149 : (Cond.methodLink "FieldAfterField$Planner" 1 ⟨"java/lang/Object", "<init>", "()V"⟩) ∈ tables_1 := List.mem_append_left _ (List.mem_of_getElem? (i := 149) rfl)
theorem tw150 : (Cond.classLink "FieldAfterField$Planner" 7 "FieldAfterField$Table") ∈ tables_1 := List.mem_append_left _ (List.mem_of_getElem? (i := 150) rfl)
theorem tw151 : (Cond.methodLinkNest "FieldAfterField$Planner" 9 ⟨"FieldAfterField$Table", "<init>", "()V"⟩ "FieldAfterField") ∈ tables_1 := List.mem_append_left _ (List.mem_of_getElem? (i := 151) rfl)
theorem tw152 : (Cond.fieldLink "FieldAfterField$Planner" 10 "FieldAfterField$Planner" "table" "LFieldAfterField$Table;") ∈ tables_1 := List.mem_append_left _ (List.mem_of_getElem? (i := 152) rfl)
theorem tw153 : (Cond.fieldLink "FieldAfterField$Planner" 16 "FieldAfterField$Planner" "model" "I") ∈ tables_1 := List.mem_append_left _ (List.mem_of_getElem? (i := 153) rfl)
theorem tw154 : (Cond.fieldLink "FieldAfterField$Planner" 20 "FieldAfterField$Planner" "best" "I") ∈ tables_1 := List.mem_append_left _ (List.mem_of_getElem? (i := 154) rfl)
theorem tw155 : (Cond.fieldLinkNest "FieldAfterField" 166 "FieldAfterField$Planner" "best" "I" "FieldAfterField") ∈ tables_1 := List.mem_append_left _ (List.mem_of_getElem? (i := 155) rfl)
theorem tw156 : (Cond.fieldLink "FieldAfterField$Planner" 70 "FieldAfterField$Planner" "bestUpper" "J") ∈ tables_1 := List.mem_append_left _ (List.mem_of_getElem? (i := 156) rfl)
theorem tw157 : (Cond.fieldLinkNest "FieldAfterField" 169 "FieldAfterField$Planner" "bestUpper" "J" "FieldAfterField") ∈ tables_1 := List.mem_append_left _ (List.mem_of_getElem? (i := 157) rfl)
theorem tw158 : (Cond.fieldLink "FieldAfterField$Planner" 67 "FieldAfterField$Planner" "bestLower" "J") ∈ tables_1 := List.mem_append_left _ (List.mem_of_getElem? (i := 158) rfl)
theorem tw159 : (Cond.fieldLinkNest "FieldAfterField" 172 "FieldAfterField$Planner" "bestLower" "J" "FieldAfterField") ∈ tables_1 := List.mem_append_left _ (List.mem_of_getElem? (i := 159) rfl)
theorem tw160 : (Cond.laysFinal "FieldAfterField$Planner" "FieldAfterField$Planner" "table" "LFieldAfterField$Table;") ∈ tables_1 := List.mem_append_left _ (List.mem_of_getElem? (i := 160) rfl)
theorem tw161 : (Cond.soleField "FieldAfterField$Planner" "table") ∈ tables_1 := List.mem_append_left _ (List.mem_of_getElem? (i := 161) rfl)
theorem tw162 : (Cond.lays "FieldAfterField$Planner" "FieldAfterField$Planner" "model" "I") ∈ tables_1 := List.mem_append_left _ (List.mem_of_getElem? (i := 162) rfl)
theorem tw163 : (Cond.soleField "FieldAfterField$Planner" "model") ∈ tables_1 := List.mem_append_left _ (List.mem_of_getElem? (i := 163) rfl)
theorem tw164 : (Cond.lays "FieldAfterField$Planner" "FieldAfterField$Planner" "best" "I") ∈ tables_1 := List.mem_append_left _ (List.mem_of_getElem? (i := 164) rfl)
theorem tw165 : (Cond.soleField "FieldAfterField$Planner" "best") ∈ tables_1 := List.mem_append_left _ (List.mem_of_getElem? (i := 165) rfl)
theorem tw166 : (Cond.lays "FieldAfterField$Planner" "FieldAfterField$Planner" "bestUpper" "J") ∈ tables_1 := List.mem_append_left _ (List.mem_of_getElem? (i := 166) rfl)
theorem tw167 : (Cond.soleField "FieldAfterField$Planner" "bestUpper") ∈ tables_1 := List.mem_append_left _ (List.mem_of_getElem? (i := 167) rfl)
theorem tw168 : (Cond.lays "FieldAfterField$Planner" "FieldAfterField$Planner" "bestLower" "J") ∈ tables_1 := List.mem_append_left _ (List.mem_of_getElem? (i := 168) rfl)
theorem tw169 : (Cond.soleField "FieldAfterField$Planner" "bestLower") ∈ tables_1 := List.mem_append_left _ (List.mem_of_getElem? (i := 169) rfl)
theorem tw170 : (Cond.superclass "FieldAfterField$Planner" "java/lang/Object") ∈ tables_1 := List.mem_append_left _ (List.mem_of_getElem? (i := 170) rfl)
theorem tw171 : (Cond.classLink "FieldAfterField" 30 "FieldAfterField$Book") ∈ tables_1 := List.mem_append_left _ (List.mem_of_getElem? (i := 171) rfl)
theorem tw172 : (Cond.instantiable "FieldAfterField$Book" 7) ∈ tables_1 := List.mem_append_left _ (List.mem_of_getElem? (i := 172) rfl)
theorem tw173 : (Cond.methodLinkNest "FieldAfterField" 32 ⟨"FieldAfterField$Book", "<init>", "()V"⟩ "FieldAfterField") ∈ tables_1 := List.mem_append_left _ (List.mem_of_getElem? (i := 173) rfl)
theorem tw174 : (Cond.instanceMethod ⟨"FieldAfterField$Book", "<init>", "()V"⟩) ∈ tables_1 := List.mem_append_left _ (List.mem_of_getElem? (i := 174) rfl)
theorem tw175 : (Cond.code ⟨"FieldAfterField$Book", "<init>", "()V"⟩ prog_2_method_1_code 1 (none : Option Jvm.ClassFile.FieldType)) ∈ tables_1 := List.mem_append_left _ (List.mem_of_getElem? (i := 175) rfl)
theorem tw176 : (Cond.methodLink "FieldAfterField$Book" 3 ⟨"java/lang/Object", "<init>", "()V"⟩) ∈ tables_1 := List.mem_append_left _ (List.mem_of_getElem? (i := 176) rfl)
theorem tw177 : (Cond.classLink "FieldAfterField$Book" 25 "[[I") ∈ tables_1 := List.mem_append_left _ (List.mem_of_getElem? (i := 177) rfl)
theorem tw178 : (Cond.fieldLink "FieldAfterField$Book" 9 "FieldAfterField$Book" "tools" "[I") ∈ tables_1 := List.mem_append_left _ (List.mem_of_getElem? (i := 178) rfl)
theorem tw179 : (Cond.fieldLink "FieldAfterField$Book" 15 "FieldAfterField$Book" "shifts" "[I") ∈ tables_1 := List.mem_append_left _ (List.mem_of_getElem? (i := 179) rfl)
theorem tw180 : (Cond.fieldLink "FieldAfterField$Book" 18 "FieldAfterField$Book" "reads" "[I") ∈ tables_1 := List.mem_append_left _ (List.mem_of_getElem? (i := 180) rfl)
theorem tw181 : (Cond.fieldLink "FieldAfterField$Book" 21 "FieldAfterField$Book" "isRead" "[Z") ∈ tables_1 := List.mem_append_left _ (List.mem_of_getElem? (i := 181) rfl)
theorem tw182 : (Cond.fieldLink "FieldAfterField$Book" 27 "FieldAfterField$Book" "mended" "[[I") ∈ tables_1 := List.mem_append_left _ (List.mem_of_getElem? (i := 182) rfl)
theorem tw183 : (Cond.fieldLink "FieldAfterField$Book" 34 "FieldAfterField$Book" "many" "I") ∈ tables_1 := List.mem_append_left _ (List.mem_of_getElem? (i := 183) rfl)
theorem tw184 : (Cond.fieldLinkNest "FieldAfterField" 108 "FieldAfterField$Book" "many" "I" "FieldAfterField") ∈ tables_1 := List.mem_append_left _ (List.mem_of_getElem? (i := 184) rfl)
theorem tw185 : (Cond.fieldLink "FieldAfterField$Book" 30 "FieldAfterField$Book" "gain" "I") ∈ tables_1 := List.mem_append_left _ (List.mem_of_getElem? (i := 185) rfl)
theorem tw186 : (Cond.fieldLinkNest "FieldAfterField" 186 "FieldAfterField$Book" "gain" "I" "FieldAfterField") ∈ tables_1 := List.mem_append_left _ (List.mem_of_getElem? (i := 186) rfl)
theorem tw187 : (Cond.laysFinal "FieldAfterField$Book" "FieldAfterField$Book" "tools" "[I") ∈ tables_1 := List.mem_append_left _ (List.mem_of_getElem? (i := 187) rfl)
theorem tw188 : (Cond.soleField "FieldAfterField$Book" "tools") ∈ tables_1 := List.mem_append_left _ (List.mem_of_getElem? (i := 188) rfl)
theorem tw189 : (Cond.laysFinal "FieldAfterField$Book" "FieldAfterField$Book" "shifts" "[I") ∈ tables_1 := List.mem_append_left _ (List.mem_of_getElem? (i := 189) rfl)
theorem tw190 : (Cond.soleField "FieldAfterField$Book" "shifts") ∈ tables_1 := List.mem_append_left _ (List.mem_of_getElem? (i := 190) rfl)
theorem tw191 : (Cond.laysFinal "FieldAfterField$Book" "FieldAfterField$Book" "reads" "[I") ∈ tables_1 := List.mem_append_left _ (List.mem_of_getElem? (i := 191) rfl)
theorem tw192 : (Cond.soleField "FieldAfterField$Book" "reads") ∈ tables_1 := List.mem_append_left _ (List.mem_of_getElem? (i := 192) rfl)
theorem tw193 : (Cond.laysFinal "FieldAfterField$Book" "FieldAfterField$Book" "isRead" "[Z") ∈ tables_1 := List.mem_append_left _ (List.mem_of_getElem? (i := 193) rfl)
theorem tw194 : (Cond.soleField "FieldAfterField$Book" "isRead") ∈ tables_1 := List.mem_append_left _ (List.mem_of_getElem? (i := 194) rfl)
theorem tw195 : (Cond.laysFinal "FieldAfterField$Book" "FieldAfterField$Book" "mended" "[[I") ∈ tables_1 := List.mem_append_left _ (List.mem_of_getElem? (i := 195) rfl)
theorem tw196 : (Cond.soleField "FieldAfterField$Book" "mended") ∈ tables_1 := List.mem_append_left _ (List.mem_of_getElem? (i := 196) rfl)
theorem tw197 : (Cond.lays "FieldAfterField$Book" "FieldAfterField$Book" "many" "I") ∈ tables_1 := List.mem_append_left _ (List.mem_of_getElem? (i := 197) rfl)
theorem tw198 : (Cond.soleField "FieldAfterField$Book" "many") ∈ tables_1 := List.mem_append_left _ (List.mem_of_getElem? (i := 198) rfl)
theorem tw199 : (Cond.lays "FieldAfterField$Book" "FieldAfterField$Book" "gain" "I") ∈ tables_1 := List.mem_append_left _ (List.mem_of_getElem? (i := 199) rfl)
theorem tw200 : (Cond.soleField "FieldAfterField$Book" "gain") ∈ tables_1 := List.mem_append_left _ (List.mem_of_getElem? (i := 200) rfl)
theorem tw201 : (Cond.superclass "FieldAfterField$Book" "java/lang/Object") ∈ tables_1 := List.mem_append_left _ (List.mem_of_getElem? (i := 201) rfl)
theorem tw202 : (Cond.arrayClass .boolean) ∈ tables_1 := List.mem_append_left _ (List.mem_of_getElem? (i := 202) rfl)
theorem tw203 : (Cond.classLink "FieldAfterField" 37 "FieldAfterField$Router") ∈ tables_1 := List.mem_append_left _ (List.mem_of_getElem? (i := 203) rfl)
theorem tw204 : (Cond.instantiable "FieldAfterField$Router" 7) ∈ tables_1 := List.mem_append_left _ (List.mem_of_getElem? (i := 204) rfl)
theorem tw205 : (Cond.methodLinkNest "FieldAfterField" 39 ⟨"FieldAfterField$Router", "<init>", "()V"⟩ "FieldAfterField") ∈ tables_1 := List.mem_append_left _ (List.mem_of_getElem? (i := 205) rfl)
theorem tw206 : (Cond.instanceMethod ⟨"FieldAfterField$Router", "<init>", "()V"⟩) ∈ tables_1 := List.mem_append_left _ (List.mem_of_getElem? (i := 206) rfl)
theorem tw207 : (Cond.code ⟨"FieldAfterField$Router", "<init>", "()V"⟩ prog_6_method_1_code 1 (none : Option Jvm.ClassFile.FieldType)) ∈ tables_1 := List.mem_append_left _ (List.mem_of_getElem? (i := 207) rfl)
theorem tw208 : (Cond.methodLink "FieldAfterField$Router" 3 ⟨"java/lang/Object", "<init>", "()V"⟩) ∈ tables_1 := List.mem_append_left _ (List.mem_of_getElem? (i := 208) rfl)
theorem tw209 : (Cond.classLink "FieldAfterField$Router" 9 "[[I") ∈ tables_1 := List.mem_append_left _ (List.mem_of_getElem? (i := 209) rfl)
theorem tw210 : (Cond.fieldLink "FieldAfterField$Router" 11 "FieldAfterField$Router" "offsets" "[[I") ∈ tables_1 := List.mem_append_left _ (List.mem_of_getElem? (i := 210) rfl)
theorem tw211 : (Cond.fieldLinkNest "FieldAfterField" 192 "FieldAfterField$Router" "offsets" "[[I" "FieldAfterField") ∈ tables_1 := List.mem_append_left _ (List.mem_of_getElem? (i := 211) rfl)
theorem tw212 : (Cond.fieldLink "FieldAfterField$Router" 16 "FieldAfterField$Router" "tools" "[I") ∈ tables_1 := List.mem_append_left _ (List.mem_of_getElem? (i := 212) rfl)
theorem tw213 : (Cond.fieldLink "FieldAfterField$Router" 20 "FieldAfterField$Router" "best" "[I") ∈ tables_1 := List.mem_append_left _ (List.mem_of_getElem? (i := 213) rfl)
theorem tw214 : (Cond.fieldLinkNest "FieldAfterField" 206 "FieldAfterField$Router" "best" "[I" "FieldAfterField") ∈ tables_1 := List.mem_append_left _ (List.mem_of_getElem? (i := 214) rfl)
theorem tw215 : (Cond.fieldLink "FieldAfterField$Router" 23 "FieldAfterField$Router" "used" "[I") ∈ tables_1 := List.mem_append_left _ (List.mem_of_getElem? (i := 215) rfl)
theorem tw216 : (Cond.fieldLink "FieldAfterField$Router" 26 "FieldAfterField$Router" "budget" "I") ∈ tables_1 := List.mem_append_left _ (List.mem_of_getElem? (i := 216) rfl)
theorem tw217 : (Cond.fieldLinkNest "FieldAfterField" 195 "FieldAfterField$Router" "budget" "I" "FieldAfterField") ∈ tables_1 := List.mem_append_left _ (List.mem_of_getElem? (i := 217) rfl)
theorem tw218 : (Cond.fieldLink "FieldAfterField$Router" 30 "FieldAfterField$Router" "cap" "I") ∈ tables_1 := List.mem_append_left _ (List.mem_of_getElem? (i := 218) rfl)
theorem tw219 : (Cond.fieldLinkNest "FieldAfterField" 198 "FieldAfterField$Router" "cap" "I" "FieldAfterField") ∈ tables_1 := List.mem_append_left _ (List.mem_of_getElem? (i := 219) rfl)
theorem tw220 : (Cond.fieldLink "FieldAfterField$Router" 36 "FieldAfterField$Router" "bestSum" "I") ∈ tables_1 := List.mem_append_left _ (List.mem_of_getElem? (i := 220) rfl)
theorem tw221 : (Cond.fieldLinkNest "FieldAfterField" 203 "FieldAfterField$Router" "bestSum" "I" "FieldAfterField") ∈ tables_1 := List.mem_append_left _ (List.mem_of_getElem? (i := 221) rfl)
theorem tw222 : (Cond.laysFinal "FieldAfterField$Router" "FieldAfterField$Router" "offsets" "[[I") ∈ tables_1 := List.mem_append_left _ (List.mem_of_getElem? (i := 222) rfl)
theorem tw223 : (Cond.soleField "FieldAfterField$Router" "offsets") ∈ tables_1 := List.mem_append_left _ (List.mem_of_getElem? (i := 223) rfl)
theorem tw224 : (Cond.laysFinal "FieldAfterField$Router" "FieldAfterField$Router" "tools" "[I") ∈ tables_1 := List.mem_append_left _ (List.mem_of_getElem? (i := 224) rfl)
theorem tw225 : (Cond.soleField "FieldAfterField$Router" "tools") ∈ tables_1 := List.mem_append_left _ (List.mem_of_getElem? (i := 225) rfl)
theorem tw226 : (Cond.laysFinal "FieldAfterField$Router" "FieldAfterField$Router" "best" "[I") ∈ tables_1 := List.mem_append_left _ (List.mem_of_getElem? (i := 226) rfl)
theorem tw227 : (Cond.soleField "FieldAfterField$Router" "best") ∈ tables_1 := List.mem_append_left _ (List.mem_of_getElem? (i := 227) rfl)
theorem tw228 : (Cond.laysFinal "FieldAfterField$Router" "FieldAfterField$Router" "used" "[I") ∈ tables_1 := List.mem_append_left _ (List.mem_of_getElem? (i := 228) rfl)
theorem tw229 : (Cond.soleField "FieldAfterField$Router" "used") ∈ tables_1 := List.mem_append_left _ (List.mem_of_getElem? (i := 229) rfl)
theorem tw230 : (Cond.lays "FieldAfterField$Router" "FieldAfterField$Router" "budget" "I") ∈ tables_1 := List.mem_append_left _ (List.mem_of_getElem? (i := 230) rfl)
theorem tw231 : (Cond.soleField "FieldAfterField$Router" "budget") ∈ tables_1 := List.mem_append_left _ (List.mem_of_getElem? (i := 231) rfl)
theorem tw232 : (Cond.lays "FieldAfterField$Router" "FieldAfterField$Router" "cap" "I") ∈ tables_1 := List.mem_append_left _ (List.mem_of_getElem? (i := 232) rfl)
theorem tw233 : (Cond.soleField "FieldAfterField$Router" "cap") ∈ tables_1 := List.mem_append_left _ (List.mem_of_getElem? (i := 233) rfl)
theorem tw234 : (Cond.lays "FieldAfterField$Router" "FieldAfterField$Router" "bestSum" "I") ∈ tables_1 := List.mem_append_left _ (List.mem_of_getElem? (i := 234) rfl)
theorem tw235 : (Cond.soleField "FieldAfterField$Router" "bestSum") ∈ tables_1 := List.mem_append_left _ (List.mem_of_getElem? (i := 235) rfl)
theorem tw236 : (Cond.superclass "FieldAfterField$Router" "java/lang/Object") ∈ tables_1 := List.mem_append_left _ (List.mem_of_getElem? (i := 236) rfl)
theorem tw237 : (Cond.fieldLink "FieldAfterField" 10 "FieldAfterField" "marks" "LFieldAfterField$Marks;") ∈ tables_1 := List.mem_append_left _ (List.mem_of_getElem? (i := 237) rfl)
theorem tw238 : (Cond.fieldLink "FieldAfterField" 19 "FieldAfterField" "fitted" "LFieldAfterField$Fit;") ∈ tables_1 := List.mem_append_left _ (List.mem_of_getElem? (i := 238) rfl)
theorem tw239 : (Cond.fieldLink "FieldAfterField" 26 "FieldAfterField" "planner" "LFieldAfterField$Planner;") ∈ tables_1 := List.mem_append_left _ (List.mem_of_getElem? (i := 239) rfl)
theorem tw240 : (Cond.fieldLink "FieldAfterField" 33 "FieldAfterField" "book" "LFieldAfterField$Book;") ∈ tables_1 := List.mem_append_right _ (List.mem_append_left _ (List.mem_of_getElem? (i := 0) rfl))
theorem tw241 : (Cond.fieldLink "FieldAfterField" 40 "FieldAfterField" "router" "LFieldAfterField$Router;") ∈ tables_1 := List.mem_append_right _ (List.mem_append_left _ (List.mem_of_getElem? (i := 1) rfl))
theorem tw242 : (Cond.laysFinal "FieldAfterField" "FieldAfterField" "marks" "LFieldAfterField$Marks;") ∈ tables_1 := List.mem_append_right _ (List.mem_append_left _ (List.mem_of_getElem? (i := 2) rfl))
theorem tw243 : (Cond.soleField "FieldAfterField" "marks") ∈ tables_1 := List.mem_append_right _ (List.mem_append_left _ (List.mem_of_getElem? (i := 3) rfl))
theorem tw244 : (Cond.laysFinal "FieldAfterField" "FieldAfterField" "fitted" "LFieldAfterField$Fit;") ∈ tables_1 := List.mem_append_right _ (List.mem_append_left _ (List.mem_of_getElem? (i := 4) rfl))
theorem tw245 : (Cond.soleField "FieldAfterField" "fitted") ∈ tables_1 := List.mem_append_right _ (List.mem_append_left _ (List.mem_of_getElem? (i := 5) rfl))
theorem tw246 : (Cond.laysFinal "FieldAfterField" "FieldAfterField" "planner" "LFieldAfterField$Planner;") ∈ tables_1 := List.mem_append_right _ (List.mem_append_left _ (List.mem_of_getElem? (i := 6) rfl))
theorem tw247 : (Cond.soleField "FieldAfterField" "planner") ∈ tables_1 := List.mem_append_right _ (List.mem_append_left _ (List.mem_of_getElem? (i := 7) rfl))
theorem tw248 : (Cond.laysFinal "FieldAfterField" "FieldAfterField" "book" "LFieldAfterField$Book;") ∈ tables_1 := List.mem_append_right _ (List.mem_append_left _ (List.mem_of_getElem? (i := 8) rfl))
theorem tw249 : (Cond.soleField "FieldAfterField" "book") ∈ tables_1 := List.mem_append_right _ (List.mem_append_left _ (List.mem_of_getElem? (i := 9) rfl))
theorem tw250 : (Cond.laysFinal "FieldAfterField" "FieldAfterField" "router" "LFieldAfterField$Router;") ∈ tables_1 := List.mem_append_right _ (List.mem_append_left _ (List.mem_of_getElem? (i := 10) rfl))
theorem tw251 : (Cond.soleField "FieldAfterField" "router") ∈ tables_1 := List.mem_append_right _ (List.mem_append_left _ (List.mem_of_getElem? (i := 11) rfl))
theorem tw252 : (Cond.superclass "FieldAfterField" "java/lang/Object") ∈ tables_1 := List.mem_append_right _ (List.mem_append_left _ (List.mem_of_getElem? (i := 12) rfl))
theorem tw253 : (Cond.methodLink "FieldAfterFieldLaw" 13 ⟨"FieldAfterField", "mark", "(IIII)I"⟩) ∈ tables_1 := List.mem_append_right _ (List.mem_append_left _ (List.mem_of_getElem? (i := 13) rfl))
theorem tw254 : (Cond.instanceMethod ⟨"FieldAfterField", "mark", "(IIII)I"⟩) ∈ tables_1 := List.mem_append_right _ (List.mem_append_left _ (List.mem_of_getElem? (i := 14) rfl))
theorem tw255 : (Cond.selects "FieldAfterField" ⟨"FieldAfterField", "mark", "(IIII)I"⟩ ⟨"FieldAfterField", "mark", "(IIII)I"⟩) ∈ tables_1 := List.mem_append_right _ (List.mem_append_left _ (List.mem_of_getElem? (i := 15) rfl))
theorem tw256 : (Cond.code ⟨"FieldAfterField", "mark", "(IIII)I"⟩ prog_1_method_2_code 5 (some .int)) ∈ tables_1 := List.mem_append_right _ (List.mem_append_left _ (List.mem_of_getElem? (i := 16) rfl))
theorem tw257 : (Cond.methodLink "FieldAfterField" 44 ⟨"FieldAfterField", "outside", "(III)Z"⟩) ∈ tables_1 := List.mem_append_right _ (List.mem_append_left _ (List.mem_of_getElem? (i := 17) rfl))
theorem tw258 : (Cond.static ⟨"FieldAfterField", "outside", "(III)Z"⟩) ∈ tables_1 := List.mem_append_right _ (List.mem_append_left _ (List.mem_of_getElem? (i := 18) rfl))
theorem tw259 : (Cond.code ⟨"FieldAfterField", "outside", "(III)Z"⟩ prog_1_method_23_code 3 (some .boolean)) ∈ tables_1 := List.mem_append_right _ (List.mem_append_left _ (List.mem_of_getElem? (i := 19) rfl))
theorem tw260 : (Cond.constant "FieldAfterField" 48 (-100002)) ∈ tables_1 := List.mem_append_right _ (List.mem_append_left _ (List.mem_of_getElem? (i := 20) rfl))
theorem tw261 : (Cond.constant "FieldAfterField" 53 (-100004)) ∈ tables_1 := List.mem_append_right _ (List.mem_append_left _ (List.mem_of_getElem? (i := 21) rfl))
theorem tw262 : (Cond.methodLinkNest "FieldAfterField" 54 ⟨"FieldAfterField$Marks", "add", "(IIII)I"⟩ "FieldAfterField") ∈ tables_1 := List.mem_append_right _ (List.mem_append_left _ (List.mem_of_getElem? (i := 22) rfl))
theorem tw263 : (Cond.privateMethod ⟨"FieldAfterField$Marks", "add", "(IIII)I"⟩) ∈ tables_1 := List.mem_append_right _ (List.mem_append_left _ (List.mem_of_getElem? (i := 23) rfl))
theorem tw264 : (Cond.instanceMethod ⟨"FieldAfterField$Marks", "add", "(IIII)I"⟩) ∈ tables_1 := List.mem_append_right _ (List.mem_append_left _ (List.mem_of_getElem? (i := 24) rfl))
theorem tw265 : (Cond.code ⟨"FieldAfterField$Marks", "add", "(IIII)I"⟩ prog_4_method_3_code 6 (some .int)) ∈ tables_1 := List.mem_append_right _ (List.mem_append_left _ (List.mem_of_getElem? (i := 25) rfl))
theorem tw266 : (Cond.methodLink "FieldAfterFieldLaw" 18 ⟨"FieldAfterField", "read", "(III)I"⟩) ∈ tables_1 := List.mem_append_right _ (List.mem_append_left _ (List.mem_of_getElem? (i := 26) rfl))
theorem tw267 : (Cond.instanceMethod ⟨"FieldAfterField", "read", "(III)I"⟩) ∈ tables_1 := List.mem_append_right _ (List.mem_append_left _ (List.mem_of_getElem? (i := 27) rfl))
theorem tw268 : (Cond.selects "FieldAfterField" ⟨"FieldAfterField", "read", "(III)I"⟩ ⟨"FieldAfterField", "read", "(III)I"⟩) ∈ tables_1 := List.mem_append_right _ (List.mem_append_left _ (List.mem_of_getElem? (i := 28) rfl))
theorem tw269 : (Cond.code ⟨"FieldAfterField", "read", "(III)I"⟩ prog_1_method_3_code 4 (some .int)) ∈ tables_1 := List.mem_append_right _ (List.mem_append_left _ (List.mem_of_getElem? (i := 29) rfl))
theorem tw270 : (Cond.methodLinkNest "FieldAfterField" 58 ⟨"FieldAfterField$Marks", "has", "(I)Z"⟩ "FieldAfterField") ∈ tables_1 := List.mem_append_right _ (List.mem_append_left _ (List.mem_of_getElem? (i := 30) rfl))
theorem tw271 : (Cond.privateMethod ⟨"FieldAfterField$Marks", "has", "(I)Z"⟩) ∈ tables_1 := List.mem_append_right _ (List.mem_append_left _ (List.mem_of_getElem? (i := 31) rfl))
theorem tw272 : (Cond.instanceMethod ⟨"FieldAfterField$Marks", "has", "(I)Z"⟩) ∈ tables_1 := List.mem_append_right _ (List.mem_append_left _ (List.mem_of_getElem? (i := 32) rfl))
theorem tw273 : (Cond.code ⟨"FieldAfterField$Marks", "has", "(I)Z"⟩ prog_4_method_2_code 2 (some .boolean)) ∈ tables_1 := List.mem_append_right _ (List.mem_append_left _ (List.mem_of_getElem? (i := 33) rfl))
theorem tw274 : (Cond.constant "FieldAfterField" 62 (-100001)) ∈ tables_1 := List.mem_append_right _ (List.mem_append_left _ (List.mem_of_getElem? (i := 34) rfl))
theorem tw275 : (Cond.methodLinkNest "FieldAfterField" 63 ⟨"FieldAfterField$Marks", "setReads", "(III)V"⟩ "FieldAfterField") ∈ tables_1 := List.mem_append_right _ (List.mem_append_left _ (List.mem_of_getElem? (i := 35) rfl))
theorem tw276 : (Cond.privateMethod ⟨"FieldAfterField$Marks", "setReads", "(III)V"⟩) ∈ tables_1 := List.mem_append_right _ (List.mem_append_left _ (List.mem_of_getElem? (i := 36) rfl))
theorem tw277 : (Cond.instanceMethod ⟨"FieldAfterField$Marks", "setReads", "(III)V"⟩) ∈ tables_1 := List.mem_append_right _ (List.mem_append_left _ (List.mem_of_getElem? (i := 37) rfl))
theorem tw278 : (Cond.code ⟨"FieldAfterField$Marks", "setReads", "(III)V"⟩ prog_4_method_4_code 4 (none : Option Jvm.ClassFile.FieldType)) ∈ tables_1 := List.mem_append_right _ (List.mem_append_left _ (List.mem_of_getElem? (i := 38) rfl))
theorem tw279 : (Cond.methodLink "FieldAfterFieldLaw" 23 ⟨"FieldAfterField", "lose", "(I)I"⟩) ∈ tables_1 := List.mem_append_right _ (List.mem_append_left _ (List.mem_of_getElem? (i := 39) rfl))
theorem tw280 : (Cond.instanceMethod ⟨"FieldAfterField", "lose", "(I)I"⟩) ∈ tables_1 := List.mem_append_right _ (List.mem_append_left _ (List.mem_of_getElem? (i := 40) rfl))
theorem tw281 : (Cond.selects "FieldAfterField" ⟨"FieldAfterField", "lose", "(I)I"⟩ ⟨"FieldAfterField", "lose", "(I)I"⟩) ∈ tables_1 := List.mem_append_right _ (List.mem_append_left _ (List.mem_of_getElem? (i := 41) rfl))
theorem tw282 : (Cond.code ⟨"FieldAfterField", "lose", "(I)I"⟩ prog_1_method_4_code 2 (some .int)) ∈ tables_1 := List.mem_append_right _ (List.mem_append_left _ (List.mem_of_getElem? (i := 42) rfl))
theorem tw283 : (Cond.methodLink "FieldAfterField" 70 ⟨"FieldAfterField", "isIn", "(II)Z"⟩) ∈ tables_1 := List.mem_append_right _ (List.mem_append_left _ (List.mem_of_getElem? (i := 43) rfl))
theorem tw284 : (Cond.static ⟨"FieldAfterField", "isIn", "(II)Z"⟩) ∈ tables_1 := List.mem_append_right _ (List.mem_append_left _ (List.mem_of_getElem? (i := 44) rfl))
theorem tw285 : (Cond.code ⟨"FieldAfterField", "isIn", "(II)Z"⟩ prog_1_method_26_code 2 (some .boolean)) ∈ tables_1 := List.mem_append_right _ (List.mem_append_left _ (List.mem_of_getElem? (i := 45) rfl))
theorem tw286 : (Cond.methodLinkNest "FieldAfterField" 74 ⟨"FieldAfterField$Marks", "forget", "(I)V"⟩ "FieldAfterField") ∈ tables_1 := List.mem_append_right _ (List.mem_append_left _ (List.mem_of_getElem? (i := 46) rfl))
theorem tw287 : (Cond.privateMethod ⟨"FieldAfterField$Marks", "forget", "(I)V"⟩) ∈ tables_1 := List.mem_append_right _ (List.mem_append_left _ (List.mem_of_getElem? (i := 47) rfl))
theorem tw288 : (Cond.instanceMethod ⟨"FieldAfterField$Marks", "forget", "(I)V"⟩) ∈ tables_1 := List.mem_append_right _ (List.mem_append_left _ (List.mem_of_getElem? (i := 48) rfl))
theorem tw289 : (Cond.code ⟨"FieldAfterField$Marks", "forget", "(I)V"⟩ prog_4_method_5_code 2 (none : Option Jvm.ClassFile.FieldType)) ∈ tables_1 := List.mem_append_right _ (List.mem_append_left _ (List.mem_of_getElem? (i := 49) rfl))
theorem tw290 : (Cond.methodLink "FieldAfterField$Marks" 39 ⟨"FieldAfterField$Marks", "setReads", "(III)V"⟩) ∈ tables_1 := List.mem_append_right _ (List.mem_append_left _ (List.mem_of_getElem? (i := 50) rfl))
theorem tw291 : (Cond.methodLink "FieldAfterFieldLaw" 28 ⟨"FieldAfterField", "told", "(II)I"⟩) ∈ tables_1 := List.mem_append_right _ (List.mem_append_left _ (List.mem_of_getElem? (i := 51) rfl))
theorem tw292 : (Cond.instanceMethod ⟨"FieldAfterField", "told", "(II)I"⟩) ∈ tables_1 := List.mem_append_right _ (List.mem_append_left _ (List.mem_of_getElem? (i := 52) rfl))
theorem tw293 : (Cond.selects "FieldAfterField" ⟨"FieldAfterField", "told", "(II)I"⟩ ⟨"FieldAfterField", "told", "(II)I"⟩) ∈ tables_1 := List.mem_append_right _ (List.mem_append_left _ (List.mem_of_getElem? (i := 53) rfl))
theorem tw294 : (Cond.code ⟨"FieldAfterField", "told", "(II)I"⟩ prog_1_method_5_code 3 (some .int)) ∈ tables_1 := List.mem_append_right _ (List.mem_append_left _ (List.mem_of_getElem? (i := 54) rfl))
theorem tw295 : (Cond.methodLink "FieldAfterFieldLaw" 33 ⟨"FieldAfterField", "count", "(I)I"⟩) ∈ tables_1 := List.mem_append_right _ (List.mem_append_left _ (List.mem_of_getElem? (i := 55) rfl))
theorem tw296 : (Cond.instanceMethod ⟨"FieldAfterField", "count", "(I)I"⟩) ∈ tables_1 := List.mem_append_right _ (List.mem_append_left _ (List.mem_of_getElem? (i := 56) rfl))
theorem tw297 : (Cond.selects "FieldAfterField" ⟨"FieldAfterField", "count", "(I)I"⟩ ⟨"FieldAfterField", "count", "(I)I"⟩) ∈ tables_1 := List.mem_append_right _ (List.mem_append_left _ (List.mem_of_getElem? (i := 57) rfl))
theorem tw298 : (Cond.code ⟨"FieldAfterField", "count", "(I)I"⟩ prog_1_method_6_code 2 (some .int)) ∈ tables_1 := List.mem_append_right _ (List.mem_append_left _ (List.mem_of_getElem? (i := 58) rfl))
theorem tw299 : (Cond.methodLink "FieldAfterField" 98 ⟨"java/lang/Integer", "bitCount", "(I)I"⟩) ∈ tables_1 := List.mem_append_right _ (List.mem_append_left _ (List.mem_of_getElem? (i := 59) rfl))
theorem tw300 : (Cond.static ⟨"java/lang/Integer", "bitCount", "(I)I"⟩) ∈ tables_1 := List.mem_append_right _ (List.mem_append_left _ (List.mem_of_getElem? (i := 60) rfl))
theorem tw301 : (Cond.code ⟨"java/lang/Integer", "bitCount", "(I)I"⟩ prog_10_method_49_code 1 (some .int)) ∈ tables_1 := List.mem_append_right _ (List.mem_append_left _ (List.mem_of_getElem? (i := 61) rfl))
theorem tw302 : (Cond.constant "java/lang/Integer" 265 (1431655765)) ∈ tables_1 := List.mem_append_right _ (List.mem_append_left _ (List.mem_of_getElem? (i := 62) rfl))
theorem tw303 : (Cond.constant "java/lang/Integer" 266 (858993459)) ∈ tables_1 := List.mem_append_right _ (List.mem_append_left _ (List.mem_of_getElem? (i := 63) rfl))
theorem tw304 : (Cond.constant "java/lang/Integer" 267 (252645135)) ∈ tables_1 := List.mem_append_right _ (List.mem_append_left _ (List.mem_of_getElem? (i := 64) rfl))
theorem tw305 : (Cond.methodLinkNest "FieldAfterField" 104 ⟨"FieldAfterField$Marks", "counting", "()I"⟩ "FieldAfterField") ∈ tables_1 := List.mem_append_right _ (List.mem_append_left _ (List.mem_of_getElem? (i := 65) rfl))
theorem tw306 : (Cond.privateMethod ⟨"FieldAfterField$Marks", "counting", "()I"⟩) ∈ tables_1 := List.mem_append_right _ (List.mem_append_left _ (List.mem_of_getElem? (i := 66) rfl))
theorem tw307 : (Cond.instanceMethod ⟨"FieldAfterField$Marks", "counting", "()I"⟩) ∈ tables_1 := List.mem_append_right _ (List.mem_append_left _ (List.mem_of_getElem? (i := 67) rfl))
theorem tw308 : (Cond.code ⟨"FieldAfterField$Marks", "counting", "()I"⟩ prog_4_method_7_code 1 (some .int)) ∈ tables_1 := List.mem_append_right _ (List.mem_append_left _ (List.mem_of_getElem? (i := 68) rfl))
theorem tw309 : (Cond.methodLink "FieldAfterField$Marks" 43 ⟨"FieldAfterField$Marks", "notLost", "()I"⟩) ∈ tables_1 := List.mem_append_right _ (List.mem_append_left _ (List.mem_of_getElem? (i := 69) rfl))
theorem tw310 : (Cond.privateMethod ⟨"FieldAfterField$Marks", "notLost", "()I"⟩) ∈ tables_1 := List.mem_append_right _ (List.mem_append_left _ (List.mem_of_getElem? (i := 70) rfl))
theorem tw311 : (Cond.instanceMethod ⟨"FieldAfterField$Marks", "notLost", "()I"⟩) ∈ tables_1 := List.mem_append_right _ (List.mem_append_left _ (List.mem_of_getElem? (i := 71) rfl))
theorem tw312 : (Cond.code ⟨"FieldAfterField$Marks", "notLost", "()I"⟩ prog_4_method_6_code 1 (some .int)) ∈ tables_1 := List.mem_append_right _ (List.mem_append_left _ (List.mem_of_getElem? (i := 72) rfl))
theorem tw313 : (Cond.methodLinkNest "FieldAfterField" 109 ⟨"FieldAfterField$Book", "howManyRead", "()I"⟩ "FieldAfterField") ∈ tables_1 := List.mem_append_right _ (List.mem_append_left _ (List.mem_of_getElem? (i := 73) rfl))
theorem tw314 : (Cond.privateMethod ⟨"FieldAfterField$Book", "howManyRead", "()I"⟩) ∈ tables_1 := List.mem_append_right _ (List.mem_append_left _ (List.mem_of_getElem? (i := 74) rfl))
theorem tw315 : (Cond.instanceMethod ⟨"FieldAfterField$Book", "howManyRead", "()I"⟩) ∈ tables_1 := List.mem_append_right _ (List.mem_append_left _ (List.mem_of_getElem? (i := 75) rfl))
theorem tw316 : (Cond.code ⟨"FieldAfterField$Book", "howManyRead", "()I"⟩ prog_2_method_6_code 3 (some .int)) ∈ tables_1 := List.mem_append_right _ (List.mem_append_left _ (List.mem_of_getElem? (i := 76) rfl))
theorem tw317 : (Cond.methodLinkNest "FieldAfterField" 112 ⟨"FieldAfterField$Marks", "fieldsOf", "(I)I"⟩ "FieldAfterField") ∈ tables_1 := List.mem_append_right _ (List.mem_append_left _ (List.mem_of_getElem? (i := 77) rfl))
theorem tw318 : (Cond.privateMethod ⟨"FieldAfterField$Marks", "fieldsOf", "(I)I"⟩) ∈ tables_1 := List.mem_append_right _ (List.mem_append_left _ (List.mem_of_getElem? (i := 78) rfl))
theorem tw319 : (Cond.instanceMethod ⟨"FieldAfterField$Marks", "fieldsOf", "(I)I"⟩) ∈ tables_1 := List.mem_append_right _ (List.mem_append_left _ (List.mem_of_getElem? (i := 79) rfl))
theorem tw320 : (Cond.code ⟨"FieldAfterField$Marks", "fieldsOf", "(I)I"⟩ prog_4_method_10_code 4 (some .int)) ∈ tables_1 := List.mem_append_right _ (List.mem_append_left _ (List.mem_of_getElem? (i := 80) rfl))
theorem tw321 : (Cond.methodLinkNest "FieldAfterField$Marks" 47 ⟨"FieldAfterField", "isIn", "(II)Z"⟩ "FieldAfterField") ∈ tables_1 := List.mem_append_right _ (List.mem_append_left _ (List.mem_of_getElem? (i := 81) rfl))
theorem tw322 : (Cond.methodLink "FieldAfterField$Marks" 51 ⟨"FieldAfterField$Marks", "hasEarlierOfField", "(II)Z"⟩) ∈ tables_1 := List.mem_append_right _ (List.mem_append_left _ (List.mem_of_getElem? (i := 82) rfl))
theorem tw323 : (Cond.privateMethod ⟨"FieldAfterField$Marks", "hasEarlierOfField", "(II)Z"⟩) ∈ tables_1 := List.mem_append_right _ (List.mem_append_left _ (List.mem_of_getElem? (i := 83) rfl))
theorem tw324 : (Cond.instanceMethod ⟨"FieldAfterField$Marks", "hasEarlierOfField", "(II)Z"⟩) ∈ tables_1 := List.mem_append_right _ (List.mem_append_left _ (List.mem_of_getElem? (i := 84) rfl))
theorem tw325 : (Cond.code ⟨"FieldAfterField$Marks", "hasEarlierOfField", "(II)Z"⟩ prog_4_method_11_code 4 (some .boolean)) ∈ tables_1 := List.mem_append_right _ (List.mem_append_left _ (List.mem_of_getElem? (i := 85) rfl))
theorem tw326 : (Cond.methodLink "FieldAfterFieldLaw" 37 ⟨"FieldAfterField", "det", "(I)J"⟩) ∈ tables_1 := List.mem_append_right _ (List.mem_append_left _ (List.mem_of_getElem? (i := 86) rfl))
theorem tw327 : (Cond.instanceMethod ⟨"FieldAfterField", "det", "(I)J"⟩) ∈ tables_1 := List.mem_append_right _ (List.mem_append_left _ (List.mem_of_getElem? (i := 87) rfl))
theorem tw328 : (Cond.selects "FieldAfterField" ⟨"FieldAfterField", "det", "(I)J"⟩ ⟨"FieldAfterField", "det", "(I)J"⟩) ∈ tables_1 := List.mem_append_right _ (List.mem_append_left _ (List.mem_of_getElem? (i := 88) rfl))
theorem tw329 : (Cond.code ⟨"FieldAfterField", "det", "(I)J"⟩ prog_1_method_7_code 2 (some .long)) ∈ tables_1 := List.mem_append_right _ (List.mem_append_left _ (List.mem_of_getElem? (i := 89) rfl))
theorem tw330 : (Cond.constantLong "FieldAfterField" 115 (-100002)) ∈ tables_1 := List.mem_append_right _ (List.mem_append_left _ (List.mem_of_getElem? (i := 90) rfl))
theorem tw331 : (Cond.methodLinkNest "FieldAfterField" 117 ⟨"FieldAfterField$Fit", "make", "(LFieldAfterField$Marks;II)Z"⟩ "FieldAfterField") ∈ tables_1 := List.mem_append_right _ (List.mem_append_left _ (List.mem_of_getElem? (i := 91) rfl))
theorem tw332 : (Cond.privateMethod ⟨"FieldAfterField$Fit", "make", "(LFieldAfterField$Marks;II)Z"⟩) ∈ tables_1 := List.mem_append_right _ (List.mem_append_left _ (List.mem_of_getElem? (i := 92) rfl))
theorem tw333 : (Cond.instanceMethod ⟨"FieldAfterField$Fit", "make", "(LFieldAfterField$Marks;II)Z"⟩) ∈ tables_1 := List.mem_append_right _ (List.mem_append_left _ (List.mem_of_getElem? (i := 93) rfl))
theorem tw334 : (Cond.code ⟨"FieldAfterField$Fit", "make", "(LFieldAfterField$Marks;II)Z"⟩ prog_3_method_2_code 5 (some .boolean)) ∈ tables_1 := List.mem_append_right _ (List.mem_append_left _ (List.mem_of_getElem? (i := 94) rfl))
theorem tw335 : (Cond.methodLinkNest "FieldAfterField$Fit" 30 ⟨"FieldAfterField$Table", "clear", "(I)V"⟩ "FieldAfterField") ∈ tables_1 := List.mem_append_right _ (List.mem_append_left _ (List.mem_of_getElem? (i := 95) rfl))
theorem tw336 : (Cond.privateMethod ⟨"FieldAfterField$Table", "clear", "(I)V"⟩) ∈ tables_1 := List.mem_append_right _ (List.mem_append_left _ (List.mem_of_getElem? (i := 96) rfl))
theorem tw337 : (Cond.instanceMethod ⟨"FieldAfterField$Table", "clear", "(I)V"⟩) ∈ tables_1 := List.mem_append_right _ (List.mem_append_left _ (List.mem_of_getElem? (i := 97) rfl))
theorem tw338 : (Cond.code ⟨"FieldAfterField$Table", "clear", "(I)V"⟩ prog_7_method_2_code 2 (none : Option Jvm.ClassFile.FieldType)) ∈ tables_1 := List.mem_append_right _ (List.mem_append_left _ (List.mem_of_getElem? (i := 98) rfl))
theorem tw339 : (Cond.methodLinkNest "FieldAfterField$Fit" 39 ⟨"FieldAfterField", "isIn", "(II)Z"⟩ "FieldAfterField") ∈ tables_1 := List.mem_append_right _ (List.mem_append_left _ (List.mem_of_getElem? (i := 99) rfl))
theorem tw340 : (Cond.methodLinkNest "FieldAfterField$Fit" 43 ⟨"FieldAfterField$Marks", "secondTerm", "(II)I"⟩ "FieldAfterField") ∈ tables_1 := List.mem_append_right _ (List.mem_append_left _ (List.mem_of_getElem? (i := 100) rfl))
theorem tw341 : (Cond.privateMethod ⟨"FieldAfterField$Marks", "secondTerm", "(II)I"⟩) ∈ tables_1 := List.mem_append_right _ (List.mem_append_left _ (List.mem_of_getElem? (i := 101) rfl))
theorem tw342 : (Cond.instanceMethod ⟨"FieldAfterField$Marks", "secondTerm", "(II)I"⟩) ∈ tables_1 := List.mem_append_right _ (List.mem_append_left _ (List.mem_of_getElem? (i := 102) rfl))
theorem tw343 : (Cond.code ⟨"FieldAfterField$Marks", "secondTerm", "(II)I"⟩ prog_4_method_8_code 3 (some .int)) ∈ tables_1 := List.mem_append_right _ (List.mem_append_left _ (List.mem_of_getElem? (i := 103) rfl))
theorem tw344 : (Cond.methodLinkNest "FieldAfterField$Fit" 47 ⟨"FieldAfterField$Marks", "thirdTerm", "(II)I"⟩ "FieldAfterField") ∈ tables_1 := List.mem_append_right _ (List.mem_append_left _ (List.mem_of_getElem? (i := 104) rfl))
theorem tw345 : (Cond.privateMethod ⟨"FieldAfterField$Marks", "thirdTerm", "(II)I"⟩) ∈ tables_1 := List.mem_append_right _ (List.mem_append_left _ (List.mem_of_getElem? (i := 105) rfl))
theorem tw346 : (Cond.instanceMethod ⟨"FieldAfterField$Marks", "thirdTerm", "(II)I"⟩) ∈ tables_1 := List.mem_append_right _ (List.mem_append_left _ (List.mem_of_getElem? (i := 106) rfl))
theorem tw347 : (Cond.code ⟨"FieldAfterField$Marks", "thirdTerm", "(II)I"⟩ prog_4_method_9_code 3 (some .int)) ∈ tables_1 := List.mem_append_right _ (List.mem_append_left _ (List.mem_of_getElem? (i := 107) rfl))
theorem tw348 : (Cond.methodLinkNest "FieldAfterField$Fit" 50 ⟨"FieldAfterField$Table", "add", "(JJI)V"⟩ "FieldAfterField") ∈ tables_1 := List.mem_append_right _ (List.mem_append_left _ (List.mem_of_getElem? (i := 108) rfl))
theorem tw349 : (Cond.privateMethod ⟨"FieldAfterField$Table", "add", "(JJI)V"⟩) ∈ tables_1 := List.mem_append_right _ (List.mem_append_left _ (List.mem_of_getElem? (i := 109) rfl))
theorem tw350 : (Cond.instanceMethod ⟨"FieldAfterField$Table", "add", "(JJI)V"⟩) ∈ tables_1 := List.mem_append_right _ (List.mem_append_left _ (List.mem_of_getElem? (i := 110) rfl))
theorem tw351 : (Cond.code ⟨"FieldAfterField$Table", "add", "(JJI)V"⟩ prog_7_method_3_code 6 (none : Option Jvm.ClassFile.FieldType)) ∈ tables_1 := List.mem_append_right _ (List.mem_append_left _ (List.mem_of_getElem? (i := 111) rfl))
theorem tw352 : (Cond.methodLinkNest "FieldAfterField$Fit" 54 ⟨"FieldAfterField$Table", "turnBack", "()V"⟩ "FieldAfterField") ∈ tables_1 := List.mem_append_right _ (List.mem_append_left _ (List.mem_of_getElem? (i := 112) rfl))
theorem tw353 : (Cond.privateMethod ⟨"FieldAfterField$Table", "turnBack", "()V"⟩) ∈ tables_1 := List.mem_append_right _ (List.mem_append_left _ (List.mem_of_getElem? (i := 113) rfl))
theorem tw354 : (Cond.instanceMethod ⟨"FieldAfterField$Table", "turnBack", "()V"⟩) ∈ tables_1 := List.mem_append_right _ (List.mem_append_left _ (List.mem_of_getElem? (i := 114) rfl))
theorem tw355 : (Cond.code ⟨"FieldAfterField$Table", "turnBack", "()V"⟩ prog_7_method_4_code 1 (none : Option Jvm.ClassFile.FieldType)) ∈ tables_1 := List.mem_append_right _ (List.mem_append_left _ (List.mem_of_getElem? (i := 115) rfl))
theorem tw356 : (Cond.methodLink "FieldAfterField$Fit" 57 ⟨"FieldAfterField$Fit", "makeSums", "(LFieldAfterField$Marks;II)V"⟩) ∈ tables_1 := List.mem_append_right _ (List.mem_append_left _ (List.mem_of_getElem? (i := 116) rfl))
theorem tw357 : (Cond.privateMethod ⟨"FieldAfterField$Fit", "makeSums", "(LFieldAfterField$Marks;II)V"⟩) ∈ tables_1 := List.mem_append_right _ (List.mem_append_left _ (List.mem_of_getElem? (i := 117) rfl))
theorem tw358 : (Cond.instanceMethod ⟨"FieldAfterField$Fit", "makeSums", "(LFieldAfterField$Marks;II)V"⟩) ∈ tables_1 := List.mem_append_right _ (List.mem_append_left _ (List.mem_of_getElem? (i := 118) rfl))
theorem tw359 : (Cond.code ⟨"FieldAfterField$Fit", "makeSums", "(LFieldAfterField$Marks;II)V"⟩ prog_3_method_3_code 8 (none : Option Jvm.ClassFile.FieldType)) ∈ tables_1 := List.mem_append_right _ (List.mem_append_left _ (List.mem_of_getElem? (i := 119) rfl))
theorem tw360 : (Cond.methodLink "FieldAfterField$Fit" 61 ⟨"FieldAfterField$Fit", "makeFactors", "(I)V"⟩) ∈ tables_1 := List.mem_append_right _ (List.mem_append_left _ (List.mem_of_getElem? (i := 120) rfl))
theorem tw361 : (Cond.privateMethod ⟨"FieldAfterField$Fit", "makeFactors", "(I)V"⟩) ∈ tables_1 := List.mem_append_right _ (List.mem_append_left _ (List.mem_of_getElem? (i := 121) rfl))
theorem tw362 : (Cond.instanceMethod ⟨"FieldAfterField$Fit", "makeFactors", "(I)V"⟩) ∈ tables_1 := List.mem_append_right _ (List.mem_append_left _ (List.mem_of_getElem? (i := 122) rfl))
theorem tw363 : (Cond.code ⟨"FieldAfterField$Fit", "makeFactors", "(I)V"⟩ prog_3_method_4_code 4 (none : Option Jvm.ClassFile.FieldType)) ∈ tables_1 := List.mem_append_right _ (List.mem_append_left _ (List.mem_of_getElem? (i := 123) rfl))
theorem tw364 : (Cond.methodLink "FieldAfterFieldLaw" 42 ⟨"FieldAfterField", "fit", "(IIII)J"⟩) ∈ tables_1 := List.mem_append_right _ (List.mem_append_left _ (List.mem_of_getElem? (i := 124) rfl))
theorem tw365 : (Cond.instanceMethod ⟨"FieldAfterField", "fit", "(IIII)J"⟩) ∈ tables_1 := List.mem_append_right _ (List.mem_append_left _ (List.mem_of_getElem? (i := 125) rfl))
theorem tw366 : (Cond.selects "FieldAfterField" ⟨"FieldAfterField", "fit", "(IIII)J"⟩ ⟨"FieldAfterField", "fit", "(IIII)J"⟩) ∈ tables_1 := List.mem_append_right _ (List.mem_append_left _ (List.mem_of_getElem? (i := 126) rfl))
theorem tw367 : (Cond.code ⟨"FieldAfterField", "fit", "(IIII)J"⟩ prog_1_method_8_code 5 (some .long)) ∈ tables_1 := List.mem_append_right _ (List.mem_append_left _ (List.mem_of_getElem? (i := 127) rfl))
theorem tw368 : (Cond.methodLink "FieldAfterField" 131 ⟨"FieldAfterField", "outsideFit", "(III)Z"⟩) ∈ tables_1 := List.mem_append_right _ (List.mem_append_left _ (List.mem_of_getElem? (i := 128) rfl))
theorem tw369 : (Cond.static ⟨"FieldAfterField", "outsideFit", "(III)Z"⟩) ∈ tables_1 := List.mem_append_right _ (List.mem_append_left _ (List.mem_of_getElem? (i := 129) rfl))
theorem tw370 : (Cond.code ⟨"FieldAfterField", "outsideFit", "(III)Z"⟩ prog_1_method_24_code 3 (some .boolean)) ∈ tables_1 := List.mem_append_right _ (List.mem_append_left _ (List.mem_of_getElem? (i := 130) rfl))
theorem tw371 : (Cond.methodLink "FieldAfterField" 134 ⟨"FieldAfterField", "lastTerm", "(I)I"⟩) ∈ tables_1 := List.mem_append_right _ (List.mem_append_left _ (List.mem_of_getElem? (i := 131) rfl))
theorem tw372 : (Cond.static ⟨"FieldAfterField", "lastTerm", "(I)I"⟩) ∈ tables_1 := List.mem_append_right _ (List.mem_append_left _ (List.mem_of_getElem? (i := 132) rfl))
theorem tw373 : (Cond.code ⟨"FieldAfterField", "lastTerm", "(I)I"⟩ prog_1_method_25_code 1 (some .int)) ∈ tables_1 := List.mem_append_right _ (List.mem_append_left _ (List.mem_of_getElem? (i := 133) rfl))
theorem tw374 : (Cond.constantLong "FieldAfterField" 137 (-100003)) ∈ tables_1 := List.mem_append_right _ (List.mem_append_left _ (List.mem_of_getElem? (i := 134) rfl))
theorem tw375 : (Cond.methodLink "FieldAfterField" 143 ⟨"FieldAfterField", "partOf", "(JJI)J"⟩) ∈ tables_1 := List.mem_append_right _ (List.mem_append_left _ (List.mem_of_getElem? (i := 135) rfl))
theorem tw376 : (Cond.static ⟨"FieldAfterField", "partOf", "(JJI)J"⟩) ∈ tables_1 := List.mem_append_right _ (List.mem_append_left _ (List.mem_of_getElem? (i := 136) rfl))
theorem tw377 : (Cond.code ⟨"FieldAfterField", "partOf", "(JJI)J"⟩ prog_1_method_27_code 7 (some .long)) ∈ tables_1 := List.mem_append_right _ (List.mem_append_left _ (List.mem_of_getElem? (i := 137) rfl))
theorem tw378 : (Cond.methodLink "FieldAfterField" 211 ⟨"java/lang/Math", "abs", "(J)J"⟩) ∈ tables_1 := List.mem_append_right _ (List.mem_append_left _ (List.mem_of_getElem? (i := 138) rfl))
theorem tw379 : (Cond.static ⟨"java/lang/Math", "abs", "(J)J"⟩) ∈ tables_1 := List.mem_append_right _ (List.mem_append_left _ (List.mem_of_getElem? (i := 139) rfl))
theorem tw380 : (Cond.code ⟨"java/lang/Math", "abs", "(J)J"⟩ prog_11_method_61_code 2 (some .long)) ∈ tables_1 := List.mem_append_right _ (List.mem_append_left _ (List.mem_of_getElem? (i := 140) rfl))
theorem tw381 : (Cond.methodLink "FieldAfterField" 217 ⟨"FieldAfterField", "commonDivisor", "(JJ)J"⟩) ∈ tables_1 := List.mem_append_right _ (List.mem_append_left _ (List.mem_of_getElem? (i := 141) rfl))
theorem tw382 : (Cond.static ⟨"FieldAfterField", "commonDivisor", "(JJ)J"⟩) ∈ tables_1 := List.mem_append_right _ (List.mem_append_left _ (List.mem_of_getElem? (i := 142) rfl))
theorem tw383 : (Cond.code ⟨"FieldAfterField", "commonDivisor", "(JJ)J"⟩ prog_1_method_28_code 7 (some .long)) ∈ tables_1 := List.mem_append_right _ (List.mem_append_left _ (List.mem_of_getElem? (i := 143) rfl))
theorem tw384 : (Cond.methodLink "FieldAfterFieldLaw" 47 ⟨"FieldAfterField", "rest", "(IIII)J"⟩) ∈ tables_1 := List.mem_append_right _ (List.mem_append_left _ (List.mem_of_getElem? (i := 144) rfl))
theorem tw385 : (Cond.instanceMethod ⟨"FieldAfterField", "rest", "(IIII)J"⟩) ∈ tables_1 := List.mem_append_right _ (List.mem_append_left _ (List.mem_of_getElem? (i := 145) rfl))
theorem tw386 : (Cond.selects "FieldAfterField" ⟨"FieldAfterField", "rest", "(IIII)J"⟩ ⟨"FieldAfterField", "rest", "(IIII)J"⟩) ∈ tables_1 := List.mem_append_right _ (List.mem_append_left _ (List.mem_of_getElem? (i := 146) rfl))
theorem tw387 : (Cond.code ⟨"FieldAfterField", "rest", "(IIII)J"⟩ prog_1_method_9_code 5 (some .long)) ∈ tables_1 := List.mem_append_right _ (List.mem_append_left _ (List.mem_of_getElem? (i := 147) rfl))
theorem tw388 : (Cond.constantLong "FieldAfterField" 147 (-100001)) ∈ tables_1 := List.mem_append_right _ (List.mem_append_left _ (List.mem_of_getElem? (i := 148) rfl))
theorem tw389 : (Cond.methodLinkNest "FieldAfterField" 149 ⟨"FieldAfterField$Fit", "restOf", "(LFieldAfterField$Marks;II)J"⟩ "FieldAfterField") ∈ tables_1 := List.mem_append_right _ (List.mem_append_left _ (List.mem_of_getElem? (i := 149) rfl))
theorem tw390 : (Cond.privateMethod ⟨"FieldAfterField$Fit", "restOf", "(LFieldAfterField$Marks;II)J"⟩) ∈ tables_1 := List.mem_append_right _ (List.mem_append_left _ (List.mem_of_getElem? (i := 150) rfl))
theorem tw391 : (Cond.instanceMethod ⟨"FieldAfterField$Fit", "restOf", "(LFieldAfterField$Marks;II)J"⟩) ∈ tables_1 := List.mem_append_right _ (List.mem_append_left _ (List.mem_of_getElem? (i := 151) rfl))
theorem tw392 : (Cond.code ⟨"FieldAfterField$Fit", "restOf", "(LFieldAfterField$Marks;II)J"⟩ prog_3_method_5_code 7 (some .long)) ∈ tables_1 := List.mem_append_right _ (List.mem_append_left _ (List.mem_of_getElem? (i := 152) rfl))
theorem tw393 : (Cond.methodLink "FieldAfterFieldLaw" 51 ⟨"FieldAfterField", "spread", "(III)J"⟩) ∈ tables_1 := List.mem_append_right _ (List.mem_append_left _ (List.mem_of_getElem? (i := 153) rfl))
theorem tw394 : (Cond.instanceMethod ⟨"FieldAfterField", "spread", "(III)J"⟩) ∈ tables_1 := List.mem_append_right _ (List.mem_append_left _ (List.mem_of_getElem? (i := 154) rfl))
theorem tw395 : (Cond.selects "FieldAfterField" ⟨"FieldAfterField", "spread", "(III)J"⟩ ⟨"FieldAfterField", "spread", "(III)J"⟩) ∈ tables_1 := List.mem_append_right _ (List.mem_append_left _ (List.mem_of_getElem? (i := 155) rfl))
theorem tw396 : (Cond.code ⟨"FieldAfterField", "spread", "(III)J"⟩ prog_1_method_10_code 4 (some .long)) ∈ tables_1 := List.mem_append_right _ (List.mem_append_left _ (List.mem_of_getElem? (i := 156) rfl))
theorem tw397 : (Cond.methodLinkNest "FieldAfterField" 153 ⟨"FieldAfterField$Fit", "sumOfSquares", "(I)J"⟩ "FieldAfterField") ∈ tables_1 := List.mem_append_right _ (List.mem_append_left _ (List.mem_of_getElem? (i := 157) rfl))
theorem tw398 : (Cond.privateMethod ⟨"FieldAfterField$Fit", "sumOfSquares", "(I)J"⟩) ∈ tables_1 := List.mem_append_right _ (List.mem_append_left _ (List.mem_of_getElem? (i := 158) rfl))
theorem tw399 : (Cond.instanceMethod ⟨"FieldAfterField$Fit", "sumOfSquares", "(I)J"⟩) ∈ tables_1 := List.mem_append_right _ (List.mem_append_left _ (List.mem_of_getElem? (i := 159) rfl))
theorem tw400 : (Cond.code ⟨"FieldAfterField$Fit", "sumOfSquares", "(I)J"⟩ prog_3_method_7_code 4 (some .long)) ∈ tables_1 := List.mem_append_right _ (List.mem_append_left _ (List.mem_of_getElem? (i := 160) rfl))
theorem tw401 : (Cond.methodLink "FieldAfterFieldLaw" 56 ⟨"FieldAfterField", "judge", "(II)I"⟩) ∈ tables_1 := List.mem_append_right _ (List.mem_append_left _ (List.mem_of_getElem? (i := 161) rfl))
theorem tw402 : (Cond.instanceMethod ⟨"FieldAfterField", "judge", "(II)I"⟩) ∈ tables_1 := List.mem_append_right _ (List.mem_append_left _ (List.mem_of_getElem? (i := 162) rfl))
theorem tw403 : (Cond.selects "FieldAfterField" ⟨"FieldAfterField", "judge", "(II)I"⟩ ⟨"FieldAfterField", "judge", "(II)I"⟩) ∈ tables_1 := List.mem_append_right _ (List.mem_append_left _ (List.mem_of_getElem? (i := 163) rfl))
theorem tw404 : (Cond.code ⟨"FieldAfterField", "judge", "(II)I"⟩ prog_1_method_11_code 3 (some .int)) ∈ tables_1 := List.mem_append_right _ (List.mem_append_left _ (List.mem_of_getElem? (i := 164) rfl))
theorem tw405 : (Cond.methodLinkNest "FieldAfterField" 157 ⟨"FieldAfterField$Marks", "notLost", "()I"⟩ "FieldAfterField") ∈ tables_1 := List.mem_append_right _ (List.mem_append_left _ (List.mem_of_getElem? (i := 165) rfl))
theorem tw406 : (Cond.constant "FieldAfterField" 160 (-100003)) ∈ tables_1 := List.mem_append_right _ (List.mem_append_left _ (List.mem_of_getElem? (i := 166) rfl))
theorem tw407 : (Cond.methodLinkNest "FieldAfterField" 161 ⟨"FieldAfterField$Fit", "liars", "(LFieldAfterField$Marks;II)I"⟩ "FieldAfterField") ∈ tables_1 := List.mem_append_right _ (List.mem_append_left _ (List.mem_of_getElem? (i := 167) rfl))
theorem tw408 : (Cond.privateMethod ⟨"FieldAfterField$Fit", "liars", "(LFieldAfterField$Marks;II)I"⟩) ∈ tables_1 := List.mem_append_right _ (List.mem_append_left _ (List.mem_of_getElem? (i := 168) rfl))
theorem tw409 : (Cond.instanceMethod ⟨"FieldAfterField$Fit", "liars", "(LFieldAfterField$Marks;II)I"⟩) ∈ tables_1 := List.mem_append_right _ (List.mem_append_left _ (List.mem_of_getElem? (i := 169) rfl))
theorem tw410 : (Cond.code ⟨"FieldAfterField$Fit", "liars", "(LFieldAfterField$Marks;II)I"⟩ prog_3_method_9_code 7 (some .int)) ∈ tables_1 := List.mem_append_right _ (List.mem_append_left _ (List.mem_of_getElem? (i := 170) rfl))
theorem tw411 : (Cond.methodLinkNest "FieldAfterField$Fit" 108 ⟨"FieldAfterField$Marks", "notLost", "()I"⟩ "FieldAfterField") ∈ tables_1 := List.mem_append_right _ (List.mem_append_left _ (List.mem_of_getElem? (i := 171) rfl))
theorem tw412 : (Cond.methodLink "FieldAfterField$Fit" 112 ⟨"FieldAfterField$Fit", "make", "(LFieldAfterField$Marks;II)Z"⟩) ∈ tables_1 := List.mem_append_right _ (List.mem_append_left _ (List.mem_of_getElem? (i := 172) rfl))
theorem tw413 : (Cond.methodLink "FieldAfterField$Fit" 116 ⟨"FieldAfterField$Fit", "above", "(LFieldAfterField$Marks;II)I"⟩) ∈ tables_1 := List.mem_append_right _ (List.mem_append_left _ (List.mem_of_getElem? (i := 173) rfl))
theorem tw414 : (Cond.privateMethod ⟨"FieldAfterField$Fit", "above", "(LFieldAfterField$Marks;II)I"⟩) ∈ tables_1 := List.mem_append_right _ (List.mem_append_left _ (List.mem_of_getElem? (i := 174) rfl))
theorem tw415 : (Cond.instanceMethod ⟨"FieldAfterField$Fit", "above", "(LFieldAfterField$Marks;II)I"⟩) ∈ tables_1 := List.mem_append_right _ (List.mem_append_left _ (List.mem_of_getElem? (i := 175) rfl))
theorem tw416 : (Cond.code ⟨"FieldAfterField$Fit", "above", "(LFieldAfterField$Marks;II)I"⟩ prog_3_method_8_code 6 (some .int)) ∈ tables_1 := List.mem_append_right _ (List.mem_append_left _ (List.mem_of_getElem? (i := 176) rfl))
theorem tw417 : (Cond.methodLink "FieldAfterField$Fit" 104 ⟨"FieldAfterField$Fit", "greaterRestOf", "(LFieldAfterField$Marks;I)J"⟩) ∈ tables_1 := List.mem_append_right _ (List.mem_append_left _ (List.mem_of_getElem? (i := 177) rfl))
theorem tw418 : (Cond.privateMethod ⟨"FieldAfterField$Fit", "greaterRestOf", "(LFieldAfterField$Marks;I)J"⟩) ∈ tables_1 := List.mem_append_right _ (List.mem_append_left _ (List.mem_of_getElem? (i := 178) rfl))
theorem tw419 : (Cond.instanceMethod ⟨"FieldAfterField$Fit", "greaterRestOf", "(LFieldAfterField$Marks;I)J"⟩) ∈ tables_1 := List.mem_append_right _ (List.mem_append_left _ (List.mem_of_getElem? (i := 179) rfl))
theorem tw420 : (Cond.code ⟨"FieldAfterField$Fit", "greaterRestOf", "(LFieldAfterField$Marks;I)J"⟩ prog_3_method_6_code 3 (some .long)) ∈ tables_1 := List.mem_append_right _ (List.mem_append_left _ (List.mem_of_getElem? (i := 180) rfl))
theorem tw421 : (Cond.methodLink "FieldAfterField$Fit" 90 ⟨"FieldAfterField$Fit", "restOf", "(LFieldAfterField$Marks;II)J"⟩) ∈ tables_1 := List.mem_append_right _ (List.mem_append_left _ (List.mem_of_getElem? (i := 181) rfl))
theorem tw422 : (Cond.methodLink "FieldAfterField$Fit" 94 ⟨"java/lang/Math", "abs", "(J)J"⟩) ∈ tables_1 := List.mem_append_right _ (List.mem_append_left _ (List.mem_of_getElem? (i := 182) rfl))
theorem tw423 : (Cond.methodLink "FieldAfterField$Fit" 100 ⟨"java/lang/Math", "max", "(JJ)J"⟩) ∈ tables_1 := List.mem_append_right _ (List.mem_append_left _ (List.mem_of_getElem? (i := 183) rfl))
theorem tw424 : (Cond.static ⟨"java/lang/Math", "max", "(JJ)J"⟩) ∈ tables_1 := List.mem_append_right _ (List.mem_append_left _ (List.mem_of_getElem? (i := 184) rfl))
theorem tw425 : (Cond.code ⟨"java/lang/Math", "max", "(JJ)J"⟩ prog_11_method_66_code 4 (some .long)) ∈ tables_1 := List.mem_append_right _ (List.mem_append_left _ (List.mem_of_getElem? (i := 185) rfl))
theorem tw426 : (Cond.methodLink "FieldAfterField$Fit" 120 ⟨"FieldAfterField$Fit", "worstOf", "(LFieldAfterField$Marks;I)I"⟩) ∈ tables_1 := List.mem_append_right _ (List.mem_append_left _ (List.mem_of_getElem? (i := 186) rfl))
theorem tw427 : (Cond.privateMethod ⟨"FieldAfterField$Fit", "worstOf", "(LFieldAfterField$Marks;I)I"⟩) ∈ tables_1 := List.mem_append_right _ (List.mem_append_left _ (List.mem_of_getElem? (i := 187) rfl))
theorem tw428 : (Cond.instanceMethod ⟨"FieldAfterField$Fit", "worstOf", "(LFieldAfterField$Marks;I)I"⟩) ∈ tables_1 := List.mem_append_right _ (List.mem_append_left _ (List.mem_of_getElem? (i := 188) rfl))
theorem tw429 : (Cond.code ⟨"FieldAfterField$Fit", "worstOf", "(LFieldAfterField$Marks;I)I"⟩ prog_3_method_10_code 7 (some .int)) ∈ tables_1 := List.mem_append_right _ (List.mem_append_left _ (List.mem_of_getElem? (i := 189) rfl))
theorem tw430 : (Cond.methodLink "FieldAfterFieldLaw" 60 ⟨"FieldAfterField", "plan", "(III)J"⟩) ∈ tables_1 := List.mem_append_right _ (List.mem_append_left _ (List.mem_of_getElem? (i := 190) rfl))
theorem tw431 : (Cond.instanceMethod ⟨"FieldAfterField", "plan", "(III)J"⟩) ∈ tables_1 := List.mem_append_right _ (List.mem_append_left _ (List.mem_of_getElem? (i := 191) rfl))
theorem tw432 : (Cond.selects "FieldAfterField" ⟨"FieldAfterField", "plan", "(III)J"⟩ ⟨"FieldAfterField", "plan", "(III)J"⟩) ∈ tables_1 := List.mem_append_right _ (List.mem_append_left _ (List.mem_of_getElem? (i := 192) rfl))
theorem tw433 : (Cond.code ⟨"FieldAfterField", "plan", "(III)J"⟩ prog_1_method_12_code 4 (some .long)) ∈ tables_1 := List.mem_append_right _ (List.mem_append_left _ (List.mem_of_getElem? (i := 193) rfl))
theorem tw434 : (Cond.methodLinkNest "FieldAfterField" 165 ⟨"FieldAfterField$Planner", "make", "(LFieldAfterField$Marks;II)Z"⟩ "FieldAfterField") ∈ tables_1 := List.mem_append_right _ (List.mem_append_left _ (List.mem_of_getElem? (i := 194) rfl))
theorem tw435 : (Cond.privateMethod ⟨"FieldAfterField$Planner", "make", "(LFieldAfterField$Marks;II)Z"⟩) ∈ tables_1 := List.mem_append_right _ (List.mem_append_left _ (List.mem_of_getElem? (i := 195) rfl))
theorem tw436 : (Cond.instanceMethod ⟨"FieldAfterField$Planner", "make", "(LFieldAfterField$Marks;II)Z"⟩) ∈ tables_1 := List.mem_append_right _ (List.mem_append_left _ (List.mem_of_getElem? (i := 196) rfl))
theorem tw437 : (Cond.code ⟨"FieldAfterField$Planner", "make", "(LFieldAfterField$Marks;II)Z"⟩ prog_5_method_2_code 4 (some .boolean)) ∈ tables_1 := List.mem_append_right _ (List.mem_append_left _ (List.mem_of_getElem? (i := 197) rfl))
theorem tw438 : (Cond.methodLinkNest "FieldAfterField$Planner" 23 ⟨"FieldAfterField$Table", "clear", "(I)V"⟩ "FieldAfterField") ∈ tables_1 := List.mem_append_right _ (List.mem_append_left _ (List.mem_of_getElem? (i := 198) rfl))
theorem tw439 : (Cond.methodLink "FieldAfterField$Planner" 27 ⟨"FieldAfterField$Planner", "choose", "(LFieldAfterField$Marks;III)V"⟩) ∈ tables_1 := List.mem_append_right _ (List.mem_append_left _ (List.mem_of_getElem? (i := 199) rfl))
theorem tw440 : (Cond.privateMethod ⟨"FieldAfterField$Planner", "choose", "(LFieldAfterField$Marks;III)V"⟩) ∈ tables_1 := List.mem_append_right _ (List.mem_append_left _ (List.mem_of_getElem? (i := 200) rfl))
theorem tw441 : (Cond.instanceMethod ⟨"FieldAfterField$Planner", "choose", "(LFieldAfterField$Marks;III)V"⟩) ∈ tables_1 := List.mem_append_right _ (List.mem_append_left _ (List.mem_of_getElem? (i := 201) rfl))
theorem tw442 : (Cond.code ⟨"FieldAfterField$Planner", "choose", "(LFieldAfterField$Marks;III)V"⟩ prog_5_method_3_code 8 (none : Option Jvm.ClassFile.FieldType)) ∈ tables_1 := List.mem_append_right _ (List.mem_append_left _ (List.mem_of_getElem? (i := 202) rfl))
theorem tw443 : (Cond.methodLink "FieldAfterField$Planner" 31 ⟨"FieldAfterField$Planner", "weigh", "(LFieldAfterField$Marks;I)V"⟩) ∈ tables_1 := List.mem_append_right _ (List.mem_append_left _ (List.mem_of_getElem? (i := 203) rfl))
theorem tw444 : (Cond.privateMethod ⟨"FieldAfterField$Planner", "weigh", "(LFieldAfterField$Marks;I)V"⟩) ∈ tables_1 := List.mem_append_right _ (List.mem_append_left _ (List.mem_of_getElem? (i := 204) rfl))
theorem tw445 : (Cond.instanceMethod ⟨"FieldAfterField$Planner", "weigh", "(LFieldAfterField$Marks;I)V"⟩) ∈ tables_1 := List.mem_append_right _ (List.mem_append_left _ (List.mem_of_getElem? (i := 205) rfl))
theorem tw446 : (Cond.code ⟨"FieldAfterField$Planner", "weigh", "(LFieldAfterField$Marks;I)V"⟩ prog_5_method_4_code 6 (none : Option Jvm.ClassFile.FieldType)) ∈ tables_1 := List.mem_append_right _ (List.mem_append_left _ (List.mem_of_getElem? (i := 206) rfl))
theorem tw447 : (Cond.methodLinkNest "FieldAfterField$Planner" 51 ⟨"FieldAfterField$Table", "turnBack", "()V"⟩ "FieldAfterField") ∈ tables_1 := List.mem_append_right _ (List.mem_append_left _ (List.mem_of_getElem? (i := 207) rfl))
theorem tw448 : (Cond.methodLinkNest "FieldAfterField$Planner" 40 ⟨"FieldAfterField$Marks", "secondTerm", "(II)I"⟩ "FieldAfterField") ∈ tables_1 := List.mem_append_right _ (List.mem_append_left _ (List.mem_of_getElem? (i := 208) rfl))
theorem tw449 : (Cond.methodLinkNest "FieldAfterField$Planner" 44 ⟨"FieldAfterField$Marks", "thirdTerm", "(II)I"⟩ "FieldAfterField") ∈ tables_1 := List.mem_append_right _ (List.mem_append_left _ (List.mem_of_getElem? (i := 209) rfl))
theorem tw450 : (Cond.methodLinkNest "FieldAfterField$Planner" 58 ⟨"FieldAfterField$Table", "formOf", "(JJ)J"⟩ "FieldAfterField") ∈ tables_1 := List.mem_append_right _ (List.mem_append_left _ (List.mem_of_getElem? (i := 210) rfl))
theorem tw451 : (Cond.privateMethod ⟨"FieldAfterField$Table", "formOf", "(JJ)J"⟩) ∈ tables_1 := List.mem_append_right _ (List.mem_append_left _ (List.mem_of_getElem? (i := 211) rfl))
theorem tw452 : (Cond.instanceMethod ⟨"FieldAfterField$Table", "formOf", "(JJ)J"⟩) ∈ tables_1 := List.mem_append_right _ (List.mem_append_left _ (List.mem_of_getElem? (i := 212) rfl))
theorem tw453 : (Cond.code ⟨"FieldAfterField$Table", "formOf", "(JJ)J"⟩ prog_7_method_5_code 5 (some .long)) ∈ tables_1 := List.mem_append_right _ (List.mem_append_left _ (List.mem_of_getElem? (i := 213) rfl))
theorem tw454 : (Cond.constantLong "FieldAfterField$Table" 49 (2)) ∈ tables_1 := List.mem_append_right _ (List.mem_append_left _ (List.mem_of_getElem? (i := 214) rfl))
theorem tw455 : (Cond.methodLink "FieldAfterField$Planner" 62 ⟨"java/lang/Math", "max", "(JJ)J"⟩) ∈ tables_1 := List.mem_append_right _ (List.mem_append_left _ (List.mem_of_getElem? (i := 215) rfl))
theorem tw456 : (Cond.methodLinkNest "FieldAfterField$Planner" 47 ⟨"FieldAfterField$Table", "add", "(JJI)V"⟩ "FieldAfterField") ∈ tables_1 := List.mem_append_right _ (List.mem_append_left _ (List.mem_of_getElem? (i := 216) rfl))
theorem tw457 : (Cond.methodLink "FieldAfterFieldLaw" 64 ⟨"FieldAfterField", "lot", "(II)I"⟩) ∈ tables_1 := List.mem_append_right _ (List.mem_append_left _ (List.mem_of_getElem? (i := 217) rfl))
theorem tw458 : (Cond.instanceMethod ⟨"FieldAfterField", "lot", "(II)I"⟩) ∈ tables_1 := List.mem_append_right _ (List.mem_append_left _ (List.mem_of_getElem? (i := 218) rfl))
theorem tw459 : (Cond.selects "FieldAfterField" ⟨"FieldAfterField", "lot", "(II)I"⟩ ⟨"FieldAfterField", "lot", "(II)I"⟩) ∈ tables_1 := List.mem_append_right _ (List.mem_append_left _ (List.mem_of_getElem? (i := 219) rfl))
theorem tw460 : (Cond.code ⟨"FieldAfterField", "lot", "(II)I"⟩ prog_1_method_13_code 3 (some .int)) ∈ tables_1 := List.mem_append_right _ (List.mem_append_left _ (List.mem_of_getElem? (i := 220) rfl))
theorem tw461 : (Cond.methodLinkNest "FieldAfterField" 175 ⟨"FieldAfterField$Book", "add", "(II)I"⟩ "FieldAfterField") ∈ tables_1 := List.mem_append_right _ (List.mem_append_left _ (List.mem_of_getElem? (i := 221) rfl))
theorem tw462 : (Cond.privateMethod ⟨"FieldAfterField$Book", "add", "(II)I"⟩) ∈ tables_1 := List.mem_append_right _ (List.mem_append_left _ (List.mem_of_getElem? (i := 222) rfl))
theorem tw463 : (Cond.instanceMethod ⟨"FieldAfterField$Book", "add", "(II)I"⟩) ∈ tables_1 := List.mem_append_right _ (List.mem_append_left _ (List.mem_of_getElem? (i := 223) rfl))
theorem tw464 : (Cond.code ⟨"FieldAfterField$Book", "add", "(II)I"⟩ prog_2_method_3_code 4 (some .int)) ∈ tables_1 := List.mem_append_right _ (List.mem_append_left _ (List.mem_of_getElem? (i := 224) rfl))
theorem tw465 : (Cond.methodLink "FieldAfterFieldLaw" 68 ⟨"FieldAfterField", "back", "(II)I"⟩) ∈ tables_1 := List.mem_append_right _ (List.mem_append_left _ (List.mem_of_getElem? (i := 225) rfl))
theorem tw466 : (Cond.instanceMethod ⟨"FieldAfterField", "back", "(II)I"⟩) ∈ tables_1 := List.mem_append_right _ (List.mem_append_left _ (List.mem_of_getElem? (i := 226) rfl))
theorem tw467 : (Cond.selects "FieldAfterField" ⟨"FieldAfterField", "back", "(II)I"⟩ ⟨"FieldAfterField", "back", "(II)I"⟩) ∈ tables_1 := List.mem_append_right _ (List.mem_append_left _ (List.mem_of_getElem? (i := 227) rfl))
theorem tw468 : (Cond.code ⟨"FieldAfterField", "back", "(II)I"⟩ prog_1_method_14_code 3 (some .int)) ∈ tables_1 := List.mem_append_right _ (List.mem_append_left _ (List.mem_of_getElem? (i := 228) rfl))
theorem tw469 : (Cond.methodLinkNest "FieldAfterField" 178 ⟨"FieldAfterField$Book", "has", "(I)Z"⟩ "FieldAfterField") ∈ tables_1 := List.mem_append_right _ (List.mem_append_left _ (List.mem_of_getElem? (i := 229) rfl))
theorem tw470 : (Cond.privateMethod ⟨"FieldAfterField$Book", "has", "(I)Z"⟩) ∈ tables_1 := List.mem_append_right _ (List.mem_append_left _ (List.mem_of_getElem? (i := 230) rfl))
theorem tw471 : (Cond.instanceMethod ⟨"FieldAfterField$Book", "has", "(I)Z"⟩) ∈ tables_1 := List.mem_append_right _ (List.mem_append_left _ (List.mem_of_getElem? (i := 231) rfl))
theorem tw472 : (Cond.code ⟨"FieldAfterField$Book", "has", "(I)Z"⟩ prog_2_method_2_code 2 (some .boolean)) ∈ tables_1 := List.mem_append_right _ (List.mem_append_left _ (List.mem_of_getElem? (i := 232) rfl))
theorem tw473 : (Cond.methodLinkNest "FieldAfterField" 179 ⟨"FieldAfterField$Book", "setRead", "(II)V"⟩ "FieldAfterField") ∈ tables_1 := List.mem_append_right _ (List.mem_append_left _ (List.mem_of_getElem? (i := 233) rfl))
theorem tw474 : (Cond.privateMethod ⟨"FieldAfterField$Book", "setRead", "(II)V"⟩) ∈ tables_1 := List.mem_append_right _ (List.mem_append_left _ (List.mem_of_getElem? (i := 234) rfl))
theorem tw475 : (Cond.instanceMethod ⟨"FieldAfterField$Book", "setRead", "(II)V"⟩) ∈ tables_1 := List.mem_append_right _ (List.mem_append_left _ (List.mem_of_getElem? (i := 235) rfl))
theorem tw476 : (Cond.code ⟨"FieldAfterField$Book", "setRead", "(II)V"⟩ prog_2_method_4_code 3 (none : Option Jvm.ClassFile.FieldType)) ∈ tables_1 := List.mem_append_right _ (List.mem_append_left _ (List.mem_of_getElem? (i := 236) rfl))
theorem tw477 : (Cond.methodLink "FieldAfterFieldLaw" 72 ⟨"FieldAfterField", "mend", "(I)I"⟩) ∈ tables_1 := List.mem_append_right _ (List.mem_append_left _ (List.mem_of_getElem? (i := 237) rfl))
theorem tw478 : (Cond.instanceMethod ⟨"FieldAfterField", "mend", "(I)I"⟩) ∈ tables_1 := List.mem_append_right _ (List.mem_append_left _ (List.mem_of_getElem? (i := 238) rfl))
theorem tw479 : (Cond.selects "FieldAfterField" ⟨"FieldAfterField", "mend", "(I)I"⟩ ⟨"FieldAfterField", "mend", "(I)I"⟩) ∈ tables_1 := List.mem_append_right _ (List.mem_append_left _ (List.mem_of_getElem? (i := 239) rfl))
theorem tw480 : (Cond.code ⟨"FieldAfterField", "mend", "(I)I"⟩ prog_1_method_15_code 2 (some .int)) ∈ tables_1 := List.mem_append_right _ (List.mem_append_right _ (List.mem_append_left _ (List.mem_of_getElem? (i := 0) rfl)))
theorem tw481 : (Cond.methodLinkNest "FieldAfterField" 183 ⟨"FieldAfterField$Book", "setMended", "(I)V"⟩ "FieldAfterField") ∈ tables_1 := List.mem_append_right _ (List.mem_append_right _ (List.mem_append_left _ (List.mem_of_getElem? (i := 1) rfl)))
theorem tw482 : (Cond.privateMethod ⟨"FieldAfterField$Book", "setMended", "(I)V"⟩) ∈ tables_1 := List.mem_append_right _ (List.mem_append_right _ (List.mem_append_left _ (List.mem_of_getElem? (i := 2) rfl)))
theorem tw483 : (Cond.instanceMethod ⟨"FieldAfterField$Book", "setMended", "(I)V"⟩) ∈ tables_1 := List.mem_append_right _ (List.mem_append_right _ (List.mem_append_left _ (List.mem_of_getElem? (i := 3) rfl)))
theorem tw484 : (Cond.code ⟨"FieldAfterField$Book", "setMended", "(I)V"⟩ prog_2_method_5_code 2 (none : Option Jvm.ClassFile.FieldType)) ∈ tables_1 := List.mem_append_right _ (List.mem_append_right _ (List.mem_append_left _ (List.mem_of_getElem? (i := 4) rfl)))
theorem tw485 : (Cond.methodLink "FieldAfterFieldLaw" 76 ⟨"FieldAfterField", "gain", "(I)I"⟩) ∈ tables_1 := List.mem_append_right _ (List.mem_append_right _ (List.mem_append_left _ (List.mem_of_getElem? (i := 5) rfl)))
theorem tw486 : (Cond.instanceMethod ⟨"FieldAfterField", "gain", "(I)I"⟩) ∈ tables_1 := List.mem_append_right _ (List.mem_append_right _ (List.mem_append_left _ (List.mem_of_getElem? (i := 6) rfl)))
theorem tw487 : (Cond.selects "FieldAfterField" ⟨"FieldAfterField", "gain", "(I)I"⟩ ⟨"FieldAfterField", "gain", "(I)I"⟩) ∈ tables_1 := List.mem_append_right _ (List.mem_append_right _ (List.mem_append_left _ (List.mem_of_getElem? (i := 7) rfl)))
theorem tw488 : (Cond.code ⟨"FieldAfterField", "gain", "(I)I"⟩ prog_1_method_16_code 3 (some .int)) ∈ tables_1 := List.mem_append_right _ (List.mem_append_right _ (List.mem_append_left _ (List.mem_of_getElem? (i := 8) rfl)))
theorem tw489 : (Cond.methodLink "FieldAfterFieldLaw" 80 ⟨"FieldAfterField", "state", "(II)I"⟩) ∈ tables_1 := List.mem_append_right _ (List.mem_append_right _ (List.mem_append_left _ (List.mem_of_getElem? (i := 9) rfl)))
theorem tw490 : (Cond.instanceMethod ⟨"FieldAfterField", "state", "(II)I"⟩) ∈ tables_1 := List.mem_append_right _ (List.mem_append_right _ (List.mem_append_left _ (List.mem_of_getElem? (i := 10) rfl)))
theorem tw491 : (Cond.selects "FieldAfterField" ⟨"FieldAfterField", "state", "(II)I"⟩ ⟨"FieldAfterField", "state", "(II)I"⟩) ∈ tables_1 := List.mem_append_right _ (List.mem_append_right _ (List.mem_append_left _ (List.mem_of_getElem? (i := 11) rfl)))
theorem tw492 : (Cond.code ⟨"FieldAfterField", "state", "(II)I"⟩ prog_1_method_17_code 3 (some .int)) ∈ tables_1 := List.mem_append_right _ (List.mem_append_right _ (List.mem_append_left _ (List.mem_of_getElem? (i := 12) rfl)))
theorem tw493 : (Cond.methodLinkNest "FieldAfterField" 189 ⟨"FieldAfterField$Book", "stateAhead", "(II)I"⟩ "FieldAfterField") ∈ tables_1 := List.mem_append_right _ (List.mem_append_right _ (List.mem_append_left _ (List.mem_of_getElem? (i := 13) rfl)))
theorem tw494 : (Cond.privateMethod ⟨"FieldAfterField$Book", "stateAhead", "(II)I"⟩) ∈ tables_1 := List.mem_append_right _ (List.mem_append_right _ (List.mem_append_left _ (List.mem_of_getElem? (i := 14) rfl)))
theorem tw495 : (Cond.instanceMethod ⟨"FieldAfterField$Book", "stateAhead", "(II)I"⟩) ∈ tables_1 := List.mem_append_right _ (List.mem_append_right _ (List.mem_append_left _ (List.mem_of_getElem? (i := 15) rfl)))
theorem tw496 : (Cond.code ⟨"FieldAfterField$Book", "stateAhead", "(II)I"⟩ prog_2_method_7_code 6 (some .int)) ∈ tables_1 := List.mem_append_right _ (List.mem_append_right _ (List.mem_append_left _ (List.mem_of_getElem? (i := 16) rfl)))
theorem tw497 : (Cond.methodLink "FieldAfterFieldLaw" 84 ⟨"FieldAfterField", "advice", "(I)I"⟩) ∈ tables_1 := List.mem_append_right _ (List.mem_append_right _ (List.mem_append_left _ (List.mem_of_getElem? (i := 17) rfl)))
theorem tw498 : (Cond.instanceMethod ⟨"FieldAfterField", "advice", "(I)I"⟩) ∈ tables_1 := List.mem_append_right _ (List.mem_append_right _ (List.mem_append_left _ (List.mem_of_getElem? (i := 18) rfl)))
theorem tw499 : (Cond.selects "FieldAfterField" ⟨"FieldAfterField", "advice", "(I)I"⟩ ⟨"FieldAfterField", "advice", "(I)I"⟩) ∈ tables_1 := List.mem_append_right _ (List.mem_append_right _ (List.mem_append_left _ (List.mem_of_getElem? (i := 19) rfl)))
theorem tw500 : (Cond.code ⟨"FieldAfterField", "advice", "(I)I"⟩ prog_1_method_18_code 2 (some .int)) ∈ tables_1 := List.mem_append_right _ (List.mem_append_right _ (List.mem_append_left _ (List.mem_of_getElem? (i := 20) rfl)))
theorem tw501 : (Cond.methodLink "FieldAfterFieldLaw" 88 ⟨"FieldAfterField", "offset", "(III)I"⟩) ∈ tables_1 := List.mem_append_right _ (List.mem_append_right _ (List.mem_append_left _ (List.mem_of_getElem? (i := 21) rfl)))
theorem tw502 : (Cond.instanceMethod ⟨"FieldAfterField", "offset", "(III)I"⟩) ∈ tables_1 := List.mem_append_right _ (List.mem_append_right _ (List.mem_append_left _ (List.mem_of_getElem? (i := 22) rfl)))
theorem tw503 : (Cond.selects "FieldAfterField" ⟨"FieldAfterField", "offset", "(III)I"⟩ ⟨"FieldAfterField", "offset", "(III)I"⟩) ∈ tables_1 := List.mem_append_right _ (List.mem_append_right _ (List.mem_append_left _ (List.mem_of_getElem? (i := 23) rfl)))
theorem tw504 : (Cond.code ⟨"FieldAfterField", "offset", "(III)I"⟩ prog_1_method_19_code 5 (some .int)) ∈ tables_1 := List.mem_append_right _ (List.mem_append_right _ (List.mem_append_left _ (List.mem_of_getElem? (i := 24) rfl)))
theorem tw505 : (Cond.methodLink "FieldAfterFieldLaw" 92 ⟨"FieldAfterField", "rule", "(II)I"⟩) ∈ tables_1 := List.mem_append_right _ (List.mem_append_right _ (List.mem_append_left _ (List.mem_of_getElem? (i := 25) rfl)))
theorem tw506 : (Cond.instanceMethod ⟨"FieldAfterField", "rule", "(II)I"⟩) ∈ tables_1 := List.mem_append_right _ (List.mem_append_right _ (List.mem_append_left _ (List.mem_of_getElem? (i := 26) rfl)))
theorem tw507 : (Cond.selects "FieldAfterField" ⟨"FieldAfterField", "rule", "(II)I"⟩ ⟨"FieldAfterField", "rule", "(II)I"⟩) ∈ tables_1 := List.mem_append_right _ (List.mem_append_right _ (List.mem_append_left _ (List.mem_of_getElem? (i := 27) rfl)))
theorem tw508 : (Cond.code ⟨"FieldAfterField", "rule", "(II)I"⟩ prog_1_method_20_code 4 (some .int)) ∈ tables_1 := List.mem_append_right _ (List.mem_append_right _ (List.mem_append_left _ (List.mem_of_getElem? (i := 28) rfl)))
theorem tw509 : (Cond.methodLink "FieldAfterFieldLaw" 96 ⟨"FieldAfterField", "route", "(II)I"⟩) ∈ tables_1 := List.mem_append_right _ (List.mem_append_right _ (List.mem_append_left _ (List.mem_of_getElem? (i := 29) rfl)))
theorem tw510 : (Cond.instanceMethod ⟨"FieldAfterField", "route", "(II)I"⟩) ∈ tables_1 := List.mem_append_right _ (List.mem_append_right _ (List.mem_append_left _ (List.mem_of_getElem? (i := 30) rfl)))
theorem tw511 : (Cond.selects "FieldAfterField" ⟨"FieldAfterField", "route", "(II)I"⟩ ⟨"FieldAfterField", "route", "(II)I"⟩) ∈ tables_1 := List.mem_append_right _ (List.mem_append_right _ (List.mem_append_left _ (List.mem_of_getElem? (i := 31) rfl)))
theorem tw512 : (Cond.code ⟨"FieldAfterField", "route", "(II)I"⟩ prog_1_method_21_code 3 (some .int)) ∈ tables_1 := List.mem_append_right _ (List.mem_append_right _ (List.mem_append_left _ (List.mem_of_getElem? (i := 32) rfl)))
theorem tw513 : (Cond.methodLinkNest "FieldAfterField" 201 ⟨"FieldAfterField$Router", "make", "(I)Z"⟩ "FieldAfterField") ∈ tables_1 := List.mem_append_right _ (List.mem_append_right _ (List.mem_append_left _ (List.mem_of_getElem? (i := 33) rfl)))
theorem tw514 : (Cond.privateMethod ⟨"FieldAfterField$Router", "make", "(I)Z"⟩) ∈ tables_1 := List.mem_append_right _ (List.mem_append_right _ (List.mem_append_left _ (List.mem_of_getElem? (i := 34) rfl)))
theorem tw515 : (Cond.instanceMethod ⟨"FieldAfterField$Router", "make", "(I)Z"⟩) ∈ tables_1 := List.mem_append_right _ (List.mem_append_right _ (List.mem_append_left _ (List.mem_of_getElem? (i := 35) rfl)))
theorem tw516 : (Cond.code ⟨"FieldAfterField$Router", "make", "(I)Z"⟩ prog_6_method_2_code 2 (some .boolean)) ∈ tables_1 := List.mem_append_right _ (List.mem_append_right _ (List.mem_append_left _ (List.mem_of_getElem? (i := 36) rfl)))
theorem tw517 : (Cond.constant "FieldAfterField$Router" 35 (2147483647)) ∈ tables_1 := List.mem_append_right _ (List.mem_append_right _ (List.mem_append_left _ (List.mem_of_getElem? (i := 37) rfl)))
theorem tw518 : (Cond.methodLink "FieldAfterField$Router" 39 ⟨"FieldAfterField$Router", "send", "(III)V"⟩) ∈ tables_1 := List.mem_append_right _ (List.mem_append_right _ (List.mem_append_left _ (List.mem_of_getElem? (i := 38) rfl)))
theorem tw519 : (Cond.privateMethod ⟨"FieldAfterField$Router", "send", "(III)V"⟩) ∈ tables_1 := List.mem_append_right _ (List.mem_append_right _ (List.mem_append_left _ (List.mem_of_getElem? (i := 39) rfl)))
theorem tw520 : (Cond.instanceMethod ⟨"FieldAfterField$Router", "send", "(III)V"⟩) ∈ tables_1 := List.mem_append_right _ (List.mem_append_right _ (List.mem_append_left _ (List.mem_of_getElem? (i := 40) rfl)))
theorem tw521 : (Cond.code ⟨"FieldAfterField$Router", "send", "(III)V"⟩ prog_6_method_3_code 6 (none : Option Jvm.ClassFile.FieldType)) ∈ tables_1 := List.mem_append_right _ (List.mem_append_right _ (List.mem_append_left _ (List.mem_of_getElem? (i := 41) rfl)))
theorem tw522 : (Cond.methodLink "FieldAfterField$Router" 43 ⟨"java/lang/System", "arraycopy", "(Ljava/lang/Object;ILjava/lang/Object;II)V"⟩) ∈ tables_1 := List.mem_append_right _ (List.mem_append_right _ (List.mem_append_left _ (List.mem_of_getElem? (i := 42) rfl)))
theorem tw523 : (Cond.static ⟨"java/lang/System", "arraycopy", "(Ljava/lang/Object;ILjava/lang/Object;II)V"⟩) ∈ tables_1 := List.mem_append_right _ (List.mem_append_right _ (List.mem_append_left _ (List.mem_of_getElem? (i := 43) rfl)))
theorem tw524 : (Cond.native ⟨"java/lang/System", "arraycopy", "(Ljava/lang/Object;ILjava/lang/Object;II)V"⟩) ∈ tables_1 := List.mem_append_right _ (List.mem_append_right _ (List.mem_append_left _ (List.mem_of_getElem? (i := 44) rfl)))
theorem tw525 : (Cond.methodLink "FieldAfterField$Router" 49 ⟨"FieldAfterField$Router", "stepTo", "(II)I"⟩) ∈ tables_1 := List.mem_append_right _ (List.mem_append_right _ (List.mem_append_left _ (List.mem_of_getElem? (i := 45) rfl)))
theorem tw526 : (Cond.privateMethod ⟨"FieldAfterField$Router", "stepTo", "(II)I"⟩) ∈ tables_1 := List.mem_append_right _ (List.mem_append_right _ (List.mem_append_left _ (List.mem_of_getElem? (i := 46) rfl)))
theorem tw527 : (Cond.instanceMethod ⟨"FieldAfterField$Router", "stepTo", "(II)I"⟩) ∈ tables_1 := List.mem_append_right _ (List.mem_append_right _ (List.mem_append_left _ (List.mem_of_getElem? (i := 47) rfl)))
theorem tw528 : (Cond.code ⟨"FieldAfterField$Router", "stepTo", "(II)I"⟩ prog_6_method_4_code 4 (some .int)) ∈ tables_1 := List.mem_append_right _ (List.mem_append_right _ (List.mem_append_left _ (List.mem_of_getElem? (i := 48) rfl)))
theorem tw529 : (Cond.methodLink "FieldAfterField$Router" 53 ⟨"java/lang/Math", "abs", "(I)I"⟩) ∈ tables_1 := List.mem_append_right _ (List.mem_append_right _ (List.mem_append_left _ (List.mem_of_getElem? (i := 49) rfl)))
theorem tw530 : (Cond.static ⟨"java/lang/Math", "abs", "(I)I"⟩) ∈ tables_1 := List.mem_append_right _ (List.mem_append_right _ (List.mem_append_left _ (List.mem_of_getElem? (i := 50) rfl)))
theorem tw531 : (Cond.code ⟨"java/lang/Math", "abs", "(I)I"⟩ prog_11_method_59_code 1 (some .int)) ∈ tables_1 := List.mem_append_right _ (List.mem_append_right _ (List.mem_append_left _ (List.mem_of_getElem? (i := 51) rfl)))
theorem tw532 : (Cond.methodLink "FieldAfterFieldLaw" 100 ⟨"FieldAfterField", "bad", "(III)I"⟩) ∈ tables_1 := List.mem_append_right _ (List.mem_append_right _ (List.mem_append_left _ (List.mem_of_getElem? (i := 52) rfl)))
theorem tw533 : (Cond.instanceMethod ⟨"FieldAfterField", "bad", "(III)I"⟩) ∈ tables_1 := List.mem_append_right _ (List.mem_append_right _ (List.mem_append_left _ (List.mem_of_getElem? (i := 53) rfl)))
theorem tw534 : (Cond.selects "FieldAfterField" ⟨"FieldAfterField", "bad", "(III)I"⟩ ⟨"FieldAfterField", "bad", "(III)I"⟩) ∈ tables_1 := List.mem_append_right _ (List.mem_append_right _ (List.mem_append_left _ (List.mem_of_getElem? (i := 54) rfl)))
theorem tw535 : (Cond.code ⟨"FieldAfterField", "bad", "(III)I"⟩ prog_1_method_22_code 7 (some .int)) ∈ tables_1 := List.mem_append_right _ (List.mem_append_right _ (List.mem_append_left _ (List.mem_of_getElem? (i := 55) rfl)))
theorem tw536 : (Cond.methodLinkNest "FieldAfterField" 208 ⟨"FieldAfterField$Fit", "above", "(LFieldAfterField$Marks;II)I"⟩ "FieldAfterField") ∈ tables_1 := List.mem_append_right _ (List.mem_append_right _ (List.mem_append_left _ (List.mem_of_getElem? (i := 56) rfl)))
theorem tw537 : (Cond.classLink "FieldAfterFieldLaw" 10 "FieldAfterFieldModel") ∈ tables_1 := List.mem_append_right _ (List.mem_append_right _ (List.mem_append_left _ (List.mem_of_getElem? (i := 57) rfl)))
theorem tw538 : (Cond.instantiable "FieldAfterFieldModel" 23) ∈ tables_1 := List.mem_append_right _ (List.mem_append_right _ (List.mem_append_left _ (List.mem_of_getElem? (i := 58) rfl)))
theorem tw539 : (Cond.methodLink "FieldAfterFieldLaw" 12 ⟨"FieldAfterFieldModel", "<init>", "()V"⟩) ∈ tables_1 := List.mem_append_right _ (List.mem_append_right _ (List.mem_append_left _ (List.mem_of_getElem? (i := 59) rfl)))
theorem tw540 : (Cond.instanceMethod ⟨"FieldAfterFieldModel", "<init>", "()V"⟩) ∈ tables_1 := List.mem_append_right _ (List.mem_append_right _ (List.mem_append_left _ (List.mem_of_getElem? (i := 60) rfl)))
theorem tw541 : (Cond.code ⟨"FieldAfterFieldModel", "<init>", "()V"⟩ prog_9_method_1_code 1 (none : Option Jvm.ClassFile.FieldType)) ∈ tables_1 := List.mem_append_right _ (List.mem_append_right _ (List.mem_append_left _ (List.mem_of_getElem? (i := 61) rfl)))
theorem tw542 : (Cond.methodLink "FieldAfterFieldModel" 1 ⟨"java/lang/Object", "<init>", "()V"⟩) ∈ tables_1 := List.mem_append_right _ (List.mem_append_right _ (List.mem_append_left _ (List.mem_of_getElem? (i := 62) rfl)))
theorem tw543 : (Cond.fieldLink "FieldAfterFieldModel" 86 "FieldAfterFieldModel" "marks" "I") ∈ tables_1 := List.mem_append_right _ (List.mem_append_right _ (List.mem_append_left _ (List.mem_of_getElem? (i := 63) rfl)))
theorem tw544 : (Cond.fieldLink "FieldAfterFieldModel" 7 "FieldAfterFieldModel" "places" "[I") ∈ tables_1 := List.mem_append_right _ (List.mem_append_right _ (List.mem_append_left _ (List.mem_of_getElem? (i := 64) rfl)))
theorem tw545 : (Cond.fieldLink "FieldAfterFieldModel" 13 "FieldAfterFieldModel" "reads" "[I") ∈ tables_1 := List.mem_append_right _ (List.mem_append_right _ (List.mem_append_left _ (List.mem_of_getElem? (i := 65) rfl)))
theorem tw546 : (Cond.fieldLink "FieldAfterFieldModel" 16 "FieldAfterFieldModel" "isLost" "[Z") ∈ tables_1 := List.mem_append_right _ (List.mem_append_right _ (List.mem_append_left _ (List.mem_of_getElem? (i := 66) rfl)))
theorem tw547 : (Cond.fieldLink "FieldAfterFieldModel" 20 "FieldAfterFieldModel" "isOut" "[Z") ∈ tables_1 := List.mem_append_right _ (List.mem_append_right _ (List.mem_append_left _ (List.mem_of_getElem? (i := 67) rfl)))
theorem tw548 : (Cond.fieldLink "FieldAfterFieldModel" 104 "FieldAfterFieldModel" "lots" "I") ∈ tables_1 := List.mem_append_right _ (List.mem_append_right _ (List.mem_append_left _ (List.mem_of_getElem? (i := 68) rfl)))
theorem tw549 : (Cond.fieldLink "FieldAfterFieldModel" 23 "FieldAfterFieldModel" "lotTool" "[I") ∈ tables_1 := List.mem_append_right _ (List.mem_append_right _ (List.mem_append_left _ (List.mem_of_getElem? (i := 69) rfl)))
theorem tw550 : (Cond.fieldLink "FieldAfterFieldModel" 26 "FieldAfterFieldModel" "lotShift" "[I") ∈ tables_1 := List.mem_append_right _ (List.mem_append_right _ (List.mem_append_left _ (List.mem_of_getElem? (i := 70) rfl)))
theorem tw551 : (Cond.fieldLink "FieldAfterFieldModel" 29 "FieldAfterFieldModel" "lotRead" "[I") ∈ tables_1 := List.mem_append_right _ (List.mem_append_right _ (List.mem_append_left _ (List.mem_of_getElem? (i := 71) rfl)))
theorem tw552 : (Cond.fieldLink "FieldAfterFieldModel" 32 "FieldAfterFieldModel" "hasRead" "[Z") ∈ tables_1 := List.mem_append_right _ (List.mem_append_right _ (List.mem_append_left _ (List.mem_of_getElem? (i := 72) rfl)))
theorem tw553 : (Cond.fieldLink "FieldAfterFieldModel" 35 "FieldAfterFieldModel" "mended" "[Z") ∈ tables_1 := List.mem_append_right _ (List.mem_append_right _ (List.mem_append_left _ (List.mem_of_getElem? (i := 73) rfl)))
theorem tw554 : (Cond.fieldLink "FieldAfterFieldModel" 38 "FieldAfterFieldModel" "gain" "I") ∈ tables_1 := List.mem_append_right _ (List.mem_append_right _ (List.mem_append_left _ (List.mem_of_getElem? (i := 74) rfl)))
theorem tw555 : (Cond.fieldLink "FieldAfterFieldModel" 42 "FieldAfterFieldModel" "offsets" "[I") ∈ tables_1 := List.mem_append_right _ (List.mem_append_right _ (List.mem_append_left _ (List.mem_of_getElem? (i := 75) rfl)))
theorem tw556 : (Cond.fieldLink "FieldAfterFieldModel" 45 "FieldAfterFieldModel" "budget" "I") ∈ tables_1 := List.mem_append_right _ (List.mem_append_right _ (List.mem_append_left _ (List.mem_of_getElem? (i := 76) rfl)))
theorem tw557 : (Cond.fieldLink "FieldAfterFieldModel" 48 "FieldAfterFieldModel" "cap" "I") ∈ tables_1 := List.mem_append_right _ (List.mem_append_right _ (List.mem_append_left _ (List.mem_of_getElem? (i := 77) rfl)))
theorem tw558 : (Cond.fieldLink "FieldAfterFieldModel" 51 "FieldAfterFieldModel" "sums" "[J") ∈ tables_1 := List.mem_append_right _ (List.mem_append_right _ (List.mem_append_left _ (List.mem_of_getElem? (i := 78) rfl)))
theorem tw559 : (Cond.fieldLink "FieldAfterFieldModel" 55 "FieldAfterFieldModel" "turned" "[J") ∈ tables_1 := List.mem_append_right _ (List.mem_append_right _ (List.mem_append_left _ (List.mem_of_getElem? (i := 79) rfl)))
theorem tw560 : (Cond.fieldLink "FieldAfterFieldModel" 131 "FieldAfterFieldModel" "det" "J") ∈ tables_1 := List.mem_append_right _ (List.mem_append_right _ (List.mem_append_left _ (List.mem_of_getElem? (i := 80) rfl)))
theorem tw561 : (Cond.fieldLink "FieldAfterFieldModel" 58 "FieldAfterFieldModel" "sides" "[J") ∈ tables_1 := List.mem_append_right _ (List.mem_append_right _ (List.mem_append_left _ (List.mem_of_getElem? (i := 81) rfl)))
theorem tw562 : (Cond.fieldLink "FieldAfterFieldModel" 61 "FieldAfterFieldModel" "factors" "[J") ∈ tables_1 := List.mem_append_right _ (List.mem_append_right _ (List.mem_append_left _ (List.mem_of_getElem? (i := 82) rfl)))
theorem tw563 : (Cond.fieldLink "FieldAfterFieldModel" 64 "FieldAfterFieldModel" "worst" "[J") ∈ tables_1 := List.mem_append_right _ (List.mem_append_right _ (List.mem_append_left _ (List.mem_of_getElem? (i := 83) rfl)))
theorem tw564 : (Cond.fieldLink "FieldAfterFieldModel" 67 "FieldAfterFieldModel" "tools" "[I") ∈ tables_1 := List.mem_append_right _ (List.mem_append_right _ (List.mem_append_left _ (List.mem_of_getElem? (i := 84) rfl)))
theorem tw565 : (Cond.fieldLink "FieldAfterFieldModel" 70 "FieldAfterFieldModel" "loads" "[I") ∈ tables_1 := List.mem_append_right _ (List.mem_append_right _ (List.mem_append_left _ (List.mem_of_getElem? (i := 85) rfl)))
theorem tw566 : (Cond.lays "FieldAfterFieldModel" "FieldAfterFieldModel" "marks" "I") ∈ tables_1 := List.mem_append_right _ (List.mem_append_right _ (List.mem_append_left _ (List.mem_of_getElem? (i := 86) rfl)))
theorem tw567 : (Cond.soleField "FieldAfterFieldModel" "marks") ∈ tables_1 := List.mem_append_right _ (List.mem_append_right _ (List.mem_append_left _ (List.mem_of_getElem? (i := 87) rfl)))
theorem tw568 : (Cond.laysFinal "FieldAfterFieldModel" "FieldAfterFieldModel" "places" "[I") ∈ tables_1 := List.mem_append_right _ (List.mem_append_right _ (List.mem_append_left _ (List.mem_of_getElem? (i := 88) rfl)))
theorem tw569 : (Cond.soleField "FieldAfterFieldModel" "places") ∈ tables_1 := List.mem_append_right _ (List.mem_append_right _ (List.mem_append_left _ (List.mem_of_getElem? (i := 89) rfl)))
theorem tw570 : (Cond.laysFinal "FieldAfterFieldModel" "FieldAfterFieldModel" "reads" "[I") ∈ tables_1 := List.mem_append_right _ (List.mem_append_right _ (List.mem_append_left _ (List.mem_of_getElem? (i := 90) rfl)))
theorem tw571 : (Cond.soleField "FieldAfterFieldModel" "reads") ∈ tables_1 := List.mem_append_right _ (List.mem_append_right _ (List.mem_append_left _ (List.mem_of_getElem? (i := 91) rfl)))
theorem tw572 : (Cond.laysFinal "FieldAfterFieldModel" "FieldAfterFieldModel" "isLost" "[Z") ∈ tables_1 := List.mem_append_right _ (List.mem_append_right _ (List.mem_append_left _ (List.mem_of_getElem? (i := 92) rfl)))
theorem tw573 : (Cond.soleField "FieldAfterFieldModel" "isLost") ∈ tables_1 := List.mem_append_right _ (List.mem_append_right _ (List.mem_append_left _ (List.mem_of_getElem? (i := 93) rfl)))
theorem tw574 : (Cond.laysFinal "FieldAfterFieldModel" "FieldAfterFieldModel" "isOut" "[Z") ∈ tables_1 := List.mem_append_right _ (List.mem_append_right _ (List.mem_append_left _ (List.mem_of_getElem? (i := 94) rfl)))
theorem tw575 : (Cond.soleField "FieldAfterFieldModel" "isOut") ∈ tables_1 := List.mem_append_right _ (List.mem_append_right _ (List.mem_append_left _ (List.mem_of_getElem? (i := 95) rfl)))
theorem tw576 : (Cond.lays "FieldAfterFieldModel" "FieldAfterFieldModel" "lots" "I") ∈ tables_1 := List.mem_append_right _ (List.mem_append_right _ (List.mem_append_left _ (List.mem_of_getElem? (i := 96) rfl)))
theorem tw577 : (Cond.soleField "FieldAfterFieldModel" "lots") ∈ tables_1 := List.mem_append_right _ (List.mem_append_right _ (List.mem_append_left _ (List.mem_of_getElem? (i := 97) rfl)))
theorem tw578 : (Cond.laysFinal "FieldAfterFieldModel" "FieldAfterFieldModel" "lotTool" "[I") ∈ tables_1 := List.mem_append_right _ (List.mem_append_right _ (List.mem_append_left _ (List.mem_of_getElem? (i := 98) rfl)))
theorem tw579 : (Cond.soleField "FieldAfterFieldModel" "lotTool") ∈ tables_1 := List.mem_append_right _ (List.mem_append_right _ (List.mem_append_left _ (List.mem_of_getElem? (i := 99) rfl)))
theorem tw580 : (Cond.laysFinal "FieldAfterFieldModel" "FieldAfterFieldModel" "lotShift" "[I") ∈ tables_1 := List.mem_append_right _ (List.mem_append_right _ (List.mem_append_left _ (List.mem_of_getElem? (i := 100) rfl)))
theorem tw581 : (Cond.soleField "FieldAfterFieldModel" "lotShift") ∈ tables_1 := List.mem_append_right _ (List.mem_append_right _ (List.mem_append_left _ (List.mem_of_getElem? (i := 101) rfl)))
theorem tw582 : (Cond.laysFinal "FieldAfterFieldModel" "FieldAfterFieldModel" "lotRead" "[I") ∈ tables_1 := List.mem_append_right _ (List.mem_append_right _ (List.mem_append_left _ (List.mem_of_getElem? (i := 102) rfl)))
theorem tw583 : (Cond.soleField "FieldAfterFieldModel" "lotRead") ∈ tables_1 := List.mem_append_right _ (List.mem_append_right _ (List.mem_append_left _ (List.mem_of_getElem? (i := 103) rfl)))
theorem tw584 : (Cond.laysFinal "FieldAfterFieldModel" "FieldAfterFieldModel" "hasRead" "[Z") ∈ tables_1 := List.mem_append_right _ (List.mem_append_right _ (List.mem_append_left _ (List.mem_of_getElem? (i := 104) rfl)))
theorem tw585 : (Cond.soleField "FieldAfterFieldModel" "hasRead") ∈ tables_1 := List.mem_append_right _ (List.mem_append_right _ (List.mem_append_left _ (List.mem_of_getElem? (i := 105) rfl)))
theorem tw586 : (Cond.laysFinal "FieldAfterFieldModel" "FieldAfterFieldModel" "mended" "[Z") ∈ tables_1 := List.mem_append_right _ (List.mem_append_right _ (List.mem_append_left _ (List.mem_of_getElem? (i := 106) rfl)))
theorem tw587 : (Cond.soleField "FieldAfterFieldModel" "mended") ∈ tables_1 := List.mem_append_right _ (List.mem_append_right _ (List.mem_append_left _ (List.mem_of_getElem? (i := 107) rfl)))
theorem tw588 : (Cond.lays "FieldAfterFieldModel" "FieldAfterFieldModel" "gain" "I") ∈ tables_1 := List.mem_append_right _ (List.mem_append_right _ (List.mem_append_left _ (List.mem_of_getElem? (i := 108) rfl)))
theorem tw589 : (Cond.soleField "FieldAfterFieldModel" "gain") ∈ tables_1 := List.mem_append_right _ (List.mem_append_right _ (List.mem_append_left _ (List.mem_of_getElem? (i := 109) rfl)))
theorem tw590 : (Cond.laysFinal "FieldAfterFieldModel" "FieldAfterFieldModel" "offsets" "[I") ∈ tables_1 := List.mem_append_right _ (List.mem_append_right _ (List.mem_append_left _ (List.mem_of_getElem? (i := 110) rfl)))
theorem tw591 : (Cond.soleField "FieldAfterFieldModel" "offsets") ∈ tables_1 := List.mem_append_right _ (List.mem_append_right _ (List.mem_append_left _ (List.mem_of_getElem? (i := 111) rfl)))
theorem tw592 : (Cond.lays "FieldAfterFieldModel" "FieldAfterFieldModel" "budget" "I") ∈ tables_1 := List.mem_append_right _ (List.mem_append_right _ (List.mem_append_left _ (List.mem_of_getElem? (i := 112) rfl)))
theorem tw593 : (Cond.soleField "FieldAfterFieldModel" "budget") ∈ tables_1 := List.mem_append_right _ (List.mem_append_right _ (List.mem_append_left _ (List.mem_of_getElem? (i := 113) rfl)))
theorem tw594 : (Cond.lays "FieldAfterFieldModel" "FieldAfterFieldModel" "cap" "I") ∈ tables_1 := List.mem_append_right _ (List.mem_append_right _ (List.mem_append_left _ (List.mem_of_getElem? (i := 114) rfl)))
theorem tw595 : (Cond.soleField "FieldAfterFieldModel" "cap") ∈ tables_1 := List.mem_append_right _ (List.mem_append_right _ (List.mem_append_left _ (List.mem_of_getElem? (i := 115) rfl)))
theorem tw596 : (Cond.laysFinal "FieldAfterFieldModel" "FieldAfterFieldModel" "sums" "[J") ∈ tables_1 := List.mem_append_right _ (List.mem_append_right _ (List.mem_append_left _ (List.mem_of_getElem? (i := 116) rfl)))
theorem tw597 : (Cond.soleField "FieldAfterFieldModel" "sums") ∈ tables_1 := List.mem_append_right _ (List.mem_append_right _ (List.mem_append_left _ (List.mem_of_getElem? (i := 117) rfl)))
theorem tw598 : (Cond.laysFinal "FieldAfterFieldModel" "FieldAfterFieldModel" "turned" "[J") ∈ tables_1 := List.mem_append_right _ (List.mem_append_right _ (List.mem_append_left _ (List.mem_of_getElem? (i := 118) rfl)))
theorem tw599 : (Cond.soleField "FieldAfterFieldModel" "turned") ∈ tables_1 := List.mem_append_right _ (List.mem_append_right _ (List.mem_append_left _ (List.mem_of_getElem? (i := 119) rfl)))
theorem tw600 : (Cond.lays "FieldAfterFieldModel" "FieldAfterFieldModel" "det" "J") ∈ tables_1 := List.mem_append_right _ (List.mem_append_right _ (List.mem_append_left _ (List.mem_of_getElem? (i := 120) rfl)))
theorem tw601 : (Cond.soleField "FieldAfterFieldModel" "det") ∈ tables_1 := List.mem_append_right _ (List.mem_append_right _ (List.mem_append_left _ (List.mem_of_getElem? (i := 121) rfl)))
theorem tw602 : (Cond.laysFinal "FieldAfterFieldModel" "FieldAfterFieldModel" "sides" "[J") ∈ tables_1 := List.mem_append_right _ (List.mem_append_right _ (List.mem_append_left _ (List.mem_of_getElem? (i := 122) rfl)))
theorem tw603 : (Cond.soleField "FieldAfterFieldModel" "sides") ∈ tables_1 := List.mem_append_right _ (List.mem_append_right _ (List.mem_append_left _ (List.mem_of_getElem? (i := 123) rfl)))
theorem tw604 : (Cond.laysFinal "FieldAfterFieldModel" "FieldAfterFieldModel" "factors" "[J") ∈ tables_1 := List.mem_append_right _ (List.mem_append_right _ (List.mem_append_left _ (List.mem_of_getElem? (i := 124) rfl)))
theorem tw605 : (Cond.soleField "FieldAfterFieldModel" "factors") ∈ tables_1 := List.mem_append_right _ (List.mem_append_right _ (List.mem_append_left _ (List.mem_of_getElem? (i := 125) rfl)))
theorem tw606 : (Cond.laysFinal "FieldAfterFieldModel" "FieldAfterFieldModel" "worst" "[J") ∈ tables_1 := List.mem_append_right _ (List.mem_append_right _ (List.mem_append_left _ (List.mem_of_getElem? (i := 126) rfl)))
theorem tw607 : (Cond.soleField "FieldAfterFieldModel" "worst") ∈ tables_1 := List.mem_append_right _ (List.mem_append_right _ (List.mem_append_left _ (List.mem_of_getElem? (i := 127) rfl)))
theorem tw608 : (Cond.laysFinal "FieldAfterFieldModel" "FieldAfterFieldModel" "tools" "[I") ∈ tables_1 := List.mem_append_right _ (List.mem_append_right _ (List.mem_append_left _ (List.mem_of_getElem? (i := 128) rfl)))
theorem tw609 : (Cond.soleField "FieldAfterFieldModel" "tools") ∈ tables_1 := List.mem_append_right _ (List.mem_append_right _ (List.mem_append_left _ (List.mem_of_getElem? (i := 129) rfl)))
theorem tw610 : (Cond.laysFinal "FieldAfterFieldModel" "FieldAfterFieldModel" "loads" "[I") ∈ tables_1 := List.mem_append_right _ (List.mem_append_right _ (List.mem_append_left _ (List.mem_of_getElem? (i := 130) rfl)))
theorem tw611 : (Cond.soleField "FieldAfterFieldModel" "loads") ∈ tables_1 := List.mem_append_right _ (List.mem_append_right _ (List.mem_append_left _ (List.mem_of_getElem? (i := 131) rfl)))
theorem tw612 : (Cond.superclass "FieldAfterFieldModel" "java/lang/Object") ∈ tables_1 := List.mem_append_right _ (List.mem_append_right _ (List.mem_append_left _ (List.mem_of_getElem? (i := 132) rfl)))
theorem tw613 : (Cond.methodLink "FieldAfterFieldLaw" 17 ⟨"FieldAfterFieldModel", "mark", "(IIII)I"⟩) ∈ tables_1 := List.mem_append_right _ (List.mem_append_right _ (List.mem_append_left _ (List.mem_of_getElem? (i := 133) rfl)))
theorem tw614 : (Cond.instanceMethod ⟨"FieldAfterFieldModel", "mark", "(IIII)I"⟩) ∈ tables_1 := List.mem_append_right _ (List.mem_append_right _ (List.mem_append_left _ (List.mem_of_getElem? (i := 134) rfl)))
theorem tw615 : (Cond.selects "FieldAfterFieldModel" ⟨"FieldAfterFieldModel", "mark", "(IIII)I"⟩ ⟨"FieldAfterFieldModel", "mark", "(IIII)I"⟩) ∈ tables_1 := List.mem_append_right _ (List.mem_append_right _ (List.mem_append_left _ (List.mem_of_getElem? (i := 135) rfl)))
theorem tw616 : (Cond.code ⟨"FieldAfterFieldModel", "mark", "(IIII)I"⟩ prog_9_method_4_code 5 (some .int)) ∈ tables_1 := List.mem_append_right _ (List.mem_append_right _ (List.mem_append_left _ (List.mem_of_getElem? (i := 136) rfl)))
theorem tw617 : (Cond.constantLong "FieldAfterFieldModel" 73 (-5)) ∈ tables_1 := List.mem_append_right _ (List.mem_append_right _ (List.mem_append_left _ (List.mem_of_getElem? (i := 137) rfl)))
theorem tw618 : (Cond.constantLong "FieldAfterFieldModel" 75 (5)) ∈ tables_1 := List.mem_append_right _ (List.mem_append_right _ (List.mem_append_left _ (List.mem_of_getElem? (i := 138) rfl)))
theorem tw619 : (Cond.methodLink "FieldAfterFieldModel" 77 ⟨"FieldAfterFieldModel", "in", "(JJJ)Z"⟩) ∈ tables_1 := List.mem_append_right _ (List.mem_append_right _ (List.mem_append_left _ (List.mem_of_getElem? (i := 139) rfl)))
theorem tw620 : (Cond.static ⟨"FieldAfterFieldModel", "in", "(JJJ)Z"⟩) ∈ tables_1 := List.mem_append_right _ (List.mem_append_right _ (List.mem_append_left _ (List.mem_of_getElem? (i := 140) rfl)))
theorem tw621 : (Cond.code ⟨"FieldAfterFieldModel", "in", "(JJJ)Z"⟩ prog_9_method_3_code 6 (some .boolean)) ∈ tables_1 := List.mem_append_right _ (List.mem_append_right _ (List.mem_append_left _ (List.mem_of_getElem? (i := 141) rfl)))
theorem tw622 : (Cond.constantLong "FieldAfterFieldModel" 81 (-3)) ∈ tables_1 := List.mem_append_right _ (List.mem_append_right _ (List.mem_append_left _ (List.mem_of_getElem? (i := 142) rfl)))
theorem tw623 : (Cond.constantLong "FieldAfterFieldModel" 83 (3)) ∈ tables_1 := List.mem_append_right _ (List.mem_append_right _ (List.mem_append_left _ (List.mem_of_getElem? (i := 143) rfl)))
theorem tw624 : (Cond.constant "FieldAfterFieldModel" 85 (-100002)) ∈ tables_1 := List.mem_append_right _ (List.mem_append_right _ (List.mem_append_left _ (List.mem_of_getElem? (i := 144) rfl)))
theorem tw625 : (Cond.constant "FieldAfterFieldModel" 89 (-100004)) ∈ tables_1 := List.mem_append_right _ (List.mem_append_right _ (List.mem_append_left _ (List.mem_of_getElem? (i := 145) rfl)))
theorem tw626 : (Cond.methodLink "FieldAfterFieldLaw" 22 ⟨"FieldAfterFieldModel", "read", "(III)I"⟩) ∈ tables_1 := List.mem_append_right _ (List.mem_append_right _ (List.mem_append_left _ (List.mem_of_getElem? (i := 146) rfl)))
theorem tw627 : (Cond.instanceMethod ⟨"FieldAfterFieldModel", "read", "(III)I"⟩) ∈ tables_1 := List.mem_append_right _ (List.mem_append_right _ (List.mem_append_left _ (List.mem_of_getElem? (i := 147) rfl)))
theorem tw628 : (Cond.selects "FieldAfterFieldModel" ⟨"FieldAfterFieldModel", "read", "(III)I"⟩ ⟨"FieldAfterFieldModel", "read", "(III)I"⟩) ∈ tables_1 := List.mem_append_right _ (List.mem_append_right _ (List.mem_append_left _ (List.mem_of_getElem? (i := 148) rfl)))
theorem tw629 : (Cond.code ⟨"FieldAfterFieldModel", "read", "(III)I"⟩ prog_9_method_6_code 4 (some .int)) ∈ tables_1 := List.mem_append_right _ (List.mem_append_right _ (List.mem_append_left _ (List.mem_of_getElem? (i := 149) rfl)))
theorem tw630 : (Cond.methodLink "FieldAfterFieldModel" 90 ⟨"FieldAfterFieldModel", "isMark", "(I)Z"⟩) ∈ tables_1 := List.mem_append_right _ (List.mem_append_right _ (List.mem_append_left _ (List.mem_of_getElem? (i := 150) rfl)))
theorem tw631 : (Cond.privateMethod ⟨"FieldAfterFieldModel", "isMark", "(I)Z"⟩) ∈ tables_1 := List.mem_append_right _ (List.mem_append_right _ (List.mem_append_left _ (List.mem_of_getElem? (i := 151) rfl)))
theorem tw632 : (Cond.instanceMethod ⟨"FieldAfterFieldModel", "isMark", "(I)Z"⟩) ∈ tables_1 := List.mem_append_right _ (List.mem_append_right _ (List.mem_append_left _ (List.mem_of_getElem? (i := 152) rfl)))
theorem tw633 : (Cond.code ⟨"FieldAfterFieldModel", "isMark", "(I)Z"⟩ prog_9_method_5_code 2 (some .boolean)) ∈ tables_1 := List.mem_append_right _ (List.mem_append_right _ (List.mem_append_left _ (List.mem_of_getElem? (i := 153) rfl)))
theorem tw634 : (Cond.constant "FieldAfterFieldModel" 94 (-100001)) ∈ tables_1 := List.mem_append_right _ (List.mem_append_right _ (List.mem_append_left _ (List.mem_of_getElem? (i := 154) rfl)))
theorem tw635 : (Cond.constantLong "FieldAfterFieldModel" 95 (-999)) ∈ tables_1 := List.mem_append_right _ (List.mem_append_right _ (List.mem_append_left _ (List.mem_of_getElem? (i := 155) rfl)))
theorem tw636 : (Cond.constantLong "FieldAfterFieldModel" 97 (999)) ∈ tables_1 := List.mem_append_right _ (List.mem_append_right _ (List.mem_append_left _ (List.mem_of_getElem? (i := 156) rfl)))
theorem tw637 : (Cond.methodLink "FieldAfterFieldLaw" 27 ⟨"FieldAfterFieldModel", "lose", "(I)I"⟩) ∈ tables_1 := List.mem_append_right _ (List.mem_append_right _ (List.mem_append_left _ (List.mem_of_getElem? (i := 157) rfl)))
theorem tw638 : (Cond.instanceMethod ⟨"FieldAfterFieldModel", "lose", "(I)I"⟩) ∈ tables_1 := List.mem_append_right _ (List.mem_append_right _ (List.mem_append_left _ (List.mem_of_getElem? (i := 158) rfl)))
theorem tw639 : (Cond.selects "FieldAfterFieldModel" ⟨"FieldAfterFieldModel", "lose", "(I)I"⟩ ⟨"FieldAfterFieldModel", "lose", "(I)I"⟩) ∈ tables_1 := List.mem_append_right _ (List.mem_append_right _ (List.mem_append_left _ (List.mem_of_getElem? (i := 159) rfl)))
theorem tw640 : (Cond.code ⟨"FieldAfterFieldModel", "lose", "(I)I"⟩ prog_9_method_7_code 3 (some .int)) ∈ tables_1 := List.mem_append_right _ (List.mem_append_right _ (List.mem_append_left _ (List.mem_of_getElem? (i := 160) rfl)))
theorem tw641 : (Cond.methodLink "FieldAfterFieldLaw" 32 ⟨"FieldAfterFieldModel", "told", "(II)I"⟩) ∈ tables_1 := List.mem_append_right _ (List.mem_append_right _ (List.mem_append_left _ (List.mem_of_getElem? (i := 161) rfl)))
theorem tw642 : (Cond.instanceMethod ⟨"FieldAfterFieldModel", "told", "(II)I"⟩) ∈ tables_1 := List.mem_append_right _ (List.mem_append_right _ (List.mem_append_left _ (List.mem_of_getElem? (i := 162) rfl)))
theorem tw643 : (Cond.selects "FieldAfterFieldModel" ⟨"FieldAfterFieldModel", "told", "(II)I"⟩ ⟨"FieldAfterFieldModel", "told", "(II)I"⟩) ∈ tables_1 := List.mem_append_right _ (List.mem_append_right _ (List.mem_append_left _ (List.mem_of_getElem? (i := 163) rfl)))
theorem tw644 : (Cond.code ⟨"FieldAfterFieldModel", "told", "(II)I"⟩ prog_9_method_8_code 3 (some .int)) ∈ tables_1 := List.mem_append_right _ (List.mem_append_right _ (List.mem_append_left _ (List.mem_of_getElem? (i := 164) rfl)))
theorem tw645 : (Cond.constantLong "FieldAfterFieldModel" 99 (7)) ∈ tables_1 := List.mem_append_right _ (List.mem_append_right _ (List.mem_append_left _ (List.mem_of_getElem? (i := 165) rfl)))
theorem tw646 : (Cond.methodLink "FieldAfterFieldLaw" 36 ⟨"FieldAfterFieldModel", "count", "(I)I"⟩) ∈ tables_1 := List.mem_append_right _ (List.mem_append_right _ (List.mem_append_left _ (List.mem_of_getElem? (i := 166) rfl)))
theorem tw647 : (Cond.instanceMethod ⟨"FieldAfterFieldModel", "count", "(I)I"⟩) ∈ tables_1 := List.mem_append_right _ (List.mem_append_right _ (List.mem_append_left _ (List.mem_of_getElem? (i := 167) rfl)))
theorem tw648 : (Cond.selects "FieldAfterFieldModel" ⟨"FieldAfterFieldModel", "count", "(I)I"⟩ ⟨"FieldAfterFieldModel", "count", "(I)I"⟩) ∈ tables_1 := List.mem_append_right _ (List.mem_append_right _ (List.mem_append_left _ (List.mem_of_getElem? (i := 168) rfl)))
theorem tw649 : (Cond.code ⟨"FieldAfterFieldModel", "count", "(I)I"⟩ prog_9_method_13_code 6 (some .int)) ∈ tables_1 := List.mem_append_right _ (List.mem_append_right _ (List.mem_append_left _ (List.mem_of_getElem? (i := 169) rfl)))
theorem tw650 : (Cond.methodLink "FieldAfterFieldModel" 107 ⟨"FieldAfterFieldModel", "counting", "()I"⟩) ∈ tables_1 := List.mem_append_right _ (List.mem_append_right _ (List.mem_append_left _ (List.mem_of_getElem? (i := 170) rfl)))
theorem tw651 : (Cond.privateMethod ⟨"FieldAfterFieldModel", "counting", "()I"⟩) ∈ tables_1 := List.mem_append_right _ (List.mem_append_right _ (List.mem_append_left _ (List.mem_of_getElem? (i := 171) rfl)))
theorem tw652 : (Cond.instanceMethod ⟨"FieldAfterFieldModel", "counting", "()I"⟩) ∈ tables_1 := List.mem_append_right _ (List.mem_append_right _ (List.mem_append_left _ (List.mem_of_getElem? (i := 172) rfl)))
theorem tw653 : (Cond.code ⟨"FieldAfterFieldModel", "counting", "()I"⟩ prog_9_method_10_code 3 (some .int)) ∈ tables_1 := List.mem_append_right _ (List.mem_append_right _ (List.mem_append_left _ (List.mem_of_getElem? (i := 173) rfl)))
theorem tw654 : (Cond.methodLink "FieldAfterFieldModel" 101 ⟨"FieldAfterFieldModel", "counts", "(I)Z"⟩) ∈ tables_1 := List.mem_append_right _ (List.mem_append_right _ (List.mem_append_left _ (List.mem_of_getElem? (i := 174) rfl)))
theorem tw655 : (Cond.privateMethod ⟨"FieldAfterFieldModel", "counts", "(I)Z"⟩) ∈ tables_1 := List.mem_append_right _ (List.mem_append_right _ (List.mem_append_left _ (List.mem_of_getElem? (i := 175) rfl)))
theorem tw656 : (Cond.instanceMethod ⟨"FieldAfterFieldModel", "counts", "(I)Z"⟩) ∈ tables_1 := List.mem_append_right _ (List.mem_append_right _ (List.mem_append_left _ (List.mem_of_getElem? (i := 176) rfl)))
theorem tw657 : (Cond.code ⟨"FieldAfterFieldModel", "counts", "(I)Z"⟩ prog_9_method_9_code 2 (some .boolean)) ∈ tables_1 := List.mem_append_right _ (List.mem_append_right _ (List.mem_append_left _ (List.mem_of_getElem? (i := 177) rfl)))
theorem tw658 : (Cond.methodLink "FieldAfterFieldModel" 111 ⟨"FieldAfterFieldModel", "bits", "(I)I"⟩) ∈ tables_1 := List.mem_append_right _ (List.mem_append_right _ (List.mem_append_left _ (List.mem_of_getElem? (i := 178) rfl)))
theorem tw659 : (Cond.static ⟨"FieldAfterFieldModel", "bits", "(I)I"⟩) ∈ tables_1 := List.mem_append_right _ (List.mem_append_right _ (List.mem_append_left _ (List.mem_of_getElem? (i := 179) rfl)))
theorem tw660 : (Cond.code ⟨"FieldAfterFieldModel", "bits", "(I)I"⟩ prog_9_method_11_code 3 (some .int)) ∈ tables_1 := List.mem_append_right _ (List.mem_append_right _ (List.mem_append_left _ (List.mem_of_getElem? (i := 180) rfl)))
theorem tw661 : (Cond.methodLink "FieldAfterFieldModel" 115 ⟨"FieldAfterFieldModel", "fieldsOf", "(I)I"⟩) ∈ tables_1 := List.mem_append_right _ (List.mem_append_right _ (List.mem_append_left _ (List.mem_of_getElem? (i := 181) rfl)))
theorem tw662 : (Cond.privateMethod ⟨"FieldAfterFieldModel", "fieldsOf", "(I)I"⟩) ∈ tables_1 := List.mem_append_right _ (List.mem_append_right _ (List.mem_append_left _ (List.mem_of_getElem? (i := 182) rfl)))
theorem tw663 : (Cond.instanceMethod ⟨"FieldAfterFieldModel", "fieldsOf", "(I)I"⟩) ∈ tables_1 := List.mem_append_right _ (List.mem_append_right _ (List.mem_append_left _ (List.mem_of_getElem? (i := 183) rfl)))
theorem tw664 : (Cond.code ⟨"FieldAfterFieldModel", "fieldsOf", "(I)I"⟩ prog_9_method_12_code 6 (some .int)) ∈ tables_1 := List.mem_append_right _ (List.mem_append_right _ (List.mem_append_left _ (List.mem_of_getElem? (i := 184) rfl)))
theorem tw665 : (Cond.methodLink "FieldAfterFieldLaw" 41 ⟨"FieldAfterFieldModel", "det", "(I)J"⟩) ∈ tables_1 := List.mem_append_right _ (List.mem_append_right _ (List.mem_append_left _ (List.mem_of_getElem? (i := 185) rfl)))
theorem tw666 : (Cond.instanceMethod ⟨"FieldAfterFieldModel", "det", "(I)J"⟩) ∈ tables_1 := List.mem_append_right _ (List.mem_append_right _ (List.mem_append_left _ (List.mem_of_getElem? (i := 186) rfl)))
theorem tw667 : (Cond.selects "FieldAfterFieldModel" ⟨"FieldAfterFieldModel", "det", "(I)J"⟩ ⟨"FieldAfterFieldModel", "det", "(I)J"⟩) ∈ tables_1 := List.mem_append_right _ (List.mem_append_right _ (List.mem_append_left _ (List.mem_of_getElem? (i := 187) rfl)))
theorem tw668 : (Cond.code ⟨"FieldAfterFieldModel", "det", "(I)J"⟩ prog_9_method_19_code 2 (some .long)) ∈ tables_1 := List.mem_append_right _ (List.mem_append_right _ (List.mem_append_left _ (List.mem_of_getElem? (i := 188) rfl)))
theorem tw669 : (Cond.methodLink "FieldAfterFieldModel" 135 ⟨"FieldAfterFieldModel", "isModel", "(I)Z"⟩) ∈ tables_1 := List.mem_append_right _ (List.mem_append_right _ (List.mem_append_left _ (List.mem_of_getElem? (i := 189) rfl)))
theorem tw670 : (Cond.static ⟨"FieldAfterFieldModel", "isModel", "(I)Z"⟩) ∈ tables_1 := List.mem_append_right _ (List.mem_append_right _ (List.mem_append_left _ (List.mem_of_getElem? (i := 190) rfl)))
theorem tw671 : (Cond.code ⟨"FieldAfterFieldModel", "isModel", "(I)Z"⟩ prog_9_method_14_code 1 (some .boolean)) ∈ tables_1 := List.mem_append_right _ (List.mem_append_right _ (List.mem_append_left _ (List.mem_of_getElem? (i := 191) rfl)))
theorem tw672 : (Cond.constantLong "FieldAfterFieldModel" 118 (2)) ∈ tables_1 := List.mem_append_right _ (List.mem_append_right _ (List.mem_append_left _ (List.mem_of_getElem? (i := 192) rfl)))
theorem tw673 : (Cond.constantLong "FieldAfterFieldModel" 138 (-100002)) ∈ tables_1 := List.mem_append_right _ (List.mem_append_right _ (List.mem_append_left _ (List.mem_of_getElem? (i := 193) rfl)))
theorem tw674 : (Cond.methodLink "FieldAfterFieldModel" 140 ⟨"FieldAfterFieldModel", "lay", "(II)V"⟩) ∈ tables_1 := List.mem_append_right _ (List.mem_append_right _ (List.mem_append_left _ (List.mem_of_getElem? (i := 194) rfl)))
theorem tw675 : (Cond.privateMethod ⟨"FieldAfterFieldModel", "lay", "(II)V"⟩) ∈ tables_1 := List.mem_append_right _ (List.mem_append_right _ (List.mem_append_left _ (List.mem_of_getElem? (i := 195) rfl)))
theorem tw676 : (Cond.instanceMethod ⟨"FieldAfterFieldModel", "lay", "(II)V"⟩) ∈ tables_1 := List.mem_append_right _ (List.mem_append_right _ (List.mem_append_left _ (List.mem_of_getElem? (i := 196) rfl)))
theorem tw677 : (Cond.code ⟨"FieldAfterFieldModel", "lay", "(II)V"⟩ prog_9_method_18_code 6 (none : Option Jvm.ClassFile.FieldType)) ∈ tables_1 := List.mem_append_right _ (List.mem_append_right _ (List.mem_append_left _ (List.mem_of_getElem? (i := 197) rfl)))
theorem tw678 : (Cond.methodLink "FieldAfterFieldModel" 120 ⟨"FieldAfterFieldModel", "termsOf", "(I)I"⟩) ∈ tables_1 := List.mem_append_right _ (List.mem_append_right _ (List.mem_append_left _ (List.mem_of_getElem? (i := 198) rfl)))
theorem tw679 : (Cond.static ⟨"FieldAfterFieldModel", "termsOf", "(I)I"⟩) ∈ tables_1 := List.mem_append_right _ (List.mem_append_right _ (List.mem_append_left _ (List.mem_of_getElem? (i := 199) rfl)))
theorem tw680 : (Cond.code ⟨"FieldAfterFieldModel", "termsOf", "(I)I"⟩ prog_9_method_15_code 1 (some .int)) ∈ tables_1 := List.mem_append_right _ (List.mem_append_right _ (List.mem_append_left _ (List.mem_of_getElem? (i := 200) rfl)))
theorem tw681 : (Cond.methodLink "FieldAfterFieldModel" 123 ⟨"FieldAfterFieldModel", "term", "(III)J"⟩) ∈ tables_1 := List.mem_append_right _ (List.mem_append_right _ (List.mem_append_left _ (List.mem_of_getElem? (i := 201) rfl)))
theorem tw682 : (Cond.privateMethod ⟨"FieldAfterFieldModel", "term", "(III)J"⟩) ∈ tables_1 := List.mem_append_right _ (List.mem_append_right _ (List.mem_append_left _ (List.mem_of_getElem? (i := 202) rfl)))
theorem tw683 : (Cond.instanceMethod ⟨"FieldAfterFieldModel", "term", "(III)J"⟩) ∈ tables_1 := List.mem_append_right _ (List.mem_append_right _ (List.mem_append_left _ (List.mem_of_getElem? (i := 203) rfl)))
theorem tw684 : (Cond.code ⟨"FieldAfterFieldModel", "term", "(III)J"⟩ prog_9_method_16_code 4 (some .long)) ∈ tables_1 := List.mem_append_right _ (List.mem_append_right _ (List.mem_append_left _ (List.mem_of_getElem? (i := 204) rfl)))
theorem tw685 : (Cond.methodLink "FieldAfterFieldModel" 127 ⟨"FieldAfterFieldModel", "minor", "(II)J"⟩) ∈ tables_1 := List.mem_append_right _ (List.mem_append_right _ (List.mem_append_left _ (List.mem_of_getElem? (i := 205) rfl)))
theorem tw686 : (Cond.privateMethod ⟨"FieldAfterFieldModel", "minor", "(II)J"⟩) ∈ tables_1 := List.mem_append_right _ (List.mem_append_right _ (List.mem_append_left _ (List.mem_of_getElem? (i := 206) rfl)))
theorem tw687 : (Cond.instanceMethod ⟨"FieldAfterFieldModel", "minor", "(II)J"⟩) ∈ tables_1 := List.mem_append_right _ (List.mem_append_right _ (List.mem_append_left _ (List.mem_of_getElem? (i := 207) rfl)))
theorem tw688 : (Cond.code ⟨"FieldAfterFieldModel", "minor", "(II)J"⟩ prog_9_method_17_code 7 (some .long)) ∈ tables_1 := List.mem_append_right _ (List.mem_append_right _ (List.mem_append_left _ (List.mem_of_getElem? (i := 208) rfl)))
theorem tw689 : (Cond.methodLink "FieldAfterFieldLaw" 46 ⟨"FieldAfterFieldModel", "fit", "(IIII)J"⟩) ∈ tables_1 := List.mem_append_right _ (List.mem_append_right _ (List.mem_append_left _ (List.mem_of_getElem? (i := 209) rfl)))
theorem tw690 : (Cond.instanceMethod ⟨"FieldAfterFieldModel", "fit", "(IIII)J"⟩) ∈ tables_1 := List.mem_append_right _ (List.mem_append_right _ (List.mem_append_left _ (List.mem_of_getElem? (i := 210) rfl)))
theorem tw691 : (Cond.selects "FieldAfterFieldModel" ⟨"FieldAfterFieldModel", "fit", "(IIII)J"⟩ ⟨"FieldAfterFieldModel", "fit", "(IIII)J"⟩) ∈ tables_1 := List.mem_append_right _ (List.mem_append_right _ (List.mem_append_left _ (List.mem_of_getElem? (i := 211) rfl)))
theorem tw692 : (Cond.code ⟨"FieldAfterFieldModel", "fit", "(IIII)J"⟩ prog_9_method_24_code 5 (some .long)) ∈ tables_1 := List.mem_append_right _ (List.mem_append_right _ (List.mem_append_left _ (List.mem_of_getElem? (i := 212) rfl)))
theorem tw693 : (Cond.methodLink "FieldAfterFieldModel" 148 ⟨"FieldAfterFieldModel", "findFit", "(III)V"⟩) ∈ tables_1 := List.mem_append_right _ (List.mem_append_right _ (List.mem_append_left _ (List.mem_of_getElem? (i := 213) rfl)))
theorem tw694 : (Cond.privateMethod ⟨"FieldAfterFieldModel", "findFit", "(III)V"⟩) ∈ tables_1 := List.mem_append_right _ (List.mem_append_right _ (List.mem_append_left _ (List.mem_of_getElem? (i := 214) rfl)))
theorem tw695 : (Cond.instanceMethod ⟨"FieldAfterFieldModel", "findFit", "(III)V"⟩) ∈ tables_1 := List.mem_append_right _ (List.mem_append_right _ (List.mem_append_left _ (List.mem_of_getElem? (i := 215) rfl)))
theorem tw696 : (Cond.code ⟨"FieldAfterFieldModel", "findFit", "(III)V"⟩ prog_9_method_20_code 7 (none : Option Jvm.ClassFile.FieldType)) ∈ tables_1 := List.mem_append_right _ (List.mem_append_right _ (List.mem_append_left _ (List.mem_of_getElem? (i := 216) rfl)))
theorem tw697 : (Cond.constantLong "FieldAfterFieldModel" 152 (-100003)) ∈ tables_1 := List.mem_append_right _ (List.mem_append_right _ (List.mem_append_left _ (List.mem_of_getElem? (i := 217) rfl)))
theorem tw698 : (Cond.methodLink "FieldAfterFieldModel" 154 ⟨"FieldAfterFieldModel", "share", "(JJI)J"⟩) ∈ tables_1 := List.mem_append_right _ (List.mem_append_right _ (List.mem_append_left _ (List.mem_of_getElem? (i := 218) rfl)))
theorem tw699 : (Cond.static ⟨"FieldAfterFieldModel", "share", "(JJI)J"⟩) ∈ tables_1 := List.mem_append_right _ (List.mem_append_right _ (List.mem_append_left _ (List.mem_of_getElem? (i := 219) rfl)))
theorem tw700 : (Cond.code ⟨"FieldAfterFieldModel", "share", "(JJI)J"⟩ prog_9_method_23_code 11 (some .long)) ∈ tables_1 := List.mem_append_right _ (List.mem_append_right _ (List.mem_append_left _ (List.mem_of_getElem? (i := 220) rfl)))
theorem tw701 : (Cond.methodLink "FieldAfterFieldModel" 144 ⟨"FieldAfterFieldModel", "size", "(J)J"⟩) ∈ tables_1 := List.mem_append_right _ (List.mem_append_right _ (List.mem_append_left _ (List.mem_of_getElem? (i := 221) rfl)))
theorem tw702 : (Cond.static ⟨"FieldAfterFieldModel", "size", "(J)J"⟩) ∈ tables_1 := List.mem_append_right _ (List.mem_append_right _ (List.mem_append_left _ (List.mem_of_getElem? (i := 222) rfl)))
theorem tw703 : (Cond.code ⟨"FieldAfterFieldModel", "size", "(J)J"⟩ prog_9_method_22_code 2 (some .long)) ∈ tables_1 := List.mem_append_right _ (List.mem_append_right _ (List.mem_append_left _ (List.mem_of_getElem? (i := 223) rfl)))
theorem tw704 : (Cond.methodLink "FieldAfterFieldLaw" 50 ⟨"FieldAfterFieldModel", "rest", "(IIII)J"⟩) ∈ tables_1 := List.mem_append_right _ (List.mem_append_right _ (List.mem_append_left _ (List.mem_of_getElem? (i := 224) rfl)))
theorem tw705 : (Cond.instanceMethod ⟨"FieldAfterFieldModel", "rest", "(IIII)J"⟩) ∈ tables_1 := List.mem_append_right _ (List.mem_append_right _ (List.mem_append_left _ (List.mem_of_getElem? (i := 225) rfl)))
theorem tw706 : (Cond.selects "FieldAfterFieldModel" ⟨"FieldAfterFieldModel", "rest", "(IIII)J"⟩ ⟨"FieldAfterFieldModel", "rest", "(IIII)J"⟩) ∈ tables_1 := List.mem_append_right _ (List.mem_append_right _ (List.mem_append_left _ (List.mem_of_getElem? (i := 226) rfl)))
theorem tw707 : (Cond.code ⟨"FieldAfterFieldModel", "rest", "(IIII)J"⟩ prog_9_method_25_code 5 (some .long)) ∈ tables_1 := List.mem_append_right _ (List.mem_append_right _ (List.mem_append_left _ (List.mem_of_getElem? (i := 227) rfl)))
theorem tw708 : (Cond.constantLong "FieldAfterFieldModel" 158 (-100001)) ∈ tables_1 := List.mem_append_right _ (List.mem_append_right _ (List.mem_append_left _ (List.mem_of_getElem? (i := 228) rfl)))
theorem tw709 : (Cond.methodLink "FieldAfterFieldModel" 160 ⟨"FieldAfterFieldModel", "restOf", "(III)J"⟩) ∈ tables_1 := List.mem_append_right _ (List.mem_append_right _ (List.mem_append_left _ (List.mem_of_getElem? (i := 229) rfl)))
theorem tw710 : (Cond.privateMethod ⟨"FieldAfterFieldModel", "restOf", "(III)J"⟩) ∈ tables_1 := List.mem_append_right _ (List.mem_append_right _ (List.mem_append_left _ (List.mem_of_getElem? (i := 230) rfl)))
theorem tw711 : (Cond.instanceMethod ⟨"FieldAfterFieldModel", "restOf", "(III)J"⟩) ∈ tables_1 := List.mem_append_right _ (List.mem_append_right _ (List.mem_append_left _ (List.mem_of_getElem? (i := 231) rfl)))
theorem tw712 : (Cond.code ⟨"FieldAfterFieldModel", "restOf", "(III)J"⟩ prog_9_method_21_code 7 (some .long)) ∈ tables_1 := List.mem_append_right _ (List.mem_append_right _ (List.mem_append_left _ (List.mem_of_getElem? (i := 232) rfl)))
theorem tw713 : (Cond.methodLink "FieldAfterFieldLaw" 55 ⟨"FieldAfterFieldModel", "spread", "(III)J"⟩) ∈ tables_1 := List.mem_append_right _ (List.mem_append_right _ (List.mem_append_left _ (List.mem_of_getElem? (i := 233) rfl)))
theorem tw714 : (Cond.instanceMethod ⟨"FieldAfterFieldModel", "spread", "(III)J"⟩) ∈ tables_1 := List.mem_append_right _ (List.mem_append_right _ (List.mem_append_left _ (List.mem_of_getElem? (i := 234) rfl)))
theorem tw715 : (Cond.selects "FieldAfterFieldModel" ⟨"FieldAfterFieldModel", "spread", "(III)J"⟩ ⟨"FieldAfterFieldModel", "spread", "(III)J"⟩) ∈ tables_1 := List.mem_append_right _ (List.mem_append_right _ (List.mem_append_left _ (List.mem_of_getElem? (i := 235) rfl)))
theorem tw716 : (Cond.code ⟨"FieldAfterFieldModel", "spread", "(III)J"⟩ prog_9_method_26_code 9 (some .long)) ∈ tables_1 := List.mem_append_right _ (List.mem_append_right _ (List.mem_append_left _ (List.mem_of_getElem? (i := 236) rfl)))
theorem tw717 : (Cond.methodLink "FieldAfterFieldLaw" 59 ⟨"FieldAfterFieldModel", "judge", "(II)I"⟩) ∈ tables_1 := List.mem_append_right _ (List.mem_append_right _ (List.mem_append_left _ (List.mem_of_getElem? (i := 237) rfl)))
theorem tw718 : (Cond.instanceMethod ⟨"FieldAfterFieldModel", "judge", "(II)I"⟩) ∈ tables_1 := List.mem_append_right _ (List.mem_append_right _ (List.mem_append_left _ (List.mem_of_getElem? (i := 238) rfl)))
theorem tw719 : (Cond.selects "FieldAfterFieldModel" ⟨"FieldAfterFieldModel", "judge", "(II)I"⟩ ⟨"FieldAfterFieldModel", "judge", "(II)I"⟩) ∈ tables_1 := List.mem_append_right _ (List.mem_append_right _ (List.mem_append_left _ (List.mem_of_getElem? (i := 239) rfl)))
theorem tw720 : (Cond.code ⟨"FieldAfterFieldModel", "judge", "(II)I"⟩ prog_9_method_28_code 8 (some .int)) ∈ tables_1 := List.mem_append_right _ (List.mem_append_right _ (List.mem_append_right _ (List.mem_of_getElem? (i := 0) rfl)))
theorem tw721 : (Cond.constant "FieldAfterFieldModel" 165 (-100003)) ∈ tables_1 := List.mem_append_right _ (List.mem_append_right _ (List.mem_append_right _ (List.mem_of_getElem? (i := 1) rfl)))
theorem tw722 : (Cond.methodLink "FieldAfterFieldModel" 166 ⟨"FieldAfterFieldModel", "findWorst", "(II)V"⟩) ∈ tables_1 := List.mem_append_right _ (List.mem_append_right _ (List.mem_append_right _ (List.mem_of_getElem? (i := 2) rfl)))
theorem tw723 : (Cond.privateMethod ⟨"FieldAfterFieldModel", "findWorst", "(II)V"⟩) ∈ tables_1 := List.mem_append_right _ (List.mem_append_right _ (List.mem_append_right _ (List.mem_of_getElem? (i := 3) rfl)))
theorem tw724 : (Cond.instanceMethod ⟨"FieldAfterFieldModel", "findWorst", "(II)V"⟩) ∈ tables_1 := List.mem_append_right _ (List.mem_append_right _ (List.mem_append_right _ (List.mem_of_getElem? (i := 4) rfl)))
theorem tw725 : (Cond.code ⟨"FieldAfterFieldModel", "findWorst", "(II)V"⟩ prog_9_method_27_code 7 (none : Option Jvm.ClassFile.FieldType)) ∈ tables_1 := List.mem_append_right _ (List.mem_append_right _ (List.mem_append_right _ (List.mem_of_getElem? (i := 5) rfl)))
theorem tw726 : (Cond.constantLong "FieldAfterFieldModel" 163 (-1)) ∈ tables_1 := List.mem_append_right _ (List.mem_append_right _ (List.mem_append_right _ (List.mem_of_getElem? (i := 6) rfl)))
theorem tw727 : (Cond.methodLink "FieldAfterFieldLaw" 63 ⟨"FieldAfterFieldModel", "plan", "(III)J"⟩) ∈ tables_1 := List.mem_append_right _ (List.mem_append_right _ (List.mem_append_right _ (List.mem_of_getElem? (i := 7) rfl)))
theorem tw728 : (Cond.instanceMethod ⟨"FieldAfterFieldModel", "plan", "(III)J"⟩) ∈ tables_1 := List.mem_append_right _ (List.mem_append_right _ (List.mem_append_right _ (List.mem_of_getElem? (i := 8) rfl)))
theorem tw729 : (Cond.selects "FieldAfterFieldModel" ⟨"FieldAfterFieldModel", "plan", "(III)J"⟩ ⟨"FieldAfterFieldModel", "plan", "(III)J"⟩) ∈ tables_1 := List.mem_append_right _ (List.mem_append_right _ (List.mem_append_right _ (List.mem_of_getElem? (i := 9) rfl)))
theorem tw730 : (Cond.code ⟨"FieldAfterFieldModel", "plan", "(III)J"⟩ prog_9_method_30_code 14 (some .long)) ∈ tables_1 := List.mem_append_right _ (List.mem_append_right _ (List.mem_append_right _ (List.mem_of_getElem? (i := 10) rfl)))
theorem tw731 : (Cond.constantLong "FieldAfterFieldModel" 169 (6)) ∈ tables_1 := List.mem_append_right _ (List.mem_append_right _ (List.mem_append_right _ (List.mem_of_getElem? (i := 11) rfl)))
theorem tw732 : (Cond.methodLink "FieldAfterFieldModel" 171 ⟨"FieldAfterFieldModel", "worstOf", "(I)J"⟩) ∈ tables_1 := List.mem_append_right _ (List.mem_append_right _ (List.mem_append_right _ (List.mem_of_getElem? (i := 12) rfl)))
theorem tw733 : (Cond.privateMethod ⟨"FieldAfterFieldModel", "worstOf", "(I)J"⟩) ∈ tables_1 := List.mem_append_right _ (List.mem_append_right _ (List.mem_append_right _ (List.mem_of_getElem? (i := 13) rfl)))
theorem tw734 : (Cond.instanceMethod ⟨"FieldAfterFieldModel", "worstOf", "(I)J"⟩) ∈ tables_1 := List.mem_append_right _ (List.mem_append_right _ (List.mem_append_right _ (List.mem_of_getElem? (i := 14) rfl)))
theorem tw735 : (Cond.code ⟨"FieldAfterFieldModel", "worstOf", "(I)J"⟩ prog_9_method_29_code 8 (some .long)) ∈ tables_1 := List.mem_append_right _ (List.mem_append_right _ (List.mem_append_right _ (List.mem_of_getElem? (i := 15) rfl)))
theorem tw736 : (Cond.methodLink "FieldAfterFieldModel" 175 ⟨"FieldAfterFieldModel", "isAhead", "(II)Z"⟩) ∈ tables_1 := List.mem_append_right _ (List.mem_append_right _ (List.mem_append_right _ (List.mem_of_getElem? (i := 16) rfl)))
theorem tw737 : (Cond.static ⟨"FieldAfterFieldModel", "isAhead", "(II)Z"⟩) ∈ tables_1 := List.mem_append_right _ (List.mem_append_right _ (List.mem_append_right _ (List.mem_of_getElem? (i := 17) rfl)))
theorem tw738 : (Cond.code ⟨"FieldAfterFieldModel", "isAhead", "(II)Z"⟩ prog_9_method_31_code 3 (some .boolean)) ∈ tables_1 := List.mem_append_right _ (List.mem_append_right _ (List.mem_append_right _ (List.mem_of_getElem? (i := 18) rfl)))
theorem tw739 : (Cond.methodLink "FieldAfterFieldLaw" 67 ⟨"FieldAfterFieldModel", "lot", "(II)I"⟩) ∈ tables_1 := List.mem_append_right _ (List.mem_append_right _ (List.mem_append_right _ (List.mem_of_getElem? (i := 19) rfl)))
theorem tw740 : (Cond.instanceMethod ⟨"FieldAfterFieldModel", "lot", "(II)I"⟩) ∈ tables_1 := List.mem_append_right _ (List.mem_append_right _ (List.mem_append_right _ (List.mem_of_getElem? (i := 20) rfl)))
theorem tw741 : (Cond.selects "FieldAfterFieldModel" ⟨"FieldAfterFieldModel", "lot", "(II)I"⟩ ⟨"FieldAfterFieldModel", "lot", "(II)I"⟩) ∈ tables_1 := List.mem_append_right _ (List.mem_append_right _ (List.mem_append_right _ (List.mem_of_getElem? (i := 21) rfl)))
theorem tw742 : (Cond.code ⟨"FieldAfterFieldModel", "lot", "(II)I"⟩ prog_9_method_33_code 3 (some .int)) ∈ tables_1 := List.mem_append_right _ (List.mem_append_right _ (List.mem_append_right _ (List.mem_of_getElem? (i := 22) rfl)))
theorem tw743 : (Cond.methodLink "FieldAfterFieldModel" 179 ⟨"FieldAfterFieldModel", "isTool", "(I)Z"⟩) ∈ tables_1 := List.mem_append_right _ (List.mem_append_right _ (List.mem_append_right _ (List.mem_of_getElem? (i := 23) rfl)))
theorem tw744 : (Cond.static ⟨"FieldAfterFieldModel", "isTool", "(I)Z"⟩) ∈ tables_1 := List.mem_append_right _ (List.mem_append_right _ (List.mem_append_right _ (List.mem_of_getElem? (i := 24) rfl)))
theorem tw745 : (Cond.code ⟨"FieldAfterFieldModel", "isTool", "(I)Z"⟩ prog_9_method_32_code 1 (some .boolean)) ∈ tables_1 := List.mem_append_right _ (List.mem_append_right _ (List.mem_append_right _ (List.mem_of_getElem? (i := 25) rfl)))
theorem tw746 : (Cond.constantLong "FieldAfterFieldModel" 182 (-9999)) ∈ tables_1 := List.mem_append_right _ (List.mem_append_right _ (List.mem_append_right _ (List.mem_of_getElem? (i := 26) rfl)))
theorem tw747 : (Cond.constantLong "FieldAfterFieldModel" 184 (9999)) ∈ tables_1 := List.mem_append_right _ (List.mem_append_right _ (List.mem_append_right _ (List.mem_of_getElem? (i := 27) rfl)))
theorem tw748 : (Cond.methodLink "FieldAfterFieldLaw" 71 ⟨"FieldAfterFieldModel", "back", "(II)I"⟩) ∈ tables_1 := List.mem_append_right _ (List.mem_append_right _ (List.mem_append_right _ (List.mem_of_getElem? (i := 28) rfl)))
theorem tw749 : (Cond.instanceMethod ⟨"FieldAfterFieldModel", "back", "(II)I"⟩) ∈ tables_1 := List.mem_append_right _ (List.mem_append_right _ (List.mem_append_right _ (List.mem_of_getElem? (i := 29) rfl)))
theorem tw750 : (Cond.selects "FieldAfterFieldModel" ⟨"FieldAfterFieldModel", "back", "(II)I"⟩ ⟨"FieldAfterFieldModel", "back", "(II)I"⟩) ∈ tables_1 := List.mem_append_right _ (List.mem_append_right _ (List.mem_append_right _ (List.mem_of_getElem? (i := 30) rfl)))
theorem tw751 : (Cond.code ⟨"FieldAfterFieldModel", "back", "(II)I"⟩ prog_9_method_34_code 3 (some .int)) ∈ tables_1 := List.mem_append_right _ (List.mem_append_right _ (List.mem_append_right _ (List.mem_of_getElem? (i := 31) rfl)))
theorem tw752 : (Cond.methodLink "FieldAfterFieldLaw" 75 ⟨"FieldAfterFieldModel", "mend", "(I)I"⟩) ∈ tables_1 := List.mem_append_right _ (List.mem_append_right _ (List.mem_append_right _ (List.mem_of_getElem? (i := 32) rfl)))
theorem tw753 : (Cond.instanceMethod ⟨"FieldAfterFieldModel", "mend", "(I)I"⟩) ∈ tables_1 := List.mem_append_right _ (List.mem_append_right _ (List.mem_append_right _ (List.mem_of_getElem? (i := 33) rfl)))
theorem tw754 : (Cond.selects "FieldAfterFieldModel" ⟨"FieldAfterFieldModel", "mend", "(I)I"⟩ ⟨"FieldAfterFieldModel", "mend", "(I)I"⟩) ∈ tables_1 := List.mem_append_right _ (List.mem_append_right _ (List.mem_append_right _ (List.mem_of_getElem? (i := 34) rfl)))
theorem tw755 : (Cond.code ⟨"FieldAfterFieldModel", "mend", "(I)I"⟩ prog_9_method_35_code 2 (some .int)) ∈ tables_1 := List.mem_append_right _ (List.mem_append_right _ (List.mem_append_right _ (List.mem_of_getElem? (i := 35) rfl)))
theorem tw756 : (Cond.methodLink "FieldAfterFieldLaw" 79 ⟨"FieldAfterFieldModel", "gain", "(I)I"⟩) ∈ tables_1 := List.mem_append_right _ (List.mem_append_right _ (List.mem_append_right _ (List.mem_of_getElem? (i := 36) rfl)))
theorem tw757 : (Cond.instanceMethod ⟨"FieldAfterFieldModel", "gain", "(I)I"⟩) ∈ tables_1 := List.mem_append_right _ (List.mem_append_right _ (List.mem_append_right _ (List.mem_of_getElem? (i := 37) rfl)))
theorem tw758 : (Cond.selects "FieldAfterFieldModel" ⟨"FieldAfterFieldModel", "gain", "(I)I"⟩ ⟨"FieldAfterFieldModel", "gain", "(I)I"⟩) ∈ tables_1 := List.mem_append_right _ (List.mem_append_right _ (List.mem_append_right _ (List.mem_of_getElem? (i := 38) rfl)))
theorem tw759 : (Cond.code ⟨"FieldAfterFieldModel", "gain", "(I)I"⟩ prog_9_method_36_code 3 (some .int)) ∈ tables_1 := List.mem_append_right _ (List.mem_append_right _ (List.mem_append_right _ (List.mem_of_getElem? (i := 39) rfl)))
theorem tw760 : (Cond.constantLong "FieldAfterFieldModel" 186 (16)) ∈ tables_1 := List.mem_append_right _ (List.mem_append_right _ (List.mem_append_right _ (List.mem_of_getElem? (i := 40) rfl)))
theorem tw761 : (Cond.methodLink "FieldAfterFieldLaw" 83 ⟨"FieldAfterFieldModel", "state", "(II)I"⟩) ∈ tables_1 := List.mem_append_right _ (List.mem_append_right _ (List.mem_append_right _ (List.mem_of_getElem? (i := 41) rfl)))
theorem tw762 : (Cond.instanceMethod ⟨"FieldAfterFieldModel", "state", "(II)I"⟩) ∈ tables_1 := List.mem_append_right _ (List.mem_append_right _ (List.mem_append_right _ (List.mem_of_getElem? (i := 42) rfl)))
theorem tw763 : (Cond.selects "FieldAfterFieldModel" ⟨"FieldAfterFieldModel", "state", "(II)I"⟩ ⟨"FieldAfterFieldModel", "state", "(II)I"⟩) ∈ tables_1 := List.mem_append_right _ (List.mem_append_right _ (List.mem_append_right _ (List.mem_of_getElem? (i := 43) rfl)))
theorem tw764 : (Cond.code ⟨"FieldAfterFieldModel", "state", "(II)I"⟩ prog_9_method_38_code 3 (some .int)) ∈ tables_1 := List.mem_append_right _ (List.mem_append_right _ (List.mem_append_right _ (List.mem_of_getElem? (i := 44) rfl)))
theorem tw765 : (Cond.methodLink "FieldAfterFieldModel" 188 ⟨"FieldAfterFieldModel", "stateOf", "(II)I"⟩) ∈ tables_1 := List.mem_append_right _ (List.mem_append_right _ (List.mem_append_right _ (List.mem_of_getElem? (i := 45) rfl)))
theorem tw766 : (Cond.privateMethod ⟨"FieldAfterFieldModel", "stateOf", "(II)I"⟩) ∈ tables_1 := List.mem_append_right _ (List.mem_append_right _ (List.mem_append_right _ (List.mem_of_getElem? (i := 46) rfl)))
theorem tw767 : (Cond.instanceMethod ⟨"FieldAfterFieldModel", "stateOf", "(II)I"⟩) ∈ tables_1 := List.mem_append_right _ (List.mem_append_right _ (List.mem_append_right _ (List.mem_of_getElem? (i := 47) rfl)))
theorem tw768 : (Cond.code ⟨"FieldAfterFieldModel", "stateOf", "(II)I"⟩ prog_9_method_37_code 5 (some .int)) ∈ tables_1 := List.mem_append_right _ (List.mem_append_right _ (List.mem_append_right _ (List.mem_of_getElem? (i := 48) rfl)))
theorem tw769 : (Cond.methodLink "FieldAfterFieldLaw" 87 ⟨"FieldAfterFieldModel", "advice", "(I)I"⟩) ∈ tables_1 := List.mem_append_right _ (List.mem_append_right _ (List.mem_append_right _ (List.mem_of_getElem? (i := 49) rfl)))
theorem tw770 : (Cond.instanceMethod ⟨"FieldAfterFieldModel", "advice", "(I)I"⟩) ∈ tables_1 := List.mem_append_right _ (List.mem_append_right _ (List.mem_append_right _ (List.mem_of_getElem? (i := 50) rfl)))
theorem tw771 : (Cond.selects "FieldAfterFieldModel" ⟨"FieldAfterFieldModel", "advice", "(I)I"⟩ ⟨"FieldAfterFieldModel", "advice", "(I)I"⟩) ∈ tables_1 := List.mem_append_right _ (List.mem_append_right _ (List.mem_append_right _ (List.mem_of_getElem? (i := 51) rfl)))
theorem tw772 : (Cond.code ⟨"FieldAfterFieldModel", "advice", "(I)I"⟩ prog_9_method_39_code 2 (some .int)) ∈ tables_1 := List.mem_append_right _ (List.mem_append_right _ (List.mem_append_right _ (List.mem_of_getElem? (i := 52) rfl)))
theorem tw773 : (Cond.methodLink "FieldAfterFieldLaw" 91 ⟨"FieldAfterFieldModel", "offset", "(III)I"⟩) ∈ tables_1 := List.mem_append_right _ (List.mem_append_right _ (List.mem_append_right _ (List.mem_of_getElem? (i := 53) rfl)))
theorem tw774 : (Cond.instanceMethod ⟨"FieldAfterFieldModel", "offset", "(III)I"⟩) ∈ tables_1 := List.mem_append_right _ (List.mem_append_right _ (List.mem_append_right _ (List.mem_of_getElem? (i := 54) rfl)))
theorem tw775 : (Cond.selects "FieldAfterFieldModel" ⟨"FieldAfterFieldModel", "offset", "(III)I"⟩ ⟨"FieldAfterFieldModel", "offset", "(III)I"⟩) ∈ tables_1 := List.mem_append_right _ (List.mem_append_right _ (List.mem_append_right _ (List.mem_of_getElem? (i := 55) rfl)))
theorem tw776 : (Cond.code ⟨"FieldAfterFieldModel", "offset", "(III)I"⟩ prog_9_method_40_code 5 (some .int)) ∈ tables_1 := List.mem_append_right _ (List.mem_append_right _ (List.mem_append_right _ (List.mem_of_getElem? (i := 56) rfl)))
theorem tw777 : (Cond.methodLink "FieldAfterFieldLaw" 95 ⟨"FieldAfterFieldModel", "rule", "(II)I"⟩) ∈ tables_1 := List.mem_append_right _ (List.mem_append_right _ (List.mem_append_right _ (List.mem_of_getElem? (i := 57) rfl)))
theorem tw778 : (Cond.instanceMethod ⟨"FieldAfterFieldModel", "rule", "(II)I"⟩) ∈ tables_1 := List.mem_append_right _ (List.mem_append_right _ (List.mem_append_right _ (List.mem_of_getElem? (i := 58) rfl)))
theorem tw779 : (Cond.selects "FieldAfterFieldModel" ⟨"FieldAfterFieldModel", "rule", "(II)I"⟩ ⟨"FieldAfterFieldModel", "rule", "(II)I"⟩) ∈ tables_1 := List.mem_append_right _ (List.mem_append_right _ (List.mem_append_right _ (List.mem_of_getElem? (i := 59) rfl)))
theorem tw780 : (Cond.code ⟨"FieldAfterFieldModel", "rule", "(II)I"⟩ prog_9_method_41_code 4 (some .int)) ∈ tables_1 := List.mem_append_right _ (List.mem_append_right _ (List.mem_append_right _ (List.mem_of_getElem? (i := 60) rfl)))
theorem tw781 : (Cond.constantLong "FieldAfterFieldModel" 192 (1998)) ∈ tables_1 := List.mem_append_right _ (List.mem_append_right _ (List.mem_append_right _ (List.mem_of_getElem? (i := 61) rfl)))
theorem tw782 : (Cond.methodLink "FieldAfterFieldLaw" 99 ⟨"FieldAfterFieldModel", "route", "(II)I"⟩) ∈ tables_1 := List.mem_append_right _ (List.mem_append_right _ (List.mem_append_right _ (List.mem_of_getElem? (i := 62) rfl)))
theorem tw783 : (Cond.instanceMethod ⟨"FieldAfterFieldModel", "route", "(II)I"⟩) ∈ tables_1 := List.mem_append_right _ (List.mem_append_right _ (List.mem_append_right _ (List.mem_of_getElem? (i := 63) rfl)))
theorem tw784 : (Cond.selects "FieldAfterFieldModel" ⟨"FieldAfterFieldModel", "route", "(II)I"⟩ ⟨"FieldAfterFieldModel", "route", "(II)I"⟩) ∈ tables_1 := List.mem_append_right _ (List.mem_append_right _ (List.mem_append_right _ (List.mem_of_getElem? (i := 64) rfl)))
theorem tw785 : (Cond.code ⟨"FieldAfterFieldModel", "route", "(II)I"⟩ prog_9_method_44_code 7 (some .int)) ∈ tables_1 := List.mem_append_right _ (List.mem_append_right _ (List.mem_append_right _ (List.mem_of_getElem? (i := 65) rfl)))
theorem tw786 : (Cond.methodLink "FieldAfterFieldModel" 194 ⟨"FieldAfterFieldModel", "layRoute", "(II)V"⟩) ∈ tables_1 := List.mem_append_right _ (List.mem_append_right _ (List.mem_append_right _ (List.mem_of_getElem? (i := 66) rfl)))
theorem tw787 : (Cond.privateMethod ⟨"FieldAfterFieldModel", "layRoute", "(II)V"⟩) ∈ tables_1 := List.mem_append_right _ (List.mem_append_right _ (List.mem_append_right _ (List.mem_of_getElem? (i := 67) rfl)))
theorem tw788 : (Cond.instanceMethod ⟨"FieldAfterFieldModel", "layRoute", "(II)V"⟩) ∈ tables_1 := List.mem_append_right _ (List.mem_append_right _ (List.mem_append_right _ (List.mem_of_getElem? (i := 68) rfl)))
theorem tw789 : (Cond.code ⟨"FieldAfterFieldModel", "layRoute", "(II)V"⟩ prog_9_method_43_code 5 (none : Option Jvm.ClassFile.FieldType)) ∈ tables_1 := List.mem_append_right _ (List.mem_append_right _ (List.mem_append_right _ (List.mem_of_getElem? (i := 69) rfl)))
theorem tw790 : (Cond.methodLink "FieldAfterFieldModel" 197 ⟨"FieldAfterFieldModel", "sumOf", "(I)I"⟩) ∈ tables_1 := List.mem_append_right _ (List.mem_append_right _ (List.mem_append_right _ (List.mem_of_getElem? (i := 70) rfl)))
theorem tw791 : (Cond.privateMethod ⟨"FieldAfterFieldModel", "sumOf", "(I)I"⟩) ∈ tables_1 := List.mem_append_right _ (List.mem_append_right _ (List.mem_append_right _ (List.mem_of_getElem? (i := 71) rfl)))
theorem tw792 : (Cond.instanceMethod ⟨"FieldAfterFieldModel", "sumOf", "(I)I"⟩) ∈ tables_1 := List.mem_append_right _ (List.mem_append_right _ (List.mem_append_right _ (List.mem_of_getElem? (i := 72) rfl)))
theorem tw793 : (Cond.code ⟨"FieldAfterFieldModel", "sumOf", "(I)I"⟩ prog_9_method_42_code 5 (some .int)) ∈ tables_1 := List.mem_append_right _ (List.mem_append_right _ (List.mem_append_right _ (List.mem_of_getElem? (i := 73) rfl)))
theorem tw794 : (Cond.methodLink "FieldAfterFieldLaw" 103 ⟨"FieldAfterFieldModel", "bad", "(III)I"⟩) ∈ tables_1 := List.mem_append_right _ (List.mem_append_right _ (List.mem_append_right _ (List.mem_of_getElem? (i := 74) rfl)))
theorem tw795 : (Cond.instanceMethod ⟨"FieldAfterFieldModel", "bad", "(III)I"⟩) ∈ tables_1 := List.mem_append_right _ (List.mem_append_right _ (List.mem_append_right _ (List.mem_of_getElem? (i := 75) rfl)))
theorem tw796 : (Cond.selects "FieldAfterFieldModel" ⟨"FieldAfterFieldModel", "bad", "(III)I"⟩ ⟨"FieldAfterFieldModel", "bad", "(III)I"⟩) ∈ tables_1 := List.mem_append_right _ (List.mem_append_right _ (List.mem_append_right _ (List.mem_of_getElem? (i := 76) rfl)))
theorem tw797 : (Cond.code ⟨"FieldAfterFieldModel", "bad", "(III)I"⟩ prog_9_method_45_code 7 (some .int)) ∈ tables_1 := List.mem_append_right _ (List.mem_append_right _ (List.mem_append_right _ (List.mem_of_getElem? (i := 77) rfl)))
theorem ts0 : (Cond.selects "FieldAfterField$Marks" ⟨"FieldAfterField$Marks", "add", "(IIII)I"⟩ ⟨"FieldAfterField$Marks", "add", "(IIII)I"⟩) ∈ k2_sels lw_privs := List.mem_of_getElem? (i := 0) rfl
theorem ts1 : (Cond.selects "FieldAfterField$Marks" ⟨"FieldAfterField$Marks", "has", "(I)Z"⟩ ⟨"FieldAfterField$Marks", "has", "(I)Z"⟩) ∈ k2_sels lw_privs := List.mem_of_getElem? (i := 1) rfl
theorem ts2 : (Cond.selects "FieldAfterField$Marks" ⟨"FieldAfterField$Marks", "setReads", "(III)V"⟩ ⟨"FieldAfterField$Marks", "setReads", "(III)V"⟩) ∈ k2_sels lw_privs := List.mem_of_getElem? (i := 2) rfl
theorem ts3 : (Cond.selects "FieldAfterField$Marks" ⟨"FieldAfterField$Marks", "forget", "(I)V"⟩ ⟨"FieldAfterField$Marks", "forget", "(I)V"⟩) ∈ k2_sels lw_privs := List.mem_of_getElem? (i := 3) rfl
theorem ts4 : (Cond.selects "FieldAfterField$Marks" ⟨"FieldAfterField$Marks", "counting", "()I"⟩ ⟨"FieldAfterField$Marks", "counting", "()I"⟩) ∈ k2_sels lw_privs := List.mem_of_getElem? (i := 4) rfl
theorem ts5 : (Cond.selects "FieldAfterField$Marks" ⟨"FieldAfterField$Marks", "notLost", "()I"⟩ ⟨"FieldAfterField$Marks", "notLost", "()I"⟩) ∈ k2_sels lw_privs := List.mem_of_getElem? (i := 5) rfl
theorem ts6 : (Cond.selects "FieldAfterField$Book" ⟨"FieldAfterField$Book", "howManyRead", "()I"⟩ ⟨"FieldAfterField$Book", "howManyRead", "()I"⟩) ∈ k2_sels lw_privs := List.mem_of_getElem? (i := 6) rfl
theorem ts7 : (Cond.selects "FieldAfterField$Marks" ⟨"FieldAfterField$Marks", "fieldsOf", "(I)I"⟩ ⟨"FieldAfterField$Marks", "fieldsOf", "(I)I"⟩) ∈ k2_sels lw_privs := List.mem_of_getElem? (i := 7) rfl
theorem ts8 : (Cond.selects "FieldAfterField$Marks" ⟨"FieldAfterField$Marks", "hasEarlierOfField", "(II)Z"⟩ ⟨"FieldAfterField$Marks", "hasEarlierOfField", "(II)Z"⟩) ∈ k2_sels lw_privs := List.mem_of_getElem? (i := 8) rfl
theorem ts9 : (Cond.selects "FieldAfterField$Fit" ⟨"FieldAfterField$Fit", "make", "(LFieldAfterField$Marks;II)Z"⟩ ⟨"FieldAfterField$Fit", "make", "(LFieldAfterField$Marks;II)Z"⟩) ∈ k2_sels lw_privs := List.mem_of_getElem? (i := 9) rfl
theorem ts10 : (Cond.selects "FieldAfterField$Table" ⟨"FieldAfterField$Table", "clear", "(I)V"⟩ ⟨"FieldAfterField$Table", "clear", "(I)V"⟩) ∈ k2_sels lw_privs := List.mem_of_getElem? (i := 10) rfl
theorem ts11 : (Cond.selects "FieldAfterField$Marks" ⟨"FieldAfterField$Marks", "secondTerm", "(II)I"⟩ ⟨"FieldAfterField$Marks", "secondTerm", "(II)I"⟩) ∈ k2_sels lw_privs := List.mem_of_getElem? (i := 11) rfl
theorem ts12 : (Cond.selects "FieldAfterField$Marks" ⟨"FieldAfterField$Marks", "thirdTerm", "(II)I"⟩ ⟨"FieldAfterField$Marks", "thirdTerm", "(II)I"⟩) ∈ k2_sels lw_privs := List.mem_of_getElem? (i := 12) rfl
theorem ts13 : (Cond.selects "FieldAfterField$Table" ⟨"FieldAfterField$Table", "add", "(JJI)V"⟩ ⟨"FieldAfterField$Table", "add", "(JJI)V"⟩) ∈ k2_sels lw_privs := List.mem_of_getElem? (i := 13) rfl
theorem ts14 : (Cond.selects "FieldAfterField$Table" ⟨"FieldAfterField$Table", "turnBack", "()V"⟩ ⟨"FieldAfterField$Table", "turnBack", "()V"⟩) ∈ k2_sels lw_privs := List.mem_of_getElem? (i := 14) rfl
theorem ts15 : (Cond.selects "FieldAfterField$Fit" ⟨"FieldAfterField$Fit", "makeSums", "(LFieldAfterField$Marks;II)V"⟩ ⟨"FieldAfterField$Fit", "makeSums", "(LFieldAfterField$Marks;II)V"⟩) ∈ k2_sels lw_privs := List.mem_of_getElem? (i := 15) rfl
theorem ts16 : (Cond.selects "FieldAfterField$Fit" ⟨"FieldAfterField$Fit", "makeFactors", "(I)V"⟩ ⟨"FieldAfterField$Fit", "makeFactors", "(I)V"⟩) ∈ k2_sels lw_privs := List.mem_of_getElem? (i := 16) rfl
theorem ts17 : (Cond.selects "FieldAfterField$Fit" ⟨"FieldAfterField$Fit", "restOf", "(LFieldAfterField$Marks;II)J"⟩ ⟨"FieldAfterField$Fit", "restOf", "(LFieldAfterField$Marks;II)J"⟩) ∈ k2_sels lw_privs := List.mem_of_getElem? (i := 17) rfl
theorem ts18 : (Cond.selects "FieldAfterField$Fit" ⟨"FieldAfterField$Fit", "sumOfSquares", "(I)J"⟩ ⟨"FieldAfterField$Fit", "sumOfSquares", "(I)J"⟩) ∈ k2_sels lw_privs := List.mem_of_getElem? (i := 18) rfl
theorem ts19 : (Cond.selects "FieldAfterField$Fit" ⟨"FieldAfterField$Fit", "liars", "(LFieldAfterField$Marks;II)I"⟩ ⟨"FieldAfterField$Fit", "liars", "(LFieldAfterField$Marks;II)I"⟩) ∈ k2_sels lw_privs := List.mem_of_getElem? (i := 19) rfl
theorem ts20 : (Cond.selects "FieldAfterField$Fit" ⟨"FieldAfterField$Fit", "above", "(LFieldAfterField$Marks;II)I"⟩ ⟨"FieldAfterField$Fit", "above", "(LFieldAfterField$Marks;II)I"⟩) ∈ k2_sels lw_privs := List.mem_of_getElem? (i := 20) rfl
theorem ts21 : (Cond.selects "FieldAfterField$Fit" ⟨"FieldAfterField$Fit", "greaterRestOf", "(LFieldAfterField$Marks;I)J"⟩ ⟨"FieldAfterField$Fit", "greaterRestOf", "(LFieldAfterField$Marks;I)J"⟩) ∈ k2_sels lw_privs := List.mem_of_getElem? (i := 21) rfl
theorem ts22 : (Cond.selects "FieldAfterField$Fit" ⟨"FieldAfterField$Fit", "worstOf", "(LFieldAfterField$Marks;I)I"⟩ ⟨"FieldAfterField$Fit", "worstOf", "(LFieldAfterField$Marks;I)I"⟩) ∈ k2_sels lw_privs := List.mem_of_getElem? (i := 22) rfl
theorem ts23 : (Cond.selects "FieldAfterField$Planner" ⟨"FieldAfterField$Planner", "make", "(LFieldAfterField$Marks;II)Z"⟩ ⟨"FieldAfterField$Planner", "make", "(LFieldAfterField$Marks;II)Z"⟩) ∈ k2_sels lw_privs := List.mem_of_getElem? (i := 23) rfl
theorem ts24 : (Cond.selects "FieldAfterField$Planner" ⟨"FieldAfterField$Planner", "choose", "(LFieldAfterField$Marks;III)V"⟩ ⟨"FieldAfterField$Planner", "choose", "(LFieldAfterField$Marks;III)V"⟩) ∈ k2_sels lw_privs := List.mem_of_getElem? (i := 24) rfl
theorem ts25 : (Cond.selects "FieldAfterField$Planner" ⟨"FieldAfterField$Planner", "weigh", "(LFieldAfterField$Marks;I)V"⟩ ⟨"FieldAfterField$Planner", "weigh", "(LFieldAfterField$Marks;I)V"⟩) ∈ k2_sels lw_privs := List.mem_of_getElem? (i := 25) rfl
theorem ts26 : (Cond.selects "FieldAfterField$Table" ⟨"FieldAfterField$Table", "formOf", "(JJ)J"⟩ ⟨"FieldAfterField$Table", "formOf", "(JJ)J"⟩) ∈ k2_sels lw_privs := List.mem_of_getElem? (i := 26) rfl
theorem ts27 : (Cond.selects "FieldAfterField$Book" ⟨"FieldAfterField$Book", "add", "(II)I"⟩ ⟨"FieldAfterField$Book", "add", "(II)I"⟩) ∈ k2_sels lw_privs := List.mem_of_getElem? (i := 27) rfl
theorem ts28 : (Cond.selects "FieldAfterField$Book" ⟨"FieldAfterField$Book", "has", "(I)Z"⟩ ⟨"FieldAfterField$Book", "has", "(I)Z"⟩) ∈ k2_sels lw_privs := List.mem_of_getElem? (i := 28) rfl
theorem ts29 : (Cond.selects "FieldAfterField$Book" ⟨"FieldAfterField$Book", "setRead", "(II)V"⟩ ⟨"FieldAfterField$Book", "setRead", "(II)V"⟩) ∈ k2_sels lw_privs := List.mem_of_getElem? (i := 29) rfl
theorem ts30 : (Cond.selects "FieldAfterField$Book" ⟨"FieldAfterField$Book", "setMended", "(I)V"⟩ ⟨"FieldAfterField$Book", "setMended", "(I)V"⟩) ∈ k2_sels lw_privs := List.mem_of_getElem? (i := 30) rfl
theorem ts31 : (Cond.selects "FieldAfterField$Book" ⟨"FieldAfterField$Book", "stateAhead", "(II)I"⟩ ⟨"FieldAfterField$Book", "stateAhead", "(II)I"⟩) ∈ k2_sels lw_privs := List.mem_of_getElem? (i := 31) rfl
theorem ts32 : (Cond.selects "FieldAfterField$Router" ⟨"FieldAfterField$Router", "make", "(I)Z"⟩ ⟨"FieldAfterField$Router", "make", "(I)Z"⟩) ∈ k2_sels lw_privs := List.mem_of_getElem? (i := 32) rfl
theorem ts33 : (Cond.selects "FieldAfterField$Router" ⟨"FieldAfterField$Router", "send", "(III)V"⟩ ⟨"FieldAfterField$Router", "send", "(III)V"⟩) ∈ k2_sels lw_privs := List.mem_of_getElem? (i := 33) rfl
theorem ts34 : (Cond.selects "FieldAfterField$Router" ⟨"FieldAfterField$Router", "stepTo", "(II)I"⟩ ⟨"FieldAfterField$Router", "stepTo", "(II)I"⟩) ∈ k2_sels lw_privs := List.mem_of_getElem? (i := 34) rfl
theorem ts35 : (Cond.selects "FieldAfterFieldModel" ⟨"FieldAfterFieldModel", "isMark", "(I)Z"⟩ ⟨"FieldAfterFieldModel", "isMark", "(I)Z"⟩) ∈ k2_sels lw_privs := List.mem_of_getElem? (i := 35) rfl
theorem ts36 : (Cond.selects "FieldAfterFieldModel" ⟨"FieldAfterFieldModel", "counting", "()I"⟩ ⟨"FieldAfterFieldModel", "counting", "()I"⟩) ∈ k2_sels lw_privs := List.mem_of_getElem? (i := 36) rfl
theorem ts37 : (Cond.selects "FieldAfterFieldModel" ⟨"FieldAfterFieldModel", "counts", "(I)Z"⟩ ⟨"FieldAfterFieldModel", "counts", "(I)Z"⟩) ∈ k2_sels lw_privs := List.mem_of_getElem? (i := 37) rfl
theorem ts38 : (Cond.selects "FieldAfterFieldModel" ⟨"FieldAfterFieldModel", "fieldsOf", "(I)I"⟩ ⟨"FieldAfterFieldModel", "fieldsOf", "(I)I"⟩) ∈ k2_sels lw_privs := List.mem_of_getElem? (i := 38) rfl
theorem ts39 : (Cond.selects "FieldAfterFieldModel" ⟨"FieldAfterFieldModel", "lay", "(II)V"⟩ ⟨"FieldAfterFieldModel", "lay", "(II)V"⟩) ∈ k2_sels lw_privs := List.mem_of_getElem? (i := 39) rfl
theorem ts40 : (Cond.selects "FieldAfterFieldModel" ⟨"FieldAfterFieldModel", "term", "(III)J"⟩ ⟨"FieldAfterFieldModel", "term", "(III)J"⟩) ∈ k2_sels lw_privs := List.mem_of_getElem? (i := 40) rfl
theorem ts41 : (Cond.selects "FieldAfterFieldModel" ⟨"FieldAfterFieldModel", "minor", "(II)J"⟩ ⟨"FieldAfterFieldModel", "minor", "(II)J"⟩) ∈ k2_sels lw_privs := List.mem_of_getElem? (i := 41) rfl
theorem ts42 : (Cond.selects "FieldAfterFieldModel" ⟨"FieldAfterFieldModel", "findFit", "(III)V"⟩ ⟨"FieldAfterFieldModel", "findFit", "(III)V"⟩) ∈ k2_sels lw_privs := List.mem_of_getElem? (i := 42) rfl
theorem ts43 : (Cond.selects "FieldAfterFieldModel" ⟨"FieldAfterFieldModel", "restOf", "(III)J"⟩ ⟨"FieldAfterFieldModel", "restOf", "(III)J"⟩) ∈ k2_sels lw_privs := List.mem_of_getElem? (i := 43) rfl
theorem ts44 : (Cond.selects "FieldAfterFieldModel" ⟨"FieldAfterFieldModel", "findWorst", "(II)V"⟩ ⟨"FieldAfterFieldModel", "findWorst", "(II)V"⟩) ∈ k2_sels lw_privs := List.mem_of_getElem? (i := 44) rfl
theorem ts45 : (Cond.selects "FieldAfterFieldModel" ⟨"FieldAfterFieldModel", "worstOf", "(I)J"⟩ ⟨"FieldAfterFieldModel", "worstOf", "(I)J"⟩) ∈ k2_sels lw_privs := List.mem_of_getElem? (i := 45) rfl
theorem ts46 : (Cond.selects "FieldAfterFieldModel" ⟨"FieldAfterFieldModel", "stateOf", "(II)I"⟩ ⟨"FieldAfterFieldModel", "stateOf", "(II)I"⟩) ∈ k2_sels lw_privs := List.mem_of_getElem? (i := 46) rfl
theorem ts47 : (Cond.selects "FieldAfterFieldModel" ⟨"FieldAfterFieldModel", "layRoute", "(II)V"⟩ ⟨"FieldAfterFieldModel", "layRoute", "(II)V"⟩) ∈ k2_sels lw_privs := List.mem_of_getElem? (i := 47) rfl
theorem ts48 : (Cond.selects "FieldAfterFieldModel" ⟨"FieldAfterFieldModel", "sumOf", "(I)I"⟩ ⟨"FieldAfterFieldModel", "sumOf", "(I)I"⟩) ∈ k2_sels lw_privs := List.mem_of_getElem? (i := 48) rfl
theorem inX0 : ∀ w ∈ wsX00, w ∈ WA := by
  intro w h
  obtain ⟨k, hk, rfl⟩ := List.mem_map.mp h
  have hk := List.mem_range.mp hk
  match k, hk with
  | 0, _ => exact wa tw187 rfl
  | 1, _ => exact wa tw189 rfl
  | 2, _ => exact wa tw191 rfl
  | 3, _ => exact wa tw193 rfl
  | 4, _ => exact wa tw195 rfl
  | 5, _ => exact wa tw197 rfl
  | 6, _ => exact wa tw199 rfl
  | n + 7, hk => exact absurd hk (by omega)
theorem inX1 : ∀ w ∈ wsX10, w ∈ WA := by
  intro w h
  obtain ⟨k, hk, rfl⟩ := List.mem_map.mp h
  have hk := List.mem_range.mp hk
  match k, hk with
  | 0, _ => exact wa tw134 rfl
  | 1, _ => exact wa tw136 rfl
  | 2, _ => exact wa tw138 rfl
  | 3, _ => exact wa tw140 rfl
  | n + 4, hk => exact absurd hk (by omega)
theorem inX2 : ∀ w ∈ wsX20, w ∈ WA := by
  intro w h
  obtain ⟨k, hk, rfl⟩ := List.mem_map.mp h
  have hk := List.mem_range.mp hk
  match k, hk with
  | 0, _ => exact wa tw47 rfl
  | 1, _ => exact wa tw49 rfl
  | 2, _ => exact wa tw51 rfl
  | 3, _ => exact wa tw53 rfl
  | 4, _ => exact wa tw55 rfl
  | 5, _ => exact wa tw57 rfl
  | 6, _ => exact wa tw59 rfl
  | 7, _ => exact wa tw61 rfl
  | n + 8, hk => exact absurd hk (by omega)
theorem inX3 : ∀ w ∈ wsX30, w ∈ WA := by
  intro w h
  obtain ⟨k, hk, rfl⟩ := List.mem_map.mp h
  have hk := List.mem_range.mp hk
  match k, hk with
  | 0, _ => exact wa tw160 rfl
  | 1, _ => exact wa tw162 rfl
  | 2, _ => exact wa tw164 rfl
  | 3, _ => exact wa tw166 rfl
  | 4, _ => exact wa tw168 rfl
  | n + 5, hk => exact absurd hk (by omega)
theorem inX4 : ∀ w ∈ wsX40, w ∈ WA := by
  intro w h
  obtain ⟨k, hk, rfl⟩ := List.mem_map.mp h
  have hk := List.mem_range.mp hk
  match k, hk with
  | 0, _ => exact wa tw222 rfl
  | 1, _ => exact wa tw224 rfl
  | 2, _ => exact wa tw226 rfl
  | 3, _ => exact wa tw228 rfl
  | 4, _ => exact wa tw230 rfl
  | 5, _ => exact wa tw232 rfl
  | 6, _ => exact wa tw234 rfl
  | n + 7, hk => exact absurd hk (by omega)
theorem inX5 : ∀ w ∈ wsX50, w ∈ WA := by
  intro w h
  obtain ⟨k, hk, rfl⟩ := List.mem_map.mp h
  have hk := List.mem_range.mp hk
  match k, hk with
  | 0, _ => exact wa tw99 rfl
  | 1, _ => exact wa tw101 rfl
  | 2, _ => exact wa tw103 rfl
  | 3, _ => exact wa tw105 rfl
  | 4, _ => exact wa tw107 rfl
  | 5, _ => exact wa tw109 rfl
  | 6, _ => exact wa tw111 rfl
  | 7, _ => exact wa tw113 rfl
  | 8, _ => exact wa tw115 rfl
  | 9, _ => exact wa tw117 rfl
  | 10, _ => exact wa tw119 rfl
  | 11, _ => exact wa tw121 rfl
  | 12, _ => exact wa tw123 rfl
  | n + 13, hk => exact absurd hk (by omega)
theorem inX6 : ∀ w ∈ wsX60, w ∈ WA := by
  intro w h
  obtain ⟨k, hk, rfl⟩ := List.mem_map.mp h
  have hk := List.mem_range.mp hk
  match k, hk with
  | 0, _ => exact wa tw242 rfl
  | 1, _ => exact wa tw244 rfl
  | 2, _ => exact wa tw246 rfl
  | 3, _ => exact wa tw248 rfl
  | 4, _ => exact wa tw250 rfl
  | n + 5, hk => exact absurd hk (by omega)
theorem inX7 : ∀ w ∈ wsX70, w ∈ WA := by
  intro w h
  obtain ⟨k, hk, rfl⟩ := List.mem_map.mp h
  have hk := List.mem_range.mp hk
  match k, hk with
  | 0, _ => exact wa tw566 rfl
  | 1, _ => exact wa tw568 rfl
  | 2, _ => exact wa tw570 rfl
  | 3, _ => exact wa tw572 rfl
  | 4, _ => exact wa tw574 rfl
  | 5, _ => exact wa tw576 rfl
  | 6, _ => exact wa tw578 rfl
  | 7, _ => exact wa tw580 rfl
  | 8, _ => exact wa tw582 rfl
  | 9, _ => exact wa tw584 rfl
  | 10, _ => exact wa tw586 rfl
  | 11, _ => exact wa tw588 rfl
  | 12, _ => exact wa tw590 rfl
  | 13, _ => exact wa tw592 rfl
  | 14, _ => exact wa tw594 rfl
  | 15, _ => exact wa tw596 rfl
  | 16, _ => exact wa tw598 rfl
  | 17, _ => exact wa tw600 rfl
  | 18, _ => exact wa tw602 rfl
  | 19, _ => exact wa tw604 rfl
  | 20, _ => exact wa tw606 rfl
  | 21, _ => exact wa tw608 rfl
  | 22, _ => exact wa tw610 rfl
  | n + 23, hk => exact absurd hk (by omega)
end
section
theorem dX0_init_0 : decode cX0_init 0 = .ok (.aload_n 0, 1) := by decide +kernel
theorem dX0_init_1 : decode cX0_init 1 = .ok (.invokespecial 3, 3) := by decide +kernel
theorem dX0_init_4 : decode cX0_init 4 = .ok (.aload_n 0, 1) := by decide +kernel
theorem dX0_init_5 : decode cX0_init 5 = .ok (.bipush 60, 2) := by decide +kernel
theorem dX0_init_7 : decode cX0_init 7 = .ok (.newarray .int, 2) := by decide +kernel
theorem dX0_init_9 : decode cX0_init 9 = .ok (.putfield 9, 3) := by decide +kernel
theorem dX0_init_12 : decode cX0_init 12 = .ok (.aload_n 0, 1) := by decide +kernel
theorem dX0_init_13 : decode cX0_init 13 = .ok (.bipush 60, 2) := by decide +kernel
theorem dX0_init_15 : decode cX0_init 15 = .ok (.newarray .int, 2) := by decide +kernel
theorem dX0_init_17 : decode cX0_init 17 = .ok (.putfield 15, 3) := by decide +kernel
theorem dX0_init_20 : decode cX0_init 20 = .ok (.aload_n 0, 1) := by decide +kernel
theorem dX0_init_21 : decode cX0_init 21 = .ok (.bipush 60, 2) := by decide +kernel
theorem dX0_init_23 : decode cX0_init 23 = .ok (.newarray .int, 2) := by decide +kernel
theorem dX0_init_25 : decode cX0_init 25 = .ok (.putfield 18, 3) := by decide +kernel
theorem dX0_init_28 : decode cX0_init 28 = .ok (.aload_n 0, 1) := by decide +kernel
theorem dX0_init_29 : decode cX0_init 29 = .ok (.bipush 60, 2) := by decide +kernel
theorem dX0_init_31 : decode cX0_init 31 = .ok (.newarray .boolean, 2) := by decide +kernel
theorem dX0_init_33 : decode cX0_init 33 = .ok (.putfield 21, 3) := by decide +kernel
theorem dX0_init_36 : decode cX0_init 36 = .ok (.aload_n 0, 1) := by decide +kernel
theorem dX0_init_37 : decode cX0_init 37 = .ok (.iconst 4, 1) := by decide +kernel
theorem dX0_init_38 : decode cX0_init 38 = .ok (.bipush 61, 2) := by decide +kernel
theorem dX0_init_40 : decode cX0_init 40 = .ok (.multianewarray 25 2, 4) := by decide +kernel
theorem dX0_init_44 : decode cX0_init 44 = .ok (.putfield 27, 3) := by decide +kernel
theorem dX0_init_47 : decode cX0_init 47 = .ok (.aload_n 0, 1) := by decide +kernel
theorem dX0_init_48 : decode cX0_init 48 = .ok (.bipush 8, 2) := by decide +kernel
theorem dX0_init_50 : decode cX0_init 50 = .ok (.putfield 30, 3) := by decide +kernel
theorem dX0_init_53 : decode cX0_init 53 = .ok (.return_, 1) := by decide +kernel
theorem dX0_has_0 : decode cX0_has 0 = .ok (.iload_n 1, 1) := by decide +kernel
theorem dX0_has_1 : decode cX0_has 1 = .ok (.ifCond .lt 15, 3) := by decide +kernel
theorem dX0_has_4 : decode cX0_has 4 = .ok (.iload_n 1, 1) := by decide +kernel
theorem dX0_has_5 : decode cX0_has 5 = .ok (.aload_n 0, 1) := by decide +kernel
theorem dX0_has_6 : decode cX0_has 6 = .ok (.getfield 34, 3) := by decide +kernel
theorem dX0_has_9 : decode cX0_has 9 = .ok (.if_icmp .ge 7, 3) := by decide +kernel
theorem dX0_has_12 : decode cX0_has 12 = .ok (.iconst 1, 1) := by decide +kernel
theorem dX0_has_13 : decode cX0_has 13 = .ok (.goto 4, 3) := by decide +kernel
theorem dX0_has_16 : decode cX0_has 16 = .ok (.iconst 0, 1) := by decide +kernel
theorem dX0_has_17 : decode cX0_has 17 = .ok (.ireturn, 1) := by decide +kernel
theorem dX0_add_0 : decode cX0_add 0 = .ok (.aload_n 0, 1) := by decide +kernel
theorem dX0_add_1 : decode cX0_add 1 = .ok (.getfield 34, 3) := by decide +kernel
theorem dX0_add_4 : decode cX0_add 4 = .ok (.istore_n 3, 1) := by decide +kernel
theorem dX0_add_5 : decode cX0_add 5 = .ok (.aload_n 0, 1) := by decide +kernel
theorem dX0_add_6 : decode cX0_add 6 = .ok (.getfield 9, 3) := by decide +kernel
theorem dX0_add_9 : decode cX0_add 9 = .ok (.iload_n 3, 1) := by decide +kernel
theorem dX0_add_10 : decode cX0_add 10 = .ok (.iload_n 1, 1) := by decide +kernel
theorem dX0_add_11 : decode cX0_add 11 = .ok (.iastore, 1) := by decide +kernel
theorem dX0_add_12 : decode cX0_add 12 = .ok (.aload_n 0, 1) := by decide +kernel
theorem dX0_add_13 : decode cX0_add 13 = .ok (.getfield 15, 3) := by decide +kernel
theorem dX0_add_16 : decode cX0_add 16 = .ok (.iload_n 3, 1) := by decide +kernel
theorem dX0_add_17 : decode cX0_add 17 = .ok (.iload_n 2, 1) := by decide +kernel
theorem dX0_add_18 : decode cX0_add 18 = .ok (.iastore, 1) := by decide +kernel
theorem dX0_add_19 : decode cX0_add 19 = .ok (.aload_n 0, 1) := by decide +kernel
theorem dX0_add_20 : decode cX0_add 20 = .ok (.iload_n 3, 1) := by decide +kernel
theorem dX0_add_21 : decode cX0_add 21 = .ok (.iconst 1, 1) := by decide +kernel
theorem dX0_add_22 : decode cX0_add 22 = .ok (.iadd, 1) := by decide +kernel
theorem dX0_add_23 : decode cX0_add 23 = .ok (.putfield 34, 3) := by decide +kernel
theorem dX0_add_26 : decode cX0_add 26 = .ok (.iload_n 3, 1) := by decide +kernel
theorem dX0_add_27 : decode cX0_add 27 = .ok (.ireturn, 1) := by decide +kernel
theorem dX0_setRead_0 : decode cX0_setRead 0 = .ok (.aload_n 0, 1) := by decide +kernel
theorem dX0_setRead_1 : decode cX0_setRead 1 = .ok (.getfield 18, 3) := by decide +kernel
theorem dX0_setRead_4 : decode cX0_setRead 4 = .ok (.iload_n 1, 1) := by decide +kernel
theorem dX0_setRead_5 : decode cX0_setRead 5 = .ok (.iload_n 2, 1) := by decide +kernel
theorem dX0_setRead_6 : decode cX0_setRead 6 = .ok (.iastore, 1) := by decide +kernel
theorem dX0_setRead_7 : decode cX0_setRead 7 = .ok (.aload_n 0, 1) := by decide +kernel
theorem dX0_setRead_8 : decode cX0_setRead 8 = .ok (.getfield 21, 3) := by decide +kernel
theorem dX0_setRead_11 : decode cX0_setRead 11 = .ok (.iload_n 1, 1) := by decide +kernel
theorem dX0_setRead_12 : decode cX0_setRead 12 = .ok (.iconst 1, 1) := by decide +kernel
theorem dX0_setRead_13 : decode cX0_setRead 13 = .ok (.bastore, 1) := by decide +kernel
theorem dX0_setRead_14 : decode cX0_setRead 14 = .ok (.return_, 1) := by decide +kernel
theorem dX0_setMended_0 : decode cX0_setMended 0 = .ok (.aload_n 0, 1) := by decide +kernel
theorem dX0_setMended_1 : decode cX0_setMended 1 = .ok (.getfield 27, 3) := by decide +kernel
theorem dX0_setMended_4 : decode cX0_setMended 4 = .ok (.iload_n 1, 1) := by decide +kernel
theorem dX0_setMended_5 : decode cX0_setMended 5 = .ok (.aaload, 1) := by decide +kernel
theorem dX0_setMended_6 : decode cX0_setMended 6 = .ok (.aload_n 0, 1) := by decide +kernel
theorem dX0_setMended_7 : decode cX0_setMended 7 = .ok (.getfield 34, 3) := by decide +kernel
theorem dX0_setMended_10 : decode cX0_setMended 10 = .ok (.iconst 1, 1) := by decide +kernel
theorem dX0_setMended_11 : decode cX0_setMended 11 = .ok (.iastore, 1) := by decide +kernel
theorem dX0_setMended_12 : decode cX0_setMended 12 = .ok (.return_, 1) := by decide +kernel
theorem dX0_howManyRead_0 : decode cX0_howManyRead 0 = .ok (.iconst 0, 1) := by decide +kernel
theorem dX0_howManyRead_1 : decode cX0_howManyRead 1 = .ok (.istore_n 1, 1) := by decide +kernel
theorem dX0_howManyRead_2 : decode cX0_howManyRead 2 = .ok (.iconst 0, 1) := by decide +kernel
theorem dX0_howManyRead_3 : decode cX0_howManyRead 3 = .ok (.istore_n 2, 1) := by decide +kernel
theorem dX0_howManyRead_4 : decode cX0_howManyRead 4 = .ok (.iload_n 2, 1) := by decide +kernel
theorem dX0_howManyRead_5 : decode cX0_howManyRead 5 = .ok (.aload_n 0, 1) := by decide +kernel
theorem dX0_howManyRead_6 : decode cX0_howManyRead 6 = .ok (.getfield 34, 3) := by decide +kernel
theorem dX0_howManyRead_9 : decode cX0_howManyRead 9 = .ok (.if_icmp .ge 21, 3) := by decide +kernel
theorem dX0_howManyRead_12 : decode cX0_howManyRead 12 = .ok (.aload_n 0, 1) := by decide +kernel
theorem dX0_howManyRead_13 : decode cX0_howManyRead 13 = .ok (.getfield 21, 3) := by decide +kernel
theorem dX0_howManyRead_16 : decode cX0_howManyRead 16 = .ok (.iload_n 2, 1) := by decide +kernel
theorem dX0_howManyRead_17 : decode cX0_howManyRead 17 = .ok (.baload, 1) := by decide +kernel
theorem dX0_howManyRead_18 : decode cX0_howManyRead 18 = .ok (.ifCond .eq 6, 3) := by decide +kernel
theorem dX0_howManyRead_21 : decode cX0_howManyRead 21 = .ok (.iinc 1 1, 3) := by decide +kernel
theorem dX0_howManyRead_24 : decode cX0_howManyRead 24 = .ok (.iinc 2 1, 3) := by decide +kernel
theorem dX0_howManyRead_27 : decode cX0_howManyRead 27 = .ok (.goto (-23), 3) := by decide +kernel
theorem dX0_howManyRead_30 : decode cX0_howManyRead 30 = .ok (.iload_n 1, 1) := by decide +kernel
theorem dX0_howManyRead_31 : decode cX0_howManyRead 31 = .ok (.ireturn, 1) := by decide +kernel
theorem dX0_stateAhead_0 : decode cX0_stateAhead 0 = .ok (.iconst 0, 1) := by decide +kernel
theorem dX0_stateAhead_1 : decode cX0_stateAhead 1 = .ok (.istore_n 3, 1) := by decide +kernel
theorem dX0_stateAhead_2 : decode cX0_stateAhead 2 = .ok (.iconst 0, 1) := by decide +kernel
theorem dX0_stateAhead_3 : decode cX0_stateAhead 3 = .ok (.istore 4, 2) := by decide +kernel
theorem dX0_stateAhead_5 : decode cX0_stateAhead 5 = .ok (.iload 4, 2) := by decide +kernel
theorem dX0_stateAhead_7 : decode cX0_stateAhead 7 = .ok (.iload_n 2, 1) := by decide +kernel
theorem dX0_stateAhead_8 : decode cX0_stateAhead 8 = .ok (.if_icmp .ge 81, 3) := by decide +kernel
theorem dX0_stateAhead_11 : decode cX0_stateAhead 11 = .ok (.aload_n 0, 1) := by decide +kernel
theorem dX0_stateAhead_12 : decode cX0_stateAhead 12 = .ok (.getfield 27, 3) := by decide +kernel
theorem dX0_stateAhead_15 : decode cX0_stateAhead 15 = .ok (.iload_n 1, 1) := by decide +kernel
theorem dX0_stateAhead_16 : decode cX0_stateAhead 16 = .ok (.aaload, 1) := by decide +kernel
theorem dX0_stateAhead_17 : decode cX0_stateAhead 17 = .ok (.iload 4, 2) := by decide +kernel
theorem dX0_stateAhead_19 : decode cX0_stateAhead 19 = .ok (.iaload, 1) := by decide +kernel
theorem dX0_stateAhead_20 : decode cX0_stateAhead 20 = .ok (.iconst 1, 1) := by decide +kernel
theorem dX0_stateAhead_21 : decode cX0_stateAhead 21 = .ok (.if_icmp .ne 5, 3) := by decide +kernel
theorem dX0_stateAhead_24 : decode cX0_stateAhead 24 = .ok (.iconst 0, 1) := by decide +kernel
theorem dX0_stateAhead_25 : decode cX0_stateAhead 25 = .ok (.istore_n 3, 1) := by decide +kernel
theorem dX0_stateAhead_26 : decode cX0_stateAhead 26 = .ok (.aload_n 0, 1) := by decide +kernel
theorem dX0_stateAhead_27 : decode cX0_stateAhead 27 = .ok (.getfield 9, 3) := by decide +kernel
theorem dX0_stateAhead_30 : decode cX0_stateAhead 30 = .ok (.iload 4, 2) := by decide +kernel
theorem dX0_stateAhead_32 : decode cX0_stateAhead 32 = .ok (.iaload, 1) := by decide +kernel
theorem dX0_stateAhead_33 : decode cX0_stateAhead 33 = .ok (.iload_n 1, 1) := by decide +kernel
theorem dX0_stateAhead_34 : decode cX0_stateAhead 34 = .ok (.if_icmp .ne 49, 3) := by decide +kernel
theorem dX0_stateAhead_37 : decode cX0_stateAhead 37 = .ok (.aload_n 0, 1) := by decide +kernel
theorem dX0_stateAhead_38 : decode cX0_stateAhead 38 = .ok (.getfield 21, 3) := by decide +kernel
theorem dX0_stateAhead_41 : decode cX0_stateAhead 41 = .ok (.iload 4, 2) := by decide +kernel
theorem dX0_stateAhead_43 : decode cX0_stateAhead 43 = .ok (.baload, 1) := by decide +kernel
theorem dX0_stateAhead_44 : decode cX0_stateAhead 44 = .ok (.ifCond .eq 39, 3) := by decide +kernel
theorem dX0_stateAhead_47 : decode cX0_stateAhead 47 = .ok (.sipush 1000, 3) := by decide +kernel
theorem dX0_stateAhead_50 : decode cX0_stateAhead 50 = .ok (.aload_n 0, 1) := by decide +kernel
theorem dX0_stateAhead_51 : decode cX0_stateAhead 51 = .ok (.getfield 18, 3) := by decide +kernel
theorem dX0_stateAhead_54 : decode cX0_stateAhead 54 = .ok (.iload 4, 2) := by decide +kernel
theorem dX0_stateAhead_56 : decode cX0_stateAhead 56 = .ok (.iaload, 1) := by decide +kernel
theorem dX0_stateAhead_57 : decode cX0_stateAhead 57 = .ok (.aload_n 0, 1) := by decide +kernel
theorem dX0_stateAhead_58 : decode cX0_stateAhead 58 = .ok (.getfield 15, 3) := by decide +kernel
theorem dX0_stateAhead_61 : decode cX0_stateAhead 61 = .ok (.iload 4, 2) := by decide +kernel
theorem dX0_stateAhead_63 : decode cX0_stateAhead 63 = .ok (.iaload, 1) := by decide +kernel
theorem dX0_stateAhead_64 : decode cX0_stateAhead 64 = .ok (.isub, 1) := by decide +kernel
theorem dX0_stateAhead_65 : decode cX0_stateAhead 65 = .ok (.imul, 1) := by decide +kernel
theorem dX0_stateAhead_66 : decode cX0_stateAhead 66 = .ok (.istore 5, 2) := by decide +kernel
theorem dX0_stateAhead_68 : decode cX0_stateAhead 68 = .ok (.iload_n 3, 1) := by decide +kernel
theorem dX0_stateAhead_69 : decode cX0_stateAhead 69 = .ok (.aload_n 0, 1) := by decide +kernel
theorem dX0_stateAhead_70 : decode cX0_stateAhead 70 = .ok (.getfield 30, 3) := by decide +kernel
theorem dX0_stateAhead_73 : decode cX0_stateAhead 73 = .ok (.iload 5, 2) := by decide +kernel
theorem dX0_stateAhead_75 : decode cX0_stateAhead 75 = .ok (.iload_n 3, 1) := by decide +kernel
theorem dX0_stateAhead_76 : decode cX0_stateAhead 76 = .ok (.isub, 1) := by decide +kernel
theorem dX0_stateAhead_77 : decode cX0_stateAhead 77 = .ok (.imul, 1) := by decide +kernel
theorem dX0_stateAhead_78 : decode cX0_stateAhead 78 = .ok (.bipush 16, 2) := by decide +kernel
theorem dX0_stateAhead_80 : decode cX0_stateAhead 80 = .ok (.idiv, 1) := by decide +kernel
theorem dX0_stateAhead_81 : decode cX0_stateAhead 81 = .ok (.iadd, 1) := by decide +kernel
theorem dX0_stateAhead_82 : decode cX0_stateAhead 82 = .ok (.istore_n 3, 1) := by decide +kernel
theorem dX0_stateAhead_83 : decode cX0_stateAhead 83 = .ok (.iinc 4 1, 3) := by decide +kernel
theorem dX0_stateAhead_86 : decode cX0_stateAhead 86 = .ok (.goto (-81), 3) := by decide +kernel
theorem dX0_stateAhead_89 : decode cX0_stateAhead 89 = .ok (.aload_n 0, 1) := by decide +kernel
theorem dX0_stateAhead_90 : decode cX0_stateAhead 90 = .ok (.getfield 27, 3) := by decide +kernel
theorem dX0_stateAhead_93 : decode cX0_stateAhead 93 = .ok (.iload_n 1, 1) := by decide +kernel
theorem dX0_stateAhead_94 : decode cX0_stateAhead 94 = .ok (.aaload, 1) := by decide +kernel
theorem dX0_stateAhead_95 : decode cX0_stateAhead 95 = .ok (.iload_n 2, 1) := by decide +kernel
theorem dX0_stateAhead_96 : decode cX0_stateAhead 96 = .ok (.iaload, 1) := by decide +kernel
theorem dX0_stateAhead_97 : decode cX0_stateAhead 97 = .ok (.iconst 1, 1) := by decide +kernel
theorem dX0_stateAhead_98 : decode cX0_stateAhead 98 = .ok (.if_icmp .ne 7, 3) := by decide +kernel
theorem dX0_stateAhead_101 : decode cX0_stateAhead 101 = .ok (.iconst 0, 1) := by decide +kernel
theorem dX0_stateAhead_102 : decode cX0_stateAhead 102 = .ok (.goto 4, 3) := by decide +kernel
theorem dX0_stateAhead_105 : decode cX0_stateAhead 105 = .ok (.iload_n 3, 1) := by decide +kernel
theorem dX0_stateAhead_106 : decode cX0_stateAhead 106 = .ok (.ireturn, 1) := by decide +kernel
theorem dX1_init_0 : decode cX1_init 0 = .ok (.aload_n 0, 1) := by decide +kernel
theorem dX1_init_1 : decode cX1_init 1 = .ok (.invokespecial 3, 3) := by decide +kernel
theorem dX1_init_4 : decode cX1_init 4 = .ok (.aload_n 0, 1) := by decide +kernel
theorem dX1_init_5 : decode cX1_init 5 = .ok (.new 9, 3) := by decide +kernel
theorem dX1_init_8 : decode cX1_init 8 = .ok (.dup, 1) := by decide +kernel
theorem dX1_init_9 : decode cX1_init 9 = .ok (.invokespecial 11, 3) := by decide +kernel
theorem dX1_init_12 : decode cX1_init 12 = .ok (.putfield 12, 3) := by decide +kernel
theorem dX1_init_15 : decode cX1_init 15 = .ok (.aload_n 0, 1) := by decide +kernel
theorem dX1_init_16 : decode cX1_init 16 = .ok (.iconst 2, 1) := by decide +kernel
theorem dX1_init_17 : decode cX1_init 17 = .ok (.iconst 4, 1) := by decide +kernel
theorem dX1_init_18 : decode cX1_init 18 = .ok (.multianewarray 18 2, 4) := by decide +kernel
theorem dX1_init_22 : decode cX1_init 22 = .ok (.putfield 20, 3) := by decide +kernel
theorem dX1_init_25 : decode cX1_init 25 = .ok (.aload_n 0, 1) := by decide +kernel
theorem dX1_init_26 : decode cX1_init 26 = .ok (.iconst 2, 1) := by decide +kernel
theorem dX1_init_27 : decode cX1_init 27 = .ok (.iconst 3, 1) := by decide +kernel
theorem dX1_init_28 : decode cX1_init 28 = .ok (.multianewarray 18 2, 4) := by decide +kernel
theorem dX1_init_32 : decode cX1_init 32 = .ok (.putfield 23, 3) := by decide +kernel
theorem dX1_init_35 : decode cX1_init 35 = .ok (.return_, 1) := by decide +kernel
theorem dX1_make_0 : decode cX1_make 0 = .ok (.aload_n 0, 1) := by decide +kernel
theorem dX1_make_1 : decode cX1_make 1 = .ok (.iload_n 2, 1) := by decide +kernel
theorem dX1_make_2 : decode cX1_make 2 = .ok (.putfield 26, 3) := by decide +kernel
theorem dX1_make_5 : decode cX1_make 5 = .ok (.aload_n 0, 1) := by decide +kernel
theorem dX1_make_6 : decode cX1_make 6 = .ok (.getfield 12, 3) := by decide +kernel
theorem dX1_make_9 : decode cX1_make 9 = .ok (.aload_n 0, 1) := by decide +kernel
theorem dX1_make_10 : decode cX1_make 10 = .ok (.getfield 26, 3) := by decide +kernel
theorem dX1_make_13 : decode cX1_make 13 = .ok (.invokevirtual 30, 3) := by decide +kernel
theorem dX1_make_16 : decode cX1_make 16 = .ok (.iconst 0, 1) := by decide +kernel
theorem dX1_make_17 : decode cX1_make 17 = .ok (.istore 4, 2) := by decide +kernel
theorem dX1_make_19 : decode cX1_make 19 = .ok (.iload 4, 2) := by decide +kernel
theorem dX1_make_21 : decode cX1_make 21 = .ok (.aload_n 1, 1) := by decide +kernel
theorem dX1_make_22 : decode cX1_make 22 = .ok (.getfield 34, 3) := by decide +kernel
theorem dX1_make_25 : decode cX1_make 25 = .ok (.if_icmp .ge 48, 3) := by decide +kernel
theorem dX1_make_28 : decode cX1_make 28 = .ok (.iload_n 3, 1) := by decide +kernel
theorem dX1_make_29 : decode cX1_make 29 = .ok (.iload 4, 2) := by decide +kernel
theorem dX1_make_31 : decode cX1_make 31 = .ok (.invokestatic 39, 3) := by decide +kernel
theorem dX1_make_34 : decode cX1_make 34 = .ok (.ifCond .eq 33, 3) := by decide +kernel
theorem dX1_make_37 : decode cX1_make 37 = .ok (.aload_n 0, 1) := by decide +kernel
theorem dX1_make_38 : decode cX1_make 38 = .ok (.getfield 12, 3) := by decide +kernel
theorem dX1_make_41 : decode cX1_make 41 = .ok (.aload_n 1, 1) := by decide +kernel
theorem dX1_make_42 : decode cX1_make 42 = .ok (.aload_n 0, 1) := by decide +kernel
theorem dX1_make_43 : decode cX1_make 43 = .ok (.getfield 26, 3) := by decide +kernel
theorem dX1_make_46 : decode cX1_make 46 = .ok (.iload 4, 2) := by decide +kernel
theorem dX1_make_48 : decode cX1_make 48 = .ok (.invokevirtual 43, 3) := by decide +kernel
theorem dX1_make_51 : decode cX1_make 51 = .ok (.i2l, 1) := by decide +kernel
theorem dX1_make_52 : decode cX1_make 52 = .ok (.aload_n 1, 1) := by decide +kernel
theorem dX1_make_53 : decode cX1_make 53 = .ok (.aload_n 0, 1) := by decide +kernel
theorem dX1_make_54 : decode cX1_make 54 = .ok (.getfield 26, 3) := by decide +kernel
theorem dX1_make_57 : decode cX1_make 57 = .ok (.iload 4, 2) := by decide +kernel
theorem dX1_make_59 : decode cX1_make 59 = .ok (.invokevirtual 47, 3) := by decide +kernel
theorem dX1_make_62 : decode cX1_make 62 = .ok (.i2l, 1) := by decide +kernel
theorem dX1_make_63 : decode cX1_make 63 = .ok (.iconst 1, 1) := by decide +kernel
theorem dX1_make_64 : decode cX1_make 64 = .ok (.invokevirtual 50, 3) := by decide +kernel
theorem dX1_make_67 : decode cX1_make 67 = .ok (.iinc 4 1, 3) := by decide +kernel
theorem dX1_make_70 : decode cX1_make 70 = .ok (.goto (-51), 3) := by decide +kernel
theorem dX1_make_73 : decode cX1_make 73 = .ok (.aload_n 0, 1) := by decide +kernel
theorem dX1_make_74 : decode cX1_make 74 = .ok (.getfield 12, 3) := by decide +kernel
theorem dX1_make_77 : decode cX1_make 77 = .ok (.invokevirtual 54, 3) := by decide +kernel
theorem dX1_make_80 : decode cX1_make 80 = .ok (.iconst 0, 1) := by decide +kernel
theorem dX1_make_81 : decode cX1_make 81 = .ok (.istore 4, 2) := by decide +kernel
theorem dX1_make_83 : decode cX1_make 83 = .ok (.iload 4, 2) := by decide +kernel
theorem dX1_make_85 : decode cX1_make 85 = .ok (.iconst 2, 1) := by decide +kernel
theorem dX1_make_86 : decode cX1_make 86 = .ok (.if_icmp .ge 23, 3) := by decide +kernel
theorem dX1_make_89 : decode cX1_make 89 = .ok (.aload_n 0, 1) := by decide +kernel
theorem dX1_make_90 : decode cX1_make 90 = .ok (.aload_n 1, 1) := by decide +kernel
theorem dX1_make_91 : decode cX1_make 91 = .ok (.iload 4, 2) := by decide +kernel
theorem dX1_make_93 : decode cX1_make 93 = .ok (.iload_n 3, 1) := by decide +kernel
theorem dX1_make_94 : decode cX1_make 94 = .ok (.invokevirtual 57, 3) := by decide +kernel
theorem dX1_make_97 : decode cX1_make 97 = .ok (.aload_n 0, 1) := by decide +kernel
theorem dX1_make_98 : decode cX1_make 98 = .ok (.iload 4, 2) := by decide +kernel
theorem dX1_make_100 : decode cX1_make 100 = .ok (.invokevirtual 61, 3) := by decide +kernel
theorem dX1_make_103 : decode cX1_make 103 = .ok (.iinc 4 1, 3) := by decide +kernel
theorem dX1_make_106 : decode cX1_make 106 = .ok (.goto (-23), 3) := by decide +kernel
theorem dX1_make_109 : decode cX1_make 109 = .ok (.aload_n 0, 1) := by decide +kernel
theorem dX1_make_110 : decode cX1_make 110 = .ok (.getfield 12, 3) := by decide +kernel
theorem dX1_make_113 : decode cX1_make 113 = .ok (.getfield 64, 3) := by decide +kernel
theorem dX1_make_116 : decode cX1_make 116 = .ok (.lconst 0, 1) := by decide +kernel
theorem dX1_make_117 : decode cX1_make 117 = .ok (.lcmp, 1) := by decide +kernel
theorem dX1_make_118 : decode cX1_make 118 = .ok (.ifCond .eq 7, 3) := by decide +kernel
theorem dX1_make_121 : decode cX1_make 121 = .ok (.iconst 1, 1) := by decide +kernel
theorem dX1_make_122 : decode cX1_make 122 = .ok (.goto 4, 3) := by decide +kernel
theorem dX1_make_125 : decode cX1_make 125 = .ok (.iconst 0, 1) := by decide +kernel
theorem dX1_make_126 : decode cX1_make 126 = .ok (.ireturn, 1) := by decide +kernel
theorem dX1_makeSums_0 : decode cX1_makeSums 0 = .ok (.aload_n 0, 1) := by decide +kernel
theorem dX1_makeSums_1 : decode cX1_makeSums 1 = .ok (.getfield 20, 3) := by decide +kernel
theorem dX1_makeSums_4 : decode cX1_makeSums 4 = .ok (.iload_n 2, 1) := by decide +kernel
theorem dX1_makeSums_5 : decode cX1_makeSums 5 = .ok (.aaload, 1) := by decide +kernel
theorem dX1_makeSums_6 : decode cX1_makeSums 6 = .ok (.astore 4, 2) := by decide +kernel
theorem dX1_makeSums_8 : decode cX1_makeSums 8 = .ok (.aload 4, 2) := by decide +kernel
theorem dX1_makeSums_10 : decode cX1_makeSums 10 = .ok (.iconst 0, 1) := by decide +kernel
theorem dX1_makeSums_11 : decode cX1_makeSums 11 = .ok (.lconst 0, 1) := by decide +kernel
theorem dX1_makeSums_12 : decode cX1_makeSums 12 = .ok (.lastore, 1) := by decide +kernel
theorem dX1_makeSums_13 : decode cX1_makeSums 13 = .ok (.aload 4, 2) := by decide +kernel
theorem dX1_makeSums_15 : decode cX1_makeSums 15 = .ok (.iconst 1, 1) := by decide +kernel
theorem dX1_makeSums_16 : decode cX1_makeSums 16 = .ok (.lconst 0, 1) := by decide +kernel
theorem dX1_makeSums_17 : decode cX1_makeSums 17 = .ok (.lastore, 1) := by decide +kernel
theorem dX1_makeSums_18 : decode cX1_makeSums 18 = .ok (.aload 4, 2) := by decide +kernel
theorem dX1_makeSums_20 : decode cX1_makeSums 20 = .ok (.iconst 2, 1) := by decide +kernel
theorem dX1_makeSums_21 : decode cX1_makeSums 21 = .ok (.lconst 0, 1) := by decide +kernel
theorem dX1_makeSums_22 : decode cX1_makeSums 22 = .ok (.lastore, 1) := by decide +kernel
theorem dX1_makeSums_23 : decode cX1_makeSums 23 = .ok (.aload 4, 2) := by decide +kernel
theorem dX1_makeSums_25 : decode cX1_makeSums 25 = .ok (.iconst 3, 1) := by decide +kernel
theorem dX1_makeSums_26 : decode cX1_makeSums 26 = .ok (.lconst 0, 1) := by decide +kernel
theorem dX1_makeSums_27 : decode cX1_makeSums 27 = .ok (.lastore, 1) := by decide +kernel
theorem dX1_makeSums_28 : decode cX1_makeSums 28 = .ok (.iconst 0, 1) := by decide +kernel
theorem dX1_makeSums_29 : decode cX1_makeSums 29 = .ok (.istore 5, 2) := by decide +kernel
theorem dX1_makeSums_31 : decode cX1_makeSums 31 = .ok (.iload 5, 2) := by decide +kernel
theorem dX1_makeSums_33 : decode cX1_makeSums 33 = .ok (.aload_n 1, 1) := by decide +kernel
theorem dX1_makeSums_34 : decode cX1_makeSums 34 = .ok (.getfield 34, 3) := by decide +kernel
theorem dX1_makeSums_37 : decode cX1_makeSums 37 = .ok (.if_icmp .ge 93, 3) := by decide +kernel
theorem dX1_makeSums_40 : decode cX1_makeSums 40 = .ok (.iload_n 3, 1) := by decide +kernel
theorem dX1_makeSums_41 : decode cX1_makeSums 41 = .ok (.iload 5, 2) := by decide +kernel
theorem dX1_makeSums_43 : decode cX1_makeSums 43 = .ok (.invokestatic 39, 3) := by decide +kernel
theorem dX1_makeSums_46 : decode cX1_makeSums 46 = .ok (.ifCond .eq 78, 3) := by decide +kernel
theorem dX1_makeSums_49 : decode cX1_makeSums 49 = .ok (.aload_n 1, 1) := by decide +kernel
theorem dX1_makeSums_50 : decode cX1_makeSums 50 = .ok (.getfield 68, 3) := by decide +kernel
theorem dX1_makeSums_53 : decode cX1_makeSums 53 = .ok (.iload_n 2, 1) := by decide +kernel
theorem dX1_makeSums_54 : decode cX1_makeSums 54 = .ok (.aaload, 1) := by decide +kernel
theorem dX1_makeSums_55 : decode cX1_makeSums 55 = .ok (.iload 5, 2) := by decide +kernel
theorem dX1_makeSums_57 : decode cX1_makeSums 57 = .ok (.iaload, 1) := by decide +kernel
theorem dX1_makeSums_58 : decode cX1_makeSums 58 = .ok (.i2l, 1) := by decide +kernel
theorem dX1_makeSums_59 : decode cX1_makeSums 59 = .ok (.lstore 6, 2) := by decide +kernel
theorem dX1_makeSums_61 : decode cX1_makeSums 61 = .ok (.aload 4, 2) := by decide +kernel
theorem dX1_makeSums_63 : decode cX1_makeSums 63 = .ok (.iconst 0, 1) := by decide +kernel
theorem dX1_makeSums_64 : decode cX1_makeSums 64 = .ok (.dup2, 1) := by decide +kernel
theorem dX1_makeSums_65 : decode cX1_makeSums 65 = .ok (.laload, 1) := by decide +kernel
theorem dX1_makeSums_66 : decode cX1_makeSums 66 = .ok (.lload 6, 2) := by decide +kernel
theorem dX1_makeSums_68 : decode cX1_makeSums 68 = .ok (.ladd, 1) := by decide +kernel
theorem dX1_makeSums_69 : decode cX1_makeSums 69 = .ok (.lastore, 1) := by decide +kernel
theorem dX1_makeSums_70 : decode cX1_makeSums 70 = .ok (.aload 4, 2) := by decide +kernel
theorem dX1_makeSums_72 : decode cX1_makeSums 72 = .ok (.iconst 1, 1) := by decide +kernel
theorem dX1_makeSums_73 : decode cX1_makeSums 73 = .ok (.dup2, 1) := by decide +kernel
theorem dX1_makeSums_74 : decode cX1_makeSums 74 = .ok (.laload, 1) := by decide +kernel
theorem dX1_makeSums_75 : decode cX1_makeSums 75 = .ok (.lload 6, 2) := by decide +kernel
theorem dX1_makeSums_77 : decode cX1_makeSums 77 = .ok (.aload_n 1, 1) := by decide +kernel
theorem dX1_makeSums_78 : decode cX1_makeSums 78 = .ok (.aload_n 0, 1) := by decide +kernel
theorem dX1_makeSums_79 : decode cX1_makeSums 79 = .ok (.getfield 26, 3) := by decide +kernel
theorem dX1_makeSums_82 : decode cX1_makeSums 82 = .ok (.iload 5, 2) := by decide +kernel
theorem dX1_makeSums_84 : decode cX1_makeSums 84 = .ok (.invokevirtual 43, 3) := by decide +kernel
theorem dX1_makeSums_87 : decode cX1_makeSums 87 = .ok (.i2l, 1) := by decide +kernel
theorem dX1_makeSums_88 : decode cX1_makeSums 88 = .ok (.lmul, 1) := by decide +kernel
theorem dX1_makeSums_89 : decode cX1_makeSums 89 = .ok (.ladd, 1) := by decide +kernel
theorem dX1_makeSums_90 : decode cX1_makeSums 90 = .ok (.lastore, 1) := by decide +kernel
theorem dX1_makeSums_91 : decode cX1_makeSums 91 = .ok (.aload 4, 2) := by decide +kernel
theorem dX1_makeSums_93 : decode cX1_makeSums 93 = .ok (.iconst 2, 1) := by decide +kernel
theorem dX1_makeSums_94 : decode cX1_makeSums 94 = .ok (.dup2, 1) := by decide +kernel
theorem dX1_makeSums_95 : decode cX1_makeSums 95 = .ok (.laload, 1) := by decide +kernel
theorem dX1_makeSums_96 : decode cX1_makeSums 96 = .ok (.lload 6, 2) := by decide +kernel
theorem dX1_makeSums_98 : decode cX1_makeSums 98 = .ok (.aload_n 1, 1) := by decide +kernel
theorem dX1_makeSums_99 : decode cX1_makeSums 99 = .ok (.aload_n 0, 1) := by decide +kernel
theorem dX1_makeSums_100 : decode cX1_makeSums 100 = .ok (.getfield 26, 3) := by decide +kernel
theorem dX1_makeSums_103 : decode cX1_makeSums 103 = .ok (.iload 5, 2) := by decide +kernel
theorem dX1_makeSums_105 : decode cX1_makeSums 105 = .ok (.invokevirtual 47, 3) := by decide +kernel
theorem dX1_makeSums_108 : decode cX1_makeSums 108 = .ok (.i2l, 1) := by decide +kernel
theorem dX1_makeSums_109 : decode cX1_makeSums 109 = .ok (.lmul, 1) := by decide +kernel
theorem dX1_makeSums_110 : decode cX1_makeSums 110 = .ok (.ladd, 1) := by decide +kernel
theorem dX1_makeSums_111 : decode cX1_makeSums 111 = .ok (.lastore, 1) := by decide +kernel
theorem dX1_makeSums_112 : decode cX1_makeSums 112 = .ok (.aload 4, 2) := by decide +kernel
theorem dX1_makeSums_114 : decode cX1_makeSums 114 = .ok (.iconst 3, 1) := by decide +kernel
theorem dX1_makeSums_115 : decode cX1_makeSums 115 = .ok (.dup2, 1) := by decide +kernel
theorem dX1_makeSums_116 : decode cX1_makeSums 116 = .ok (.laload, 1) := by decide +kernel
theorem dX1_makeSums_117 : decode cX1_makeSums 117 = .ok (.lload 6, 2) := by decide +kernel
theorem dX1_makeSums_119 : decode cX1_makeSums 119 = .ok (.lload 6, 2) := by decide +kernel
theorem dX1_makeSums_121 : decode cX1_makeSums 121 = .ok (.lmul, 1) := by decide +kernel
theorem dX1_makeSums_122 : decode cX1_makeSums 122 = .ok (.ladd, 1) := by decide +kernel
theorem dX1_makeSums_123 : decode cX1_makeSums 123 = .ok (.lastore, 1) := by decide +kernel
theorem dX1_makeSums_124 : decode cX1_makeSums 124 = .ok (.iinc 5 1, 3) := by decide +kernel
theorem dX1_makeSums_127 : decode cX1_makeSums 127 = .ok (.goto (-96), 3) := by decide +kernel
theorem dX1_makeSums_130 : decode cX1_makeSums 130 = .ok (.return_, 1) := by decide +kernel
theorem dX1_makeFactors_0 : decode cX1_makeFactors 0 = .ok (.aload_n 0, 1) := by decide +kernel
theorem dX1_makeFactors_1 : decode cX1_makeFactors 1 = .ok (.getfield 20, 3) := by decide +kernel
theorem dX1_makeFactors_4 : decode cX1_makeFactors 4 = .ok (.iload_n 1, 1) := by decide +kernel
theorem dX1_makeFactors_5 : decode cX1_makeFactors 5 = .ok (.aaload, 1) := by decide +kernel
theorem dX1_makeFactors_6 : decode cX1_makeFactors 6 = .ok (.astore_n 2, 1) := by decide +kernel
theorem dX1_makeFactors_7 : decode cX1_makeFactors 7 = .ok (.aload_n 0, 1) := by decide +kernel
theorem dX1_makeFactors_8 : decode cX1_makeFactors 8 = .ok (.getfield 23, 3) := by decide +kernel
theorem dX1_makeFactors_11 : decode cX1_makeFactors 11 = .ok (.iload_n 1, 1) := by decide +kernel
theorem dX1_makeFactors_12 : decode cX1_makeFactors 12 = .ok (.aaload, 1) := by decide +kernel
theorem dX1_makeFactors_13 : decode cX1_makeFactors 13 = .ok (.astore_n 3, 1) := by decide +kernel
theorem dX1_makeFactors_14 : decode cX1_makeFactors 14 = .ok (.aload_n 3, 1) := by decide +kernel
theorem dX1_makeFactors_15 : decode cX1_makeFactors 15 = .ok (.iconst 0, 1) := by decide +kernel
theorem dX1_makeFactors_16 : decode cX1_makeFactors 16 = .ok (.aload_n 0, 1) := by decide +kernel
theorem dX1_makeFactors_17 : decode cX1_makeFactors 17 = .ok (.getfield 12, 3) := by decide +kernel
theorem dX1_makeFactors_20 : decode cX1_makeFactors 20 = .ok (.getfield 72, 3) := by decide +kernel
theorem dX1_makeFactors_23 : decode cX1_makeFactors 23 = .ok (.aload_n 2, 1) := by decide +kernel
theorem dX1_makeFactors_24 : decode cX1_makeFactors 24 = .ok (.iconst 0, 1) := by decide +kernel
theorem dX1_makeFactors_25 : decode cX1_makeFactors 25 = .ok (.laload, 1) := by decide +kernel
theorem dX1_makeFactors_26 : decode cX1_makeFactors 26 = .ok (.lmul, 1) := by decide +kernel
theorem dX1_makeFactors_27 : decode cX1_makeFactors 27 = .ok (.aload_n 0, 1) := by decide +kernel
theorem dX1_makeFactors_28 : decode cX1_makeFactors 28 = .ok (.getfield 12, 3) := by decide +kernel
theorem dX1_makeFactors_31 : decode cX1_makeFactors 31 = .ok (.getfield 75, 3) := by decide +kernel
theorem dX1_makeFactors_34 : decode cX1_makeFactors 34 = .ok (.aload_n 2, 1) := by decide +kernel
theorem dX1_makeFactors_35 : decode cX1_makeFactors 35 = .ok (.iconst 1, 1) := by decide +kernel
theorem dX1_makeFactors_36 : decode cX1_makeFactors 36 = .ok (.laload, 1) := by decide +kernel
theorem dX1_makeFactors_37 : decode cX1_makeFactors 37 = .ok (.lmul, 1) := by decide +kernel
theorem dX1_makeFactors_38 : decode cX1_makeFactors 38 = .ok (.ladd, 1) := by decide +kernel
theorem dX1_makeFactors_39 : decode cX1_makeFactors 39 = .ok (.aload_n 0, 1) := by decide +kernel
theorem dX1_makeFactors_40 : decode cX1_makeFactors 40 = .ok (.getfield 12, 3) := by decide +kernel
theorem dX1_makeFactors_43 : decode cX1_makeFactors 43 = .ok (.getfield 78, 3) := by decide +kernel
theorem dX1_makeFactors_46 : decode cX1_makeFactors 46 = .ok (.aload_n 2, 1) := by decide +kernel
theorem dX1_makeFactors_47 : decode cX1_makeFactors 47 = .ok (.iconst 2, 1) := by decide +kernel
theorem dX1_makeFactors_48 : decode cX1_makeFactors 48 = .ok (.laload, 1) := by decide +kernel
theorem dX1_makeFactors_49 : decode cX1_makeFactors 49 = .ok (.lmul, 1) := by decide +kernel
theorem dX1_makeFactors_50 : decode cX1_makeFactors 50 = .ok (.ladd, 1) := by decide +kernel
theorem dX1_makeFactors_51 : decode cX1_makeFactors 51 = .ok (.lastore, 1) := by decide +kernel
theorem dX1_makeFactors_52 : decode cX1_makeFactors 52 = .ok (.aload_n 3, 1) := by decide +kernel
theorem dX1_makeFactors_53 : decode cX1_makeFactors 53 = .ok (.iconst 1, 1) := by decide +kernel
theorem dX1_makeFactors_54 : decode cX1_makeFactors 54 = .ok (.aload_n 0, 1) := by decide +kernel
theorem dX1_makeFactors_55 : decode cX1_makeFactors 55 = .ok (.getfield 12, 3) := by decide +kernel
theorem dX1_makeFactors_58 : decode cX1_makeFactors 58 = .ok (.getfield 75, 3) := by decide +kernel
theorem dX1_makeFactors_61 : decode cX1_makeFactors 61 = .ok (.aload_n 2, 1) := by decide +kernel
theorem dX1_makeFactors_62 : decode cX1_makeFactors 62 = .ok (.iconst 0, 1) := by decide +kernel
theorem dX1_makeFactors_63 : decode cX1_makeFactors 63 = .ok (.laload, 1) := by decide +kernel
theorem dX1_makeFactors_64 : decode cX1_makeFactors 64 = .ok (.lmul, 1) := by decide +kernel
theorem dX1_makeFactors_65 : decode cX1_makeFactors 65 = .ok (.aload_n 0, 1) := by decide +kernel
theorem dX1_makeFactors_66 : decode cX1_makeFactors 66 = .ok (.getfield 12, 3) := by decide +kernel
theorem dX1_makeFactors_69 : decode cX1_makeFactors 69 = .ok (.getfield 81, 3) := by decide +kernel
theorem dX1_makeFactors_72 : decode cX1_makeFactors 72 = .ok (.aload_n 2, 1) := by decide +kernel
theorem dX1_makeFactors_73 : decode cX1_makeFactors 73 = .ok (.iconst 1, 1) := by decide +kernel
theorem dX1_makeFactors_74 : decode cX1_makeFactors 74 = .ok (.laload, 1) := by decide +kernel
theorem dX1_makeFactors_75 : decode cX1_makeFactors 75 = .ok (.lmul, 1) := by decide +kernel
theorem dX1_makeFactors_76 : decode cX1_makeFactors 76 = .ok (.ladd, 1) := by decide +kernel
theorem dX1_makeFactors_77 : decode cX1_makeFactors 77 = .ok (.aload_n 0, 1) := by decide +kernel
theorem dX1_makeFactors_78 : decode cX1_makeFactors 78 = .ok (.getfield 12, 3) := by decide +kernel
theorem dX1_makeFactors_81 : decode cX1_makeFactors 81 = .ok (.getfield 84, 3) := by decide +kernel
theorem dX1_makeFactors_84 : decode cX1_makeFactors 84 = .ok (.aload_n 2, 1) := by decide +kernel
theorem dX1_makeFactors_85 : decode cX1_makeFactors 85 = .ok (.iconst 2, 1) := by decide +kernel
theorem dX1_makeFactors_86 : decode cX1_makeFactors 86 = .ok (.laload, 1) := by decide +kernel
theorem dX1_makeFactors_87 : decode cX1_makeFactors 87 = .ok (.lmul, 1) := by decide +kernel
theorem dX1_makeFactors_88 : decode cX1_makeFactors 88 = .ok (.ladd, 1) := by decide +kernel
theorem dX1_makeFactors_89 : decode cX1_makeFactors 89 = .ok (.lastore, 1) := by decide +kernel
theorem dX1_makeFactors_90 : decode cX1_makeFactors 90 = .ok (.aload_n 3, 1) := by decide +kernel
theorem dX1_makeFactors_91 : decode cX1_makeFactors 91 = .ok (.iconst 2, 1) := by decide +kernel
theorem dX1_makeFactors_92 : decode cX1_makeFactors 92 = .ok (.aload_n 0, 1) := by decide +kernel
theorem dX1_makeFactors_93 : decode cX1_makeFactors 93 = .ok (.getfield 12, 3) := by decide +kernel
theorem dX1_makeFactors_96 : decode cX1_makeFactors 96 = .ok (.getfield 78, 3) := by decide +kernel
theorem dX1_makeFactors_99 : decode cX1_makeFactors 99 = .ok (.aload_n 2, 1) := by decide +kernel
theorem dX1_makeFactors_100 : decode cX1_makeFactors 100 = .ok (.iconst 0, 1) := by decide +kernel
theorem dX1_makeFactors_101 : decode cX1_makeFactors 101 = .ok (.laload, 1) := by decide +kernel
theorem dX1_makeFactors_102 : decode cX1_makeFactors 102 = .ok (.lmul, 1) := by decide +kernel
theorem dX1_makeFactors_103 : decode cX1_makeFactors 103 = .ok (.aload_n 0, 1) := by decide +kernel
theorem dX1_makeFactors_104 : decode cX1_makeFactors 104 = .ok (.getfield 12, 3) := by decide +kernel
theorem dX1_makeFactors_107 : decode cX1_makeFactors 107 = .ok (.getfield 84, 3) := by decide +kernel
theorem dX1_makeFactors_110 : decode cX1_makeFactors 110 = .ok (.aload_n 2, 1) := by decide +kernel
theorem dX1_makeFactors_111 : decode cX1_makeFactors 111 = .ok (.iconst 1, 1) := by decide +kernel
theorem dX1_makeFactors_112 : decode cX1_makeFactors 112 = .ok (.laload, 1) := by decide +kernel
theorem dX1_makeFactors_113 : decode cX1_makeFactors 113 = .ok (.lmul, 1) := by decide +kernel
theorem dX1_makeFactors_114 : decode cX1_makeFactors 114 = .ok (.ladd, 1) := by decide +kernel
theorem dX1_makeFactors_115 : decode cX1_makeFactors 115 = .ok (.aload_n 0, 1) := by decide +kernel
theorem dX1_makeFactors_116 : decode cX1_makeFactors 116 = .ok (.getfield 12, 3) := by decide +kernel
theorem dX1_makeFactors_119 : decode cX1_makeFactors 119 = .ok (.getfield 87, 3) := by decide +kernel
theorem dX1_makeFactors_122 : decode cX1_makeFactors 122 = .ok (.aload_n 2, 1) := by decide +kernel
theorem dX1_makeFactors_123 : decode cX1_makeFactors 123 = .ok (.iconst 2, 1) := by decide +kernel
theorem dX1_makeFactors_124 : decode cX1_makeFactors 124 = .ok (.laload, 1) := by decide +kernel
theorem dX1_makeFactors_125 : decode cX1_makeFactors 125 = .ok (.lmul, 1) := by decide +kernel
theorem dX1_makeFactors_126 : decode cX1_makeFactors 126 = .ok (.ladd, 1) := by decide +kernel
theorem dX1_makeFactors_127 : decode cX1_makeFactors 127 = .ok (.lastore, 1) := by decide +kernel
theorem dX1_makeFactors_128 : decode cX1_makeFactors 128 = .ok (.return_, 1) := by decide +kernel
theorem dX1_restOf_0 : decode cX1_restOf 0 = .ok (.aload_n 0, 1) := by decide +kernel
theorem dX1_restOf_1 : decode cX1_restOf 1 = .ok (.getfield 23, 3) := by decide +kernel
theorem dX1_restOf_4 : decode cX1_restOf 4 = .ok (.iload_n 2, 1) := by decide +kernel
theorem dX1_restOf_5 : decode cX1_restOf 5 = .ok (.aaload, 1) := by decide +kernel
theorem dX1_restOf_6 : decode cX1_restOf 6 = .ok (.astore 4, 2) := by decide +kernel
theorem dX1_restOf_8 : decode cX1_restOf 8 = .ok (.aload 4, 2) := by decide +kernel
theorem dX1_restOf_10 : decode cX1_restOf 10 = .ok (.iconst 0, 1) := by decide +kernel
theorem dX1_restOf_11 : decode cX1_restOf 11 = .ok (.laload, 1) := by decide +kernel
theorem dX1_restOf_12 : decode cX1_restOf 12 = .ok (.aload 4, 2) := by decide +kernel
theorem dX1_restOf_14 : decode cX1_restOf 14 = .ok (.iconst 1, 1) := by decide +kernel
theorem dX1_restOf_15 : decode cX1_restOf 15 = .ok (.laload, 1) := by decide +kernel
theorem dX1_restOf_16 : decode cX1_restOf 16 = .ok (.aload_n 1, 1) := by decide +kernel
theorem dX1_restOf_17 : decode cX1_restOf 17 = .ok (.aload_n 0, 1) := by decide +kernel
theorem dX1_restOf_18 : decode cX1_restOf 18 = .ok (.getfield 26, 3) := by decide +kernel
theorem dX1_restOf_21 : decode cX1_restOf 21 = .ok (.iload_n 3, 1) := by decide +kernel
theorem dX1_restOf_22 : decode cX1_restOf 22 = .ok (.invokevirtual 43, 3) := by decide +kernel
theorem dX1_restOf_25 : decode cX1_restOf 25 = .ok (.i2l, 1) := by decide +kernel
theorem dX1_restOf_26 : decode cX1_restOf 26 = .ok (.lmul, 1) := by decide +kernel
theorem dX1_restOf_27 : decode cX1_restOf 27 = .ok (.ladd, 1) := by decide +kernel
theorem dX1_restOf_28 : decode cX1_restOf 28 = .ok (.aload 4, 2) := by decide +kernel
theorem dX1_restOf_30 : decode cX1_restOf 30 = .ok (.iconst 2, 1) := by decide +kernel
theorem dX1_restOf_31 : decode cX1_restOf 31 = .ok (.laload, 1) := by decide +kernel
theorem dX1_restOf_32 : decode cX1_restOf 32 = .ok (.aload_n 1, 1) := by decide +kernel
theorem dX1_restOf_33 : decode cX1_restOf 33 = .ok (.aload_n 0, 1) := by decide +kernel
theorem dX1_restOf_34 : decode cX1_restOf 34 = .ok (.getfield 26, 3) := by decide +kernel
theorem dX1_restOf_37 : decode cX1_restOf 37 = .ok (.iload_n 3, 1) := by decide +kernel
theorem dX1_restOf_38 : decode cX1_restOf 38 = .ok (.invokevirtual 47, 3) := by decide +kernel
theorem dX1_restOf_41 : decode cX1_restOf 41 = .ok (.i2l, 1) := by decide +kernel
theorem dX1_restOf_42 : decode cX1_restOf 42 = .ok (.lmul, 1) := by decide +kernel
theorem dX1_restOf_43 : decode cX1_restOf 43 = .ok (.ladd, 1) := by decide +kernel
theorem dX1_restOf_44 : decode cX1_restOf 44 = .ok (.lstore 5, 2) := by decide +kernel
theorem dX1_restOf_46 : decode cX1_restOf 46 = .ok (.aload_n 1, 1) := by decide +kernel
theorem dX1_restOf_47 : decode cX1_restOf 47 = .ok (.getfield 68, 3) := by decide +kernel
theorem dX1_restOf_50 : decode cX1_restOf 50 = .ok (.iload_n 2, 1) := by decide +kernel
theorem dX1_restOf_51 : decode cX1_restOf 51 = .ok (.aaload, 1) := by decide +kernel
theorem dX1_restOf_52 : decode cX1_restOf 52 = .ok (.iload_n 3, 1) := by decide +kernel
theorem dX1_restOf_53 : decode cX1_restOf 53 = .ok (.iaload, 1) := by decide +kernel
theorem dX1_restOf_54 : decode cX1_restOf 54 = .ok (.i2l, 1) := by decide +kernel
theorem dX1_restOf_55 : decode cX1_restOf 55 = .ok (.aload_n 0, 1) := by decide +kernel
theorem dX1_restOf_56 : decode cX1_restOf 56 = .ok (.getfield 12, 3) := by decide +kernel
theorem dX1_restOf_59 : decode cX1_restOf 59 = .ok (.getfield 64, 3) := by decide +kernel
theorem dX1_restOf_62 : decode cX1_restOf 62 = .ok (.lmul, 1) := by decide +kernel
theorem dX1_restOf_63 : decode cX1_restOf 63 = .ok (.lload 5, 2) := by decide +kernel
theorem dX1_restOf_65 : decode cX1_restOf 65 = .ok (.lsub, 1) := by decide +kernel
theorem dX1_restOf_66 : decode cX1_restOf 66 = .ok (.lreturn, 1) := by decide +kernel
theorem dX1_greaterRestOf_0 : decode cX1_greaterRestOf 0 = .ok (.aload_n 0, 1) := by decide +kernel
theorem dX1_greaterRestOf_1 : decode cX1_greaterRestOf 1 = .ok (.aload_n 1, 1) := by decide +kernel
theorem dX1_greaterRestOf_2 : decode cX1_greaterRestOf 2 = .ok (.iconst 0, 1) := by decide +kernel
theorem dX1_greaterRestOf_3 : decode cX1_greaterRestOf 3 = .ok (.iload_n 2, 1) := by decide +kernel
theorem dX1_greaterRestOf_4 : decode cX1_greaterRestOf 4 = .ok (.invokevirtual 90, 3) := by decide +kernel
theorem dX1_greaterRestOf_7 : decode cX1_greaterRestOf 7 = .ok (.invokestatic 94, 3) := by decide +kernel
theorem dX1_greaterRestOf_10 : decode cX1_greaterRestOf 10 = .ok (.aload_n 0, 1) := by decide +kernel
theorem dX1_greaterRestOf_11 : decode cX1_greaterRestOf 11 = .ok (.aload_n 1, 1) := by decide +kernel
theorem dX1_greaterRestOf_12 : decode cX1_greaterRestOf 12 = .ok (.iconst 1, 1) := by decide +kernel
theorem dX1_greaterRestOf_13 : decode cX1_greaterRestOf 13 = .ok (.iload_n 2, 1) := by decide +kernel
theorem dX1_greaterRestOf_14 : decode cX1_greaterRestOf 14 = .ok (.invokevirtual 90, 3) := by decide +kernel
theorem dX1_greaterRestOf_17 : decode cX1_greaterRestOf 17 = .ok (.invokestatic 94, 3) := by decide +kernel
theorem dX1_greaterRestOf_20 : decode cX1_greaterRestOf 20 = .ok (.invokestatic 100, 3) := by decide +kernel
theorem dX1_greaterRestOf_23 : decode cX1_greaterRestOf 23 = .ok (.lreturn, 1) := by decide +kernel
theorem dX1_sumOfSquares_0 : decode cX1_sumOfSquares 0 = .ok (.aload_n 0, 1) := by decide +kernel
theorem dX1_sumOfSquares_1 : decode cX1_sumOfSquares 1 = .ok (.getfield 20, 3) := by decide +kernel
theorem dX1_sumOfSquares_4 : decode cX1_sumOfSquares 4 = .ok (.iload_n 1, 1) := by decide +kernel
theorem dX1_sumOfSquares_5 : decode cX1_sumOfSquares 5 = .ok (.aaload, 1) := by decide +kernel
theorem dX1_sumOfSquares_6 : decode cX1_sumOfSquares 6 = .ok (.astore_n 2, 1) := by decide +kernel
theorem dX1_sumOfSquares_7 : decode cX1_sumOfSquares 7 = .ok (.aload_n 0, 1) := by decide +kernel
theorem dX1_sumOfSquares_8 : decode cX1_sumOfSquares 8 = .ok (.getfield 23, 3) := by decide +kernel
theorem dX1_sumOfSquares_11 : decode cX1_sumOfSquares 11 = .ok (.iload_n 1, 1) := by decide +kernel
theorem dX1_sumOfSquares_12 : decode cX1_sumOfSquares 12 = .ok (.aaload, 1) := by decide +kernel
theorem dX1_sumOfSquares_13 : decode cX1_sumOfSquares 13 = .ok (.astore_n 3, 1) := by decide +kernel
theorem dX1_sumOfSquares_14 : decode cX1_sumOfSquares 14 = .ok (.aload_n 2, 1) := by decide +kernel
theorem dX1_sumOfSquares_15 : decode cX1_sumOfSquares 15 = .ok (.iconst 3, 1) := by decide +kernel
theorem dX1_sumOfSquares_16 : decode cX1_sumOfSquares 16 = .ok (.laload, 1) := by decide +kernel
theorem dX1_sumOfSquares_17 : decode cX1_sumOfSquares 17 = .ok (.aload_n 0, 1) := by decide +kernel
theorem dX1_sumOfSquares_18 : decode cX1_sumOfSquares 18 = .ok (.getfield 12, 3) := by decide +kernel
theorem dX1_sumOfSquares_21 : decode cX1_sumOfSquares 21 = .ok (.getfield 64, 3) := by decide +kernel
theorem dX1_sumOfSquares_24 : decode cX1_sumOfSquares 24 = .ok (.lmul, 1) := by decide +kernel
theorem dX1_sumOfSquares_25 : decode cX1_sumOfSquares 25 = .ok (.aload_n 3, 1) := by decide +kernel
theorem dX1_sumOfSquares_26 : decode cX1_sumOfSquares 26 = .ok (.iconst 0, 1) := by decide +kernel
theorem dX1_sumOfSquares_27 : decode cX1_sumOfSquares 27 = .ok (.laload, 1) := by decide +kernel
theorem dX1_sumOfSquares_28 : decode cX1_sumOfSquares 28 = .ok (.aload_n 2, 1) := by decide +kernel
theorem dX1_sumOfSquares_29 : decode cX1_sumOfSquares 29 = .ok (.iconst 0, 1) := by decide +kernel
theorem dX1_sumOfSquares_30 : decode cX1_sumOfSquares 30 = .ok (.laload, 1) := by decide +kernel
theorem dX1_sumOfSquares_31 : decode cX1_sumOfSquares 31 = .ok (.lmul, 1) := by decide +kernel
theorem dX1_sumOfSquares_32 : decode cX1_sumOfSquares 32 = .ok (.lsub, 1) := by decide +kernel
theorem dX1_sumOfSquares_33 : decode cX1_sumOfSquares 33 = .ok (.aload_n 3, 1) := by decide +kernel
theorem dX1_sumOfSquares_34 : decode cX1_sumOfSquares 34 = .ok (.iconst 1, 1) := by decide +kernel
theorem dX1_sumOfSquares_35 : decode cX1_sumOfSquares 35 = .ok (.laload, 1) := by decide +kernel
theorem dX1_sumOfSquares_36 : decode cX1_sumOfSquares 36 = .ok (.aload_n 2, 1) := by decide +kernel
theorem dX1_sumOfSquares_37 : decode cX1_sumOfSquares 37 = .ok (.iconst 1, 1) := by decide +kernel
theorem dX1_sumOfSquares_38 : decode cX1_sumOfSquares 38 = .ok (.laload, 1) := by decide +kernel
theorem dX1_sumOfSquares_39 : decode cX1_sumOfSquares 39 = .ok (.lmul, 1) := by decide +kernel
theorem dX1_sumOfSquares_40 : decode cX1_sumOfSquares 40 = .ok (.lsub, 1) := by decide +kernel
theorem dX1_sumOfSquares_41 : decode cX1_sumOfSquares 41 = .ok (.aload_n 3, 1) := by decide +kernel
theorem dX1_sumOfSquares_42 : decode cX1_sumOfSquares 42 = .ok (.iconst 2, 1) := by decide +kernel
theorem dX1_sumOfSquares_43 : decode cX1_sumOfSquares 43 = .ok (.laload, 1) := by decide +kernel
theorem dX1_sumOfSquares_44 : decode cX1_sumOfSquares 44 = .ok (.aload_n 2, 1) := by decide +kernel
theorem dX1_sumOfSquares_45 : decode cX1_sumOfSquares 45 = .ok (.iconst 2, 1) := by decide +kernel
theorem dX1_sumOfSquares_46 : decode cX1_sumOfSquares 46 = .ok (.laload, 1) := by decide +kernel
theorem dX1_sumOfSquares_47 : decode cX1_sumOfSquares 47 = .ok (.lmul, 1) := by decide +kernel
theorem dX1_sumOfSquares_48 : decode cX1_sumOfSquares 48 = .ok (.lsub, 1) := by decide +kernel
theorem dX1_sumOfSquares_49 : decode cX1_sumOfSquares 49 = .ok (.lreturn, 1) := by decide +kernel
theorem dX1_above_0 : decode cX1_above 0 = .ok (.iconst 0, 1) := by decide +kernel
theorem dX1_above_1 : decode cX1_above 1 = .ok (.istore 4, 2) := by decide +kernel
theorem dX1_above_3 : decode cX1_above 3 = .ok (.iconst 0, 1) := by decide +kernel
theorem dX1_above_4 : decode cX1_above 4 = .ok (.istore 5, 2) := by decide +kernel
theorem dX1_above_6 : decode cX1_above 6 = .ok (.iload 5, 2) := by decide +kernel
theorem dX1_above_8 : decode cX1_above 8 = .ok (.aload_n 1, 1) := by decide +kernel
theorem dX1_above_9 : decode cX1_above 9 = .ok (.getfield 34, 3) := by decide +kernel
theorem dX1_above_12 : decode cX1_above 12 = .ok (.if_icmp .ge 48, 3) := by decide +kernel
theorem dX1_above_15 : decode cX1_above 15 = .ok (.iload_n 2, 1) := by decide +kernel
theorem dX1_above_16 : decode cX1_above 16 = .ok (.iload 5, 2) := by decide +kernel
theorem dX1_above_18 : decode cX1_above 18 = .ok (.invokestatic 39, 3) := by decide +kernel
theorem dX1_above_21 : decode cX1_above 21 = .ok (.ifCond .eq 33, 3) := by decide +kernel
theorem dX1_above_24 : decode cX1_above 24 = .ok (.aload_n 0, 1) := by decide +kernel
theorem dX1_above_25 : decode cX1_above 25 = .ok (.aload_n 1, 1) := by decide +kernel
theorem dX1_above_26 : decode cX1_above 26 = .ok (.iload 5, 2) := by decide +kernel
theorem dX1_above_28 : decode cX1_above 28 = .ok (.invokevirtual 104, 3) := by decide +kernel
theorem dX1_above_31 : decode cX1_above 31 = .ok (.iload_n 3, 1) := by decide +kernel
theorem dX1_above_32 : decode cX1_above 32 = .ok (.i2l, 1) := by decide +kernel
theorem dX1_above_33 : decode cX1_above 33 = .ok (.aload_n 0, 1) := by decide +kernel
theorem dX1_above_34 : decode cX1_above 34 = .ok (.getfield 12, 3) := by decide +kernel
theorem dX1_above_37 : decode cX1_above 37 = .ok (.getfield 64, 3) := by decide +kernel
theorem dX1_above_40 : decode cX1_above 40 = .ok (.lmul, 1) := by decide +kernel
theorem dX1_above_41 : decode cX1_above 41 = .ok (.lcmp, 1) := by decide +kernel
theorem dX1_above_42 : decode cX1_above 42 = .ok (.ifCond .le 12, 3) := by decide +kernel
theorem dX1_above_45 : decode cX1_above 45 = .ok (.iload 4, 2) := by decide +kernel
theorem dX1_above_47 : decode cX1_above 47 = .ok (.iconst 1, 1) := by decide +kernel
theorem dX1_above_48 : decode cX1_above 48 = .ok (.iload 5, 2) := by decide +kernel
theorem dX1_above_50 : decode cX1_above 50 = .ok (.ishl, 1) := by decide +kernel
theorem dX1_above_51 : decode cX1_above 51 = .ok (.ior, 1) := by decide +kernel
theorem dX1_above_52 : decode cX1_above 52 = .ok (.istore 4, 2) := by decide +kernel
theorem dX1_above_54 : decode cX1_above 54 = .ok (.iinc 5 1, 3) := by decide +kernel
theorem dX1_above_57 : decode cX1_above 57 = .ok (.goto (-51), 3) := by decide +kernel
theorem dX1_above_60 : decode cX1_above 60 = .ok (.iload 4, 2) := by decide +kernel
theorem dX1_above_62 : decode cX1_above 62 = .ok (.ireturn, 1) := by decide +kernel
theorem dX1_liars_0 : decode cX1_liars 0 = .ok (.aload_n 1, 1) := by decide +kernel
theorem dX1_liars_1 : decode cX1_liars 1 = .ok (.invokevirtual 108, 3) := by decide +kernel
theorem dX1_liars_4 : decode cX1_liars 4 = .ok (.istore 4, 2) := by decide +kernel
theorem dX1_liars_6 : decode cX1_liars 6 = .ok (.iconst 0, 1) := by decide +kernel
theorem dX1_liars_7 : decode cX1_liars 7 = .ok (.istore 5, 2) := by decide +kernel
theorem dX1_liars_9 : decode cX1_liars 9 = .ok (.iload 5, 2) := by decide +kernel
theorem dX1_liars_11 : decode cX1_liars 11 = .ok (.bipush 12, 2) := by decide +kernel
theorem dX1_liars_13 : decode cX1_liars 13 = .ok (.if_icmp .ge 71, 3) := by decide +kernel
theorem dX1_liars_16 : decode cX1_liars 16 = .ok (.aload_n 0, 1) := by decide +kernel
theorem dX1_liars_17 : decode cX1_liars 17 = .ok (.aload_n 1, 1) := by decide +kernel
theorem dX1_liars_18 : decode cX1_liars 18 = .ok (.iload_n 2, 1) := by decide +kernel
theorem dX1_liars_19 : decode cX1_liars 19 = .ok (.iload 4, 2) := by decide +kernel
theorem dX1_liars_21 : decode cX1_liars 21 = .ok (.invokevirtual 112, 3) := by decide +kernel
theorem dX1_liars_24 : decode cX1_liars 24 = .ok (.pop, 1) := by decide +kernel
theorem dX1_liars_25 : decode cX1_liars 25 = .ok (.aload_n 0, 1) := by decide +kernel
theorem dX1_liars_26 : decode cX1_liars 26 = .ok (.aload_n 1, 1) := by decide +kernel
theorem dX1_liars_27 : decode cX1_liars 27 = .ok (.aload_n 0, 1) := by decide +kernel
theorem dX1_liars_28 : decode cX1_liars 28 = .ok (.aload_n 1, 1) := by decide +kernel
theorem dX1_liars_29 : decode cX1_liars 29 = .ok (.iload 4, 2) := by decide +kernel
theorem dX1_liars_31 : decode cX1_liars 31 = .ok (.iload_n 3, 1) := by decide +kernel
theorem dX1_liars_32 : decode cX1_liars 32 = .ok (.invokevirtual 116, 3) := by decide +kernel
theorem dX1_liars_35 : decode cX1_liars 35 = .ok (.invokevirtual 120, 3) := by decide +kernel
theorem dX1_liars_38 : decode cX1_liars 38 = .ok (.istore 6, 2) := by decide +kernel
theorem dX1_liars_40 : decode cX1_liars 40 = .ok (.iload 6, 2) := by decide +kernel
theorem dX1_liars_42 : decode cX1_liars 42 = .ok (.iconst (-1), 1) := by decide +kernel
theorem dX1_liars_43 : decode cX1_liars 43 = .ok (.if_icmp .eq 41, 3) := by decide +kernel
theorem dX1_liars_46 : decode cX1_liars 46 = .ok (.aload_n 0, 1) := by decide +kernel
theorem dX1_liars_47 : decode cX1_liars 47 = .ok (.aload_n 1, 1) := by decide +kernel
theorem dX1_liars_48 : decode cX1_liars 48 = .ok (.iload_n 2, 1) := by decide +kernel
theorem dX1_liars_49 : decode cX1_liars 49 = .ok (.iload 4, 2) := by decide +kernel
theorem dX1_liars_51 : decode cX1_liars 51 = .ok (.iconst 1, 1) := by decide +kernel
theorem dX1_liars_52 : decode cX1_liars 52 = .ok (.iload 6, 2) := by decide +kernel
theorem dX1_liars_54 : decode cX1_liars 54 = .ok (.ishl, 1) := by decide +kernel
theorem dX1_liars_55 : decode cX1_liars 55 = .ok (.iconst (-1), 1) := by decide +kernel
theorem dX1_liars_56 : decode cX1_liars 56 = .ok (.ixor, 1) := by decide +kernel
theorem dX1_liars_57 : decode cX1_liars 57 = .ok (.iand, 1) := by decide +kernel
theorem dX1_liars_58 : decode cX1_liars 58 = .ok (.invokevirtual 112, 3) := by decide +kernel
theorem dX1_liars_61 : decode cX1_liars 61 = .ok (.ifCond .ne 6, 3) := by decide +kernel
theorem dX1_liars_64 : decode cX1_liars 64 = .ok (.goto 20, 3) := by decide +kernel
theorem dX1_liars_67 : decode cX1_liars 67 = .ok (.iload 4, 2) := by decide +kernel
theorem dX1_liars_69 : decode cX1_liars 69 = .ok (.iconst 1, 1) := by decide +kernel
theorem dX1_liars_70 : decode cX1_liars 70 = .ok (.iload 6, 2) := by decide +kernel
theorem dX1_liars_72 : decode cX1_liars 72 = .ok (.ishl, 1) := by decide +kernel
theorem dX1_liars_73 : decode cX1_liars 73 = .ok (.iconst (-1), 1) := by decide +kernel
theorem dX1_liars_74 : decode cX1_liars 74 = .ok (.ixor, 1) := by decide +kernel
theorem dX1_liars_75 : decode cX1_liars 75 = .ok (.iand, 1) := by decide +kernel
theorem dX1_liars_76 : decode cX1_liars 76 = .ok (.istore 4, 2) := by decide +kernel
theorem dX1_liars_78 : decode cX1_liars 78 = .ok (.iinc 5 1, 3) := by decide +kernel
theorem dX1_liars_81 : decode cX1_liars 81 = .ok (.goto (-72), 3) := by decide +kernel
theorem dX1_liars_84 : decode cX1_liars 84 = .ok (.aload_n 1, 1) := by decide +kernel
theorem dX1_liars_85 : decode cX1_liars 85 = .ok (.invokevirtual 108, 3) := by decide +kernel
theorem dX1_liars_88 : decode cX1_liars 88 = .ok (.iload 4, 2) := by decide +kernel
theorem dX1_liars_90 : decode cX1_liars 90 = .ok (.iconst (-1), 1) := by decide +kernel
theorem dX1_liars_91 : decode cX1_liars 91 = .ok (.ixor, 1) := by decide +kernel
theorem dX1_liars_92 : decode cX1_liars 92 = .ok (.iand, 1) := by decide +kernel
theorem dX1_liars_93 : decode cX1_liars 93 = .ok (.ireturn, 1) := by decide +kernel
theorem dX1_worstOf_0 : decode cX1_worstOf 0 = .ok (.iconst (-1), 1) := by decide +kernel
theorem dX1_worstOf_1 : decode cX1_worstOf 1 = .ok (.istore_n 3, 1) := by decide +kernel
theorem dX1_worstOf_2 : decode cX1_worstOf 2 = .ok (.lconst 0, 1) := by decide +kernel
theorem dX1_worstOf_3 : decode cX1_worstOf 3 = .ok (.lstore 4, 2) := by decide +kernel
theorem dX1_worstOf_5 : decode cX1_worstOf 5 = .ok (.iconst 0, 1) := by decide +kernel
theorem dX1_worstOf_6 : decode cX1_worstOf 6 = .ok (.istore 6, 2) := by decide +kernel
theorem dX1_worstOf_8 : decode cX1_worstOf 8 = .ok (.iload 6, 2) := by decide +kernel
theorem dX1_worstOf_10 : decode cX1_worstOf 10 = .ok (.aload_n 1, 1) := by decide +kernel
theorem dX1_worstOf_11 : decode cX1_worstOf 11 = .ok (.getfield 34, 3) := by decide +kernel
theorem dX1_worstOf_14 : decode cX1_worstOf 14 = .ok (.if_icmp .ge 43, 3) := by decide +kernel
theorem dX1_worstOf_17 : decode cX1_worstOf 17 = .ok (.iload_n 2, 1) := by decide +kernel
theorem dX1_worstOf_18 : decode cX1_worstOf 18 = .ok (.iload 6, 2) := by decide +kernel
theorem dX1_worstOf_20 : decode cX1_worstOf 20 = .ok (.invokestatic 39, 3) := by decide +kernel
theorem dX1_worstOf_23 : decode cX1_worstOf 23 = .ok (.ifCond .eq 28, 3) := by decide +kernel
theorem dX1_worstOf_26 : decode cX1_worstOf 26 = .ok (.aload_n 0, 1) := by decide +kernel
theorem dX1_worstOf_27 : decode cX1_worstOf 27 = .ok (.aload_n 1, 1) := by decide +kernel
theorem dX1_worstOf_28 : decode cX1_worstOf 28 = .ok (.iload 6, 2) := by decide +kernel
theorem dX1_worstOf_30 : decode cX1_worstOf 30 = .ok (.invokevirtual 104, 3) := by decide +kernel
theorem dX1_worstOf_33 : decode cX1_worstOf 33 = .ok (.lload 4, 2) := by decide +kernel
theorem dX1_worstOf_35 : decode cX1_worstOf 35 = .ok (.lcmp, 1) := by decide +kernel
theorem dX1_worstOf_36 : decode cX1_worstOf 36 = .ok (.ifCond .le 15, 3) := by decide +kernel
theorem dX1_worstOf_39 : decode cX1_worstOf 39 = .ok (.iload 6, 2) := by decide +kernel
theorem dX1_worstOf_41 : decode cX1_worstOf 41 = .ok (.istore_n 3, 1) := by decide +kernel
theorem dX1_worstOf_42 : decode cX1_worstOf 42 = .ok (.aload_n 0, 1) := by decide +kernel
theorem dX1_worstOf_43 : decode cX1_worstOf 43 = .ok (.aload_n 1, 1) := by decide +kernel
theorem dX1_worstOf_44 : decode cX1_worstOf 44 = .ok (.iload 6, 2) := by decide +kernel
theorem dX1_worstOf_46 : decode cX1_worstOf 46 = .ok (.invokevirtual 104, 3) := by decide +kernel
theorem dX1_worstOf_49 : decode cX1_worstOf 49 = .ok (.lstore 4, 2) := by decide +kernel
theorem dX1_worstOf_51 : decode cX1_worstOf 51 = .ok (.iinc 6 1, 3) := by decide +kernel
theorem dX1_worstOf_54 : decode cX1_worstOf 54 = .ok (.goto (-46), 3) := by decide +kernel
theorem dX1_worstOf_57 : decode cX1_worstOf 57 = .ok (.iload_n 3, 1) := by decide +kernel
theorem dX1_worstOf_58 : decode cX1_worstOf 58 = .ok (.ireturn, 1) := by decide +kernel
theorem dX2_init_0 : decode cX2_init 0 = .ok (.aload_n 0, 1) := by decide +kernel
theorem dX2_init_1 : decode cX2_init 1 = .ok (.invokespecial 3, 3) := by decide +kernel
theorem dX2_init_4 : decode cX2_init 4 = .ok (.aload_n 0, 1) := by decide +kernel
theorem dX2_init_5 : decode cX2_init 5 = .ok (.bipush 12, 2) := by decide +kernel
theorem dX2_init_7 : decode cX2_init 7 = .ok (.newarray .int, 2) := by decide +kernel
theorem dX2_init_9 : decode cX2_init 9 = .ok (.putfield 9, 3) := by decide +kernel
theorem dX2_init_12 : decode cX2_init 12 = .ok (.aload_n 0, 1) := by decide +kernel
theorem dX2_init_13 : decode cX2_init 13 = .ok (.bipush 12, 2) := by decide +kernel
theorem dX2_init_15 : decode cX2_init 15 = .ok (.newarray .int, 2) := by decide +kernel
theorem dX2_init_17 : decode cX2_init 17 = .ok (.putfield 15, 3) := by decide +kernel
theorem dX2_init_20 : decode cX2_init 20 = .ok (.aload_n 0, 1) := by decide +kernel
theorem dX2_init_21 : decode cX2_init 21 = .ok (.bipush 12, 2) := by decide +kernel
theorem dX2_init_23 : decode cX2_init 23 = .ok (.newarray .int, 2) := by decide +kernel
theorem dX2_init_25 : decode cX2_init 25 = .ok (.putfield 18, 3) := by decide +kernel
theorem dX2_init_28 : decode cX2_init 28 = .ok (.aload_n 0, 1) := by decide +kernel
theorem dX2_init_29 : decode cX2_init 29 = .ok (.bipush 12, 2) := by decide +kernel
theorem dX2_init_31 : decode cX2_init 31 = .ok (.newarray .int, 2) := by decide +kernel
theorem dX2_init_33 : decode cX2_init 33 = .ok (.putfield 21, 3) := by decide +kernel
theorem dX2_init_36 : decode cX2_init 36 = .ok (.aload_n 0, 1) := by decide +kernel
theorem dX2_init_37 : decode cX2_init 37 = .ok (.iconst 2, 1) := by decide +kernel
theorem dX2_init_38 : decode cX2_init 38 = .ok (.bipush 12, 2) := by decide +kernel
theorem dX2_init_40 : decode cX2_init 40 = .ok (.multianewarray 24 2, 4) := by decide +kernel
theorem dX2_init_44 : decode cX2_init 44 = .ok (.putfield 26, 3) := by decide +kernel
theorem dX2_init_47 : decode cX2_init 47 = .ok (.return_, 1) := by decide +kernel
theorem dX2_has_0 : decode cX2_has 0 = .ok (.iload_n 1, 1) := by decide +kernel
theorem dX2_has_1 : decode cX2_has 1 = .ok (.ifCond .lt 15, 3) := by decide +kernel
theorem dX2_has_4 : decode cX2_has 4 = .ok (.iload_n 1, 1) := by decide +kernel
theorem dX2_has_5 : decode cX2_has 5 = .ok (.aload_n 0, 1) := by decide +kernel
theorem dX2_has_6 : decode cX2_has 6 = .ok (.getfield 29, 3) := by decide +kernel
theorem dX2_has_9 : decode cX2_has 9 = .ok (.if_icmp .ge 7, 3) := by decide +kernel
theorem dX2_has_12 : decode cX2_has 12 = .ok (.iconst 1, 1) := by decide +kernel
theorem dX2_has_13 : decode cX2_has 13 = .ok (.goto 4, 3) := by decide +kernel
theorem dX2_has_16 : decode cX2_has 16 = .ok (.iconst 0, 1) := by decide +kernel
theorem dX2_has_17 : decode cX2_has 17 = .ok (.ireturn, 1) := by decide +kernel
theorem dX2_add_0 : decode cX2_add 0 = .ok (.aload_n 0, 1) := by decide +kernel
theorem dX2_add_1 : decode cX2_add 1 = .ok (.getfield 29, 3) := by decide +kernel
theorem dX2_add_4 : decode cX2_add 4 = .ok (.istore 5, 2) := by decide +kernel
theorem dX2_add_6 : decode cX2_add 6 = .ok (.aload_n 0, 1) := by decide +kernel
theorem dX2_add_7 : decode cX2_add 7 = .ok (.getfield 9, 3) := by decide +kernel
theorem dX2_add_10 : decode cX2_add 10 = .ok (.iload 5, 2) := by decide +kernel
theorem dX2_add_12 : decode cX2_add 12 = .ok (.iload_n 1, 1) := by decide +kernel
theorem dX2_add_13 : decode cX2_add 13 = .ok (.iastore, 1) := by decide +kernel
theorem dX2_add_14 : decode cX2_add 14 = .ok (.aload_n 0, 1) := by decide +kernel
theorem dX2_add_15 : decode cX2_add 15 = .ok (.getfield 15, 3) := by decide +kernel
theorem dX2_add_18 : decode cX2_add 18 = .ok (.iload 5, 2) := by decide +kernel
theorem dX2_add_20 : decode cX2_add 20 = .ok (.iload_n 2, 1) := by decide +kernel
theorem dX2_add_21 : decode cX2_add 21 = .ok (.iastore, 1) := by decide +kernel
theorem dX2_add_22 : decode cX2_add 22 = .ok (.aload_n 0, 1) := by decide +kernel
theorem dX2_add_23 : decode cX2_add 23 = .ok (.getfield 18, 3) := by decide +kernel
theorem dX2_add_26 : decode cX2_add 26 = .ok (.iload 5, 2) := by decide +kernel
theorem dX2_add_28 : decode cX2_add 28 = .ok (.iload_n 3, 1) := by decide +kernel
theorem dX2_add_29 : decode cX2_add 29 = .ok (.iastore, 1) := by decide +kernel
theorem dX2_add_30 : decode cX2_add 30 = .ok (.aload_n 0, 1) := by decide +kernel
theorem dX2_add_31 : decode cX2_add 31 = .ok (.getfield 21, 3) := by decide +kernel
theorem dX2_add_34 : decode cX2_add 34 = .ok (.iload 5, 2) := by decide +kernel
theorem dX2_add_36 : decode cX2_add 36 = .ok (.iload 4, 2) := by decide +kernel
theorem dX2_add_38 : decode cX2_add 38 = .ok (.iastore, 1) := by decide +kernel
theorem dX2_add_39 : decode cX2_add 39 = .ok (.aload_n 0, 1) := by decide +kernel
theorem dX2_add_40 : decode cX2_add 40 = .ok (.dup, 1) := by decide +kernel
theorem dX2_add_41 : decode cX2_add 41 = .ok (.getfield 33, 3) := by decide +kernel
theorem dX2_add_44 : decode cX2_add 44 = .ok (.iconst 1, 1) := by decide +kernel
theorem dX2_add_45 : decode cX2_add 45 = .ok (.iload 5, 2) := by decide +kernel
theorem dX2_add_47 : decode cX2_add 47 = .ok (.ishl, 1) := by decide +kernel
theorem dX2_add_48 : decode cX2_add 48 = .ok (.ior, 1) := by decide +kernel
theorem dX2_add_49 : decode cX2_add 49 = .ok (.putfield 33, 3) := by decide +kernel
theorem dX2_add_52 : decode cX2_add 52 = .ok (.aload_n 0, 1) := by decide +kernel
theorem dX2_add_53 : decode cX2_add 53 = .ok (.iload 5, 2) := by decide +kernel
theorem dX2_add_55 : decode cX2_add 55 = .ok (.iconst 1, 1) := by decide +kernel
theorem dX2_add_56 : decode cX2_add 56 = .ok (.iadd, 1) := by decide +kernel
theorem dX2_add_57 : decode cX2_add 57 = .ok (.putfield 29, 3) := by decide +kernel
theorem dX2_add_60 : decode cX2_add 60 = .ok (.iload 5, 2) := by decide +kernel
theorem dX2_add_62 : decode cX2_add 62 = .ok (.ireturn, 1) := by decide +kernel
theorem dX2_setReads_0 : decode cX2_setReads 0 = .ok (.aload_n 0, 1) := by decide +kernel
theorem dX2_setReads_1 : decode cX2_setReads 1 = .ok (.getfield 26, 3) := by decide +kernel
theorem dX2_setReads_4 : decode cX2_setReads 4 = .ok (.iconst 0, 1) := by decide +kernel
theorem dX2_setReads_5 : decode cX2_setReads 5 = .ok (.aaload, 1) := by decide +kernel
theorem dX2_setReads_6 : decode cX2_setReads 6 = .ok (.iload_n 1, 1) := by decide +kernel
theorem dX2_setReads_7 : decode cX2_setReads 7 = .ok (.iload_n 2, 1) := by decide +kernel
theorem dX2_setReads_8 : decode cX2_setReads 8 = .ok (.iastore, 1) := by decide +kernel
theorem dX2_setReads_9 : decode cX2_setReads 9 = .ok (.aload_n 0, 1) := by decide +kernel
theorem dX2_setReads_10 : decode cX2_setReads 10 = .ok (.getfield 26, 3) := by decide +kernel
theorem dX2_setReads_13 : decode cX2_setReads 13 = .ok (.iconst 1, 1) := by decide +kernel
theorem dX2_setReads_14 : decode cX2_setReads 14 = .ok (.aaload, 1) := by decide +kernel
theorem dX2_setReads_15 : decode cX2_setReads 15 = .ok (.iload_n 1, 1) := by decide +kernel
theorem dX2_setReads_16 : decode cX2_setReads 16 = .ok (.iload_n 3, 1) := by decide +kernel
theorem dX2_setReads_17 : decode cX2_setReads 17 = .ok (.iastore, 1) := by decide +kernel
theorem dX2_setReads_18 : decode cX2_setReads 18 = .ok (.aload_n 0, 1) := by decide +kernel
theorem dX2_setReads_19 : decode cX2_setReads 19 = .ok (.dup, 1) := by decide +kernel
theorem dX2_setReads_20 : decode cX2_setReads 20 = .ok (.getfield 33, 3) := by decide +kernel
theorem dX2_setReads_23 : decode cX2_setReads 23 = .ok (.iconst 1, 1) := by decide +kernel
theorem dX2_setReads_24 : decode cX2_setReads 24 = .ok (.iload_n 1, 1) := by decide +kernel
theorem dX2_setReads_25 : decode cX2_setReads 25 = .ok (.ishl, 1) := by decide +kernel
theorem dX2_setReads_26 : decode cX2_setReads 26 = .ok (.iconst (-1), 1) := by decide +kernel
theorem dX2_setReads_27 : decode cX2_setReads 27 = .ok (.ixor, 1) := by decide +kernel
theorem dX2_setReads_28 : decode cX2_setReads 28 = .ok (.iand, 1) := by decide +kernel
theorem dX2_setReads_29 : decode cX2_setReads 29 = .ok (.putfield 33, 3) := by decide +kernel
theorem dX2_setReads_32 : decode cX2_setReads 32 = .ok (.aload_n 0, 1) := by decide +kernel
theorem dX2_setReads_33 : decode cX2_setReads 33 = .ok (.dup, 1) := by decide +kernel
theorem dX2_setReads_34 : decode cX2_setReads 34 = .ok (.getfield 36, 3) := by decide +kernel
theorem dX2_setReads_37 : decode cX2_setReads 37 = .ok (.iconst 1, 1) := by decide +kernel
theorem dX2_setReads_38 : decode cX2_setReads 38 = .ok (.iload_n 1, 1) := by decide +kernel
theorem dX2_setReads_39 : decode cX2_setReads 39 = .ok (.ishl, 1) := by decide +kernel
theorem dX2_setReads_40 : decode cX2_setReads 40 = .ok (.iconst (-1), 1) := by decide +kernel
theorem dX2_setReads_41 : decode cX2_setReads 41 = .ok (.ixor, 1) := by decide +kernel
theorem dX2_setReads_42 : decode cX2_setReads 42 = .ok (.iand, 1) := by decide +kernel
theorem dX2_setReads_43 : decode cX2_setReads 43 = .ok (.putfield 36, 3) := by decide +kernel
theorem dX2_setReads_46 : decode cX2_setReads 46 = .ok (.return_, 1) := by decide +kernel
theorem dX2_forget_0 : decode cX2_forget 0 = .ok (.aload_n 0, 1) := by decide +kernel
theorem dX2_forget_1 : decode cX2_forget 1 = .ok (.iload_n 1, 1) := by decide +kernel
theorem dX2_forget_2 : decode cX2_forget 2 = .ok (.iconst 0, 1) := by decide +kernel
theorem dX2_forget_3 : decode cX2_forget 3 = .ok (.iconst 0, 1) := by decide +kernel
theorem dX2_forget_4 : decode cX2_forget 4 = .ok (.invokevirtual 39, 3) := by decide +kernel
theorem dX2_forget_7 : decode cX2_forget 7 = .ok (.aload_n 0, 1) := by decide +kernel
theorem dX2_forget_8 : decode cX2_forget 8 = .ok (.dup, 1) := by decide +kernel
theorem dX2_forget_9 : decode cX2_forget 9 = .ok (.getfield 33, 3) := by decide +kernel
theorem dX2_forget_12 : decode cX2_forget 12 = .ok (.iconst 1, 1) := by decide +kernel
theorem dX2_forget_13 : decode cX2_forget 13 = .ok (.iload_n 1, 1) := by decide +kernel
theorem dX2_forget_14 : decode cX2_forget 14 = .ok (.ishl, 1) := by decide +kernel
theorem dX2_forget_15 : decode cX2_forget 15 = .ok (.ior, 1) := by decide +kernel
theorem dX2_forget_16 : decode cX2_forget 16 = .ok (.putfield 33, 3) := by decide +kernel
theorem dX2_forget_19 : decode cX2_forget 19 = .ok (.return_, 1) := by decide +kernel
theorem dX2_notLost_0 : decode cX2_notLost 0 = .ok (.iconst 1, 1) := by decide +kernel
theorem dX2_notLost_1 : decode cX2_notLost 1 = .ok (.aload_n 0, 1) := by decide +kernel
theorem dX2_notLost_2 : decode cX2_notLost 2 = .ok (.getfield 29, 3) := by decide +kernel
theorem dX2_notLost_5 : decode cX2_notLost 5 = .ok (.ishl, 1) := by decide +kernel
theorem dX2_notLost_6 : decode cX2_notLost 6 = .ok (.iconst 1, 1) := by decide +kernel
theorem dX2_notLost_7 : decode cX2_notLost 7 = .ok (.isub, 1) := by decide +kernel
theorem dX2_notLost_8 : decode cX2_notLost 8 = .ok (.aload_n 0, 1) := by decide +kernel
theorem dX2_notLost_9 : decode cX2_notLost 9 = .ok (.getfield 33, 3) := by decide +kernel
theorem dX2_notLost_12 : decode cX2_notLost 12 = .ok (.iconst (-1), 1) := by decide +kernel
theorem dX2_notLost_13 : decode cX2_notLost 13 = .ok (.ixor, 1) := by decide +kernel
theorem dX2_notLost_14 : decode cX2_notLost 14 = .ok (.iand, 1) := by decide +kernel
theorem dX2_notLost_15 : decode cX2_notLost 15 = .ok (.ireturn, 1) := by decide +kernel
theorem dX2_counting_0 : decode cX2_counting 0 = .ok (.aload_n 0, 1) := by decide +kernel
theorem dX2_counting_1 : decode cX2_counting 1 = .ok (.invokevirtual 43, 3) := by decide +kernel
theorem dX2_counting_4 : decode cX2_counting 4 = .ok (.aload_n 0, 1) := by decide +kernel
theorem dX2_counting_5 : decode cX2_counting 5 = .ok (.getfield 36, 3) := by decide +kernel
theorem dX2_counting_8 : decode cX2_counting 8 = .ok (.iconst (-1), 1) := by decide +kernel
theorem dX2_counting_9 : decode cX2_counting 9 = .ok (.ixor, 1) := by decide +kernel
theorem dX2_counting_10 : decode cX2_counting 10 = .ok (.iand, 1) := by decide +kernel
theorem dX2_counting_11 : decode cX2_counting 11 = .ok (.ireturn, 1) := by decide +kernel
theorem dX2_secondTerm_0 : decode cX2_secondTerm 0 = .ok (.iload_n 1, 1) := by decide +kernel
theorem dX2_secondTerm_1 : decode cX2_secondTerm 1 = .ok (.iconst 1, 1) := by decide +kernel
theorem dX2_secondTerm_2 : decode cX2_secondTerm 2 = .ok (.if_icmp .ne 12, 3) := by decide +kernel
theorem dX2_secondTerm_5 : decode cX2_secondTerm 5 = .ok (.aload_n 0, 1) := by decide +kernel
theorem dX2_secondTerm_6 : decode cX2_secondTerm 6 = .ok (.getfield 9, 3) := by decide +kernel
theorem dX2_secondTerm_9 : decode cX2_secondTerm 9 = .ok (.iload_n 2, 1) := by decide +kernel
theorem dX2_secondTerm_10 : decode cX2_secondTerm 10 = .ok (.iaload, 1) := by decide +kernel
theorem dX2_secondTerm_11 : decode cX2_secondTerm 11 = .ok (.goto 18, 3) := by decide +kernel
theorem dX2_secondTerm_14 : decode cX2_secondTerm 14 = .ok (.iload_n 1, 1) := by decide +kernel
theorem dX2_secondTerm_15 : decode cX2_secondTerm 15 = .ok (.iconst 2, 1) := by decide +kernel
theorem dX2_secondTerm_16 : decode cX2_secondTerm 16 = .ok (.if_icmp .ne 12, 3) := by decide +kernel
theorem dX2_secondTerm_19 : decode cX2_secondTerm 19 = .ok (.aload_n 0, 1) := by decide +kernel
theorem dX2_secondTerm_20 : decode cX2_secondTerm 20 = .ok (.getfield 18, 3) := by decide +kernel
theorem dX2_secondTerm_23 : decode cX2_secondTerm 23 = .ok (.iload_n 2, 1) := by decide +kernel
theorem dX2_secondTerm_24 : decode cX2_secondTerm 24 = .ok (.iaload, 1) := by decide +kernel
theorem dX2_secondTerm_25 : decode cX2_secondTerm 25 = .ok (.goto 4, 3) := by decide +kernel
theorem dX2_secondTerm_28 : decode cX2_secondTerm 28 = .ok (.iconst 0, 1) := by decide +kernel
theorem dX2_secondTerm_29 : decode cX2_secondTerm 29 = .ok (.ireturn, 1) := by decide +kernel
theorem dX2_thirdTerm_0 : decode cX2_thirdTerm 0 = .ok (.iload_n 1, 1) := by decide +kernel
theorem dX2_thirdTerm_1 : decode cX2_thirdTerm 1 = .ok (.iconst 1, 1) := by decide +kernel
theorem dX2_thirdTerm_2 : decode cX2_thirdTerm 2 = .ok (.if_icmp .ne 12, 3) := by decide +kernel
theorem dX2_thirdTerm_5 : decode cX2_thirdTerm 5 = .ok (.aload_n 0, 1) := by decide +kernel
theorem dX2_thirdTerm_6 : decode cX2_thirdTerm 6 = .ok (.getfield 15, 3) := by decide +kernel
theorem dX2_thirdTerm_9 : decode cX2_thirdTerm 9 = .ok (.iload_n 2, 1) := by decide +kernel
theorem dX2_thirdTerm_10 : decode cX2_thirdTerm 10 = .ok (.iaload, 1) := by decide +kernel
theorem dX2_thirdTerm_11 : decode cX2_thirdTerm 11 = .ok (.goto 18, 3) := by decide +kernel
theorem dX2_thirdTerm_14 : decode cX2_thirdTerm 14 = .ok (.iload_n 1, 1) := by decide +kernel
theorem dX2_thirdTerm_15 : decode cX2_thirdTerm 15 = .ok (.iconst 2, 1) := by decide +kernel
theorem dX2_thirdTerm_16 : decode cX2_thirdTerm 16 = .ok (.if_icmp .ne 12, 3) := by decide +kernel
theorem dX2_thirdTerm_19 : decode cX2_thirdTerm 19 = .ok (.aload_n 0, 1) := by decide +kernel
theorem dX2_thirdTerm_20 : decode cX2_thirdTerm 20 = .ok (.getfield 21, 3) := by decide +kernel
theorem dX2_thirdTerm_23 : decode cX2_thirdTerm 23 = .ok (.iload_n 2, 1) := by decide +kernel
theorem dX2_thirdTerm_24 : decode cX2_thirdTerm 24 = .ok (.iaload, 1) := by decide +kernel
theorem dX2_thirdTerm_25 : decode cX2_thirdTerm 25 = .ok (.goto 4, 3) := by decide +kernel
theorem dX2_thirdTerm_28 : decode cX2_thirdTerm 28 = .ok (.iconst 0, 1) := by decide +kernel
theorem dX2_thirdTerm_29 : decode cX2_thirdTerm 29 = .ok (.ireturn, 1) := by decide +kernel
theorem dX2_fieldsOf_0 : decode cX2_fieldsOf 0 = .ok (.iconst 0, 1) := by decide +kernel
theorem dX2_fieldsOf_1 : decode cX2_fieldsOf 1 = .ok (.istore_n 2, 1) := by decide +kernel
theorem dX2_fieldsOf_2 : decode cX2_fieldsOf 2 = .ok (.iconst 0, 1) := by decide +kernel
theorem dX2_fieldsOf_3 : decode cX2_fieldsOf 3 = .ok (.istore_n 3, 1) := by decide +kernel
theorem dX2_fieldsOf_4 : decode cX2_fieldsOf 4 = .ok (.iload_n 3, 1) := by decide +kernel
theorem dX2_fieldsOf_5 : decode cX2_fieldsOf 5 = .ok (.aload_n 0, 1) := by decide +kernel
theorem dX2_fieldsOf_6 : decode cX2_fieldsOf 6 = .ok (.getfield 29, 3) := by decide +kernel
theorem dX2_fieldsOf_9 : decode cX2_fieldsOf 9 = .ok (.if_icmp .ge 29, 3) := by decide +kernel
theorem dX2_fieldsOf_12 : decode cX2_fieldsOf 12 = .ok (.iload_n 1, 1) := by decide +kernel
theorem dX2_fieldsOf_13 : decode cX2_fieldsOf 13 = .ok (.iload_n 3, 1) := by decide +kernel
theorem dX2_fieldsOf_14 : decode cX2_fieldsOf 14 = .ok (.invokestatic 47, 3) := by decide +kernel
theorem dX2_fieldsOf_17 : decode cX2_fieldsOf 17 = .ok (.ifCond .eq 15, 3) := by decide +kernel
theorem dX2_fieldsOf_20 : decode cX2_fieldsOf 20 = .ok (.aload_n 0, 1) := by decide +kernel
theorem dX2_fieldsOf_21 : decode cX2_fieldsOf 21 = .ok (.iload_n 1, 1) := by decide +kernel
theorem dX2_fieldsOf_22 : decode cX2_fieldsOf 22 = .ok (.iload_n 3, 1) := by decide +kernel
theorem dX2_fieldsOf_23 : decode cX2_fieldsOf 23 = .ok (.invokevirtual 51, 3) := by decide +kernel
theorem dX2_fieldsOf_26 : decode cX2_fieldsOf 26 = .ok (.ifCond .ne 6, 3) := by decide +kernel
theorem dX2_fieldsOf_29 : decode cX2_fieldsOf 29 = .ok (.iinc 2 1, 3) := by decide +kernel
theorem dX2_fieldsOf_32 : decode cX2_fieldsOf 32 = .ok (.iinc 3 1, 3) := by decide +kernel
theorem dX2_fieldsOf_35 : decode cX2_fieldsOf 35 = .ok (.goto (-31), 3) := by decide +kernel
theorem dX2_fieldsOf_38 : decode cX2_fieldsOf 38 = .ok (.iload_n 2, 1) := by decide +kernel
theorem dX2_fieldsOf_39 : decode cX2_fieldsOf 39 = .ok (.ireturn, 1) := by decide +kernel
theorem dX2_hasEarlierOfField_0 : decode cX2_hasEarlierOfField 0 = .ok (.iconst 0, 1) := by decide +kernel
theorem dX2_hasEarlierOfField_1 : decode cX2_hasEarlierOfField 1 = .ok (.istore_n 3, 1) := by decide +kernel
theorem dX2_hasEarlierOfField_2 : decode cX2_hasEarlierOfField 2 = .ok (.iload_n 3, 1) := by decide +kernel
theorem dX2_hasEarlierOfField_3 : decode cX2_hasEarlierOfField 3 = .ok (.iload_n 2, 1) := by decide +kernel
theorem dX2_hasEarlierOfField_4 : decode cX2_hasEarlierOfField 4 = .ok (.if_icmp .ge 49, 3) := by decide +kernel
theorem dX2_hasEarlierOfField_7 : decode cX2_hasEarlierOfField 7 = .ok (.iload_n 1, 1) := by decide +kernel
theorem dX2_hasEarlierOfField_8 : decode cX2_hasEarlierOfField 8 = .ok (.iload_n 3, 1) := by decide +kernel
theorem dX2_hasEarlierOfField_9 : decode cX2_hasEarlierOfField 9 = .ok (.invokestatic 47, 3) := by decide +kernel
theorem dX2_hasEarlierOfField_12 : decode cX2_hasEarlierOfField 12 = .ok (.ifCond .eq 35, 3) := by decide +kernel
theorem dX2_hasEarlierOfField_15 : decode cX2_hasEarlierOfField 15 = .ok (.aload_n 0, 1) := by decide +kernel
theorem dX2_hasEarlierOfField_16 : decode cX2_hasEarlierOfField 16 = .ok (.getfield 9, 3) := by decide +kernel
theorem dX2_hasEarlierOfField_19 : decode cX2_hasEarlierOfField 19 = .ok (.iload_n 3, 1) := by decide +kernel
theorem dX2_hasEarlierOfField_20 : decode cX2_hasEarlierOfField 20 = .ok (.iaload, 1) := by decide +kernel
theorem dX2_hasEarlierOfField_21 : decode cX2_hasEarlierOfField 21 = .ok (.aload_n 0, 1) := by decide +kernel
theorem dX2_hasEarlierOfField_22 : decode cX2_hasEarlierOfField 22 = .ok (.getfield 9, 3) := by decide +kernel
theorem dX2_hasEarlierOfField_25 : decode cX2_hasEarlierOfField 25 = .ok (.iload_n 2, 1) := by decide +kernel
theorem dX2_hasEarlierOfField_26 : decode cX2_hasEarlierOfField 26 = .ok (.iaload, 1) := by decide +kernel
theorem dX2_hasEarlierOfField_27 : decode cX2_hasEarlierOfField 27 = .ok (.if_icmp .ne 20, 3) := by decide +kernel
theorem dX2_hasEarlierOfField_30 : decode cX2_hasEarlierOfField 30 = .ok (.aload_n 0, 1) := by decide +kernel
theorem dX2_hasEarlierOfField_31 : decode cX2_hasEarlierOfField 31 = .ok (.getfield 15, 3) := by decide +kernel
theorem dX2_hasEarlierOfField_34 : decode cX2_hasEarlierOfField 34 = .ok (.iload_n 3, 1) := by decide +kernel
theorem dX2_hasEarlierOfField_35 : decode cX2_hasEarlierOfField 35 = .ok (.iaload, 1) := by decide +kernel
theorem dX2_hasEarlierOfField_36 : decode cX2_hasEarlierOfField 36 = .ok (.aload_n 0, 1) := by decide +kernel
theorem dX2_hasEarlierOfField_37 : decode cX2_hasEarlierOfField 37 = .ok (.getfield 15, 3) := by decide +kernel
theorem dX2_hasEarlierOfField_40 : decode cX2_hasEarlierOfField 40 = .ok (.iload_n 2, 1) := by decide +kernel
theorem dX2_hasEarlierOfField_41 : decode cX2_hasEarlierOfField 41 = .ok (.iaload, 1) := by decide +kernel
theorem dX2_hasEarlierOfField_42 : decode cX2_hasEarlierOfField 42 = .ok (.if_icmp .ne 5, 3) := by decide +kernel
theorem dX2_hasEarlierOfField_45 : decode cX2_hasEarlierOfField 45 = .ok (.iconst 1, 1) := by decide +kernel
theorem dX2_hasEarlierOfField_46 : decode cX2_hasEarlierOfField 46 = .ok (.ireturn, 1) := by decide +kernel
theorem dX2_hasEarlierOfField_47 : decode cX2_hasEarlierOfField 47 = .ok (.iinc 3 1, 3) := by decide +kernel
theorem dX2_hasEarlierOfField_50 : decode cX2_hasEarlierOfField 50 = .ok (.goto (-48), 3) := by decide +kernel
theorem dX2_hasEarlierOfField_53 : decode cX2_hasEarlierOfField 53 = .ok (.iconst 0, 1) := by decide +kernel
theorem dX2_hasEarlierOfField_54 : decode cX2_hasEarlierOfField 54 = .ok (.ireturn, 1) := by decide +kernel
theorem dX3_init_0 : decode cX3_init 0 = .ok (.aload_n 0, 1) := by decide +kernel
theorem dX3_init_1 : decode cX3_init 1 = .ok (.invokespecial 1, 3) := by decide +kernel
theorem dX3_init_4 : decode cX3_init 4 = .ok (.aload_n 0, 1) := by decide +kernel
theorem dX3_init_5 : decode cX3_init 5 = .ok (.new 7, 3) := by decide +kernel
theorem dX3_init_8 : decode cX3_init 8 = .ok (.dup, 1) := by decide +kernel
theorem dX3_init_9 : decode cX3_init 9 = .ok (.invokespecial 9, 3) := by decide +kernel
theorem dX3_init_12 : decode cX3_init 12 = .ok (.putfield 10, 3) := by decide +kernel
theorem dX3_init_15 : decode cX3_init 15 = .ok (.return_, 1) := by decide +kernel
theorem dX3_make_0 : decode cX3_make 0 = .ok (.aload_n 0, 1) := by decide +kernel
theorem dX3_make_1 : decode cX3_make 1 = .ok (.iload_n 3, 1) := by decide +kernel
theorem dX3_make_2 : decode cX3_make 2 = .ok (.putfield 16, 3) := by decide +kernel
theorem dX3_make_5 : decode cX3_make 5 = .ok (.aload_n 0, 1) := by decide +kernel
theorem dX3_make_6 : decode cX3_make 6 = .ok (.iconst 0, 1) := by decide +kernel
theorem dX3_make_7 : decode cX3_make 7 = .ok (.putfield 20, 3) := by decide +kernel
theorem dX3_make_10 : decode cX3_make 10 = .ok (.aload_n 0, 1) := by decide +kernel
theorem dX3_make_11 : decode cX3_make 11 = .ok (.getfield 10, 3) := by decide +kernel
theorem dX3_make_14 : decode cX3_make 14 = .ok (.aload_n 0, 1) := by decide +kernel
theorem dX3_make_15 : decode cX3_make 15 = .ok (.getfield 16, 3) := by decide +kernel
theorem dX3_make_18 : decode cX3_make 18 = .ok (.invokevirtual 23, 3) := by decide +kernel
theorem dX3_make_21 : decode cX3_make 21 = .ok (.aload_n 0, 1) := by decide +kernel
theorem dX3_make_22 : decode cX3_make 22 = .ok (.aload_n 1, 1) := by decide +kernel
theorem dX3_make_23 : decode cX3_make 23 = .ok (.iconst 0, 1) := by decide +kernel
theorem dX3_make_24 : decode cX3_make 24 = .ok (.iload_n 2, 1) := by decide +kernel
theorem dX3_make_25 : decode cX3_make 25 = .ok (.iconst 0, 1) := by decide +kernel
theorem dX3_make_26 : decode cX3_make 26 = .ok (.invokevirtual 27, 3) := by decide +kernel
theorem dX3_make_29 : decode cX3_make 29 = .ok (.aload_n 0, 1) := by decide +kernel
theorem dX3_make_30 : decode cX3_make 30 = .ok (.getfield 20, 3) := by decide +kernel
theorem dX3_make_33 : decode cX3_make 33 = .ok (.ifCond .eq 7, 3) := by decide +kernel
theorem dX3_make_36 : decode cX3_make 36 = .ok (.iconst 1, 1) := by decide +kernel
theorem dX3_make_37 : decode cX3_make 37 = .ok (.goto 4, 3) := by decide +kernel
theorem dX3_make_40 : decode cX3_make 40 = .ok (.iconst 0, 1) := by decide +kernel
theorem dX3_make_41 : decode cX3_make 41 = .ok (.ireturn, 1) := by decide +kernel
theorem dX3_choose_0 : decode cX3_choose 0 = .ok (.iload_n 3, 1) := by decide +kernel
theorem dX3_choose_1 : decode cX3_choose 1 = .ok (.ifCond .gt 11, 3) := by decide +kernel
theorem dX3_choose_4 : decode cX3_choose 4 = .ok (.aload_n 0, 1) := by decide +kernel
theorem dX3_choose_5 : decode cX3_choose 5 = .ok (.aload_n 1, 1) := by decide +kernel
theorem dX3_choose_6 : decode cX3_choose 6 = .ok (.iload 4, 2) := by decide +kernel
theorem dX3_choose_8 : decode cX3_choose 8 = .ok (.invokevirtual 31, 3) := by decide +kernel
theorem dX3_choose_11 : decode cX3_choose 11 = .ok (.return_, 1) := by decide +kernel
theorem dX3_choose_12 : decode cX3_choose 12 = .ok (.iload_n 2, 1) := by decide +kernel
theorem dX3_choose_13 : decode cX3_choose 13 = .ok (.istore 5, 2) := by decide +kernel
theorem dX3_choose_15 : decode cX3_choose 15 = .ok (.iload 5, 2) := by decide +kernel
theorem dX3_choose_17 : decode cX3_choose 17 = .ok (.aload_n 1, 1) := by decide +kernel
theorem dX3_choose_18 : decode cX3_choose 18 = .ok (.getfield 35, 3) := by decide +kernel
theorem dX3_choose_21 : decode cX3_choose 21 = .ok (.iload_n 3, 1) := by decide +kernel
theorem dX3_choose_22 : decode cX3_choose 22 = .ok (.isub, 1) := by decide +kernel
theorem dX3_choose_23 : decode cX3_choose 23 = .ok (.if_icmp .gt 80, 3) := by decide +kernel
theorem dX3_choose_26 : decode cX3_choose 26 = .ok (.aload_n 1, 1) := by decide +kernel
theorem dX3_choose_27 : decode cX3_choose 27 = .ok (.aload_n 0, 1) := by decide +kernel
theorem dX3_choose_28 : decode cX3_choose 28 = .ok (.getfield 16, 3) := by decide +kernel
theorem dX3_choose_31 : decode cX3_choose 31 = .ok (.iload 5, 2) := by decide +kernel
theorem dX3_choose_33 : decode cX3_choose 33 = .ok (.invokevirtual 40, 3) := by decide +kernel
theorem dX3_choose_36 : decode cX3_choose 36 = .ok (.istore 6, 2) := by decide +kernel
theorem dX3_choose_38 : decode cX3_choose 38 = .ok (.aload_n 1, 1) := by decide +kernel
theorem dX3_choose_39 : decode cX3_choose 39 = .ok (.aload_n 0, 1) := by decide +kernel
theorem dX3_choose_40 : decode cX3_choose 40 = .ok (.getfield 16, 3) := by decide +kernel
theorem dX3_choose_43 : decode cX3_choose 43 = .ok (.iload 5, 2) := by decide +kernel
theorem dX3_choose_45 : decode cX3_choose 45 = .ok (.invokevirtual 44, 3) := by decide +kernel
theorem dX3_choose_48 : decode cX3_choose 48 = .ok (.istore 7, 2) := by decide +kernel
theorem dX3_choose_50 : decode cX3_choose 50 = .ok (.aload_n 0, 1) := by decide +kernel
theorem dX3_choose_51 : decode cX3_choose 51 = .ok (.getfield 10, 3) := by decide +kernel
theorem dX3_choose_54 : decode cX3_choose 54 = .ok (.iload 6, 2) := by decide +kernel
theorem dX3_choose_56 : decode cX3_choose 56 = .ok (.i2l, 1) := by decide +kernel
theorem dX3_choose_57 : decode cX3_choose 57 = .ok (.iload 7, 2) := by decide +kernel
theorem dX3_choose_59 : decode cX3_choose 59 = .ok (.i2l, 1) := by decide +kernel
theorem dX3_choose_60 : decode cX3_choose 60 = .ok (.iconst 1, 1) := by decide +kernel
theorem dX3_choose_61 : decode cX3_choose 61 = .ok (.invokevirtual 47, 3) := by decide +kernel
theorem dX3_choose_64 : decode cX3_choose 64 = .ok (.aload_n 0, 1) := by decide +kernel
theorem dX3_choose_65 : decode cX3_choose 65 = .ok (.aload_n 1, 1) := by decide +kernel
theorem dX3_choose_66 : decode cX3_choose 66 = .ok (.iload 5, 2) := by decide +kernel
theorem dX3_choose_68 : decode cX3_choose 68 = .ok (.iconst 1, 1) := by decide +kernel
theorem dX3_choose_69 : decode cX3_choose 69 = .ok (.iadd, 1) := by decide +kernel
theorem dX3_choose_70 : decode cX3_choose 70 = .ok (.iload_n 3, 1) := by decide +kernel
theorem dX3_choose_71 : decode cX3_choose 71 = .ok (.iconst 1, 1) := by decide +kernel
theorem dX3_choose_72 : decode cX3_choose 72 = .ok (.isub, 1) := by decide +kernel
theorem dX3_choose_73 : decode cX3_choose 73 = .ok (.iload 4, 2) := by decide +kernel
theorem dX3_choose_75 : decode cX3_choose 75 = .ok (.iconst 1, 1) := by decide +kernel
theorem dX3_choose_76 : decode cX3_choose 76 = .ok (.iload 5, 2) := by decide +kernel
theorem dX3_choose_78 : decode cX3_choose 78 = .ok (.ishl, 1) := by decide +kernel
theorem dX3_choose_79 : decode cX3_choose 79 = .ok (.ior, 1) := by decide +kernel
theorem dX3_choose_80 : decode cX3_choose 80 = .ok (.invokevirtual 27, 3) := by decide +kernel
theorem dX3_choose_83 : decode cX3_choose 83 = .ok (.aload_n 0, 1) := by decide +kernel
theorem dX3_choose_84 : decode cX3_choose 84 = .ok (.getfield 10, 3) := by decide +kernel
theorem dX3_choose_87 : decode cX3_choose 87 = .ok (.iload 6, 2) := by decide +kernel
theorem dX3_choose_89 : decode cX3_choose 89 = .ok (.i2l, 1) := by decide +kernel
theorem dX3_choose_90 : decode cX3_choose 90 = .ok (.iload 7, 2) := by decide +kernel
theorem dX3_choose_92 : decode cX3_choose 92 = .ok (.i2l, 1) := by decide +kernel
theorem dX3_choose_93 : decode cX3_choose 93 = .ok (.iconst (-1), 1) := by decide +kernel
theorem dX3_choose_94 : decode cX3_choose 94 = .ok (.invokevirtual 47, 3) := by decide +kernel
theorem dX3_choose_97 : decode cX3_choose 97 = .ok (.iinc 5 1, 3) := by decide +kernel
theorem dX3_choose_100 : decode cX3_choose 100 = .ok (.goto (-85), 3) := by decide +kernel
theorem dX3_choose_103 : decode cX3_choose 103 = .ok (.return_, 1) := by decide +kernel
theorem dX3_weigh_0 : decode cX3_weigh 0 = .ok (.aload_n 0, 1) := by decide +kernel
theorem dX3_weigh_1 : decode cX3_weigh 1 = .ok (.getfield 10, 3) := by decide +kernel
theorem dX3_weigh_4 : decode cX3_weigh 4 = .ok (.invokevirtual 51, 3) := by decide +kernel
theorem dX3_weigh_7 : decode cX3_weigh 7 = .ok (.aload_n 0, 1) := by decide +kernel
theorem dX3_weigh_8 : decode cX3_weigh 8 = .ok (.getfield 10, 3) := by decide +kernel
theorem dX3_weigh_11 : decode cX3_weigh 11 = .ok (.getfield 54, 3) := by decide +kernel
theorem dX3_weigh_14 : decode cX3_weigh 14 = .ok (.lconst 0, 1) := by decide +kernel
theorem dX3_weigh_15 : decode cX3_weigh 15 = .ok (.lcmp, 1) := by decide +kernel
theorem dX3_weigh_16 : decode cX3_weigh 16 = .ok (.ifCond .ne 4, 3) := by decide +kernel
theorem dX3_weigh_19 : decode cX3_weigh 19 = .ok (.return_, 1) := by decide +kernel
theorem dX3_weigh_20 : decode cX3_weigh 20 = .ok (.lconst 0, 1) := by decide +kernel
theorem dX3_weigh_21 : decode cX3_weigh 21 = .ok (.lstore_n 3, 1) := by decide +kernel
theorem dX3_weigh_22 : decode cX3_weigh 22 = .ok (.iconst 0, 1) := by decide +kernel
theorem dX3_weigh_23 : decode cX3_weigh 23 = .ok (.istore 5, 2) := by decide +kernel
theorem dX3_weigh_25 : decode cX3_weigh 25 = .ok (.iload 5, 2) := by decide +kernel
theorem dX3_weigh_27 : decode cX3_weigh 27 = .ok (.aload_n 1, 1) := by decide +kernel
theorem dX3_weigh_28 : decode cX3_weigh 28 = .ok (.getfield 35, 3) := by decide +kernel
theorem dX3_weigh_31 : decode cX3_weigh 31 = .ok (.if_icmp .ge 73, 3) := by decide +kernel
theorem dX3_weigh_34 : decode cX3_weigh 34 = .ok (.lload_n 3, 1) := by decide +kernel
theorem dX3_weigh_35 : decode cX3_weigh 35 = .ok (.aload_n 0, 1) := by decide +kernel
theorem dX3_weigh_36 : decode cX3_weigh 36 = .ok (.getfield 10, 3) := by decide +kernel
theorem dX3_weigh_39 : decode cX3_weigh 39 = .ok (.aload_n 1, 1) := by decide +kernel
theorem dX3_weigh_40 : decode cX3_weigh 40 = .ok (.aload_n 0, 1) := by decide +kernel
theorem dX3_weigh_41 : decode cX3_weigh 41 = .ok (.getfield 16, 3) := by decide +kernel
theorem dX3_weigh_44 : decode cX3_weigh 44 = .ok (.iload 5, 2) := by decide +kernel
theorem dX3_weigh_46 : decode cX3_weigh 46 = .ok (.invokevirtual 40, 3) := by decide +kernel
theorem dX3_weigh_49 : decode cX3_weigh 49 = .ok (.i2l, 1) := by decide +kernel
theorem dX3_weigh_50 : decode cX3_weigh 50 = .ok (.aload_n 1, 1) := by decide +kernel
theorem dX3_weigh_51 : decode cX3_weigh 51 = .ok (.aload_n 0, 1) := by decide +kernel
theorem dX3_weigh_52 : decode cX3_weigh 52 = .ok (.getfield 16, 3) := by decide +kernel
theorem dX3_weigh_55 : decode cX3_weigh 55 = .ok (.iload 5, 2) := by decide +kernel
theorem dX3_weigh_57 : decode cX3_weigh 57 = .ok (.invokevirtual 44, 3) := by decide +kernel
theorem dX3_weigh_60 : decode cX3_weigh 60 = .ok (.i2l, 1) := by decide +kernel
theorem dX3_weigh_61 : decode cX3_weigh 61 = .ok (.invokevirtual 58, 3) := by decide +kernel
theorem dX3_weigh_64 : decode cX3_weigh 64 = .ok (.invokestatic 62, 3) := by decide +kernel
theorem dX3_weigh_67 : decode cX3_weigh 67 = .ok (.lstore_n 3, 1) := by decide +kernel
theorem dX3_weigh_68 : decode cX3_weigh 68 = .ok (.aload_n 0, 1) := by decide +kernel
theorem dX3_weigh_69 : decode cX3_weigh 69 = .ok (.getfield 20, 3) := by decide +kernel
theorem dX3_weigh_72 : decode cX3_weigh 72 = .ok (.ifCond .eq 26, 3) := by decide +kernel
theorem dX3_weigh_75 : decode cX3_weigh 75 = .ok (.lload_n 3, 1) := by decide +kernel
theorem dX3_weigh_76 : decode cX3_weigh 76 = .ok (.aload_n 0, 1) := by decide +kernel
theorem dX3_weigh_77 : decode cX3_weigh 77 = .ok (.getfield 67, 3) := by decide +kernel
theorem dX3_weigh_80 : decode cX3_weigh 80 = .ok (.lmul, 1) := by decide +kernel
theorem dX3_weigh_81 : decode cX3_weigh 81 = .ok (.aload_n 0, 1) := by decide +kernel
theorem dX3_weigh_82 : decode cX3_weigh 82 = .ok (.getfield 70, 3) := by decide +kernel
theorem dX3_weigh_85 : decode cX3_weigh 85 = .ok (.aload_n 0, 1) := by decide +kernel
theorem dX3_weigh_86 : decode cX3_weigh 86 = .ok (.getfield 10, 3) := by decide +kernel
theorem dX3_weigh_89 : decode cX3_weigh 89 = .ok (.getfield 54, 3) := by decide +kernel
theorem dX3_weigh_92 : decode cX3_weigh 92 = .ok (.lmul, 1) := by decide +kernel
theorem dX3_weigh_93 : decode cX3_weigh 93 = .ok (.lcmp, 1) := by decide +kernel
theorem dX3_weigh_94 : decode cX3_weigh 94 = .ok (.ifCond .lt 4, 3) := by decide +kernel
theorem dX3_weigh_97 : decode cX3_weigh 97 = .ok (.return_, 1) := by decide +kernel
theorem dX3_weigh_98 : decode cX3_weigh 98 = .ok (.iinc 5 1, 3) := by decide +kernel
theorem dX3_weigh_101 : decode cX3_weigh 101 = .ok (.goto (-76), 3) := by decide +kernel
theorem dX3_weigh_104 : decode cX3_weigh 104 = .ok (.aload_n 0, 1) := by decide +kernel
theorem dX3_weigh_105 : decode cX3_weigh 105 = .ok (.iload_n 2, 1) := by decide +kernel
theorem dX3_weigh_106 : decode cX3_weigh 106 = .ok (.putfield 20, 3) := by decide +kernel
theorem dX3_weigh_109 : decode cX3_weigh 109 = .ok (.aload_n 0, 1) := by decide +kernel
theorem dX3_weigh_110 : decode cX3_weigh 110 = .ok (.lload_n 3, 1) := by decide +kernel
theorem dX3_weigh_111 : decode cX3_weigh 111 = .ok (.putfield 70, 3) := by decide +kernel
theorem dX3_weigh_114 : decode cX3_weigh 114 = .ok (.aload_n 0, 1) := by decide +kernel
theorem dX3_weigh_115 : decode cX3_weigh 115 = .ok (.aload_n 0, 1) := by decide +kernel
theorem dX3_weigh_116 : decode cX3_weigh 116 = .ok (.getfield 10, 3) := by decide +kernel
theorem dX3_weigh_119 : decode cX3_weigh 119 = .ok (.getfield 54, 3) := by decide +kernel
theorem dX3_weigh_122 : decode cX3_weigh 122 = .ok (.putfield 67, 3) := by decide +kernel
theorem dX3_weigh_125 : decode cX3_weigh 125 = .ok (.return_, 1) := by decide +kernel
theorem dX4_init_0 : decode cX4_init 0 = .ok (.aload_n 0, 1) := by decide +kernel
theorem dX4_init_1 : decode cX4_init 1 = .ok (.invokespecial 3, 3) := by decide +kernel
theorem dX4_init_4 : decode cX4_init 4 = .ok (.aload_n 0, 1) := by decide +kernel
theorem dX4_init_5 : decode cX4_init 5 = .ok (.iconst 4, 1) := by decide +kernel
theorem dX4_init_6 : decode cX4_init 6 = .ok (.bipush 6, 2) := by decide +kernel
theorem dX4_init_8 : decode cX4_init 8 = .ok (.multianewarray 9 2, 4) := by decide +kernel
theorem dX4_init_12 : decode cX4_init 12 = .ok (.putfield 11, 3) := by decide +kernel
theorem dX4_init_15 : decode cX4_init 15 = .ok (.aload_n 0, 1) := by decide +kernel
theorem dX4_init_16 : decode cX4_init 16 = .ok (.bipush 6, 2) := by decide +kernel
theorem dX4_init_18 : decode cX4_init 18 = .ok (.newarray .int, 2) := by decide +kernel
theorem dX4_init_20 : decode cX4_init 20 = .ok (.putfield 16, 3) := by decide +kernel
theorem dX4_init_23 : decode cX4_init 23 = .ok (.aload_n 0, 1) := by decide +kernel
theorem dX4_init_24 : decode cX4_init 24 = .ok (.bipush 6, 2) := by decide +kernel
theorem dX4_init_26 : decode cX4_init 26 = .ok (.newarray .int, 2) := by decide +kernel
theorem dX4_init_28 : decode cX4_init 28 = .ok (.putfield 20, 3) := by decide +kernel
theorem dX4_init_31 : decode cX4_init 31 = .ok (.aload_n 0, 1) := by decide +kernel
theorem dX4_init_32 : decode cX4_init 32 = .ok (.iconst 4, 1) := by decide +kernel
theorem dX4_init_33 : decode cX4_init 33 = .ok (.newarray .int, 2) := by decide +kernel
theorem dX4_init_35 : decode cX4_init 35 = .ok (.putfield 23, 3) := by decide +kernel
theorem dX4_init_38 : decode cX4_init 38 = .ok (.aload_n 0, 1) := by decide +kernel
theorem dX4_init_39 : decode cX4_init 39 = .ok (.bipush 100, 2) := by decide +kernel
theorem dX4_init_41 : decode cX4_init 41 = .ok (.putfield 26, 3) := by decide +kernel
theorem dX4_init_44 : decode cX4_init 44 = .ok (.aload_n 0, 1) := by decide +kernel
theorem dX4_init_45 : decode cX4_init 45 = .ok (.bipush 6, 2) := by decide +kernel
theorem dX4_init_47 : decode cX4_init 47 = .ok (.putfield 30, 3) := by decide +kernel
theorem dX4_init_50 : decode cX4_init 50 = .ok (.return_, 1) := by decide +kernel
theorem dX4_make_0 : decode cX4_make 0 = .ok (.aload_n 0, 1) := by decide +kernel
theorem dX4_make_1 : decode cX4_make 1 = .ok (.ldc 35, 2) := by decide +kernel
theorem dX4_make_3 : decode cX4_make 3 = .ok (.putfield 36, 3) := by decide +kernel
theorem dX4_make_6 : decode cX4_make 6 = .ok (.aload_n 0, 1) := by decide +kernel
theorem dX4_make_7 : decode cX4_make 7 = .ok (.iload_n 1, 1) := by decide +kernel
theorem dX4_make_8 : decode cX4_make 8 = .ok (.iconst 0, 1) := by decide +kernel
theorem dX4_make_9 : decode cX4_make 9 = .ok (.iconst 0, 1) := by decide +kernel
theorem dX4_make_10 : decode cX4_make 10 = .ok (.invokevirtual 39, 3) := by decide +kernel
theorem dX4_make_13 : decode cX4_make 13 = .ok (.aload_n 0, 1) := by decide +kernel
theorem dX4_make_14 : decode cX4_make 14 = .ok (.getfield 36, 3) := by decide +kernel
theorem dX4_make_17 : decode cX4_make 17 = .ok (.ldc 35, 2) := by decide +kernel
theorem dX4_make_19 : decode cX4_make 19 = .ok (.if_icmp .eq 7, 3) := by decide +kernel
theorem dX4_make_22 : decode cX4_make 22 = .ok (.iconst 1, 1) := by decide +kernel
theorem dX4_make_23 : decode cX4_make 23 = .ok (.goto 4, 3) := by decide +kernel
theorem dX4_make_26 : decode cX4_make 26 = .ok (.iconst 0, 1) := by decide +kernel
theorem dX4_make_27 : decode cX4_make 27 = .ok (.ireturn, 1) := by decide +kernel
theorem dX4_send_0 : decode cX4_send 0 = .ok (.iload_n 3, 1) := by decide +kernel
theorem dX4_send_1 : decode cX4_send 1 = .ok (.aload_n 0, 1) := by decide +kernel
theorem dX4_send_2 : decode cX4_send 2 = .ok (.getfield 36, 3) := by decide +kernel
theorem dX4_send_5 : decode cX4_send 5 = .ok (.if_icmp .lt 4, 3) := by decide +kernel
theorem dX4_send_8 : decode cX4_send 8 = .ok (.return_, 1) := by decide +kernel
theorem dX4_send_9 : decode cX4_send 9 = .ok (.iload_n 2, 1) := by decide +kernel
theorem dX4_send_10 : decode cX4_send 10 = .ok (.iload_n 1, 1) := by decide +kernel
theorem dX4_send_11 : decode cX4_send 11 = .ok (.if_icmp .lt 23, 3) := by decide +kernel
theorem dX4_send_14 : decode cX4_send 14 = .ok (.aload_n 0, 1) := by decide +kernel
theorem dX4_send_15 : decode cX4_send 15 = .ok (.iload_n 3, 1) := by decide +kernel
theorem dX4_send_16 : decode cX4_send 16 = .ok (.putfield 36, 3) := by decide +kernel
theorem dX4_send_19 : decode cX4_send 19 = .ok (.aload_n 0, 1) := by decide +kernel
theorem dX4_send_20 : decode cX4_send 20 = .ok (.getfield 16, 3) := by decide +kernel
theorem dX4_send_23 : decode cX4_send 23 = .ok (.iconst 0, 1) := by decide +kernel
theorem dX4_send_24 : decode cX4_send 24 = .ok (.aload_n 0, 1) := by decide +kernel
theorem dX4_send_25 : decode cX4_send 25 = .ok (.getfield 20, 3) := by decide +kernel
theorem dX4_send_28 : decode cX4_send 28 = .ok (.iconst 0, 1) := by decide +kernel
theorem dX4_send_29 : decode cX4_send 29 = .ok (.iload_n 1, 1) := by decide +kernel
theorem dX4_send_30 : decode cX4_send 30 = .ok (.invokestatic 43, 3) := by decide +kernel
theorem dX4_send_33 : decode cX4_send 33 = .ok (.return_, 1) := by decide +kernel
theorem dX4_send_34 : decode cX4_send 34 = .ok (.iconst 0, 1) := by decide +kernel
theorem dX4_send_35 : decode cX4_send 35 = .ok (.istore 4, 2) := by decide +kernel
theorem dX4_send_37 : decode cX4_send 37 = .ok (.iload 4, 2) := by decide +kernel
theorem dX4_send_39 : decode cX4_send 39 = .ok (.iconst 4, 1) := by decide +kernel
theorem dX4_send_40 : decode cX4_send 40 = .ok (.if_icmp .ge 83, 3) := by decide +kernel
theorem dX4_send_43 : decode cX4_send 43 = .ok (.aload_n 0, 1) := by decide +kernel
theorem dX4_send_44 : decode cX4_send 44 = .ok (.iload_n 2, 1) := by decide +kernel
theorem dX4_send_45 : decode cX4_send 45 = .ok (.iload 4, 2) := by decide +kernel
theorem dX4_send_47 : decode cX4_send 47 = .ok (.invokevirtual 49, 3) := by decide +kernel
theorem dX4_send_50 : decode cX4_send 50 = .ok (.istore 5, 2) := by decide +kernel
theorem dX4_send_52 : decode cX4_send 52 = .ok (.aload_n 0, 1) := by decide +kernel
theorem dX4_send_53 : decode cX4_send 53 = .ok (.getfield 23, 3) := by decide +kernel
theorem dX4_send_56 : decode cX4_send 56 = .ok (.iload 4, 2) := by decide +kernel
theorem dX4_send_58 : decode cX4_send 58 = .ok (.iaload, 1) := by decide +kernel
theorem dX4_send_59 : decode cX4_send 59 = .ok (.aload_n 0, 1) := by decide +kernel
theorem dX4_send_60 : decode cX4_send 60 = .ok (.getfield 30, 3) := by decide +kernel
theorem dX4_send_63 : decode cX4_send 63 = .ok (.if_icmp .ge 54, 3) := by decide +kernel
theorem dX4_send_66 : decode cX4_send 66 = .ok (.iload 5, 2) := by decide +kernel
theorem dX4_send_68 : decode cX4_send 68 = .ok (.aload_n 0, 1) := by decide +kernel
theorem dX4_send_69 : decode cX4_send 69 = .ok (.getfield 26, 3) := by decide +kernel
theorem dX4_send_72 : decode cX4_send 72 = .ok (.if_icmp .gt 45, 3) := by decide +kernel
theorem dX4_send_75 : decode cX4_send 75 = .ok (.aload_n 0, 1) := by decide +kernel
theorem dX4_send_76 : decode cX4_send 76 = .ok (.getfield 16, 3) := by decide +kernel
theorem dX4_send_79 : decode cX4_send 79 = .ok (.iload_n 2, 1) := by decide +kernel
theorem dX4_send_80 : decode cX4_send 80 = .ok (.iload 4, 2) := by decide +kernel
theorem dX4_send_82 : decode cX4_send 82 = .ok (.iastore, 1) := by decide +kernel
theorem dX4_send_83 : decode cX4_send 83 = .ok (.aload_n 0, 1) := by decide +kernel
theorem dX4_send_84 : decode cX4_send 84 = .ok (.getfield 23, 3) := by decide +kernel
theorem dX4_send_87 : decode cX4_send 87 = .ok (.iload 4, 2) := by decide +kernel
theorem dX4_send_89 : decode cX4_send 89 = .ok (.dup2, 1) := by decide +kernel
theorem dX4_send_90 : decode cX4_send 90 = .ok (.iaload, 1) := by decide +kernel
theorem dX4_send_91 : decode cX4_send 91 = .ok (.iconst 1, 1) := by decide +kernel
theorem dX4_send_92 : decode cX4_send 92 = .ok (.iadd, 1) := by decide +kernel
theorem dX4_send_93 : decode cX4_send 93 = .ok (.iastore, 1) := by decide +kernel
theorem dX4_send_94 : decode cX4_send 94 = .ok (.aload_n 0, 1) := by decide +kernel
theorem dX4_send_95 : decode cX4_send 95 = .ok (.iload_n 1, 1) := by decide +kernel
theorem dX4_send_96 : decode cX4_send 96 = .ok (.iload_n 2, 1) := by decide +kernel
theorem dX4_send_97 : decode cX4_send 97 = .ok (.iconst 1, 1) := by decide +kernel
theorem dX4_send_98 : decode cX4_send 98 = .ok (.iadd, 1) := by decide +kernel
theorem dX4_send_99 : decode cX4_send 99 = .ok (.iload_n 3, 1) := by decide +kernel
theorem dX4_send_100 : decode cX4_send 100 = .ok (.iload 5, 2) := by decide +kernel
theorem dX4_send_102 : decode cX4_send 102 = .ok (.iadd, 1) := by decide +kernel
theorem dX4_send_103 : decode cX4_send 103 = .ok (.invokevirtual 39, 3) := by decide +kernel
theorem dX4_send_106 : decode cX4_send 106 = .ok (.aload_n 0, 1) := by decide +kernel
theorem dX4_send_107 : decode cX4_send 107 = .ok (.getfield 23, 3) := by decide +kernel
theorem dX4_send_110 : decode cX4_send 110 = .ok (.iload 4, 2) := by decide +kernel
theorem dX4_send_112 : decode cX4_send 112 = .ok (.dup2, 1) := by decide +kernel
theorem dX4_send_113 : decode cX4_send 113 = .ok (.iaload, 1) := by decide +kernel
theorem dX4_send_114 : decode cX4_send 114 = .ok (.iconst 1, 1) := by decide +kernel
theorem dX4_send_115 : decode cX4_send 115 = .ok (.isub, 1) := by decide +kernel
theorem dX4_send_116 : decode cX4_send 116 = .ok (.iastore, 1) := by decide +kernel
theorem dX4_send_117 : decode cX4_send 117 = .ok (.iinc 4 1, 3) := by decide +kernel
theorem dX4_send_120 : decode cX4_send 120 = .ok (.goto (-83), 3) := by decide +kernel
theorem dX4_send_123 : decode cX4_send 123 = .ok (.return_, 1) := by decide +kernel
theorem dX4_stepTo_0 : decode cX4_stepTo 0 = .ok (.iload_n 1, 1) := by decide +kernel
theorem dX4_stepTo_1 : decode cX4_stepTo 1 = .ok (.ifCond .ne 5, 3) := by decide +kernel
theorem dX4_stepTo_4 : decode cX4_stepTo 4 = .ok (.iconst 0, 1) := by decide +kernel
theorem dX4_stepTo_5 : decode cX4_stepTo 5 = .ok (.ireturn, 1) := by decide +kernel
theorem dX4_stepTo_6 : decode cX4_stepTo 6 = .ok (.aload_n 0, 1) := by decide +kernel
theorem dX4_stepTo_7 : decode cX4_stepTo 7 = .ok (.getfield 16, 3) := by decide +kernel
theorem dX4_stepTo_10 : decode cX4_stepTo 10 = .ok (.iload_n 1, 1) := by decide +kernel
theorem dX4_stepTo_11 : decode cX4_stepTo 11 = .ok (.iconst 1, 1) := by decide +kernel
theorem dX4_stepTo_12 : decode cX4_stepTo 12 = .ok (.isub, 1) := by decide +kernel
theorem dX4_stepTo_13 : decode cX4_stepTo 13 = .ok (.iaload, 1) := by decide +kernel
theorem dX4_stepTo_14 : decode cX4_stepTo 14 = .ok (.istore_n 3, 1) := by decide +kernel
theorem dX4_stepTo_15 : decode cX4_stepTo 15 = .ok (.aload_n 0, 1) := by decide +kernel
theorem dX4_stepTo_16 : decode cX4_stepTo 16 = .ok (.getfield 11, 3) := by decide +kernel
theorem dX4_stepTo_19 : decode cX4_stepTo 19 = .ok (.iload_n 2, 1) := by decide +kernel
theorem dX4_stepTo_20 : decode cX4_stepTo 20 = .ok (.aaload, 1) := by decide +kernel
theorem dX4_stepTo_21 : decode cX4_stepTo 21 = .ok (.iload_n 1, 1) := by decide +kernel
theorem dX4_stepTo_22 : decode cX4_stepTo 22 = .ok (.iaload, 1) := by decide +kernel
theorem dX4_stepTo_23 : decode cX4_stepTo 23 = .ok (.aload_n 0, 1) := by decide +kernel
theorem dX4_stepTo_24 : decode cX4_stepTo 24 = .ok (.getfield 11, 3) := by decide +kernel
theorem dX4_stepTo_27 : decode cX4_stepTo 27 = .ok (.iload_n 3, 1) := by decide +kernel
theorem dX4_stepTo_28 : decode cX4_stepTo 28 = .ok (.aaload, 1) := by decide +kernel
theorem dX4_stepTo_29 : decode cX4_stepTo 29 = .ok (.iload_n 1, 1) := by decide +kernel
theorem dX4_stepTo_30 : decode cX4_stepTo 30 = .ok (.iconst 1, 1) := by decide +kernel
theorem dX4_stepTo_31 : decode cX4_stepTo 31 = .ok (.isub, 1) := by decide +kernel
theorem dX4_stepTo_32 : decode cX4_stepTo 32 = .ok (.iaload, 1) := by decide +kernel
theorem dX4_stepTo_33 : decode cX4_stepTo 33 = .ok (.isub, 1) := by decide +kernel
theorem dX4_stepTo_34 : decode cX4_stepTo 34 = .ok (.invokestatic 53, 3) := by decide +kernel
theorem dX4_stepTo_37 : decode cX4_stepTo 37 = .ok (.ireturn, 1) := by decide +kernel
theorem dX5_init_0 : decode cX5_init 0 = .ok (.aload_n 0, 1) := by decide +kernel
theorem dX5_init_1 : decode cX5_init 1 = .ok (.invokespecial 1, 3) := by decide +kernel
theorem dX5_init_4 : decode cX5_init 4 = .ok (.return_, 1) := by decide +kernel
theorem dX5_clear_0 : decode cX5_clear 0 = .ok (.aload_n 0, 1) := by decide +kernel
theorem dX5_clear_1 : decode cX5_clear 1 = .ok (.lconst 0, 1) := by decide +kernel
theorem dX5_clear_2 : decode cX5_clear 2 = .ok (.putfield 7, 3) := by decide +kernel
theorem dX5_clear_5 : decode cX5_clear 5 = .ok (.aload_n 0, 1) := by decide +kernel
theorem dX5_clear_6 : decode cX5_clear 6 = .ok (.lconst 0, 1) := by decide +kernel
theorem dX5_clear_7 : decode cX5_clear 7 = .ok (.putfield 13, 3) := by decide +kernel
theorem dX5_clear_10 : decode cX5_clear 10 = .ok (.aload_n 0, 1) := by decide +kernel
theorem dX5_clear_11 : decode cX5_clear 11 = .ok (.lconst 0, 1) := by decide +kernel
theorem dX5_clear_12 : decode cX5_clear 12 = .ok (.putfield 16, 3) := by decide +kernel
theorem dX5_clear_15 : decode cX5_clear 15 = .ok (.aload_n 0, 1) := by decide +kernel
theorem dX5_clear_16 : decode cX5_clear 16 = .ok (.lconst 0, 1) := by decide +kernel
theorem dX5_clear_17 : decode cX5_clear 17 = .ok (.putfield 19, 3) := by decide +kernel
theorem dX5_clear_20 : decode cX5_clear 20 = .ok (.aload_n 0, 1) := by decide +kernel
theorem dX5_clear_21 : decode cX5_clear 21 = .ok (.iload_n 1, 1) := by decide +kernel
theorem dX5_clear_22 : decode cX5_clear 22 = .ok (.ifCond .ne 7, 3) := by decide +kernel
theorem dX5_clear_25 : decode cX5_clear 25 = .ok (.lconst 1, 1) := by decide +kernel
theorem dX5_clear_26 : decode cX5_clear 26 = .ok (.goto 4, 3) := by decide +kernel
theorem dX5_clear_29 : decode cX5_clear 29 = .ok (.lconst 0, 1) := by decide +kernel
theorem dX5_clear_30 : decode cX5_clear 30 = .ok (.putfield 22, 3) := by decide +kernel
theorem dX5_clear_33 : decode cX5_clear 33 = .ok (.aload_n 0, 1) := by decide +kernel
theorem dX5_clear_34 : decode cX5_clear 34 = .ok (.aload_n 0, 1) := by decide +kernel
theorem dX5_clear_35 : decode cX5_clear 35 = .ok (.getfield 22, 3) := by decide +kernel
theorem dX5_clear_38 : decode cX5_clear 38 = .ok (.putfield 25, 3) := by decide +kernel
theorem dX5_clear_41 : decode cX5_clear 41 = .ok (.return_, 1) := by decide +kernel
theorem dX5_add_0 : decode cX5_add 0 = .ok (.aload_n 0, 1) := by decide +kernel
theorem dX5_add_1 : decode cX5_add 1 = .ok (.dup, 1) := by decide +kernel
theorem dX5_add_2 : decode cX5_add 2 = .ok (.getfield 7, 3) := by decide +kernel
theorem dX5_add_5 : decode cX5_add 5 = .ok (.iload 5, 2) := by decide +kernel
theorem dX5_add_7 : decode cX5_add 7 = .ok (.i2l, 1) := by decide +kernel
theorem dX5_add_8 : decode cX5_add 8 = .ok (.ladd, 1) := by decide +kernel
theorem dX5_add_9 : decode cX5_add 9 = .ok (.putfield 7, 3) := by decide +kernel
theorem dX5_add_12 : decode cX5_add 12 = .ok (.aload_n 0, 1) := by decide +kernel
theorem dX5_add_13 : decode cX5_add 13 = .ok (.dup, 1) := by decide +kernel
theorem dX5_add_14 : decode cX5_add 14 = .ok (.getfield 13, 3) := by decide +kernel
theorem dX5_add_17 : decode cX5_add 17 = .ok (.iload 5, 2) := by decide +kernel
theorem dX5_add_19 : decode cX5_add 19 = .ok (.i2l, 1) := by decide +kernel
theorem dX5_add_20 : decode cX5_add 20 = .ok (.lload_n 1, 1) := by decide +kernel
theorem dX5_add_21 : decode cX5_add 21 = .ok (.lmul, 1) := by decide +kernel
theorem dX5_add_22 : decode cX5_add 22 = .ok (.ladd, 1) := by decide +kernel
theorem dX5_add_23 : decode cX5_add 23 = .ok (.putfield 13, 3) := by decide +kernel
theorem dX5_add_26 : decode cX5_add 26 = .ok (.aload_n 0, 1) := by decide +kernel
theorem dX5_add_27 : decode cX5_add 27 = .ok (.dup, 1) := by decide +kernel
theorem dX5_add_28 : decode cX5_add 28 = .ok (.getfield 16, 3) := by decide +kernel
theorem dX5_add_31 : decode cX5_add 31 = .ok (.iload 5, 2) := by decide +kernel
theorem dX5_add_33 : decode cX5_add 33 = .ok (.i2l, 1) := by decide +kernel
theorem dX5_add_34 : decode cX5_add 34 = .ok (.lload_n 3, 1) := by decide +kernel
theorem dX5_add_35 : decode cX5_add 35 = .ok (.lmul, 1) := by decide +kernel
theorem dX5_add_36 : decode cX5_add 36 = .ok (.ladd, 1) := by decide +kernel
theorem dX5_add_37 : decode cX5_add 37 = .ok (.putfield 16, 3) := by decide +kernel
theorem dX5_add_40 : decode cX5_add 40 = .ok (.aload_n 0, 1) := by decide +kernel
theorem dX5_add_41 : decode cX5_add 41 = .ok (.dup, 1) := by decide +kernel
theorem dX5_add_42 : decode cX5_add 42 = .ok (.getfield 22, 3) := by decide +kernel
theorem dX5_add_45 : decode cX5_add 45 = .ok (.iload 5, 2) := by decide +kernel
theorem dX5_add_47 : decode cX5_add 47 = .ok (.i2l, 1) := by decide +kernel
theorem dX5_add_48 : decode cX5_add 48 = .ok (.lload_n 1, 1) := by decide +kernel
theorem dX5_add_49 : decode cX5_add 49 = .ok (.lmul, 1) := by decide +kernel
theorem dX5_add_50 : decode cX5_add 50 = .ok (.lload_n 1, 1) := by decide +kernel
theorem dX5_add_51 : decode cX5_add 51 = .ok (.lmul, 1) := by decide +kernel
theorem dX5_add_52 : decode cX5_add 52 = .ok (.ladd, 1) := by decide +kernel
theorem dX5_add_53 : decode cX5_add 53 = .ok (.putfield 22, 3) := by decide +kernel
theorem dX5_add_56 : decode cX5_add 56 = .ok (.aload_n 0, 1) := by decide +kernel
theorem dX5_add_57 : decode cX5_add 57 = .ok (.dup, 1) := by decide +kernel
theorem dX5_add_58 : decode cX5_add 58 = .ok (.getfield 19, 3) := by decide +kernel
theorem dX5_add_61 : decode cX5_add 61 = .ok (.iload 5, 2) := by decide +kernel
theorem dX5_add_63 : decode cX5_add 63 = .ok (.i2l, 1) := by decide +kernel
theorem dX5_add_64 : decode cX5_add 64 = .ok (.lload_n 1, 1) := by decide +kernel
theorem dX5_add_65 : decode cX5_add 65 = .ok (.lmul, 1) := by decide +kernel
theorem dX5_add_66 : decode cX5_add 66 = .ok (.lload_n 3, 1) := by decide +kernel
theorem dX5_add_67 : decode cX5_add 67 = .ok (.lmul, 1) := by decide +kernel
theorem dX5_add_68 : decode cX5_add 68 = .ok (.ladd, 1) := by decide +kernel
theorem dX5_add_69 : decode cX5_add 69 = .ok (.putfield 19, 3) := by decide +kernel
theorem dX5_add_72 : decode cX5_add 72 = .ok (.aload_n 0, 1) := by decide +kernel
theorem dX5_add_73 : decode cX5_add 73 = .ok (.dup, 1) := by decide +kernel
theorem dX5_add_74 : decode cX5_add 74 = .ok (.getfield 25, 3) := by decide +kernel
theorem dX5_add_77 : decode cX5_add 77 = .ok (.iload 5, 2) := by decide +kernel
theorem dX5_add_79 : decode cX5_add 79 = .ok (.i2l, 1) := by decide +kernel
theorem dX5_add_80 : decode cX5_add 80 = .ok (.lload_n 3, 1) := by decide +kernel
theorem dX5_add_81 : decode cX5_add 81 = .ok (.lmul, 1) := by decide +kernel
theorem dX5_add_82 : decode cX5_add 82 = .ok (.lload_n 3, 1) := by decide +kernel
theorem dX5_add_83 : decode cX5_add 83 = .ok (.lmul, 1) := by decide +kernel
theorem dX5_add_84 : decode cX5_add 84 = .ok (.ladd, 1) := by decide +kernel
theorem dX5_add_85 : decode cX5_add 85 = .ok (.putfield 25, 3) := by decide +kernel
theorem dX5_add_88 : decode cX5_add 88 = .ok (.return_, 1) := by decide +kernel
theorem dX5_turnBack_0 : decode cX5_turnBack 0 = .ok (.aload_n 0, 1) := by decide +kernel
theorem dX5_turnBack_1 : decode cX5_turnBack 1 = .ok (.aload_n 0, 1) := by decide +kernel
theorem dX5_turnBack_2 : decode cX5_turnBack 2 = .ok (.getfield 22, 3) := by decide +kernel
theorem dX5_turnBack_5 : decode cX5_turnBack 5 = .ok (.aload_n 0, 1) := by decide +kernel
theorem dX5_turnBack_6 : decode cX5_turnBack 6 = .ok (.getfield 25, 3) := by decide +kernel
theorem dX5_turnBack_9 : decode cX5_turnBack 9 = .ok (.lmul, 1) := by decide +kernel
theorem dX5_turnBack_10 : decode cX5_turnBack 10 = .ok (.aload_n 0, 1) := by decide +kernel
theorem dX5_turnBack_11 : decode cX5_turnBack 11 = .ok (.getfield 19, 3) := by decide +kernel
theorem dX5_turnBack_14 : decode cX5_turnBack 14 = .ok (.aload_n 0, 1) := by decide +kernel
theorem dX5_turnBack_15 : decode cX5_turnBack 15 = .ok (.getfield 19, 3) := by decide +kernel
theorem dX5_turnBack_18 : decode cX5_turnBack 18 = .ok (.lmul, 1) := by decide +kernel
theorem dX5_turnBack_19 : decode cX5_turnBack 19 = .ok (.lsub, 1) := by decide +kernel
theorem dX5_turnBack_20 : decode cX5_turnBack 20 = .ok (.putfield 28, 3) := by decide +kernel
theorem dX5_turnBack_23 : decode cX5_turnBack 23 = .ok (.aload_n 0, 1) := by decide +kernel
theorem dX5_turnBack_24 : decode cX5_turnBack 24 = .ok (.aload_n 0, 1) := by decide +kernel
theorem dX5_turnBack_25 : decode cX5_turnBack 25 = .ok (.getfield 16, 3) := by decide +kernel
theorem dX5_turnBack_28 : decode cX5_turnBack 28 = .ok (.aload_n 0, 1) := by decide +kernel
theorem dX5_turnBack_29 : decode cX5_turnBack 29 = .ok (.getfield 19, 3) := by decide +kernel
theorem dX5_turnBack_32 : decode cX5_turnBack 32 = .ok (.lmul, 1) := by decide +kernel
theorem dX5_turnBack_33 : decode cX5_turnBack 33 = .ok (.aload_n 0, 1) := by decide +kernel
theorem dX5_turnBack_34 : decode cX5_turnBack 34 = .ok (.getfield 13, 3) := by decide +kernel
theorem dX5_turnBack_37 : decode cX5_turnBack 37 = .ok (.aload_n 0, 1) := by decide +kernel
theorem dX5_turnBack_38 : decode cX5_turnBack 38 = .ok (.getfield 25, 3) := by decide +kernel
theorem dX5_turnBack_41 : decode cX5_turnBack 41 = .ok (.lmul, 1) := by decide +kernel
theorem dX5_turnBack_42 : decode cX5_turnBack 42 = .ok (.lsub, 1) := by decide +kernel
theorem dX5_turnBack_43 : decode cX5_turnBack 43 = .ok (.putfield 31, 3) := by decide +kernel
theorem dX5_turnBack_46 : decode cX5_turnBack 46 = .ok (.aload_n 0, 1) := by decide +kernel
theorem dX5_turnBack_47 : decode cX5_turnBack 47 = .ok (.aload_n 0, 1) := by decide +kernel
theorem dX5_turnBack_48 : decode cX5_turnBack 48 = .ok (.getfield 13, 3) := by decide +kernel
theorem dX5_turnBack_51 : decode cX5_turnBack 51 = .ok (.aload_n 0, 1) := by decide +kernel
theorem dX5_turnBack_52 : decode cX5_turnBack 52 = .ok (.getfield 19, 3) := by decide +kernel
theorem dX5_turnBack_55 : decode cX5_turnBack 55 = .ok (.lmul, 1) := by decide +kernel
theorem dX5_turnBack_56 : decode cX5_turnBack 56 = .ok (.aload_n 0, 1) := by decide +kernel
theorem dX5_turnBack_57 : decode cX5_turnBack 57 = .ok (.getfield 16, 3) := by decide +kernel
theorem dX5_turnBack_60 : decode cX5_turnBack 60 = .ok (.aload_n 0, 1) := by decide +kernel
theorem dX5_turnBack_61 : decode cX5_turnBack 61 = .ok (.getfield 22, 3) := by decide +kernel
theorem dX5_turnBack_64 : decode cX5_turnBack 64 = .ok (.lmul, 1) := by decide +kernel
theorem dX5_turnBack_65 : decode cX5_turnBack 65 = .ok (.lsub, 1) := by decide +kernel
theorem dX5_turnBack_66 : decode cX5_turnBack 66 = .ok (.putfield 34, 3) := by decide +kernel
theorem dX5_turnBack_69 : decode cX5_turnBack 69 = .ok (.aload_n 0, 1) := by decide +kernel
end
section
theorem dX5_turnBack_70 : decode cX5_turnBack 70 = .ok (.aload_n 0, 1) := by decide +kernel
theorem dX5_turnBack_71 : decode cX5_turnBack 71 = .ok (.getfield 7, 3) := by decide +kernel
theorem dX5_turnBack_74 : decode cX5_turnBack 74 = .ok (.aload_n 0, 1) := by decide +kernel
theorem dX5_turnBack_75 : decode cX5_turnBack 75 = .ok (.getfield 25, 3) := by decide +kernel
theorem dX5_turnBack_78 : decode cX5_turnBack 78 = .ok (.lmul, 1) := by decide +kernel
theorem dX5_turnBack_79 : decode cX5_turnBack 79 = .ok (.aload_n 0, 1) := by decide +kernel
theorem dX5_turnBack_80 : decode cX5_turnBack 80 = .ok (.getfield 16, 3) := by decide +kernel
theorem dX5_turnBack_83 : decode cX5_turnBack 83 = .ok (.aload_n 0, 1) := by decide +kernel
theorem dX5_turnBack_84 : decode cX5_turnBack 84 = .ok (.getfield 16, 3) := by decide +kernel
theorem dX5_turnBack_87 : decode cX5_turnBack 87 = .ok (.lmul, 1) := by decide +kernel
theorem dX5_turnBack_88 : decode cX5_turnBack 88 = .ok (.lsub, 1) := by decide +kernel
theorem dX5_turnBack_89 : decode cX5_turnBack 89 = .ok (.putfield 37, 3) := by decide +kernel
theorem dX5_turnBack_92 : decode cX5_turnBack 92 = .ok (.aload_n 0, 1) := by decide +kernel
theorem dX5_turnBack_93 : decode cX5_turnBack 93 = .ok (.aload_n 0, 1) := by decide +kernel
theorem dX5_turnBack_94 : decode cX5_turnBack 94 = .ok (.getfield 13, 3) := by decide +kernel
theorem dX5_turnBack_97 : decode cX5_turnBack 97 = .ok (.aload_n 0, 1) := by decide +kernel
theorem dX5_turnBack_98 : decode cX5_turnBack 98 = .ok (.getfield 16, 3) := by decide +kernel
theorem dX5_turnBack_101 : decode cX5_turnBack 101 = .ok (.lmul, 1) := by decide +kernel
theorem dX5_turnBack_102 : decode cX5_turnBack 102 = .ok (.aload_n 0, 1) := by decide +kernel
theorem dX5_turnBack_103 : decode cX5_turnBack 103 = .ok (.getfield 7, 3) := by decide +kernel
theorem dX5_turnBack_106 : decode cX5_turnBack 106 = .ok (.aload_n 0, 1) := by decide +kernel
theorem dX5_turnBack_107 : decode cX5_turnBack 107 = .ok (.getfield 19, 3) := by decide +kernel
theorem dX5_turnBack_110 : decode cX5_turnBack 110 = .ok (.lmul, 1) := by decide +kernel
theorem dX5_turnBack_111 : decode cX5_turnBack 111 = .ok (.lsub, 1) := by decide +kernel
theorem dX5_turnBack_112 : decode cX5_turnBack 112 = .ok (.putfield 40, 3) := by decide +kernel
theorem dX5_turnBack_115 : decode cX5_turnBack 115 = .ok (.aload_n 0, 1) := by decide +kernel
theorem dX5_turnBack_116 : decode cX5_turnBack 116 = .ok (.aload_n 0, 1) := by decide +kernel
theorem dX5_turnBack_117 : decode cX5_turnBack 117 = .ok (.getfield 7, 3) := by decide +kernel
theorem dX5_turnBack_120 : decode cX5_turnBack 120 = .ok (.aload_n 0, 1) := by decide +kernel
theorem dX5_turnBack_121 : decode cX5_turnBack 121 = .ok (.getfield 22, 3) := by decide +kernel
theorem dX5_turnBack_124 : decode cX5_turnBack 124 = .ok (.lmul, 1) := by decide +kernel
theorem dX5_turnBack_125 : decode cX5_turnBack 125 = .ok (.aload_n 0, 1) := by decide +kernel
theorem dX5_turnBack_126 : decode cX5_turnBack 126 = .ok (.getfield 13, 3) := by decide +kernel
theorem dX5_turnBack_129 : decode cX5_turnBack 129 = .ok (.aload_n 0, 1) := by decide +kernel
theorem dX5_turnBack_130 : decode cX5_turnBack 130 = .ok (.getfield 13, 3) := by decide +kernel
theorem dX5_turnBack_133 : decode cX5_turnBack 133 = .ok (.lmul, 1) := by decide +kernel
theorem dX5_turnBack_134 : decode cX5_turnBack 134 = .ok (.lsub, 1) := by decide +kernel
theorem dX5_turnBack_135 : decode cX5_turnBack 135 = .ok (.putfield 43, 3) := by decide +kernel
theorem dX5_turnBack_138 : decode cX5_turnBack 138 = .ok (.aload_n 0, 1) := by decide +kernel
theorem dX5_turnBack_139 : decode cX5_turnBack 139 = .ok (.aload_n 0, 1) := by decide +kernel
theorem dX5_turnBack_140 : decode cX5_turnBack 140 = .ok (.getfield 7, 3) := by decide +kernel
theorem dX5_turnBack_143 : decode cX5_turnBack 143 = .ok (.aload_n 0, 1) := by decide +kernel
theorem dX5_turnBack_144 : decode cX5_turnBack 144 = .ok (.getfield 28, 3) := by decide +kernel
theorem dX5_turnBack_147 : decode cX5_turnBack 147 = .ok (.lmul, 1) := by decide +kernel
theorem dX5_turnBack_148 : decode cX5_turnBack 148 = .ok (.aload_n 0, 1) := by decide +kernel
theorem dX5_turnBack_149 : decode cX5_turnBack 149 = .ok (.getfield 13, 3) := by decide +kernel
theorem dX5_turnBack_152 : decode cX5_turnBack 152 = .ok (.aload_n 0, 1) := by decide +kernel
theorem dX5_turnBack_153 : decode cX5_turnBack 153 = .ok (.getfield 31, 3) := by decide +kernel
theorem dX5_turnBack_156 : decode cX5_turnBack 156 = .ok (.lmul, 1) := by decide +kernel
theorem dX5_turnBack_157 : decode cX5_turnBack 157 = .ok (.ladd, 1) := by decide +kernel
theorem dX5_turnBack_158 : decode cX5_turnBack 158 = .ok (.aload_n 0, 1) := by decide +kernel
theorem dX5_turnBack_159 : decode cX5_turnBack 159 = .ok (.getfield 16, 3) := by decide +kernel
theorem dX5_turnBack_162 : decode cX5_turnBack 162 = .ok (.aload_n 0, 1) := by decide +kernel
theorem dX5_turnBack_163 : decode cX5_turnBack 163 = .ok (.getfield 34, 3) := by decide +kernel
theorem dX5_turnBack_166 : decode cX5_turnBack 166 = .ok (.lmul, 1) := by decide +kernel
theorem dX5_turnBack_167 : decode cX5_turnBack 167 = .ok (.ladd, 1) := by decide +kernel
theorem dX5_turnBack_168 : decode cX5_turnBack 168 = .ok (.putfield 46, 3) := by decide +kernel
theorem dX5_turnBack_171 : decode cX5_turnBack 171 = .ok (.return_, 1) := by decide +kernel
theorem dX5_formOf_0 : decode cX5_formOf 0 = .ok (.aload_n 0, 1) := by decide +kernel
theorem dX5_formOf_1 : decode cX5_formOf 1 = .ok (.getfield 28, 3) := by decide +kernel
theorem dX5_formOf_4 : decode cX5_formOf 4 = .ok (.lload_n 1, 1) := by decide +kernel
theorem dX5_formOf_5 : decode cX5_formOf 5 = .ok (.lload_n 1, 1) := by decide +kernel
theorem dX5_formOf_6 : decode cX5_formOf 6 = .ok (.lmul, 1) := by decide +kernel
theorem dX5_formOf_7 : decode cX5_formOf 7 = .ok (.aload_n 0, 1) := by decide +kernel
theorem dX5_formOf_8 : decode cX5_formOf 8 = .ok (.getfield 37, 3) := by decide +kernel
theorem dX5_formOf_11 : decode cX5_formOf 11 = .ok (.lmul, 1) := by decide +kernel
theorem dX5_formOf_12 : decode cX5_formOf 12 = .ok (.ladd, 1) := by decide +kernel
theorem dX5_formOf_13 : decode cX5_formOf 13 = .ok (.lload_n 3, 1) := by decide +kernel
theorem dX5_formOf_14 : decode cX5_formOf 14 = .ok (.lload_n 3, 1) := by decide +kernel
theorem dX5_formOf_15 : decode cX5_formOf 15 = .ok (.lmul, 1) := by decide +kernel
theorem dX5_formOf_16 : decode cX5_formOf 16 = .ok (.aload_n 0, 1) := by decide +kernel
theorem dX5_formOf_17 : decode cX5_formOf 17 = .ok (.getfield 43, 3) := by decide +kernel
theorem dX5_formOf_20 : decode cX5_formOf 20 = .ok (.lmul, 1) := by decide +kernel
theorem dX5_formOf_21 : decode cX5_formOf 21 = .ok (.ladd, 1) := by decide +kernel
theorem dX5_formOf_22 : decode cX5_formOf 22 = .ok (.ldc2_w 49, 3) := by decide +kernel
theorem dX5_formOf_25 : decode cX5_formOf 25 = .ok (.lload_n 1, 1) := by decide +kernel
theorem dX5_formOf_26 : decode cX5_formOf 26 = .ok (.aload_n 0, 1) := by decide +kernel
theorem dX5_formOf_27 : decode cX5_formOf 27 = .ok (.getfield 31, 3) := by decide +kernel
theorem dX5_formOf_30 : decode cX5_formOf 30 = .ok (.lmul, 1) := by decide +kernel
theorem dX5_formOf_31 : decode cX5_formOf 31 = .ok (.lload_n 3, 1) := by decide +kernel
theorem dX5_formOf_32 : decode cX5_formOf 32 = .ok (.aload_n 0, 1) := by decide +kernel
theorem dX5_formOf_33 : decode cX5_formOf 33 = .ok (.getfield 34, 3) := by decide +kernel
theorem dX5_formOf_36 : decode cX5_formOf 36 = .ok (.lmul, 1) := by decide +kernel
theorem dX5_formOf_37 : decode cX5_formOf 37 = .ok (.ladd, 1) := by decide +kernel
theorem dX5_formOf_38 : decode cX5_formOf 38 = .ok (.lload_n 1, 1) := by decide +kernel
theorem dX5_formOf_39 : decode cX5_formOf 39 = .ok (.lload_n 3, 1) := by decide +kernel
theorem dX5_formOf_40 : decode cX5_formOf 40 = .ok (.lmul, 1) := by decide +kernel
theorem dX5_formOf_41 : decode cX5_formOf 41 = .ok (.aload_n 0, 1) := by decide +kernel
theorem dX5_formOf_42 : decode cX5_formOf 42 = .ok (.getfield 40, 3) := by decide +kernel
theorem dX5_formOf_45 : decode cX5_formOf 45 = .ok (.lmul, 1) := by decide +kernel
theorem dX5_formOf_46 : decode cX5_formOf 46 = .ok (.ladd, 1) := by decide +kernel
theorem dX5_formOf_47 : decode cX5_formOf 47 = .ok (.lmul, 1) := by decide +kernel
theorem dX5_formOf_48 : decode cX5_formOf 48 = .ok (.ladd, 1) := by decide +kernel
theorem dX5_formOf_49 : decode cX5_formOf 49 = .ok (.lreturn, 1) := by decide +kernel
theorem dX6_init_0 : decode cX6_init 0 = .ok (.aload_n 0, 1) := by decide +kernel
theorem dX6_init_1 : decode cX6_init 1 = .ok (.invokespecial 1, 3) := by decide +kernel
theorem dX6_init_4 : decode cX6_init 4 = .ok (.aload_n 0, 1) := by decide +kernel
theorem dX6_init_5 : decode cX6_init 5 = .ok (.new 7, 3) := by decide +kernel
theorem dX6_init_8 : decode cX6_init 8 = .ok (.dup, 1) := by decide +kernel
theorem dX6_init_9 : decode cX6_init 9 = .ok (.invokespecial 9, 3) := by decide +kernel
theorem dX6_init_12 : decode cX6_init 12 = .ok (.putfield 10, 3) := by decide +kernel
theorem dX6_init_15 : decode cX6_init 15 = .ok (.aload_n 0, 1) := by decide +kernel
theorem dX6_init_16 : decode cX6_init 16 = .ok (.new 16, 3) := by decide +kernel
theorem dX6_init_19 : decode cX6_init 19 = .ok (.dup, 1) := by decide +kernel
theorem dX6_init_20 : decode cX6_init 20 = .ok (.invokespecial 18, 3) := by decide +kernel
theorem dX6_init_23 : decode cX6_init 23 = .ok (.putfield 19, 3) := by decide +kernel
theorem dX6_init_26 : decode cX6_init 26 = .ok (.aload_n 0, 1) := by decide +kernel
theorem dX6_init_27 : decode cX6_init 27 = .ok (.new 23, 3) := by decide +kernel
theorem dX6_init_30 : decode cX6_init 30 = .ok (.dup, 1) := by decide +kernel
theorem dX6_init_31 : decode cX6_init 31 = .ok (.invokespecial 25, 3) := by decide +kernel
theorem dX6_init_34 : decode cX6_init 34 = .ok (.putfield 26, 3) := by decide +kernel
theorem dX6_init_37 : decode cX6_init 37 = .ok (.aload_n 0, 1) := by decide +kernel
theorem dX6_init_38 : decode cX6_init 38 = .ok (.new 30, 3) := by decide +kernel
theorem dX6_init_41 : decode cX6_init 41 = .ok (.dup, 1) := by decide +kernel
theorem dX6_init_42 : decode cX6_init 42 = .ok (.invokespecial 32, 3) := by decide +kernel
theorem dX6_init_45 : decode cX6_init 45 = .ok (.putfield 33, 3) := by decide +kernel
theorem dX6_init_48 : decode cX6_init 48 = .ok (.aload_n 0, 1) := by decide +kernel
theorem dX6_init_49 : decode cX6_init 49 = .ok (.new 37, 3) := by decide +kernel
theorem dX6_init_52 : decode cX6_init 52 = .ok (.dup, 1) := by decide +kernel
theorem dX6_init_53 : decode cX6_init 53 = .ok (.invokespecial 39, 3) := by decide +kernel
theorem dX6_init_56 : decode cX6_init 56 = .ok (.putfield 40, 3) := by decide +kernel
theorem dX6_init_59 : decode cX6_init 59 = .ok (.return_, 1) := by decide +kernel
theorem dX6_mark_0 : decode cX6_mark 0 = .ok (.iload_n 1, 1) := by decide +kernel
theorem dX6_mark_1 : decode cX6_mark 1 = .ok (.bipush (-5), 2) := by decide +kernel
theorem dX6_mark_3 : decode cX6_mark 3 = .ok (.iconst 5, 1) := by decide +kernel
theorem dX6_mark_4 : decode cX6_mark 4 = .ok (.invokestatic 44, 3) := by decide +kernel
theorem dX6_mark_7 : decode cX6_mark 7 = .ok (.ifCond .ne 34, 3) := by decide +kernel
theorem dX6_mark_10 : decode cX6_mark 10 = .ok (.iload_n 2, 1) := by decide +kernel
theorem dX6_mark_11 : decode cX6_mark 11 = .ok (.bipush (-5), 2) := by decide +kernel
theorem dX6_mark_13 : decode cX6_mark 13 = .ok (.iconst 5, 1) := by decide +kernel
theorem dX6_mark_14 : decode cX6_mark 14 = .ok (.invokestatic 44, 3) := by decide +kernel
theorem dX6_mark_17 : decode cX6_mark 17 = .ok (.ifCond .ne 24, 3) := by decide +kernel
theorem dX6_mark_20 : decode cX6_mark 20 = .ok (.iload_n 3, 1) := by decide +kernel
theorem dX6_mark_21 : decode cX6_mark 21 = .ok (.bipush (-3), 2) := by decide +kernel
theorem dX6_mark_23 : decode cX6_mark 23 = .ok (.iconst 3, 1) := by decide +kernel
theorem dX6_mark_24 : decode cX6_mark 24 = .ok (.invokestatic 44, 3) := by decide +kernel
theorem dX6_mark_27 : decode cX6_mark 27 = .ok (.ifCond .ne 14, 3) := by decide +kernel
theorem dX6_mark_30 : decode cX6_mark 30 = .ok (.iload 4, 2) := by decide +kernel
theorem dX6_mark_32 : decode cX6_mark 32 = .ok (.bipush (-3), 2) := by decide +kernel
theorem dX6_mark_34 : decode cX6_mark 34 = .ok (.iconst 3, 1) := by decide +kernel
theorem dX6_mark_35 : decode cX6_mark 35 = .ok (.invokestatic 44, 3) := by decide +kernel
theorem dX6_mark_38 : decode cX6_mark 38 = .ok (.ifCond .eq 6, 3) := by decide +kernel
theorem dX6_mark_41 : decode cX6_mark 41 = .ok (.ldc 48, 2) := by decide +kernel
theorem dX6_mark_43 : decode cX6_mark 43 = .ok (.ireturn, 1) := by decide +kernel
theorem dX6_mark_44 : decode cX6_mark 44 = .ok (.aload_n 0, 1) := by decide +kernel
theorem dX6_mark_45 : decode cX6_mark 45 = .ok (.getfield 10, 3) := by decide +kernel
theorem dX6_mark_48 : decode cX6_mark 48 = .ok (.getfield 49, 3) := by decide +kernel
theorem dX6_mark_51 : decode cX6_mark 51 = .ok (.bipush 12, 2) := by decide +kernel
theorem dX6_mark_53 : decode cX6_mark 53 = .ok (.if_icmp .lt 6, 3) := by decide +kernel
theorem dX6_mark_56 : decode cX6_mark 56 = .ok (.ldc 53, 2) := by decide +kernel
theorem dX6_mark_58 : decode cX6_mark 58 = .ok (.ireturn, 1) := by decide +kernel
theorem dX6_mark_59 : decode cX6_mark 59 = .ok (.aload_n 0, 1) := by decide +kernel
theorem dX6_mark_60 : decode cX6_mark 60 = .ok (.getfield 10, 3) := by decide +kernel
theorem dX6_mark_63 : decode cX6_mark 63 = .ok (.iload_n 1, 1) := by decide +kernel
theorem dX6_mark_64 : decode cX6_mark 64 = .ok (.iload_n 2, 1) := by decide +kernel
theorem dX6_mark_65 : decode cX6_mark 65 = .ok (.iload_n 3, 1) := by decide +kernel
theorem dX6_mark_66 : decode cX6_mark 66 = .ok (.iload 4, 2) := by decide +kernel
theorem dX6_mark_68 : decode cX6_mark 68 = .ok (.invokevirtual 54, 3) := by decide +kernel
theorem dX6_mark_71 : decode cX6_mark 71 = .ok (.ireturn, 1) := by decide +kernel
theorem dX6_read_0 : decode cX6_read 0 = .ok (.aload_n 0, 1) := by decide +kernel
theorem dX6_read_1 : decode cX6_read 1 = .ok (.getfield 10, 3) := by decide +kernel
theorem dX6_read_4 : decode cX6_read 4 = .ok (.iload_n 1, 1) := by decide +kernel
theorem dX6_read_5 : decode cX6_read 5 = .ok (.invokevirtual 58, 3) := by decide +kernel
theorem dX6_read_8 : decode cX6_read 8 = .ok (.ifCond .ne 6, 3) := by decide +kernel
theorem dX6_read_11 : decode cX6_read 11 = .ok (.ldc 62, 2) := by decide +kernel
theorem dX6_read_13 : decode cX6_read 13 = .ok (.ireturn, 1) := by decide +kernel
theorem dX6_read_14 : decode cX6_read 14 = .ok (.iload_n 2, 1) := by decide +kernel
theorem dX6_read_15 : decode cX6_read 15 = .ok (.sipush (-999), 3) := by decide +kernel
theorem dX6_read_18 : decode cX6_read 18 = .ok (.sipush 999, 3) := by decide +kernel
theorem dX6_read_21 : decode cX6_read 21 = .ok (.invokestatic 44, 3) := by decide +kernel
theorem dX6_read_24 : decode cX6_read 24 = .ok (.ifCond .ne 16, 3) := by decide +kernel
theorem dX6_read_27 : decode cX6_read 27 = .ok (.iload_n 3, 1) := by decide +kernel
theorem dX6_read_28 : decode cX6_read 28 = .ok (.sipush (-999), 3) := by decide +kernel
theorem dX6_read_31 : decode cX6_read 31 = .ok (.sipush 999, 3) := by decide +kernel
theorem dX6_read_34 : decode cX6_read 34 = .ok (.invokestatic 44, 3) := by decide +kernel
theorem dX6_read_37 : decode cX6_read 37 = .ok (.ifCond .eq 6, 3) := by decide +kernel
theorem dX6_read_40 : decode cX6_read 40 = .ok (.ldc 48, 2) := by decide +kernel
theorem dX6_read_42 : decode cX6_read 42 = .ok (.ireturn, 1) := by decide +kernel
theorem dX6_read_43 : decode cX6_read 43 = .ok (.aload_n 0, 1) := by decide +kernel
theorem dX6_read_44 : decode cX6_read 44 = .ok (.getfield 10, 3) := by decide +kernel
theorem dX6_read_47 : decode cX6_read 47 = .ok (.iload_n 1, 1) := by decide +kernel
theorem dX6_read_48 : decode cX6_read 48 = .ok (.iload_n 2, 1) := by decide +kernel
theorem dX6_read_49 : decode cX6_read 49 = .ok (.iload_n 3, 1) := by decide +kernel
theorem dX6_read_50 : decode cX6_read 50 = .ok (.invokevirtual 63, 3) := by decide +kernel
theorem dX6_read_53 : decode cX6_read 53 = .ok (.iconst 1, 1) := by decide +kernel
theorem dX6_read_54 : decode cX6_read 54 = .ok (.ireturn, 1) := by decide +kernel
theorem dX6_lose_0 : decode cX6_lose 0 = .ok (.aload_n 0, 1) := by decide +kernel
theorem dX6_lose_1 : decode cX6_lose 1 = .ok (.getfield 10, 3) := by decide +kernel
theorem dX6_lose_4 : decode cX6_lose 4 = .ok (.iload_n 1, 1) := by decide +kernel
theorem dX6_lose_5 : decode cX6_lose 5 = .ok (.invokevirtual 58, 3) := by decide +kernel
theorem dX6_lose_8 : decode cX6_lose 8 = .ok (.ifCond .ne 6, 3) := by decide +kernel
theorem dX6_lose_11 : decode cX6_lose 11 = .ok (.ldc 62, 2) := by decide +kernel
theorem dX6_lose_13 : decode cX6_lose 13 = .ok (.ireturn, 1) := by decide +kernel
theorem dX6_lose_14 : decode cX6_lose 14 = .ok (.aload_n 0, 1) := by decide +kernel
theorem dX6_lose_15 : decode cX6_lose 15 = .ok (.getfield 10, 3) := by decide +kernel
theorem dX6_lose_18 : decode cX6_lose 18 = .ok (.getfield 67, 3) := by decide +kernel
theorem dX6_lose_21 : decode cX6_lose 21 = .ok (.iload_n 1, 1) := by decide +kernel
theorem dX6_lose_22 : decode cX6_lose 22 = .ok (.invokestatic 70, 3) := by decide +kernel
theorem dX6_lose_25 : decode cX6_lose 25 = .ok (.ifCond .eq 5, 3) := by decide +kernel
theorem dX6_lose_28 : decode cX6_lose 28 = .ok (.iconst 0, 1) := by decide +kernel
theorem dX6_lose_29 : decode cX6_lose 29 = .ok (.ireturn, 1) := by decide +kernel
theorem dX6_lose_30 : decode cX6_lose 30 = .ok (.aload_n 0, 1) := by decide +kernel
theorem dX6_lose_31 : decode cX6_lose 31 = .ok (.getfield 10, 3) := by decide +kernel
theorem dX6_lose_34 : decode cX6_lose 34 = .ok (.iload_n 1, 1) := by decide +kernel
theorem dX6_lose_35 : decode cX6_lose 35 = .ok (.invokevirtual 74, 3) := by decide +kernel
theorem dX6_lose_38 : decode cX6_lose 38 = .ok (.iconst 1, 1) := by decide +kernel
theorem dX6_lose_39 : decode cX6_lose 39 = .ok (.ireturn, 1) := by decide +kernel
theorem dX6_told_0 : decode cX6_told 0 = .ok (.aload_n 0, 1) := by decide +kernel
theorem dX6_told_1 : decode cX6_told 1 = .ok (.getfield 10, 3) := by decide +kernel
theorem dX6_told_4 : decode cX6_told 4 = .ok (.iload_n 1, 1) := by decide +kernel
theorem dX6_told_5 : decode cX6_told 5 = .ok (.invokevirtual 58, 3) := by decide +kernel
theorem dX6_told_8 : decode cX6_told 8 = .ok (.ifCond .ne 6, 3) := by decide +kernel
theorem dX6_told_11 : decode cX6_told 11 = .ok (.ldc 62, 2) := by decide +kernel
theorem dX6_told_13 : decode cX6_told 13 = .ok (.ireturn, 1) := by decide +kernel
theorem dX6_told_14 : decode cX6_told 14 = .ok (.iload_n 2, 1) := by decide +kernel
theorem dX6_told_15 : decode cX6_told 15 = .ok (.tableswitch 149 0 7 #[45, 55, 65, 75, 85, 97, 109, 129], 45) := by decide +kernel
theorem dX6_told_60 : decode cX6_told 60 = .ok (.aload_n 0, 1) := by decide +kernel
theorem dX6_told_61 : decode cX6_told 61 = .ok (.getfield 10, 3) := by decide +kernel
theorem dX6_told_64 : decode cX6_told 64 = .ok (.getfield 78, 3) := by decide +kernel
theorem dX6_told_67 : decode cX6_told 67 = .ok (.iload_n 1, 1) := by decide +kernel
theorem dX6_told_68 : decode cX6_told 68 = .ok (.iaload, 1) := by decide +kernel
theorem dX6_told_69 : decode cX6_told 69 = .ok (.ireturn, 1) := by decide +kernel
theorem dX6_told_70 : decode cX6_told 70 = .ok (.aload_n 0, 1) := by decide +kernel
theorem dX6_told_71 : decode cX6_told 71 = .ok (.getfield 10, 3) := by decide +kernel
theorem dX6_told_74 : decode cX6_told 74 = .ok (.getfield 82, 3) := by decide +kernel
theorem dX6_told_77 : decode cX6_told 77 = .ok (.iload_n 1, 1) := by decide +kernel
theorem dX6_told_78 : decode cX6_told 78 = .ok (.iaload, 1) := by decide +kernel
theorem dX6_told_79 : decode cX6_told 79 = .ok (.ireturn, 1) := by decide +kernel
theorem dX6_told_80 : decode cX6_told 80 = .ok (.aload_n 0, 1) := by decide +kernel
theorem dX6_told_81 : decode cX6_told 81 = .ok (.getfield 10, 3) := by decide +kernel
theorem dX6_told_84 : decode cX6_told 84 = .ok (.getfield 85, 3) := by decide +kernel
theorem dX6_told_87 : decode cX6_told 87 = .ok (.iload_n 1, 1) := by decide +kernel
theorem dX6_told_88 : decode cX6_told 88 = .ok (.iaload, 1) := by decide +kernel
theorem dX6_told_89 : decode cX6_told 89 = .ok (.ireturn, 1) := by decide +kernel
theorem dX6_told_90 : decode cX6_told 90 = .ok (.aload_n 0, 1) := by decide +kernel
theorem dX6_told_91 : decode cX6_told 91 = .ok (.getfield 10, 3) := by decide +kernel
theorem dX6_told_94 : decode cX6_told 94 = .ok (.getfield 88, 3) := by decide +kernel
theorem dX6_told_97 : decode cX6_told 97 = .ok (.iload_n 1, 1) := by decide +kernel
theorem dX6_told_98 : decode cX6_told 98 = .ok (.iaload, 1) := by decide +kernel
theorem dX6_told_99 : decode cX6_told 99 = .ok (.ireturn, 1) := by decide +kernel
theorem dX6_told_100 : decode cX6_told 100 = .ok (.aload_n 0, 1) := by decide +kernel
theorem dX6_told_101 : decode cX6_told 101 = .ok (.getfield 10, 3) := by decide +kernel
theorem dX6_told_104 : decode cX6_told 104 = .ok (.getfield 91, 3) := by decide +kernel
theorem dX6_told_107 : decode cX6_told 107 = .ok (.iconst 0, 1) := by decide +kernel
theorem dX6_told_108 : decode cX6_told 108 = .ok (.aaload, 1) := by decide +kernel
theorem dX6_told_109 : decode cX6_told 109 = .ok (.iload_n 1, 1) := by decide +kernel
theorem dX6_told_110 : decode cX6_told 110 = .ok (.iaload, 1) := by decide +kernel
theorem dX6_told_111 : decode cX6_told 111 = .ok (.ireturn, 1) := by decide +kernel
theorem dX6_told_112 : decode cX6_told 112 = .ok (.aload_n 0, 1) := by decide +kernel
theorem dX6_told_113 : decode cX6_told 113 = .ok (.getfield 10, 3) := by decide +kernel
theorem dX6_told_116 : decode cX6_told 116 = .ok (.getfield 91, 3) := by decide +kernel
theorem dX6_told_119 : decode cX6_told 119 = .ok (.iconst 1, 1) := by decide +kernel
theorem dX6_told_120 : decode cX6_told 120 = .ok (.aaload, 1) := by decide +kernel
theorem dX6_told_121 : decode cX6_told 121 = .ok (.iload_n 1, 1) := by decide +kernel
theorem dX6_told_122 : decode cX6_told 122 = .ok (.iaload, 1) := by decide +kernel
theorem dX6_told_123 : decode cX6_told 123 = .ok (.ireturn, 1) := by decide +kernel
theorem dX6_told_124 : decode cX6_told 124 = .ok (.aload_n 0, 1) := by decide +kernel
theorem dX6_told_125 : decode cX6_told 125 = .ok (.getfield 10, 3) := by decide +kernel
theorem dX6_told_128 : decode cX6_told 128 = .ok (.getfield 67, 3) := by decide +kernel
theorem dX6_told_131 : decode cX6_told 131 = .ok (.iload_n 1, 1) := by decide +kernel
theorem dX6_told_132 : decode cX6_told 132 = .ok (.invokestatic 70, 3) := by decide +kernel
theorem dX6_told_135 : decode cX6_told 135 = .ok (.ifCond .eq 7, 3) := by decide +kernel
theorem dX6_told_138 : decode cX6_told 138 = .ok (.iconst 1, 1) := by decide +kernel
theorem dX6_told_139 : decode cX6_told 139 = .ok (.goto 4, 3) := by decide +kernel
theorem dX6_told_142 : decode cX6_told 142 = .ok (.iconst 0, 1) := by decide +kernel
theorem dX6_told_143 : decode cX6_told 143 = .ok (.ireturn, 1) := by decide +kernel
theorem dX6_told_144 : decode cX6_told 144 = .ok (.aload_n 0, 1) := by decide +kernel
theorem dX6_told_145 : decode cX6_told 145 = .ok (.getfield 10, 3) := by decide +kernel
theorem dX6_told_148 : decode cX6_told 148 = .ok (.getfield 95, 3) := by decide +kernel
theorem dX6_told_151 : decode cX6_told 151 = .ok (.iload_n 1, 1) := by decide +kernel
theorem dX6_told_152 : decode cX6_told 152 = .ok (.invokestatic 70, 3) := by decide +kernel
theorem dX6_told_155 : decode cX6_told 155 = .ok (.ifCond .eq 7, 3) := by decide +kernel
theorem dX6_told_158 : decode cX6_told 158 = .ok (.iconst 1, 1) := by decide +kernel
theorem dX6_told_159 : decode cX6_told 159 = .ok (.goto 4, 3) := by decide +kernel
theorem dX6_told_162 : decode cX6_told 162 = .ok (.iconst 0, 1) := by decide +kernel
theorem dX6_told_163 : decode cX6_told 163 = .ok (.ireturn, 1) := by decide +kernel
theorem dX6_told_164 : decode cX6_told 164 = .ok (.ldc 48, 2) := by decide +kernel
theorem dX6_told_166 : decode cX6_told 166 = .ok (.ireturn, 1) := by decide +kernel
theorem dX6_count_0 : decode cX6_count 0 = .ok (.iload_n 1, 1) := by decide +kernel
theorem dX6_count_1 : decode cX6_count 1 = .ok (.tableswitch 115 0 6 #[43, 51, 62, 73, 84, 92, 100], 43) := by decide +kernel
theorem dX6_count_44 : decode cX6_count 44 = .ok (.aload_n 0, 1) := by decide +kernel
theorem dX6_count_45 : decode cX6_count 45 = .ok (.getfield 10, 3) := by decide +kernel
theorem dX6_count_48 : decode cX6_count 48 = .ok (.getfield 49, 3) := by decide +kernel
theorem dX6_count_51 : decode cX6_count 51 = .ok (.ireturn, 1) := by decide +kernel
theorem dX6_count_52 : decode cX6_count 52 = .ok (.aload_n 0, 1) := by decide +kernel
theorem dX6_count_53 : decode cX6_count 53 = .ok (.getfield 10, 3) := by decide +kernel
theorem dX6_count_56 : decode cX6_count 56 = .ok (.getfield 67, 3) := by decide +kernel
theorem dX6_count_59 : decode cX6_count 59 = .ok (.invokestatic 98, 3) := by decide +kernel
theorem dX6_count_62 : decode cX6_count 62 = .ok (.ireturn, 1) := by decide +kernel
theorem dX6_count_63 : decode cX6_count 63 = .ok (.aload_n 0, 1) := by decide +kernel
theorem dX6_count_64 : decode cX6_count 64 = .ok (.getfield 10, 3) := by decide +kernel
theorem dX6_count_67 : decode cX6_count 67 = .ok (.getfield 95, 3) := by decide +kernel
theorem dX6_count_70 : decode cX6_count 70 = .ok (.invokestatic 98, 3) := by decide +kernel
theorem dX6_count_73 : decode cX6_count 73 = .ok (.ireturn, 1) := by decide +kernel
theorem dX6_count_74 : decode cX6_count 74 = .ok (.aload_n 0, 1) := by decide +kernel
theorem dX6_count_75 : decode cX6_count 75 = .ok (.getfield 10, 3) := by decide +kernel
theorem dX6_count_78 : decode cX6_count 78 = .ok (.invokevirtual 104, 3) := by decide +kernel
theorem dX6_count_81 : decode cX6_count 81 = .ok (.invokestatic 98, 3) := by decide +kernel
theorem dX6_count_84 : decode cX6_count 84 = .ok (.ireturn, 1) := by decide +kernel
theorem dX6_count_85 : decode cX6_count 85 = .ok (.aload_n 0, 1) := by decide +kernel
theorem dX6_count_86 : decode cX6_count 86 = .ok (.getfield 33, 3) := by decide +kernel
theorem dX6_count_89 : decode cX6_count 89 = .ok (.getfield 108, 3) := by decide +kernel
theorem dX6_count_92 : decode cX6_count 92 = .ok (.ireturn, 1) := by decide +kernel
theorem dX6_count_93 : decode cX6_count 93 = .ok (.aload_n 0, 1) := by decide +kernel
theorem dX6_count_94 : decode cX6_count 94 = .ok (.getfield 33, 3) := by decide +kernel
theorem dX6_count_97 : decode cX6_count 97 = .ok (.invokevirtual 109, 3) := by decide +kernel
theorem dX6_count_100 : decode cX6_count 100 = .ok (.ireturn, 1) := by decide +kernel
theorem dX6_count_101 : decode cX6_count 101 = .ok (.aload_n 0, 1) := by decide +kernel
theorem dX6_count_102 : decode cX6_count 102 = .ok (.getfield 10, 3) := by decide +kernel
theorem dX6_count_105 : decode cX6_count 105 = .ok (.aload_n 0, 1) := by decide +kernel
theorem dX6_count_106 : decode cX6_count 106 = .ok (.getfield 10, 3) := by decide +kernel
theorem dX6_count_109 : decode cX6_count 109 = .ok (.invokevirtual 104, 3) := by decide +kernel
theorem dX6_count_112 : decode cX6_count 112 = .ok (.invokevirtual 112, 3) := by decide +kernel
theorem dX6_count_115 : decode cX6_count 115 = .ok (.ireturn, 1) := by decide +kernel
theorem dX6_count_116 : decode cX6_count 116 = .ok (.ldc 48, 2) := by decide +kernel
theorem dX6_count_118 : decode cX6_count 118 = .ok (.ireturn, 1) := by decide +kernel
theorem dX6_det_0 : decode cX6_det 0 = .ok (.iload_n 1, 1) := by decide +kernel
theorem dX6_det_1 : decode cX6_det 1 = .ok (.iconst 0, 1) := by decide +kernel
theorem dX6_det_2 : decode cX6_det 2 = .ok (.iconst 2, 1) := by decide +kernel
theorem dX6_det_3 : decode cX6_det 3 = .ok (.invokestatic 44, 3) := by decide +kernel
theorem dX6_det_6 : decode cX6_det 6 = .ok (.ifCond .eq 7, 3) := by decide +kernel
theorem dX6_det_9 : decode cX6_det 9 = .ok (.ldc2_w 115, 3) := by decide +kernel
theorem dX6_det_12 : decode cX6_det 12 = .ok (.lreturn, 1) := by decide +kernel
theorem dX6_det_13 : decode cX6_det 13 = .ok (.aload_n 0, 1) := by decide +kernel
theorem dX6_det_14 : decode cX6_det 14 = .ok (.getfield 19, 3) := by decide +kernel
theorem dX6_det_17 : decode cX6_det 17 = .ok (.aload_n 0, 1) := by decide +kernel
theorem dX6_det_18 : decode cX6_det 18 = .ok (.getfield 10, 3) := by decide +kernel
theorem dX6_det_21 : decode cX6_det 21 = .ok (.iload_n 1, 1) := by decide +kernel
theorem dX6_det_22 : decode cX6_det 22 = .ok (.aload_n 0, 1) := by decide +kernel
theorem dX6_det_23 : decode cX6_det 23 = .ok (.getfield 10, 3) := by decide +kernel
theorem dX6_det_26 : decode cX6_det 26 = .ok (.invokevirtual 104, 3) := by decide +kernel
theorem dX6_det_29 : decode cX6_det 29 = .ok (.invokevirtual 117, 3) := by decide +kernel
theorem dX6_det_32 : decode cX6_det 32 = .ok (.pop, 1) := by decide +kernel
theorem dX6_det_33 : decode cX6_det 33 = .ok (.aload_n 0, 1) := by decide +kernel
theorem dX6_det_34 : decode cX6_det 34 = .ok (.getfield 19, 3) := by decide +kernel
theorem dX6_det_37 : decode cX6_det 37 = .ok (.getfield 121, 3) := by decide +kernel
theorem dX6_det_40 : decode cX6_det 40 = .ok (.getfield 125, 3) := by decide +kernel
theorem dX6_det_43 : decode cX6_det 43 = .ok (.lreturn, 1) := by decide +kernel
theorem dX6_fit_0 : decode cX6_fit 0 = .ok (.iload_n 1, 1) := by decide +kernel
theorem dX6_fit_1 : decode cX6_fit 1 = .ok (.iload_n 2, 1) := by decide +kernel
theorem dX6_fit_2 : decode cX6_fit 2 = .ok (.iload 4, 2) := by decide +kernel
theorem dX6_fit_4 : decode cX6_fit 4 = .ok (.invokestatic 131, 3) := by decide +kernel
theorem dX6_fit_7 : decode cX6_fit 7 = .ok (.ifCond .ne 15, 3) := by decide +kernel
theorem dX6_fit_10 : decode cX6_fit 10 = .ok (.iload_n 3, 1) := by decide +kernel
theorem dX6_fit_11 : decode cX6_fit 11 = .ok (.iconst 0, 1) := by decide +kernel
theorem dX6_fit_12 : decode cX6_fit 12 = .ok (.iload_n 1, 1) := by decide +kernel
theorem dX6_fit_13 : decode cX6_fit 13 = .ok (.invokestatic 134, 3) := by decide +kernel
theorem dX6_fit_16 : decode cX6_fit 16 = .ok (.invokestatic 44, 3) := by decide +kernel
theorem dX6_fit_19 : decode cX6_fit 19 = .ok (.ifCond .eq 7, 3) := by decide +kernel
theorem dX6_fit_22 : decode cX6_fit 22 = .ok (.ldc2_w 115, 3) := by decide +kernel
theorem dX6_fit_25 : decode cX6_fit 25 = .ok (.lreturn, 1) := by decide +kernel
theorem dX6_fit_26 : decode cX6_fit 26 = .ok (.aload_n 0, 1) := by decide +kernel
theorem dX6_fit_27 : decode cX6_fit 27 = .ok (.getfield 19, 3) := by decide +kernel
theorem dX6_fit_30 : decode cX6_fit 30 = .ok (.aload_n 0, 1) := by decide +kernel
theorem dX6_fit_31 : decode cX6_fit 31 = .ok (.getfield 10, 3) := by decide +kernel
theorem dX6_fit_34 : decode cX6_fit 34 = .ok (.iload_n 1, 1) := by decide +kernel
theorem dX6_fit_35 : decode cX6_fit 35 = .ok (.aload_n 0, 1) := by decide +kernel
theorem dX6_fit_36 : decode cX6_fit 36 = .ok (.getfield 10, 3) := by decide +kernel
theorem dX6_fit_39 : decode cX6_fit 39 = .ok (.invokevirtual 104, 3) := by decide +kernel
theorem dX6_fit_42 : decode cX6_fit 42 = .ok (.invokevirtual 117, 3) := by decide +kernel
theorem dX6_fit_45 : decode cX6_fit 45 = .ok (.ifCond .ne 7, 3) := by decide +kernel
theorem dX6_fit_48 : decode cX6_fit 48 = .ok (.ldc2_w 137, 3) := by decide +kernel
theorem dX6_fit_51 : decode cX6_fit 51 = .ok (.lreturn, 1) := by decide +kernel
theorem dX6_fit_52 : decode cX6_fit 52 = .ok (.aload_n 0, 1) := by decide +kernel
theorem dX6_fit_53 : decode cX6_fit 53 = .ok (.getfield 19, 3) := by decide +kernel
theorem dX6_fit_56 : decode cX6_fit 56 = .ok (.getfield 139, 3) := by decide +kernel
theorem dX6_fit_59 : decode cX6_fit 59 = .ok (.iload_n 2, 1) := by decide +kernel
theorem dX6_fit_60 : decode cX6_fit 60 = .ok (.aaload, 1) := by decide +kernel
theorem dX6_fit_61 : decode cX6_fit 61 = .ok (.iload_n 3, 1) := by decide +kernel
theorem dX6_fit_62 : decode cX6_fit 62 = .ok (.laload, 1) := by decide +kernel
theorem dX6_fit_63 : decode cX6_fit 63 = .ok (.aload_n 0, 1) := by decide +kernel
theorem dX6_fit_64 : decode cX6_fit 64 = .ok (.getfield 19, 3) := by decide +kernel
theorem dX6_fit_67 : decode cX6_fit 67 = .ok (.getfield 121, 3) := by decide +kernel
theorem dX6_fit_70 : decode cX6_fit 70 = .ok (.getfield 125, 3) := by decide +kernel
theorem dX6_fit_73 : decode cX6_fit 73 = .ok (.iload 4, 2) := by decide +kernel
theorem dX6_fit_75 : decode cX6_fit 75 = .ok (.invokestatic 143, 3) := by decide +kernel
theorem dX6_fit_78 : decode cX6_fit 78 = .ok (.lreturn, 1) := by decide +kernel
theorem dX6_rest_0 : decode cX6_rest 0 = .ok (.aload_n 0, 1) := by decide +kernel
theorem dX6_rest_1 : decode cX6_rest 1 = .ok (.getfield 10, 3) := by decide +kernel
theorem dX6_rest_4 : decode cX6_rest 4 = .ok (.iload_n 3, 1) := by decide +kernel
theorem dX6_rest_5 : decode cX6_rest 5 = .ok (.invokevirtual 58, 3) := by decide +kernel
theorem dX6_rest_8 : decode cX6_rest 8 = .ok (.ifCond .ne 7, 3) := by decide +kernel
theorem dX6_rest_11 : decode cX6_rest 11 = .ok (.ldc2_w 147, 3) := by decide +kernel
theorem dX6_rest_14 : decode cX6_rest 14 = .ok (.lreturn, 1) := by decide +kernel
theorem dX6_rest_15 : decode cX6_rest 15 = .ok (.iload_n 1, 1) := by decide +kernel
theorem dX6_rest_16 : decode cX6_rest 16 = .ok (.iload_n 2, 1) := by decide +kernel
theorem dX6_rest_17 : decode cX6_rest 17 = .ok (.iload 4, 2) := by decide +kernel
theorem dX6_rest_19 : decode cX6_rest 19 = .ok (.invokestatic 131, 3) := by decide +kernel
theorem dX6_rest_22 : decode cX6_rest 22 = .ok (.ifCond .eq 7, 3) := by decide +kernel
theorem dX6_rest_25 : decode cX6_rest 25 = .ok (.ldc2_w 115, 3) := by decide +kernel
theorem dX6_rest_28 : decode cX6_rest 28 = .ok (.lreturn, 1) := by decide +kernel
theorem dX6_rest_29 : decode cX6_rest 29 = .ok (.aload_n 0, 1) := by decide +kernel
theorem dX6_rest_30 : decode cX6_rest 30 = .ok (.getfield 10, 3) := by decide +kernel
theorem dX6_rest_33 : decode cX6_rest 33 = .ok (.getfield 67, 3) := by decide +kernel
theorem dX6_rest_36 : decode cX6_rest 36 = .ok (.iload_n 3, 1) := by decide +kernel
theorem dX6_rest_37 : decode cX6_rest 37 = .ok (.invokestatic 70, 3) := by decide +kernel
theorem dX6_rest_40 : decode cX6_rest 40 = .ok (.ifCond .ne 25, 3) := by decide +kernel
theorem dX6_rest_43 : decode cX6_rest 43 = .ok (.aload_n 0, 1) := by decide +kernel
theorem dX6_rest_44 : decode cX6_rest 44 = .ok (.getfield 19, 3) := by decide +kernel
theorem dX6_rest_47 : decode cX6_rest 47 = .ok (.aload_n 0, 1) := by decide +kernel
theorem dX6_rest_48 : decode cX6_rest 48 = .ok (.getfield 10, 3) := by decide +kernel
theorem dX6_rest_51 : decode cX6_rest 51 = .ok (.iload_n 1, 1) := by decide +kernel
theorem dX6_rest_52 : decode cX6_rest 52 = .ok (.aload_n 0, 1) := by decide +kernel
theorem dX6_rest_53 : decode cX6_rest 53 = .ok (.getfield 10, 3) := by decide +kernel
theorem dX6_rest_56 : decode cX6_rest 56 = .ok (.invokevirtual 104, 3) := by decide +kernel
theorem dX6_rest_59 : decode cX6_rest 59 = .ok (.invokevirtual 117, 3) := by decide +kernel
theorem dX6_rest_62 : decode cX6_rest 62 = .ok (.ifCond .ne 7, 3) := by decide +kernel
theorem dX6_rest_65 : decode cX6_rest 65 = .ok (.ldc2_w 137, 3) := by decide +kernel
theorem dX6_rest_68 : decode cX6_rest 68 = .ok (.lreturn, 1) := by decide +kernel
theorem dX6_rest_69 : decode cX6_rest 69 = .ok (.aload_n 0, 1) := by decide +kernel
theorem dX6_rest_70 : decode cX6_rest 70 = .ok (.getfield 19, 3) := by decide +kernel
theorem dX6_rest_73 : decode cX6_rest 73 = .ok (.aload_n 0, 1) := by decide +kernel
theorem dX6_rest_74 : decode cX6_rest 74 = .ok (.getfield 10, 3) := by decide +kernel
theorem dX6_rest_77 : decode cX6_rest 77 = .ok (.iload_n 2, 1) := by decide +kernel
theorem dX6_rest_78 : decode cX6_rest 78 = .ok (.iload_n 3, 1) := by decide +kernel
theorem dX6_rest_79 : decode cX6_rest 79 = .ok (.invokevirtual 149, 3) := by decide +kernel
theorem dX6_rest_82 : decode cX6_rest 82 = .ok (.aload_n 0, 1) := by decide +kernel
theorem dX6_rest_83 : decode cX6_rest 83 = .ok (.getfield 19, 3) := by decide +kernel
theorem dX6_rest_86 : decode cX6_rest 86 = .ok (.getfield 121, 3) := by decide +kernel
theorem dX6_rest_89 : decode cX6_rest 89 = .ok (.getfield 125, 3) := by decide +kernel
theorem dX6_rest_92 : decode cX6_rest 92 = .ok (.iload 4, 2) := by decide +kernel
theorem dX6_rest_94 : decode cX6_rest 94 = .ok (.invokestatic 143, 3) := by decide +kernel
theorem dX6_rest_97 : decode cX6_rest 97 = .ok (.lreturn, 1) := by decide +kernel
theorem dX6_spread_0 : decode cX6_spread 0 = .ok (.iload_n 1, 1) := by decide +kernel
theorem dX6_spread_1 : decode cX6_spread 1 = .ok (.iload_n 2, 1) := by decide +kernel
theorem dX6_spread_2 : decode cX6_spread 2 = .ok (.iload_n 3, 1) := by decide +kernel
theorem dX6_spread_3 : decode cX6_spread 3 = .ok (.invokestatic 131, 3) := by decide +kernel
theorem dX6_spread_6 : decode cX6_spread 6 = .ok (.ifCond .eq 7, 3) := by decide +kernel
theorem dX6_spread_9 : decode cX6_spread 9 = .ok (.ldc2_w 115, 3) := by decide +kernel
theorem dX6_spread_12 : decode cX6_spread 12 = .ok (.lreturn, 1) := by decide +kernel
theorem dX6_spread_13 : decode cX6_spread 13 = .ok (.aload_n 0, 1) := by decide +kernel
theorem dX6_spread_14 : decode cX6_spread 14 = .ok (.getfield 19, 3) := by decide +kernel
theorem dX6_spread_17 : decode cX6_spread 17 = .ok (.aload_n 0, 1) := by decide +kernel
theorem dX6_spread_18 : decode cX6_spread 18 = .ok (.getfield 10, 3) := by decide +kernel
theorem dX6_spread_21 : decode cX6_spread 21 = .ok (.iload_n 1, 1) := by decide +kernel
theorem dX6_spread_22 : decode cX6_spread 22 = .ok (.aload_n 0, 1) := by decide +kernel
theorem dX6_spread_23 : decode cX6_spread 23 = .ok (.getfield 10, 3) := by decide +kernel
theorem dX6_spread_26 : decode cX6_spread 26 = .ok (.invokevirtual 104, 3) := by decide +kernel
theorem dX6_spread_29 : decode cX6_spread 29 = .ok (.invokevirtual 117, 3) := by decide +kernel
theorem dX6_spread_32 : decode cX6_spread 32 = .ok (.ifCond .ne 7, 3) := by decide +kernel
theorem dX6_spread_35 : decode cX6_spread 35 = .ok (.ldc2_w 137, 3) := by decide +kernel
theorem dX6_spread_38 : decode cX6_spread 38 = .ok (.lreturn, 1) := by decide +kernel
theorem dX6_spread_39 : decode cX6_spread 39 = .ok (.aload_n 0, 1) := by decide +kernel
theorem dX6_spread_40 : decode cX6_spread 40 = .ok (.getfield 19, 3) := by decide +kernel
theorem dX6_spread_43 : decode cX6_spread 43 = .ok (.iload_n 2, 1) := by decide +kernel
theorem dX6_spread_44 : decode cX6_spread 44 = .ok (.invokevirtual 153, 3) := by decide +kernel
theorem dX6_spread_47 : decode cX6_spread 47 = .ok (.aload_n 0, 1) := by decide +kernel
theorem dX6_spread_48 : decode cX6_spread 48 = .ok (.getfield 19, 3) := by decide +kernel
theorem dX6_spread_51 : decode cX6_spread 51 = .ok (.getfield 121, 3) := by decide +kernel
theorem dX6_spread_54 : decode cX6_spread 54 = .ok (.getfield 125, 3) := by decide +kernel
theorem dX6_spread_57 : decode cX6_spread 57 = .ok (.iload_n 3, 1) := by decide +kernel
theorem dX6_spread_58 : decode cX6_spread 58 = .ok (.invokestatic 143, 3) := by decide +kernel
theorem dX6_spread_61 : decode cX6_spread 61 = .ok (.lreturn, 1) := by decide +kernel
theorem dX6_judge_0 : decode cX6_judge 0 = .ok (.iload_n 1, 1) := by decide +kernel
theorem dX6_judge_1 : decode cX6_judge 1 = .ok (.iconst 0, 1) := by decide +kernel
theorem dX6_judge_2 : decode cX6_judge 2 = .ok (.iconst 2, 1) := by decide +kernel
theorem dX6_judge_3 : decode cX6_judge 3 = .ok (.invokestatic 44, 3) := by decide +kernel
theorem dX6_judge_6 : decode cX6_judge 6 = .ok (.ifCond .ne 14, 3) := by decide +kernel
theorem dX6_judge_9 : decode cX6_judge 9 = .ok (.iload_n 2, 1) := by decide +kernel
theorem dX6_judge_10 : decode cX6_judge 10 = .ok (.iconst 1, 1) := by decide +kernel
theorem dX6_judge_11 : decode cX6_judge 11 = .ok (.sipush 999, 3) := by decide +kernel
theorem dX6_judge_14 : decode cX6_judge 14 = .ok (.invokestatic 44, 3) := by decide +kernel
theorem dX6_judge_17 : decode cX6_judge 17 = .ok (.ifCond .eq 6, 3) := by decide +kernel
theorem dX6_judge_20 : decode cX6_judge 20 = .ok (.ldc 48, 2) := by decide +kernel
theorem dX6_judge_22 : decode cX6_judge 22 = .ok (.ireturn, 1) := by decide +kernel
theorem dX6_judge_23 : decode cX6_judge 23 = .ok (.aload_n 0, 1) := by decide +kernel
theorem dX6_judge_24 : decode cX6_judge 24 = .ok (.getfield 19, 3) := by decide +kernel
theorem dX6_judge_27 : decode cX6_judge 27 = .ok (.aload_n 0, 1) := by decide +kernel
theorem dX6_judge_28 : decode cX6_judge 28 = .ok (.getfield 10, 3) := by decide +kernel
theorem dX6_judge_31 : decode cX6_judge 31 = .ok (.iload_n 1, 1) := by decide +kernel
theorem dX6_judge_32 : decode cX6_judge 32 = .ok (.aload_n 0, 1) := by decide +kernel
theorem dX6_judge_33 : decode cX6_judge 33 = .ok (.getfield 10, 3) := by decide +kernel
theorem dX6_judge_36 : decode cX6_judge 36 = .ok (.invokevirtual 157, 3) := by decide +kernel
theorem dX6_judge_39 : decode cX6_judge 39 = .ok (.invokevirtual 117, 3) := by decide +kernel
theorem dX6_judge_42 : decode cX6_judge 42 = .ok (.ifCond .ne 6, 3) := by decide +kernel
theorem dX6_judge_45 : decode cX6_judge 45 = .ok (.ldc 160, 2) := by decide +kernel
theorem dX6_judge_47 : decode cX6_judge 47 = .ok (.ireturn, 1) := by decide +kernel
theorem dX6_judge_48 : decode cX6_judge 48 = .ok (.aload_n 0, 1) := by decide +kernel
theorem dX6_judge_49 : decode cX6_judge 49 = .ok (.getfield 10, 3) := by decide +kernel
theorem dX6_judge_52 : decode cX6_judge 52 = .ok (.aload_n 0, 1) := by decide +kernel
theorem dX6_judge_53 : decode cX6_judge 53 = .ok (.getfield 19, 3) := by decide +kernel
theorem dX6_judge_56 : decode cX6_judge 56 = .ok (.aload_n 0, 1) := by decide +kernel
theorem dX6_judge_57 : decode cX6_judge 57 = .ok (.getfield 10, 3) := by decide +kernel
theorem dX6_judge_60 : decode cX6_judge 60 = .ok (.iload_n 1, 1) := by decide +kernel
theorem dX6_judge_61 : decode cX6_judge 61 = .ok (.iload_n 2, 1) := by decide +kernel
theorem dX6_judge_62 : decode cX6_judge 62 = .ok (.invokevirtual 161, 3) := by decide +kernel
theorem dX6_judge_65 : decode cX6_judge 65 = .ok (.putfield 95, 3) := by decide +kernel
theorem dX6_judge_68 : decode cX6_judge 68 = .ok (.aload_n 0, 1) := by decide +kernel
theorem dX6_judge_69 : decode cX6_judge 69 = .ok (.getfield 10, 3) := by decide +kernel
theorem dX6_judge_72 : decode cX6_judge 72 = .ok (.getfield 95, 3) := by decide +kernel
theorem dX6_judge_75 : decode cX6_judge 75 = .ok (.invokestatic 98, 3) := by decide +kernel
theorem dX6_judge_78 : decode cX6_judge 78 = .ok (.ireturn, 1) := by decide +kernel
theorem dX6_plan_0 : decode cX6_plan 0 = .ok (.iload_n 1, 1) := by decide +kernel
theorem dX6_plan_1 : decode cX6_plan 1 = .ok (.iconst 1, 1) := by decide +kernel
theorem dX6_plan_2 : decode cX6_plan 2 = .ok (.bipush 6, 2) := by decide +kernel
theorem dX6_plan_4 : decode cX6_plan 4 = .ok (.invokestatic 44, 3) := by decide +kernel
theorem dX6_plan_7 : decode cX6_plan 7 = .ok (.ifCond .ne 21, 3) := by decide +kernel
theorem dX6_plan_10 : decode cX6_plan 10 = .ok (.iload_n 2, 1) := by decide +kernel
theorem dX6_plan_11 : decode cX6_plan 11 = .ok (.iconst 0, 1) := by decide +kernel
theorem dX6_plan_12 : decode cX6_plan 12 = .ok (.iconst 2, 1) := by decide +kernel
theorem dX6_plan_13 : decode cX6_plan 13 = .ok (.invokestatic 44, 3) := by decide +kernel
theorem dX6_plan_16 : decode cX6_plan 16 = .ok (.ifCond .ne 12, 3) := by decide +kernel
theorem dX6_plan_19 : decode cX6_plan 19 = .ok (.iload_n 3, 1) := by decide +kernel
theorem dX6_plan_20 : decode cX6_plan 20 = .ok (.iconst 0, 1) := by decide +kernel
theorem dX6_plan_21 : decode cX6_plan 21 = .ok (.iconst 2, 1) := by decide +kernel
theorem dX6_plan_22 : decode cX6_plan 22 = .ok (.invokestatic 44, 3) := by decide +kernel
theorem dX6_plan_25 : decode cX6_plan 25 = .ok (.ifCond .eq 7, 3) := by decide +kernel
theorem dX6_plan_28 : decode cX6_plan 28 = .ok (.ldc2_w 115, 3) := by decide +kernel
theorem dX6_plan_31 : decode cX6_plan 31 = .ok (.lreturn, 1) := by decide +kernel
theorem dX6_plan_32 : decode cX6_plan 32 = .ok (.aload_n 0, 1) := by decide +kernel
theorem dX6_plan_33 : decode cX6_plan 33 = .ok (.getfield 26, 3) := by decide +kernel
theorem dX6_plan_36 : decode cX6_plan 36 = .ok (.aload_n 0, 1) := by decide +kernel
theorem dX6_plan_37 : decode cX6_plan 37 = .ok (.getfield 10, 3) := by decide +kernel
theorem dX6_plan_40 : decode cX6_plan 40 = .ok (.iload_n 1, 1) := by decide +kernel
theorem dX6_plan_41 : decode cX6_plan 41 = .ok (.iload_n 2, 1) := by decide +kernel
theorem dX6_plan_42 : decode cX6_plan 42 = .ok (.invokevirtual 165, 3) := by decide +kernel
theorem dX6_plan_45 : decode cX6_plan 45 = .ok (.ifCond .ne 7, 3) := by decide +kernel
theorem dX6_plan_48 : decode cX6_plan 48 = .ok (.ldc2_w 137, 3) := by decide +kernel
theorem dX6_plan_51 : decode cX6_plan 51 = .ok (.lreturn, 1) := by decide +kernel
theorem dX6_plan_52 : decode cX6_plan 52 = .ok (.iload_n 3, 1) := by decide +kernel
theorem dX6_plan_53 : decode cX6_plan 53 = .ok (.ifCond .ne 14, 3) := by decide +kernel
theorem dX6_plan_56 : decode cX6_plan 56 = .ok (.aload_n 0, 1) := by decide +kernel
theorem dX6_plan_57 : decode cX6_plan 57 = .ok (.getfield 26, 3) := by decide +kernel
theorem dX6_plan_60 : decode cX6_plan 60 = .ok (.getfield 166, 3) := by decide +kernel
theorem dX6_plan_63 : decode cX6_plan 63 = .ok (.i2l, 1) := by decide +kernel
theorem dX6_plan_64 : decode cX6_plan 64 = .ok (.goto 23, 3) := by decide +kernel
theorem dX6_plan_67 : decode cX6_plan 67 = .ok (.aload_n 0, 1) := by decide +kernel
theorem dX6_plan_68 : decode cX6_plan 68 = .ok (.getfield 26, 3) := by decide +kernel
theorem dX6_plan_71 : decode cX6_plan 71 = .ok (.getfield 169, 3) := by decide +kernel
theorem dX6_plan_74 : decode cX6_plan 74 = .ok (.aload_n 0, 1) := by decide +kernel
theorem dX6_plan_75 : decode cX6_plan 75 = .ok (.getfield 26, 3) := by decide +kernel
theorem dX6_plan_78 : decode cX6_plan 78 = .ok (.getfield 172, 3) := by decide +kernel
theorem dX6_plan_81 : decode cX6_plan 81 = .ok (.iload_n 3, 1) := by decide +kernel
theorem dX6_plan_82 : decode cX6_plan 82 = .ok (.iconst 1, 1) := by decide +kernel
theorem dX6_plan_83 : decode cX6_plan 83 = .ok (.isub, 1) := by decide +kernel
theorem dX6_plan_84 : decode cX6_plan 84 = .ok (.invokestatic 143, 3) := by decide +kernel
theorem dX6_plan_87 : decode cX6_plan 87 = .ok (.lreturn, 1) := by decide +kernel
theorem dX6_lot_0 : decode cX6_lot 0 = .ok (.iload_n 1, 1) := by decide +kernel
theorem dX6_lot_1 : decode cX6_lot 1 = .ok (.iconst 0, 1) := by decide +kernel
theorem dX6_lot_2 : decode cX6_lot 2 = .ok (.iconst 3, 1) := by decide +kernel
theorem dX6_lot_3 : decode cX6_lot 3 = .ok (.invokestatic 44, 3) := by decide +kernel
theorem dX6_lot_6 : decode cX6_lot 6 = .ok (.ifCond .eq 6, 3) := by decide +kernel
theorem dX6_lot_9 : decode cX6_lot 9 = .ok (.ldc 62, 2) := by decide +kernel
theorem dX6_lot_11 : decode cX6_lot 11 = .ok (.ireturn, 1) := by decide +kernel
theorem dX6_lot_12 : decode cX6_lot 12 = .ok (.iload_n 2, 1) := by decide +kernel
theorem dX6_lot_13 : decode cX6_lot 13 = .ok (.sipush (-9999), 3) := by decide +kernel
theorem dX6_lot_16 : decode cX6_lot 16 = .ok (.sipush 9999, 3) := by decide +kernel
theorem dX6_lot_19 : decode cX6_lot 19 = .ok (.invokestatic 44, 3) := by decide +kernel
theorem dX6_lot_22 : decode cX6_lot 22 = .ok (.ifCond .eq 6, 3) := by decide +kernel
theorem dX6_lot_25 : decode cX6_lot 25 = .ok (.ldc 48, 2) := by decide +kernel
theorem dX6_lot_27 : decode cX6_lot 27 = .ok (.ireturn, 1) := by decide +kernel
theorem dX6_lot_28 : decode cX6_lot 28 = .ok (.aload_n 0, 1) := by decide +kernel
theorem dX6_lot_29 : decode cX6_lot 29 = .ok (.getfield 33, 3) := by decide +kernel
theorem dX6_lot_32 : decode cX6_lot 32 = .ok (.getfield 108, 3) := by decide +kernel
theorem dX6_lot_35 : decode cX6_lot 35 = .ok (.bipush 60, 2) := by decide +kernel
theorem dX6_lot_37 : decode cX6_lot 37 = .ok (.if_icmp .lt 6, 3) := by decide +kernel
theorem dX6_lot_40 : decode cX6_lot 40 = .ok (.ldc 53, 2) := by decide +kernel
theorem dX6_lot_42 : decode cX6_lot 42 = .ok (.ireturn, 1) := by decide +kernel
theorem dX6_lot_43 : decode cX6_lot 43 = .ok (.aload_n 0, 1) := by decide +kernel
theorem dX6_lot_44 : decode cX6_lot 44 = .ok (.getfield 33, 3) := by decide +kernel
theorem dX6_lot_47 : decode cX6_lot 47 = .ok (.iload_n 1, 1) := by decide +kernel
theorem dX6_lot_48 : decode cX6_lot 48 = .ok (.iload_n 2, 1) := by decide +kernel
theorem dX6_lot_49 : decode cX6_lot 49 = .ok (.invokevirtual 175, 3) := by decide +kernel
theorem dX6_lot_52 : decode cX6_lot 52 = .ok (.ireturn, 1) := by decide +kernel
theorem dX6_back_0 : decode cX6_back 0 = .ok (.aload_n 0, 1) := by decide +kernel
theorem dX6_back_1 : decode cX6_back 1 = .ok (.getfield 33, 3) := by decide +kernel
theorem dX6_back_4 : decode cX6_back 4 = .ok (.iload_n 1, 1) := by decide +kernel
theorem dX6_back_5 : decode cX6_back 5 = .ok (.invokevirtual 178, 3) := by decide +kernel
theorem dX6_back_8 : decode cX6_back 8 = .ok (.ifCond .ne 6, 3) := by decide +kernel
theorem dX6_back_11 : decode cX6_back 11 = .ok (.ldc 62, 2) := by decide +kernel
theorem dX6_back_13 : decode cX6_back 13 = .ok (.ireturn, 1) := by decide +kernel
theorem dX6_back_14 : decode cX6_back 14 = .ok (.iload_n 2, 1) := by decide +kernel
theorem dX6_back_15 : decode cX6_back 15 = .ok (.sipush (-9999), 3) := by decide +kernel
theorem dX6_back_18 : decode cX6_back 18 = .ok (.sipush 9999, 3) := by decide +kernel
theorem dX6_back_21 : decode cX6_back 21 = .ok (.invokestatic 44, 3) := by decide +kernel
theorem dX6_back_24 : decode cX6_back 24 = .ok (.ifCond .eq 6, 3) := by decide +kernel
theorem dX6_back_27 : decode cX6_back 27 = .ok (.ldc 48, 2) := by decide +kernel
theorem dX6_back_29 : decode cX6_back 29 = .ok (.ireturn, 1) := by decide +kernel
theorem dX6_back_30 : decode cX6_back 30 = .ok (.aload_n 0, 1) := by decide +kernel
theorem dX6_back_31 : decode cX6_back 31 = .ok (.getfield 33, 3) := by decide +kernel
theorem dX6_back_34 : decode cX6_back 34 = .ok (.iload_n 1, 1) := by decide +kernel
theorem dX6_back_35 : decode cX6_back 35 = .ok (.iload_n 2, 1) := by decide +kernel
theorem dX6_back_36 : decode cX6_back 36 = .ok (.invokevirtual 179, 3) := by decide +kernel
theorem dX6_back_39 : decode cX6_back 39 = .ok (.iconst 1, 1) := by decide +kernel
theorem dX6_back_40 : decode cX6_back 40 = .ok (.ireturn, 1) := by decide +kernel
theorem dX6_mend_0 : decode cX6_mend 0 = .ok (.iload_n 1, 1) := by decide +kernel
theorem dX6_mend_1 : decode cX6_mend 1 = .ok (.iconst 0, 1) := by decide +kernel
theorem dX6_mend_2 : decode cX6_mend 2 = .ok (.iconst 3, 1) := by decide +kernel
theorem dX6_mend_3 : decode cX6_mend 3 = .ok (.invokestatic 44, 3) := by decide +kernel
theorem dX6_mend_6 : decode cX6_mend 6 = .ok (.ifCond .eq 6, 3) := by decide +kernel
theorem dX6_mend_9 : decode cX6_mend 9 = .ok (.ldc 62, 2) := by decide +kernel
theorem dX6_mend_11 : decode cX6_mend 11 = .ok (.ireturn, 1) := by decide +kernel
theorem dX6_mend_12 : decode cX6_mend 12 = .ok (.aload_n 0, 1) := by decide +kernel
theorem dX6_mend_13 : decode cX6_mend 13 = .ok (.getfield 33, 3) := by decide +kernel
theorem dX6_mend_16 : decode cX6_mend 16 = .ok (.iload_n 1, 1) := by decide +kernel
theorem dX6_mend_17 : decode cX6_mend 17 = .ok (.invokevirtual 183, 3) := by decide +kernel
theorem dX6_mend_20 : decode cX6_mend 20 = .ok (.iconst 1, 1) := by decide +kernel
theorem dX6_mend_21 : decode cX6_mend 21 = .ok (.ireturn, 1) := by decide +kernel
theorem dX6_gain_0 : decode cX6_gain 0 = .ok (.iload_n 1, 1) := by decide +kernel
theorem dX6_gain_1 : decode cX6_gain 1 = .ok (.iconst 1, 1) := by decide +kernel
theorem dX6_gain_2 : decode cX6_gain 2 = .ok (.bipush 16, 2) := by decide +kernel
theorem dX6_gain_4 : decode cX6_gain 4 = .ok (.invokestatic 44, 3) := by decide +kernel
theorem dX6_gain_7 : decode cX6_gain 7 = .ok (.ifCond .eq 6, 3) := by decide +kernel
theorem dX6_gain_10 : decode cX6_gain 10 = .ok (.ldc 48, 2) := by decide +kernel
theorem dX6_gain_12 : decode cX6_gain 12 = .ok (.ireturn, 1) := by decide +kernel
theorem dX6_gain_13 : decode cX6_gain 13 = .ok (.aload_n 0, 1) := by decide +kernel
theorem dX6_gain_14 : decode cX6_gain 14 = .ok (.getfield 33, 3) := by decide +kernel
theorem dX6_gain_17 : decode cX6_gain 17 = .ok (.getfield 186, 3) := by decide +kernel
theorem dX6_gain_20 : decode cX6_gain 20 = .ok (.istore_n 2, 1) := by decide +kernel
theorem dX6_gain_21 : decode cX6_gain 21 = .ok (.aload_n 0, 1) := by decide +kernel
theorem dX6_gain_22 : decode cX6_gain 22 = .ok (.getfield 33, 3) := by decide +kernel
theorem dX6_gain_25 : decode cX6_gain 25 = .ok (.iload_n 1, 1) := by decide +kernel
theorem dX6_gain_26 : decode cX6_gain 26 = .ok (.putfield 186, 3) := by decide +kernel
theorem dX6_gain_29 : decode cX6_gain 29 = .ok (.iload_n 2, 1) := by decide +kernel
theorem dX6_gain_30 : decode cX6_gain 30 = .ok (.ireturn, 1) := by decide +kernel
theorem dX6_state_0 : decode cX6_state 0 = .ok (.iload_n 1, 1) := by decide +kernel
theorem dX6_state_1 : decode cX6_state 1 = .ok (.iconst 0, 1) := by decide +kernel
theorem dX6_state_2 : decode cX6_state 2 = .ok (.iconst 3, 1) := by decide +kernel
theorem dX6_state_3 : decode cX6_state 3 = .ok (.invokestatic 44, 3) := by decide +kernel
theorem dX6_state_6 : decode cX6_state 6 = .ok (.ifCond .eq 6, 3) := by decide +kernel
theorem dX6_state_9 : decode cX6_state 9 = .ok (.ldc 62, 2) := by decide +kernel
theorem dX6_state_11 : decode cX6_state 11 = .ok (.ireturn, 1) := by decide +kernel
theorem dX6_state_12 : decode cX6_state 12 = .ok (.iload_n 2, 1) := by decide +kernel
theorem dX6_state_13 : decode cX6_state 13 = .ok (.iconst 0, 1) := by decide +kernel
theorem dX6_state_14 : decode cX6_state 14 = .ok (.aload_n 0, 1) := by decide +kernel
theorem dX6_state_15 : decode cX6_state 15 = .ok (.getfield 33, 3) := by decide +kernel
theorem dX6_state_18 : decode cX6_state 18 = .ok (.getfield 108, 3) := by decide +kernel
theorem dX6_state_21 : decode cX6_state 21 = .ok (.invokestatic 44, 3) := by decide +kernel
theorem dX6_state_24 : decode cX6_state 24 = .ok (.ifCond .eq 6, 3) := by decide +kernel
theorem dX6_state_27 : decode cX6_state 27 = .ok (.ldc 48, 2) := by decide +kernel
theorem dX6_state_29 : decode cX6_state 29 = .ok (.ireturn, 1) := by decide +kernel
theorem dX6_state_30 : decode cX6_state 30 = .ok (.aload_n 0, 1) := by decide +kernel
theorem dX6_state_31 : decode cX6_state 31 = .ok (.getfield 33, 3) := by decide +kernel
theorem dX6_state_34 : decode cX6_state 34 = .ok (.iload_n 1, 1) := by decide +kernel
theorem dX6_state_35 : decode cX6_state 35 = .ok (.iload_n 2, 1) := by decide +kernel
theorem dX6_state_36 : decode cX6_state 36 = .ok (.invokevirtual 189, 3) := by decide +kernel
theorem dX6_state_39 : decode cX6_state 39 = .ok (.ireturn, 1) := by decide +kernel
theorem dX6_advice_0 : decode cX6_advice 0 = .ok (.iload_n 1, 1) := by decide +kernel
theorem dX6_advice_1 : decode cX6_advice 1 = .ok (.iconst 0, 1) := by decide +kernel
theorem dX6_advice_2 : decode cX6_advice 2 = .ok (.iconst 3, 1) := by decide +kernel
theorem dX6_advice_3 : decode cX6_advice 3 = .ok (.invokestatic 44, 3) := by decide +kernel
theorem dX6_advice_6 : decode cX6_advice 6 = .ok (.ifCond .eq 6, 3) := by decide +kernel
theorem dX6_advice_9 : decode cX6_advice 9 = .ok (.ldc 62, 2) := by decide +kernel
theorem dX6_advice_11 : decode cX6_advice 11 = .ok (.ireturn, 1) := by decide +kernel
theorem dX6_advice_12 : decode cX6_advice 12 = .ok (.aload_n 0, 1) := by decide +kernel
theorem dX6_advice_13 : decode cX6_advice 13 = .ok (.getfield 33, 3) := by decide +kernel
theorem dX6_advice_16 : decode cX6_advice 16 = .ok (.iload_n 1, 1) := by decide +kernel
theorem dX6_advice_17 : decode cX6_advice 17 = .ok (.aload_n 0, 1) := by decide +kernel
theorem dX6_advice_18 : decode cX6_advice 18 = .ok (.getfield 33, 3) := by decide +kernel
theorem dX6_advice_21 : decode cX6_advice 21 = .ok (.getfield 108, 3) := by decide +kernel
theorem dX6_advice_24 : decode cX6_advice 24 = .ok (.invokevirtual 189, 3) := by decide +kernel
theorem dX6_advice_27 : decode cX6_advice 27 = .ok (.sipush 1000, 3) := by decide +kernel
theorem dX6_advice_30 : decode cX6_advice 30 = .ok (.idiv, 1) := by decide +kernel
theorem dX6_advice_31 : decode cX6_advice 31 = .ok (.ineg, 1) := by decide +kernel
theorem dX6_advice_32 : decode cX6_advice 32 = .ok (.ireturn, 1) := by decide +kernel
theorem dX6_offset_0 : decode cX6_offset 0 = .ok (.iload_n 1, 1) := by decide +kernel
theorem dX6_offset_1 : decode cX6_offset 1 = .ok (.iconst 0, 1) := by decide +kernel
theorem dX6_offset_2 : decode cX6_offset 2 = .ok (.iconst 3, 1) := by decide +kernel
theorem dX6_offset_3 : decode cX6_offset 3 = .ok (.invokestatic 44, 3) := by decide +kernel
theorem dX6_offset_6 : decode cX6_offset 6 = .ok (.ifCond .eq 6, 3) := by decide +kernel
theorem dX6_offset_9 : decode cX6_offset 9 = .ok (.ldc 62, 2) := by decide +kernel
theorem dX6_offset_11 : decode cX6_offset 11 = .ok (.ireturn, 1) := by decide +kernel
theorem dX6_offset_12 : decode cX6_offset 12 = .ok (.iload_n 2, 1) := by decide +kernel
theorem dX6_offset_13 : decode cX6_offset 13 = .ok (.iconst 0, 1) := by decide +kernel
theorem dX6_offset_14 : decode cX6_offset 14 = .ok (.iconst 5, 1) := by decide +kernel
theorem dX6_offset_15 : decode cX6_offset 15 = .ok (.invokestatic 44, 3) := by decide +kernel
theorem dX6_offset_18 : decode cX6_offset 18 = .ok (.ifCond .ne 16, 3) := by decide +kernel
theorem dX6_offset_21 : decode cX6_offset 21 = .ok (.iload_n 3, 1) := by decide +kernel
theorem dX6_offset_22 : decode cX6_offset 22 = .ok (.sipush (-999), 3) := by decide +kernel
theorem dX6_offset_25 : decode cX6_offset 25 = .ok (.sipush 999, 3) := by decide +kernel
theorem dX6_offset_28 : decode cX6_offset 28 = .ok (.invokestatic 44, 3) := by decide +kernel
theorem dX6_offset_31 : decode cX6_offset 31 = .ok (.ifCond .eq 6, 3) := by decide +kernel
theorem dX6_offset_34 : decode cX6_offset 34 = .ok (.ldc 48, 2) := by decide +kernel
theorem dX6_offset_36 : decode cX6_offset 36 = .ok (.ireturn, 1) := by decide +kernel
theorem dX6_offset_37 : decode cX6_offset 37 = .ok (.aload_n 0, 1) := by decide +kernel
theorem dX6_offset_38 : decode cX6_offset 38 = .ok (.getfield 40, 3) := by decide +kernel
theorem dX6_offset_41 : decode cX6_offset 41 = .ok (.getfield 192, 3) := by decide +kernel
theorem dX6_offset_44 : decode cX6_offset 44 = .ok (.iload_n 1, 1) := by decide +kernel
theorem dX6_offset_45 : decode cX6_offset 45 = .ok (.aaload, 1) := by decide +kernel
theorem dX6_offset_46 : decode cX6_offset 46 = .ok (.iload_n 2, 1) := by decide +kernel
theorem dX6_offset_47 : decode cX6_offset 47 = .ok (.iaload, 1) := by decide +kernel
theorem dX6_offset_48 : decode cX6_offset 48 = .ok (.istore 4, 2) := by decide +kernel
theorem dX6_offset_50 : decode cX6_offset 50 = .ok (.aload_n 0, 1) := by decide +kernel
theorem dX6_offset_51 : decode cX6_offset 51 = .ok (.getfield 40, 3) := by decide +kernel
theorem dX6_offset_54 : decode cX6_offset 54 = .ok (.getfield 192, 3) := by decide +kernel
theorem dX6_offset_57 : decode cX6_offset 57 = .ok (.iload_n 1, 1) := by decide +kernel
theorem dX6_offset_58 : decode cX6_offset 58 = .ok (.aaload, 1) := by decide +kernel
theorem dX6_offset_59 : decode cX6_offset 59 = .ok (.iload_n 2, 1) := by decide +kernel
theorem dX6_offset_60 : decode cX6_offset 60 = .ok (.iload_n 3, 1) := by decide +kernel
theorem dX6_offset_61 : decode cX6_offset 61 = .ok (.iastore, 1) := by decide +kernel
theorem dX6_offset_62 : decode cX6_offset 62 = .ok (.iload 4, 2) := by decide +kernel
theorem dX6_offset_64 : decode cX6_offset 64 = .ok (.ireturn, 1) := by decide +kernel
theorem dX6_rule_0 : decode cX6_rule 0 = .ok (.iload_n 1, 1) := by decide +kernel
theorem dX6_rule_1 : decode cX6_rule 1 = .ok (.ifCond .ne 32, 3) := by decide +kernel
theorem dX6_rule_4 : decode cX6_rule 4 = .ok (.iload_n 2, 1) := by decide +kernel
theorem dX6_rule_5 : decode cX6_rule 5 = .ok (.iconst 0, 1) := by decide +kernel
theorem dX6_rule_6 : decode cX6_rule 6 = .ok (.sipush 1998, 3) := by decide +kernel
theorem dX6_rule_9 : decode cX6_rule 9 = .ok (.invokestatic 44, 3) := by decide +kernel
theorem dX6_rule_12 : decode cX6_rule 12 = .ok (.ifCond .ne 21, 3) := by decide +kernel
theorem dX6_rule_15 : decode cX6_rule 15 = .ok (.aload_n 0, 1) := by decide +kernel
theorem dX6_rule_16 : decode cX6_rule 16 = .ok (.getfield 40, 3) := by decide +kernel
theorem dX6_rule_19 : decode cX6_rule 19 = .ok (.getfield 195, 3) := by decide +kernel
theorem dX6_rule_22 : decode cX6_rule 22 = .ok (.istore_n 3, 1) := by decide +kernel
theorem dX6_rule_23 : decode cX6_rule 23 = .ok (.aload_n 0, 1) := by decide +kernel
theorem dX6_rule_24 : decode cX6_rule 24 = .ok (.getfield 40, 3) := by decide +kernel
theorem dX6_rule_27 : decode cX6_rule 27 = .ok (.iload_n 2, 1) := by decide +kernel
theorem dX6_rule_28 : decode cX6_rule 28 = .ok (.putfield 195, 3) := by decide +kernel
theorem dX6_rule_31 : decode cX6_rule 31 = .ok (.iload_n 3, 1) := by decide +kernel
theorem dX6_rule_32 : decode cX6_rule 32 = .ok (.ireturn, 1) := by decide +kernel
theorem dX6_rule_33 : decode cX6_rule 33 = .ok (.iload_n 1, 1) := by decide +kernel
theorem dX6_rule_34 : decode cX6_rule 34 = .ok (.iconst 1, 1) := by decide +kernel
theorem dX6_rule_35 : decode cX6_rule 35 = .ok (.if_icmp .ne 31, 3) := by decide +kernel
theorem dX6_rule_38 : decode cX6_rule 38 = .ok (.iload_n 2, 1) := by decide +kernel
theorem dX6_rule_39 : decode cX6_rule 39 = .ok (.iconst 1, 1) := by decide +kernel
theorem dX6_rule_40 : decode cX6_rule 40 = .ok (.bipush 6, 2) := by decide +kernel
theorem dX6_rule_42 : decode cX6_rule 42 = .ok (.invokestatic 44, 3) := by decide +kernel
theorem dX6_rule_45 : decode cX6_rule 45 = .ok (.ifCond .ne 21, 3) := by decide +kernel
theorem dX6_rule_48 : decode cX6_rule 48 = .ok (.aload_n 0, 1) := by decide +kernel
theorem dX6_rule_49 : decode cX6_rule 49 = .ok (.getfield 40, 3) := by decide +kernel
theorem dX6_rule_52 : decode cX6_rule 52 = .ok (.getfield 198, 3) := by decide +kernel
theorem dX6_rule_55 : decode cX6_rule 55 = .ok (.istore_n 3, 1) := by decide +kernel
theorem dX6_rule_56 : decode cX6_rule 56 = .ok (.aload_n 0, 1) := by decide +kernel
theorem dX6_rule_57 : decode cX6_rule 57 = .ok (.getfield 40, 3) := by decide +kernel
theorem dX6_rule_60 : decode cX6_rule 60 = .ok (.iload_n 2, 1) := by decide +kernel
theorem dX6_rule_61 : decode cX6_rule 61 = .ok (.putfield 198, 3) := by decide +kernel
theorem dX6_rule_64 : decode cX6_rule 64 = .ok (.iload_n 3, 1) := by decide +kernel
theorem dX6_rule_65 : decode cX6_rule 65 = .ok (.ireturn, 1) := by decide +kernel
theorem dX6_rule_66 : decode cX6_rule 66 = .ok (.ldc 48, 2) := by decide +kernel
theorem dX6_rule_68 : decode cX6_rule 68 = .ok (.ireturn, 1) := by decide +kernel
theorem dX6_route_0 : decode cX6_route 0 = .ok (.iload_n 1, 1) := by decide +kernel
theorem dX6_route_1 : decode cX6_route 1 = .ok (.iconst 1, 1) := by decide +kernel
theorem dX6_route_2 : decode cX6_route 2 = .ok (.bipush 6, 2) := by decide +kernel
theorem dX6_route_4 : decode cX6_route 4 = .ok (.invokestatic 44, 3) := by decide +kernel
theorem dX6_route_7 : decode cX6_route 7 = .ok (.ifCond .ne 14, 3) := by decide +kernel
theorem dX6_route_10 : decode cX6_route 10 = .ok (.iload_n 2, 1) := by decide +kernel
theorem dX6_route_11 : decode cX6_route 11 = .ok (.iconst (-1), 1) := by decide +kernel
theorem dX6_route_12 : decode cX6_route 12 = .ok (.iload_n 1, 1) := by decide +kernel
theorem dX6_route_13 : decode cX6_route 13 = .ok (.iconst 1, 1) := by decide +kernel
theorem dX6_route_14 : decode cX6_route 14 = .ok (.isub, 1) := by decide +kernel
theorem dX6_route_15 : decode cX6_route 15 = .ok (.invokestatic 44, 3) := by decide +kernel
theorem dX6_route_18 : decode cX6_route 18 = .ok (.ifCond .eq 6, 3) := by decide +kernel
theorem dX6_route_21 : decode cX6_route 21 = .ok (.ldc 48, 2) := by decide +kernel
theorem dX6_route_23 : decode cX6_route 23 = .ok (.ireturn, 1) := by decide +kernel
theorem dX6_route_24 : decode cX6_route 24 = .ok (.aload_n 0, 1) := by decide +kernel
theorem dX6_route_25 : decode cX6_route 25 = .ok (.getfield 40, 3) := by decide +kernel
theorem dX6_route_28 : decode cX6_route 28 = .ok (.iload_n 1, 1) := by decide +kernel
theorem dX6_route_29 : decode cX6_route 29 = .ok (.invokevirtual 201, 3) := by decide +kernel
theorem dX6_route_32 : decode cX6_route 32 = .ok (.ifCond .ne 6, 3) := by decide +kernel
theorem dX6_route_35 : decode cX6_route 35 = .ok (.ldc 160, 2) := by decide +kernel
theorem dX6_route_37 : decode cX6_route 37 = .ok (.ireturn, 1) := by decide +kernel
theorem dX6_route_38 : decode cX6_route 38 = .ok (.iload_n 2, 1) := by decide +kernel
theorem dX6_route_39 : decode cX6_route 39 = .ok (.iconst (-1), 1) := by decide +kernel
theorem dX6_route_40 : decode cX6_route 40 = .ok (.if_icmp .ne 13, 3) := by decide +kernel
theorem dX6_route_43 : decode cX6_route 43 = .ok (.aload_n 0, 1) := by decide +kernel
theorem dX6_route_44 : decode cX6_route 44 = .ok (.getfield 40, 3) := by decide +kernel
theorem dX6_route_47 : decode cX6_route 47 = .ok (.getfield 203, 3) := by decide +kernel
theorem dX6_route_50 : decode cX6_route 50 = .ok (.goto 12, 3) := by decide +kernel
theorem dX6_route_53 : decode cX6_route 53 = .ok (.aload_n 0, 1) := by decide +kernel
theorem dX6_route_54 : decode cX6_route 54 = .ok (.getfield 40, 3) := by decide +kernel
theorem dX6_route_57 : decode cX6_route 57 = .ok (.getfield 206, 3) := by decide +kernel
theorem dX6_route_60 : decode cX6_route 60 = .ok (.iload_n 2, 1) := by decide +kernel
theorem dX6_route_61 : decode cX6_route 61 = .ok (.iaload, 1) := by decide +kernel
theorem dX6_route_62 : decode cX6_route 62 = .ok (.ireturn, 1) := by decide +kernel
theorem dX6_bad_0 : decode cX6_bad 0 = .ok (.iload_n 1, 1) := by decide +kernel
theorem dX6_bad_1 : decode cX6_bad 1 = .ok (.iconst 0, 1) := by decide +kernel
theorem dX6_bad_2 : decode cX6_bad 2 = .ok (.iconst 2, 1) := by decide +kernel
theorem dX6_bad_3 : decode cX6_bad 3 = .ok (.invokestatic 44, 3) := by decide +kernel
theorem dX6_bad_6 : decode cX6_bad 6 = .ok (.ifCond .ne 23, 3) := by decide +kernel
theorem dX6_bad_9 : decode cX6_bad 9 = .ok (.iload_n 2, 1) := by decide +kernel
theorem dX6_bad_10 : decode cX6_bad 10 = .ok (.iconst 0, 1) := by decide +kernel
theorem dX6_bad_11 : decode cX6_bad 11 = .ok (.sipush 999, 3) := by decide +kernel
theorem dX6_bad_14 : decode cX6_bad 14 = .ok (.invokestatic 44, 3) := by decide +kernel
theorem dX6_bad_17 : decode cX6_bad 17 = .ok (.ifCond .ne 12, 3) := by decide +kernel
theorem dX6_bad_20 : decode cX6_bad 20 = .ok (.iload_n 3, 1) := by decide +kernel
theorem dX6_bad_21 : decode cX6_bad 21 = .ok (.iconst 0, 1) := by decide +kernel
theorem dX6_bad_22 : decode cX6_bad 22 = .ok (.iconst 2, 1) := by decide +kernel
theorem dX6_bad_23 : decode cX6_bad 23 = .ok (.invokestatic 44, 3) := by decide +kernel
theorem dX6_bad_26 : decode cX6_bad 26 = .ok (.ifCond .eq 6, 3) := by decide +kernel
theorem dX6_bad_29 : decode cX6_bad 29 = .ok (.ldc 48, 2) := by decide +kernel
theorem dX6_bad_31 : decode cX6_bad 31 = .ok (.ireturn, 1) := by decide +kernel
theorem dX6_bad_32 : decode cX6_bad 32 = .ok (.aload_n 0, 1) := by decide +kernel
theorem dX6_bad_33 : decode cX6_bad 33 = .ok (.getfield 10, 3) := by decide +kernel
theorem dX6_bad_36 : decode cX6_bad 36 = .ok (.invokevirtual 104, 3) := by decide +kernel
theorem dX6_bad_39 : decode cX6_bad 39 = .ok (.istore 4, 2) := by decide +kernel
theorem dX6_bad_41 : decode cX6_bad 41 = .ok (.aload_n 0, 1) := by decide +kernel
theorem dX6_bad_42 : decode cX6_bad 42 = .ok (.getfield 19, 3) := by decide +kernel
theorem dX6_bad_45 : decode cX6_bad 45 = .ok (.aload_n 0, 1) := by decide +kernel
theorem dX6_bad_46 : decode cX6_bad 46 = .ok (.getfield 10, 3) := by decide +kernel
theorem dX6_bad_49 : decode cX6_bad 49 = .ok (.iload_n 1, 1) := by decide +kernel
theorem dX6_bad_50 : decode cX6_bad 50 = .ok (.iload 4, 2) := by decide +kernel
theorem dX6_bad_52 : decode cX6_bad 52 = .ok (.invokevirtual 117, 3) := by decide +kernel
theorem dX6_bad_55 : decode cX6_bad 55 = .ok (.ifCond .ne 6, 3) := by decide +kernel
theorem dX6_bad_58 : decode cX6_bad 58 = .ok (.ldc 160, 2) := by decide +kernel
theorem dX6_bad_60 : decode cX6_bad 60 = .ok (.ireturn, 1) := by decide +kernel
theorem dX6_bad_61 : decode cX6_bad 61 = .ok (.aload_n 0, 1) := by decide +kernel
theorem dX6_bad_62 : decode cX6_bad 62 = .ok (.getfield 19, 3) := by decide +kernel
theorem dX6_bad_65 : decode cX6_bad 65 = .ok (.aload_n 0, 1) := by decide +kernel
theorem dX6_bad_66 : decode cX6_bad 66 = .ok (.getfield 10, 3) := by decide +kernel
theorem dX6_bad_69 : decode cX6_bad 69 = .ok (.iload 4, 2) := by decide +kernel
theorem dX6_bad_71 : decode cX6_bad 71 = .ok (.iload_n 2, 1) := by decide +kernel
theorem dX6_bad_72 : decode cX6_bad 72 = .ok (.invokevirtual 208, 3) := by decide +kernel
theorem dX6_bad_75 : decode cX6_bad 75 = .ok (.istore 5, 2) := by decide +kernel
theorem dX6_bad_77 : decode cX6_bad 77 = .ok (.iload_n 3, 1) := by decide +kernel
theorem dX6_bad_78 : decode cX6_bad 78 = .ok (.ifCond .ne 9, 3) := by decide +kernel
theorem dX6_bad_81 : decode cX6_bad 81 = .ok (.iload 5, 2) := by decide +kernel
theorem dX6_bad_83 : decode cX6_bad 83 = .ok (.invokestatic 98, 3) := by decide +kernel
theorem dX6_bad_86 : decode cX6_bad 86 = .ok (.ireturn, 1) := by decide +kernel
theorem dX6_bad_87 : decode cX6_bad 87 = .ok (.aload_n 0, 1) := by decide +kernel
theorem dX6_bad_88 : decode cX6_bad 88 = .ok (.getfield 10, 3) := by decide +kernel
theorem dX6_bad_91 : decode cX6_bad 91 = .ok (.iload 5, 2) := by decide +kernel
theorem dX6_bad_93 : decode cX6_bad 93 = .ok (.invokevirtual 112, 3) := by decide +kernel
theorem dX6_bad_96 : decode cX6_bad 96 = .ok (.istore 6, 2) := by decide +kernel
theorem dX6_bad_98 : decode cX6_bad 98 = .ok (.iload_n 3, 1) := by decide +kernel
theorem dX6_bad_99 : decode cX6_bad 99 = .ok (.iconst 1, 1) := by decide +kernel
theorem dX6_bad_100 : decode cX6_bad 100 = .ok (.if_icmp .ne 6, 3) := by decide +kernel
theorem dX6_bad_103 : decode cX6_bad 103 = .ok (.iload 6, 2) := by decide +kernel
theorem dX6_bad_105 : decode cX6_bad 105 = .ok (.ireturn, 1) := by decide +kernel
theorem dX6_bad_106 : decode cX6_bad 106 = .ok (.iconst 2, 1) := by decide +kernel
theorem dX6_bad_107 : decode cX6_bad 107 = .ok (.iload 6, 2) := by decide +kernel
theorem dX6_bad_109 : decode cX6_bad 109 = .ok (.imul, 1) := by decide +kernel
theorem dX6_bad_110 : decode cX6_bad 110 = .ok (.aload_n 0, 1) := by decide +kernel
theorem dX6_bad_111 : decode cX6_bad 111 = .ok (.getfield 10, 3) := by decide +kernel
theorem dX6_bad_114 : decode cX6_bad 114 = .ok (.iload 4, 2) := by decide +kernel
theorem dX6_bad_116 : decode cX6_bad 116 = .ok (.invokevirtual 112, 3) := by decide +kernel
theorem dX6_bad_119 : decode cX6_bad 119 = .ok (.if_icmp .le 7, 3) := by decide +kernel
theorem dX6_bad_122 : decode cX6_bad 122 = .ok (.iconst 1, 1) := by decide +kernel
theorem dX6_bad_123 : decode cX6_bad 123 = .ok (.goto 4, 3) := by decide +kernel
theorem dX6_bad_126 : decode cX6_bad 126 = .ok (.iconst 0, 1) := by decide +kernel
theorem dX6_bad_127 : decode cX6_bad 127 = .ok (.ireturn, 1) := by decide +kernel
theorem dX6_outside_0 : decode cX6_outside 0 = .ok (.iload_n 0, 1) := by decide +kernel
theorem dX6_outside_1 : decode cX6_outside 1 = .ok (.iload_n 1, 1) := by decide +kernel
theorem dX6_outside_2 : decode cX6_outside 2 = .ok (.if_icmp .lt 8, 3) := by decide +kernel
theorem dX6_outside_5 : decode cX6_outside 5 = .ok (.iload_n 0, 1) := by decide +kernel
theorem dX6_outside_6 : decode cX6_outside 6 = .ok (.iload_n 2, 1) := by decide +kernel
theorem dX6_outside_7 : decode cX6_outside 7 = .ok (.if_icmp .le 7, 3) := by decide +kernel
theorem dX6_outside_10 : decode cX6_outside 10 = .ok (.iconst 1, 1) := by decide +kernel
theorem dX6_outside_11 : decode cX6_outside 11 = .ok (.goto 4, 3) := by decide +kernel
theorem dX6_outside_14 : decode cX6_outside 14 = .ok (.iconst 0, 1) := by decide +kernel
theorem dX6_outside_15 : decode cX6_outside 15 = .ok (.ireturn, 1) := by decide +kernel
theorem dX6_outsideFit_0 : decode cX6_outsideFit 0 = .ok (.iload_n 0, 1) := by decide +kernel
theorem dX6_outsideFit_1 : decode cX6_outsideFit 1 = .ok (.iconst 0, 1) := by decide +kernel
theorem dX6_outsideFit_2 : decode cX6_outsideFit 2 = .ok (.iconst 2, 1) := by decide +kernel
theorem dX6_outsideFit_3 : decode cX6_outsideFit 3 = .ok (.invokestatic 44, 3) := by decide +kernel
theorem dX6_outsideFit_6 : decode cX6_outsideFit 6 = .ok (.ifCond .ne 21, 3) := by decide +kernel
theorem dX6_outsideFit_9 : decode cX6_outsideFit 9 = .ok (.iload_n 1, 1) := by decide +kernel
theorem dX6_outsideFit_10 : decode cX6_outsideFit 10 = .ok (.iconst 0, 1) := by decide +kernel
theorem dX6_outsideFit_11 : decode cX6_outsideFit 11 = .ok (.iconst 1, 1) := by decide +kernel
theorem dX6_outsideFit_12 : decode cX6_outsideFit 12 = .ok (.invokestatic 44, 3) := by decide +kernel
theorem dX6_outsideFit_15 : decode cX6_outsideFit 15 = .ok (.ifCond .ne 12, 3) := by decide +kernel
theorem dX6_outsideFit_18 : decode cX6_outsideFit 18 = .ok (.iload_n 2, 1) := by decide +kernel
theorem dX6_outsideFit_19 : decode cX6_outsideFit 19 = .ok (.iconst 0, 1) := by decide +kernel
theorem dX6_outsideFit_20 : decode cX6_outsideFit 20 = .ok (.iconst 1, 1) := by decide +kernel
theorem dX6_outsideFit_21 : decode cX6_outsideFit 21 = .ok (.invokestatic 44, 3) := by decide +kernel
theorem dX6_outsideFit_24 : decode cX6_outsideFit 24 = .ok (.ifCond .eq 7, 3) := by decide +kernel
theorem dX6_outsideFit_27 : decode cX6_outsideFit 27 = .ok (.iconst 1, 1) := by decide +kernel
theorem dX6_outsideFit_28 : decode cX6_outsideFit 28 = .ok (.goto 4, 3) := by decide +kernel
theorem dX6_outsideFit_31 : decode cX6_outsideFit 31 = .ok (.iconst 0, 1) := by decide +kernel
theorem dX6_outsideFit_32 : decode cX6_outsideFit 32 = .ok (.ireturn, 1) := by decide +kernel
theorem dX6_lastTerm_0 : decode cX6_lastTerm 0 = .ok (.iload_n 0, 1) := by decide +kernel
theorem dX6_lastTerm_1 : decode cX6_lastTerm 1 = .ok (.ifCond .ne 7, 3) := by decide +kernel
theorem dX6_lastTerm_4 : decode cX6_lastTerm 4 = .ok (.iconst 0, 1) := by decide +kernel
theorem dX6_lastTerm_5 : decode cX6_lastTerm 5 = .ok (.goto 4, 3) := by decide +kernel
theorem dX6_lastTerm_8 : decode cX6_lastTerm 8 = .ok (.iconst 2, 1) := by decide +kernel
theorem dX6_lastTerm_9 : decode cX6_lastTerm 9 = .ok (.ireturn, 1) := by decide +kernel
theorem dX6_isIn_0 : decode cX6_isIn 0 = .ok (.iload_n 0, 1) := by decide +kernel
theorem dX6_isIn_1 : decode cX6_isIn 1 = .ok (.iload_n 1, 1) := by decide +kernel
theorem dX6_isIn_2 : decode cX6_isIn 2 = .ok (.ishr, 1) := by decide +kernel
theorem dX6_isIn_3 : decode cX6_isIn 3 = .ok (.iconst 1, 1) := by decide +kernel
theorem dX6_isIn_4 : decode cX6_isIn 4 = .ok (.iand, 1) := by decide +kernel
theorem dX6_isIn_5 : decode cX6_isIn 5 = .ok (.ifCond .eq 7, 3) := by decide +kernel
theorem dX6_isIn_8 : decode cX6_isIn 8 = .ok (.iconst 1, 1) := by decide +kernel
theorem dX6_isIn_9 : decode cX6_isIn 9 = .ok (.goto 4, 3) := by decide +kernel
theorem dX6_isIn_12 : decode cX6_isIn 12 = .ok (.iconst 0, 1) := by decide +kernel
theorem dX6_isIn_13 : decode cX6_isIn 13 = .ok (.ireturn, 1) := by decide +kernel
theorem dX6_partOf_0 : decode cX6_partOf 0 = .ok (.lload_n 0, 1) := by decide +kernel
theorem dX6_partOf_1 : decode cX6_partOf 1 = .ok (.invokestatic 211, 3) := by decide +kernel
theorem dX6_partOf_4 : decode cX6_partOf 4 = .ok (.lload_n 2, 1) := by decide +kernel
theorem dX6_partOf_5 : decode cX6_partOf 5 = .ok (.invokestatic 217, 3) := by decide +kernel
theorem dX6_partOf_8 : decode cX6_partOf 8 = .ok (.lstore 5, 2) := by decide +kernel
theorem dX6_partOf_10 : decode cX6_partOf 10 = .ok (.lload 5, 2) := by decide +kernel
theorem dX6_partOf_12 : decode cX6_partOf 12 = .ok (.lconst 0, 1) := by decide +kernel
theorem dX6_partOf_13 : decode cX6_partOf 13 = .ok (.lcmp, 1) := by decide +kernel
theorem dX6_partOf_14 : decode cX6_partOf 14 = .ok (.ifCond .ne 5, 3) := by decide +kernel
theorem dX6_partOf_17 : decode cX6_partOf 17 = .ok (.lconst 0, 1) := by decide +kernel
theorem dX6_partOf_18 : decode cX6_partOf 18 = .ok (.lreturn, 1) := by decide +kernel
theorem dX6_partOf_19 : decode cX6_partOf 19 = .ok (.iload 4, 2) := by decide +kernel
theorem dX6_partOf_21 : decode cX6_partOf 21 = .ok (.ifCond .ne 7, 3) := by decide +kernel
theorem dX6_partOf_24 : decode cX6_partOf 24 = .ok (.lload_n 0, 1) := by decide +kernel
theorem dX6_partOf_25 : decode cX6_partOf 25 = .ok (.goto 4, 3) := by decide +kernel
theorem dX6_partOf_28 : decode cX6_partOf 28 = .ok (.lload_n 2, 1) := by decide +kernel
theorem dX6_partOf_29 : decode cX6_partOf 29 = .ok (.lload 5, 2) := by decide +kernel
theorem dX6_partOf_31 : decode cX6_partOf 31 = .ok (.ldiv, 1) := by decide +kernel
theorem dX6_partOf_32 : decode cX6_partOf 32 = .ok (.lreturn, 1) := by decide +kernel
theorem dX6_commonDivisor_0 : decode cX6_commonDivisor 0 = .ok (.iconst 0, 1) := by decide +kernel
theorem dX6_commonDivisor_1 : decode cX6_commonDivisor 1 = .ok (.istore 4, 2) := by decide +kernel
theorem dX6_commonDivisor_3 : decode cX6_commonDivisor 3 = .ok (.iload 4, 2) := by decide +kernel
theorem dX6_commonDivisor_5 : decode cX6_commonDivisor 5 = .ok (.bipush 100, 2) := by decide +kernel
theorem dX6_commonDivisor_7 : decode cX6_commonDivisor 7 = .ok (.if_icmp .ge 25, 3) := by decide +kernel
theorem dX6_commonDivisor_10 : decode cX6_commonDivisor 10 = .ok (.lload_n 2, 1) := by decide +kernel
theorem dX6_commonDivisor_11 : decode cX6_commonDivisor 11 = .ok (.lconst 0, 1) := by decide +kernel
theorem dX6_commonDivisor_12 : decode cX6_commonDivisor 12 = .ok (.lcmp, 1) := by decide +kernel
theorem dX6_commonDivisor_13 : decode cX6_commonDivisor 13 = .ok (.ifCond .eq 19, 3) := by decide +kernel
theorem dX6_commonDivisor_16 : decode cX6_commonDivisor 16 = .ok (.lload_n 0, 1) := by decide +kernel
theorem dX6_commonDivisor_17 : decode cX6_commonDivisor 17 = .ok (.lload_n 2, 1) := by decide +kernel
theorem dX6_commonDivisor_18 : decode cX6_commonDivisor 18 = .ok (.lrem, 1) := by decide +kernel
theorem dX6_commonDivisor_19 : decode cX6_commonDivisor 19 = .ok (.lstore 5, 2) := by decide +kernel
theorem dX6_commonDivisor_21 : decode cX6_commonDivisor 21 = .ok (.lload_n 2, 1) := by decide +kernel
theorem dX6_commonDivisor_22 : decode cX6_commonDivisor 22 = .ok (.lstore_n 0, 1) := by decide +kernel
theorem dX6_commonDivisor_23 : decode cX6_commonDivisor 23 = .ok (.lload 5, 2) := by decide +kernel
theorem dX6_commonDivisor_25 : decode cX6_commonDivisor 25 = .ok (.lstore_n 2, 1) := by decide +kernel
theorem dX6_commonDivisor_26 : decode cX6_commonDivisor 26 = .ok (.iinc 4 1, 3) := by decide +kernel
theorem dX6_commonDivisor_29 : decode cX6_commonDivisor 29 = .ok (.goto (-26), 3) := by decide +kernel
theorem dX6_commonDivisor_32 : decode cX6_commonDivisor 32 = .ok (.lload_n 0, 1) := by decide +kernel
theorem dX6_commonDivisor_33 : decode cX6_commonDivisor 33 = .ok (.lreturn, 1) := by decide +kernel
theorem dX7_init_0 : decode cX7_init 0 = .ok (.aload_n 0, 1) := by decide +kernel
theorem dX7_init_1 : decode cX7_init 1 = .ok (.invokespecial 1, 3) := by decide +kernel
theorem dX7_init_4 : decode cX7_init 4 = .ok (.aload_n 0, 1) := by decide +kernel
theorem dX7_init_5 : decode cX7_init 5 = .ok (.bipush 48, 2) := by decide +kernel
theorem dX7_init_7 : decode cX7_init 7 = .ok (.newarray .int, 2) := by decide +kernel
theorem dX7_init_9 : decode cX7_init 9 = .ok (.putfield 7, 3) := by decide +kernel
theorem dX7_init_12 : decode cX7_init 12 = .ok (.aload_n 0, 1) := by decide +kernel
theorem dX7_init_13 : decode cX7_init 13 = .ok (.bipush 24, 2) := by decide +kernel
theorem dX7_init_15 : decode cX7_init 15 = .ok (.newarray .int, 2) := by decide +kernel
theorem dX7_init_17 : decode cX7_init 17 = .ok (.putfield 13, 3) := by decide +kernel
theorem dX7_init_20 : decode cX7_init 20 = .ok (.aload_n 0, 1) := by decide +kernel
theorem dX7_init_21 : decode cX7_init 21 = .ok (.bipush 12, 2) := by decide +kernel
theorem dX7_init_23 : decode cX7_init 23 = .ok (.newarray .boolean, 2) := by decide +kernel
theorem dX7_init_25 : decode cX7_init 25 = .ok (.putfield 16, 3) := by decide +kernel
theorem dX7_init_28 : decode cX7_init 28 = .ok (.aload_n 0, 1) := by decide +kernel
theorem dX7_init_29 : decode cX7_init 29 = .ok (.bipush 12, 2) := by decide +kernel
theorem dX7_init_31 : decode cX7_init 31 = .ok (.newarray .boolean, 2) := by decide +kernel
theorem dX7_init_33 : decode cX7_init 33 = .ok (.putfield 20, 3) := by decide +kernel
theorem dX7_init_36 : decode cX7_init 36 = .ok (.aload_n 0, 1) := by decide +kernel
theorem dX7_init_37 : decode cX7_init 37 = .ok (.bipush 60, 2) := by decide +kernel
theorem dX7_init_39 : decode cX7_init 39 = .ok (.newarray .int, 2) := by decide +kernel
theorem dX7_init_41 : decode cX7_init 41 = .ok (.putfield 23, 3) := by decide +kernel
theorem dX7_init_44 : decode cX7_init 44 = .ok (.aload_n 0, 1) := by decide +kernel
theorem dX7_init_45 : decode cX7_init 45 = .ok (.bipush 60, 2) := by decide +kernel
theorem dX7_init_47 : decode cX7_init 47 = .ok (.newarray .int, 2) := by decide +kernel
theorem dX7_init_49 : decode cX7_init 49 = .ok (.putfield 26, 3) := by decide +kernel
theorem dX7_init_52 : decode cX7_init 52 = .ok (.aload_n 0, 1) := by decide +kernel
theorem dX7_init_53 : decode cX7_init 53 = .ok (.bipush 60, 2) := by decide +kernel
theorem dX7_init_55 : decode cX7_init 55 = .ok (.newarray .int, 2) := by decide +kernel
theorem dX7_init_57 : decode cX7_init 57 = .ok (.putfield 29, 3) := by decide +kernel
theorem dX7_init_60 : decode cX7_init 60 = .ok (.aload_n 0, 1) := by decide +kernel
theorem dX7_init_61 : decode cX7_init 61 = .ok (.bipush 60, 2) := by decide +kernel
theorem dX7_init_63 : decode cX7_init 63 = .ok (.newarray .boolean, 2) := by decide +kernel
theorem dX7_init_65 : decode cX7_init 65 = .ok (.putfield 32, 3) := by decide +kernel
theorem dX7_init_68 : decode cX7_init 68 = .ok (.aload_n 0, 1) := by decide +kernel
theorem dX7_init_69 : decode cX7_init 69 = .ok (.sipush 244, 3) := by decide +kernel
theorem dX7_init_72 : decode cX7_init 72 = .ok (.newarray .boolean, 2) := by decide +kernel
theorem dX7_init_74 : decode cX7_init 74 = .ok (.putfield 35, 3) := by decide +kernel
theorem dX7_init_77 : decode cX7_init 77 = .ok (.aload_n 0, 1) := by decide +kernel
theorem dX7_init_78 : decode cX7_init 78 = .ok (.bipush 8, 2) := by decide +kernel
theorem dX7_init_80 : decode cX7_init 80 = .ok (.putfield 38, 3) := by decide +kernel
theorem dX7_init_83 : decode cX7_init 83 = .ok (.aload_n 0, 1) := by decide +kernel
theorem dX7_init_84 : decode cX7_init 84 = .ok (.bipush 24, 2) := by decide +kernel
theorem dX7_init_86 : decode cX7_init 86 = .ok (.newarray .int, 2) := by decide +kernel
theorem dX7_init_88 : decode cX7_init 88 = .ok (.putfield 42, 3) := by decide +kernel
theorem dX7_init_91 : decode cX7_init 91 = .ok (.aload_n 0, 1) := by decide +kernel
theorem dX7_init_92 : decode cX7_init 92 = .ok (.bipush 100, 2) := by decide +kernel
theorem dX7_init_94 : decode cX7_init 94 = .ok (.putfield 45, 3) := by decide +kernel
theorem dX7_init_97 : decode cX7_init 97 = .ok (.aload_n 0, 1) := by decide +kernel
theorem dX7_init_98 : decode cX7_init 98 = .ok (.bipush 6, 2) := by decide +kernel
theorem dX7_init_100 : decode cX7_init 100 = .ok (.putfield 48, 3) := by decide +kernel
theorem dX7_init_103 : decode cX7_init 103 = .ok (.aload_n 0, 1) := by decide +kernel
theorem dX7_init_104 : decode cX7_init 104 = .ok (.bipush 9, 2) := by decide +kernel
theorem dX7_init_106 : decode cX7_init 106 = .ok (.newarray .long, 2) := by decide +kernel
theorem dX7_init_108 : decode cX7_init 108 = .ok (.putfield 51, 3) := by decide +kernel
theorem dX7_init_111 : decode cX7_init 111 = .ok (.aload_n 0, 1) := by decide +kernel
theorem dX7_init_112 : decode cX7_init 112 = .ok (.bipush 9, 2) := by decide +kernel
theorem dX7_init_114 : decode cX7_init 114 = .ok (.newarray .long, 2) := by decide +kernel
theorem dX7_init_116 : decode cX7_init 116 = .ok (.putfield 55, 3) := by decide +kernel
theorem dX7_init_119 : decode cX7_init 119 = .ok (.aload_n 0, 1) := by decide +kernel
theorem dX7_init_120 : decode cX7_init 120 = .ok (.iconst 3, 1) := by decide +kernel
theorem dX7_init_121 : decode cX7_init 121 = .ok (.newarray .long, 2) := by decide +kernel
theorem dX7_init_123 : decode cX7_init 123 = .ok (.putfield 58, 3) := by decide +kernel
theorem dX7_init_126 : decode cX7_init 126 = .ok (.aload_n 0, 1) := by decide +kernel
theorem dX7_init_127 : decode cX7_init 127 = .ok (.iconst 3, 1) := by decide +kernel
theorem dX7_init_128 : decode cX7_init 128 = .ok (.newarray .long, 2) := by decide +kernel
theorem dX7_init_130 : decode cX7_init 130 = .ok (.putfield 61, 3) := by decide +kernel
theorem dX7_init_133 : decode cX7_init 133 = .ok (.aload_n 0, 1) := by decide +kernel
theorem dX7_init_134 : decode cX7_init 134 = .ok (.bipush 12, 2) := by decide +kernel
theorem dX7_init_136 : decode cX7_init 136 = .ok (.newarray .long, 2) := by decide +kernel
theorem dX7_init_138 : decode cX7_init 138 = .ok (.putfield 64, 3) := by decide +kernel
theorem dX7_init_141 : decode cX7_init 141 = .ok (.aload_n 0, 1) := by decide +kernel
theorem dX7_init_142 : decode cX7_init 142 = .ok (.bipush 6, 2) := by decide +kernel
theorem dX7_init_144 : decode cX7_init 144 = .ok (.newarray .int, 2) := by decide +kernel
theorem dX7_init_146 : decode cX7_init 146 = .ok (.putfield 67, 3) := by decide +kernel
theorem dX7_init_149 : decode cX7_init 149 = .ok (.aload_n 0, 1) := by decide +kernel
theorem dX7_init_150 : decode cX7_init 150 = .ok (.iconst 4, 1) := by decide +kernel
theorem dX7_init_151 : decode cX7_init 151 = .ok (.newarray .int, 2) := by decide +kernel
theorem dX7_init_153 : decode cX7_init 153 = .ok (.putfield 70, 3) := by decide +kernel
theorem dX7_init_156 : decode cX7_init 156 = .ok (.return_, 1) := by decide +kernel
theorem dX7_in_0 : decode cX7_in 0 = .ok (.lload_n 0, 1) := by decide +kernel
theorem dX7_in_1 : decode cX7_in 1 = .ok (.lload_n 2, 1) := by decide +kernel
theorem dX7_in_2 : decode cX7_in 2 = .ok (.lcmp, 1) := by decide +kernel
theorem dX7_in_3 : decode cX7_in 3 = .ok (.ifCond .lt 14, 3) := by decide +kernel
theorem dX7_in_6 : decode cX7_in 6 = .ok (.lload_n 0, 1) := by decide +kernel
theorem dX7_in_7 : decode cX7_in 7 = .ok (.lload 4, 2) := by decide +kernel
theorem dX7_in_9 : decode cX7_in 9 = .ok (.lcmp, 1) := by decide +kernel
theorem dX7_in_10 : decode cX7_in 10 = .ok (.ifCond .gt 7, 3) := by decide +kernel
theorem dX7_in_13 : decode cX7_in 13 = .ok (.iconst 1, 1) := by decide +kernel
theorem dX7_in_14 : decode cX7_in 14 = .ok (.goto 4, 3) := by decide +kernel
theorem dX7_in_17 : decode cX7_in 17 = .ok (.iconst 0, 1) := by decide +kernel
theorem dX7_in_18 : decode cX7_in 18 = .ok (.ireturn, 1) := by decide +kernel
theorem dX7_mark_0 : decode cX7_mark 0 = .ok (.iload_n 1, 1) := by decide +kernel
theorem dX7_mark_1 : decode cX7_mark 1 = .ok (.i2l, 1) := by decide +kernel
theorem dX7_mark_2 : decode cX7_mark 2 = .ok (.ldc2_w 73, 3) := by decide +kernel
theorem dX7_mark_5 : decode cX7_mark 5 = .ok (.ldc2_w 75, 3) := by decide +kernel
theorem dX7_mark_8 : decode cX7_mark 8 = .ok (.invokestatic 77, 3) := by decide +kernel
theorem dX7_mark_11 : decode cX7_mark 11 = .ok (.ifCond .eq 46, 3) := by decide +kernel
theorem dX7_mark_14 : decode cX7_mark 14 = .ok (.iload_n 2, 1) := by decide +kernel
theorem dX7_mark_15 : decode cX7_mark 15 = .ok (.i2l, 1) := by decide +kernel
theorem dX7_mark_16 : decode cX7_mark 16 = .ok (.ldc2_w 73, 3) := by decide +kernel
theorem dX7_mark_19 : decode cX7_mark 19 = .ok (.ldc2_w 75, 3) := by decide +kernel
theorem dX7_mark_22 : decode cX7_mark 22 = .ok (.invokestatic 77, 3) := by decide +kernel
theorem dX7_mark_25 : decode cX7_mark 25 = .ok (.ifCond .eq 32, 3) := by decide +kernel
theorem dX7_mark_28 : decode cX7_mark 28 = .ok (.iload_n 3, 1) := by decide +kernel
theorem dX7_mark_29 : decode cX7_mark 29 = .ok (.i2l, 1) := by decide +kernel
theorem dX7_mark_30 : decode cX7_mark 30 = .ok (.ldc2_w 81, 3) := by decide +kernel
theorem dX7_mark_33 : decode cX7_mark 33 = .ok (.ldc2_w 83, 3) := by decide +kernel
theorem dX7_mark_36 : decode cX7_mark 36 = .ok (.invokestatic 77, 3) := by decide +kernel
theorem dX7_mark_39 : decode cX7_mark 39 = .ok (.ifCond .eq 18, 3) := by decide +kernel
theorem dX7_mark_42 : decode cX7_mark 42 = .ok (.iload 4, 2) := by decide +kernel
theorem dX7_mark_44 : decode cX7_mark 44 = .ok (.i2l, 1) := by decide +kernel
theorem dX7_mark_45 : decode cX7_mark 45 = .ok (.ldc2_w 81, 3) := by decide +kernel
theorem dX7_mark_48 : decode cX7_mark 48 = .ok (.ldc2_w 83, 3) := by decide +kernel
theorem dX7_mark_51 : decode cX7_mark 51 = .ok (.invokestatic 77, 3) := by decide +kernel
theorem dX7_mark_54 : decode cX7_mark 54 = .ok (.ifCond .ne 6, 3) := by decide +kernel
theorem dX7_mark_57 : decode cX7_mark 57 = .ok (.ldc 85, 2) := by decide +kernel
theorem dX7_mark_59 : decode cX7_mark 59 = .ok (.ireturn, 1) := by decide +kernel
theorem dX7_mark_60 : decode cX7_mark 60 = .ok (.aload_n 0, 1) := by decide +kernel
theorem dX7_mark_61 : decode cX7_mark 61 = .ok (.getfield 86, 3) := by decide +kernel
theorem dX7_mark_64 : decode cX7_mark 64 = .ok (.bipush 12, 2) := by decide +kernel
theorem dX7_mark_66 : decode cX7_mark 66 = .ok (.if_icmp .ne 6, 3) := by decide +kernel
theorem dX7_mark_69 : decode cX7_mark 69 = .ok (.ldc 89, 2) := by decide +kernel
theorem dX7_mark_71 : decode cX7_mark 71 = .ok (.ireturn, 1) := by decide +kernel
theorem dX7_mark_72 : decode cX7_mark 72 = .ok (.aload_n 0, 1) := by decide +kernel
theorem dX7_mark_73 : decode cX7_mark 73 = .ok (.getfield 7, 3) := by decide +kernel
theorem dX7_mark_76 : decode cX7_mark 76 = .ok (.iconst 4, 1) := by decide +kernel
theorem dX7_mark_77 : decode cX7_mark 77 = .ok (.aload_n 0, 1) := by decide +kernel
theorem dX7_mark_78 : decode cX7_mark 78 = .ok (.getfield 86, 3) := by decide +kernel
theorem dX7_mark_81 : decode cX7_mark 81 = .ok (.imul, 1) := by decide +kernel
theorem dX7_mark_82 : decode cX7_mark 82 = .ok (.iload_n 1, 1) := by decide +kernel
theorem dX7_mark_83 : decode cX7_mark 83 = .ok (.iastore, 1) := by decide +kernel
theorem dX7_mark_84 : decode cX7_mark 84 = .ok (.aload_n 0, 1) := by decide +kernel
theorem dX7_mark_85 : decode cX7_mark 85 = .ok (.getfield 7, 3) := by decide +kernel
theorem dX7_mark_88 : decode cX7_mark 88 = .ok (.iconst 4, 1) := by decide +kernel
theorem dX7_mark_89 : decode cX7_mark 89 = .ok (.aload_n 0, 1) := by decide +kernel
theorem dX7_mark_90 : decode cX7_mark 90 = .ok (.getfield 86, 3) := by decide +kernel
theorem dX7_mark_93 : decode cX7_mark 93 = .ok (.imul, 1) := by decide +kernel
theorem dX7_mark_94 : decode cX7_mark 94 = .ok (.iconst 1, 1) := by decide +kernel
theorem dX7_mark_95 : decode cX7_mark 95 = .ok (.iadd, 1) := by decide +kernel
theorem dX7_mark_96 : decode cX7_mark 96 = .ok (.iload_n 2, 1) := by decide +kernel
theorem dX7_mark_97 : decode cX7_mark 97 = .ok (.iastore, 1) := by decide +kernel
theorem dX7_mark_98 : decode cX7_mark 98 = .ok (.aload_n 0, 1) := by decide +kernel
theorem dX7_mark_99 : decode cX7_mark 99 = .ok (.getfield 7, 3) := by decide +kernel
theorem dX7_mark_102 : decode cX7_mark 102 = .ok (.iconst 4, 1) := by decide +kernel
theorem dX7_mark_103 : decode cX7_mark 103 = .ok (.aload_n 0, 1) := by decide +kernel
theorem dX7_mark_104 : decode cX7_mark 104 = .ok (.getfield 86, 3) := by decide +kernel
theorem dX7_mark_107 : decode cX7_mark 107 = .ok (.imul, 1) := by decide +kernel
theorem dX7_mark_108 : decode cX7_mark 108 = .ok (.iconst 2, 1) := by decide +kernel
theorem dX7_mark_109 : decode cX7_mark 109 = .ok (.iadd, 1) := by decide +kernel
theorem dX7_mark_110 : decode cX7_mark 110 = .ok (.iload_n 3, 1) := by decide +kernel
theorem dX7_mark_111 : decode cX7_mark 111 = .ok (.iastore, 1) := by decide +kernel
theorem dX7_mark_112 : decode cX7_mark 112 = .ok (.aload_n 0, 1) := by decide +kernel
theorem dX7_mark_113 : decode cX7_mark 113 = .ok (.getfield 7, 3) := by decide +kernel
theorem dX7_mark_116 : decode cX7_mark 116 = .ok (.iconst 4, 1) := by decide +kernel
theorem dX7_mark_117 : decode cX7_mark 117 = .ok (.aload_n 0, 1) := by decide +kernel
theorem dX7_mark_118 : decode cX7_mark 118 = .ok (.getfield 86, 3) := by decide +kernel
theorem dX7_mark_121 : decode cX7_mark 121 = .ok (.imul, 1) := by decide +kernel
theorem dX7_mark_122 : decode cX7_mark 122 = .ok (.iconst 3, 1) := by decide +kernel
theorem dX7_mark_123 : decode cX7_mark 123 = .ok (.iadd, 1) := by decide +kernel
theorem dX7_mark_124 : decode cX7_mark 124 = .ok (.iload 4, 2) := by decide +kernel
theorem dX7_mark_126 : decode cX7_mark 126 = .ok (.iastore, 1) := by decide +kernel
theorem dX7_mark_127 : decode cX7_mark 127 = .ok (.aload_n 0, 1) := by decide +kernel
theorem dX7_mark_128 : decode cX7_mark 128 = .ok (.getfield 13, 3) := by decide +kernel
theorem dX7_mark_131 : decode cX7_mark 131 = .ok (.iconst 2, 1) := by decide +kernel
theorem dX7_mark_132 : decode cX7_mark 132 = .ok (.aload_n 0, 1) := by decide +kernel
theorem dX7_mark_133 : decode cX7_mark 133 = .ok (.getfield 86, 3) := by decide +kernel
theorem dX7_mark_136 : decode cX7_mark 136 = .ok (.imul, 1) := by decide +kernel
theorem dX7_mark_137 : decode cX7_mark 137 = .ok (.iconst 0, 1) := by decide +kernel
theorem dX7_mark_138 : decode cX7_mark 138 = .ok (.iastore, 1) := by decide +kernel
theorem dX7_mark_139 : decode cX7_mark 139 = .ok (.aload_n 0, 1) := by decide +kernel
theorem dX7_mark_140 : decode cX7_mark 140 = .ok (.getfield 13, 3) := by decide +kernel
theorem dX7_mark_143 : decode cX7_mark 143 = .ok (.iconst 2, 1) := by decide +kernel
theorem dX7_mark_144 : decode cX7_mark 144 = .ok (.aload_n 0, 1) := by decide +kernel
theorem dX7_mark_145 : decode cX7_mark 145 = .ok (.getfield 86, 3) := by decide +kernel
theorem dX7_mark_148 : decode cX7_mark 148 = .ok (.imul, 1) := by decide +kernel
theorem dX7_mark_149 : decode cX7_mark 149 = .ok (.iconst 1, 1) := by decide +kernel
theorem dX7_mark_150 : decode cX7_mark 150 = .ok (.iadd, 1) := by decide +kernel
theorem dX7_mark_151 : decode cX7_mark 151 = .ok (.iconst 0, 1) := by decide +kernel
theorem dX7_mark_152 : decode cX7_mark 152 = .ok (.iastore, 1) := by decide +kernel
theorem dX7_mark_153 : decode cX7_mark 153 = .ok (.aload_n 0, 1) := by decide +kernel
theorem dX7_mark_154 : decode cX7_mark 154 = .ok (.getfield 16, 3) := by decide +kernel
theorem dX7_mark_157 : decode cX7_mark 157 = .ok (.aload_n 0, 1) := by decide +kernel
theorem dX7_mark_158 : decode cX7_mark 158 = .ok (.getfield 86, 3) := by decide +kernel
theorem dX7_mark_161 : decode cX7_mark 161 = .ok (.iconst 1, 1) := by decide +kernel
theorem dX7_mark_162 : decode cX7_mark 162 = .ok (.bastore, 1) := by decide +kernel
theorem dX7_mark_163 : decode cX7_mark 163 = .ok (.aload_n 0, 1) := by decide +kernel
theorem dX7_mark_164 : decode cX7_mark 164 = .ok (.getfield 20, 3) := by decide +kernel
theorem dX7_mark_167 : decode cX7_mark 167 = .ok (.aload_n 0, 1) := by decide +kernel
theorem dX7_mark_168 : decode cX7_mark 168 = .ok (.getfield 86, 3) := by decide +kernel
theorem dX7_mark_171 : decode cX7_mark 171 = .ok (.iconst 0, 1) := by decide +kernel
theorem dX7_mark_172 : decode cX7_mark 172 = .ok (.bastore, 1) := by decide +kernel
theorem dX7_mark_173 : decode cX7_mark 173 = .ok (.aload_n 0, 1) := by decide +kernel
theorem dX7_mark_174 : decode cX7_mark 174 = .ok (.dup, 1) := by decide +kernel
theorem dX7_mark_175 : decode cX7_mark 175 = .ok (.getfield 86, 3) := by decide +kernel
theorem dX7_mark_178 : decode cX7_mark 178 = .ok (.iconst 1, 1) := by decide +kernel
theorem dX7_mark_179 : decode cX7_mark 179 = .ok (.iadd, 1) := by decide +kernel
theorem dX7_mark_180 : decode cX7_mark 180 = .ok (.putfield 86, 3) := by decide +kernel
theorem dX7_mark_183 : decode cX7_mark 183 = .ok (.aload_n 0, 1) := by decide +kernel
theorem dX7_mark_184 : decode cX7_mark 184 = .ok (.getfield 86, 3) := by decide +kernel
theorem dX7_mark_187 : decode cX7_mark 187 = .ok (.iconst 1, 1) := by decide +kernel
theorem dX7_mark_188 : decode cX7_mark 188 = .ok (.isub, 1) := by decide +kernel
theorem dX7_mark_189 : decode cX7_mark 189 = .ok (.ireturn, 1) := by decide +kernel
theorem dX7_isMark_0 : decode cX7_isMark 0 = .ok (.iload_n 1, 1) := by decide +kernel
theorem dX7_isMark_1 : decode cX7_isMark 1 = .ok (.i2l, 1) := by decide +kernel
theorem dX7_isMark_2 : decode cX7_isMark 2 = .ok (.lconst 0, 1) := by decide +kernel
theorem dX7_isMark_3 : decode cX7_isMark 3 = .ok (.aload_n 0, 1) := by decide +kernel
theorem dX7_isMark_4 : decode cX7_isMark 4 = .ok (.getfield 86, 3) := by decide +kernel
theorem dX7_isMark_7 : decode cX7_isMark 7 = .ok (.iconst 1, 1) := by decide +kernel
theorem dX7_isMark_8 : decode cX7_isMark 8 = .ok (.isub, 1) := by decide +kernel
theorem dX7_isMark_9 : decode cX7_isMark 9 = .ok (.i2l, 1) := by decide +kernel
theorem dX7_isMark_10 : decode cX7_isMark 10 = .ok (.invokestatic 77, 3) := by decide +kernel
theorem dX7_isMark_13 : decode cX7_isMark 13 = .ok (.ireturn, 1) := by decide +kernel
theorem dX7_read_0 : decode cX7_read 0 = .ok (.aload_n 0, 1) := by decide +kernel
theorem dX7_read_1 : decode cX7_read 1 = .ok (.iload_n 1, 1) := by decide +kernel
theorem dX7_read_2 : decode cX7_read 2 = .ok (.invokevirtual 90, 3) := by decide +kernel
theorem dX7_read_5 : decode cX7_read 5 = .ok (.ifCond .ne 6, 3) := by decide +kernel
theorem dX7_read_8 : decode cX7_read 8 = .ok (.ldc 94, 2) := by decide +kernel
theorem dX7_read_10 : decode cX7_read 10 = .ok (.ireturn, 1) := by decide +kernel
theorem dX7_read_11 : decode cX7_read 11 = .ok (.iload_n 2, 1) := by decide +kernel
theorem dX7_read_12 : decode cX7_read 12 = .ok (.i2l, 1) := by decide +kernel
theorem dX7_read_13 : decode cX7_read 13 = .ok (.ldc2_w 95, 3) := by decide +kernel
theorem dX7_read_16 : decode cX7_read 16 = .ok (.ldc2_w 97, 3) := by decide +kernel
theorem dX7_read_19 : decode cX7_read 19 = .ok (.invokestatic 77, 3) := by decide +kernel
theorem dX7_read_22 : decode cX7_read 22 = .ok (.ifCond .eq 17, 3) := by decide +kernel
theorem dX7_read_25 : decode cX7_read 25 = .ok (.iload_n 3, 1) := by decide +kernel
theorem dX7_read_26 : decode cX7_read 26 = .ok (.i2l, 1) := by decide +kernel
theorem dX7_read_27 : decode cX7_read 27 = .ok (.ldc2_w 95, 3) := by decide +kernel
theorem dX7_read_30 : decode cX7_read 30 = .ok (.ldc2_w 97, 3) := by decide +kernel
theorem dX7_read_33 : decode cX7_read 33 = .ok (.invokestatic 77, 3) := by decide +kernel
theorem dX7_read_36 : decode cX7_read 36 = .ok (.ifCond .ne 6, 3) := by decide +kernel
theorem dX7_read_39 : decode cX7_read 39 = .ok (.ldc 85, 2) := by decide +kernel
theorem dX7_read_41 : decode cX7_read 41 = .ok (.ireturn, 1) := by decide +kernel
theorem dX7_read_42 : decode cX7_read 42 = .ok (.aload_n 0, 1) := by decide +kernel
theorem dX7_read_43 : decode cX7_read 43 = .ok (.getfield 13, 3) := by decide +kernel
theorem dX7_read_46 : decode cX7_read 46 = .ok (.iconst 2, 1) := by decide +kernel
theorem dX7_read_47 : decode cX7_read 47 = .ok (.iload_n 1, 1) := by decide +kernel
theorem dX7_read_48 : decode cX7_read 48 = .ok (.imul, 1) := by decide +kernel
theorem dX7_read_49 : decode cX7_read 49 = .ok (.iload_n 2, 1) := by decide +kernel
theorem dX7_read_50 : decode cX7_read 50 = .ok (.iastore, 1) := by decide +kernel
theorem dX7_read_51 : decode cX7_read 51 = .ok (.aload_n 0, 1) := by decide +kernel
theorem dX7_read_52 : decode cX7_read 52 = .ok (.getfield 13, 3) := by decide +kernel
theorem dX7_read_55 : decode cX7_read 55 = .ok (.iconst 2, 1) := by decide +kernel
theorem dX7_read_56 : decode cX7_read 56 = .ok (.iload_n 1, 1) := by decide +kernel
theorem dX7_read_57 : decode cX7_read 57 = .ok (.imul, 1) := by decide +kernel
theorem dX7_read_58 : decode cX7_read 58 = .ok (.iconst 1, 1) := by decide +kernel
theorem dX7_read_59 : decode cX7_read 59 = .ok (.iadd, 1) := by decide +kernel
theorem dX7_read_60 : decode cX7_read 60 = .ok (.iload_n 3, 1) := by decide +kernel
theorem dX7_read_61 : decode cX7_read 61 = .ok (.iastore, 1) := by decide +kernel
theorem dX7_read_62 : decode cX7_read 62 = .ok (.aload_n 0, 1) := by decide +kernel
theorem dX7_read_63 : decode cX7_read 63 = .ok (.getfield 16, 3) := by decide +kernel
theorem dX7_read_66 : decode cX7_read 66 = .ok (.iload_n 1, 1) := by decide +kernel
theorem dX7_read_67 : decode cX7_read 67 = .ok (.iconst 0, 1) := by decide +kernel
theorem dX7_read_68 : decode cX7_read 68 = .ok (.bastore, 1) := by decide +kernel
theorem dX7_read_69 : decode cX7_read 69 = .ok (.aload_n 0, 1) := by decide +kernel
theorem dX7_read_70 : decode cX7_read 70 = .ok (.getfield 20, 3) := by decide +kernel
theorem dX7_read_73 : decode cX7_read 73 = .ok (.iload_n 1, 1) := by decide +kernel
theorem dX7_read_74 : decode cX7_read 74 = .ok (.iconst 0, 1) := by decide +kernel
theorem dX7_read_75 : decode cX7_read 75 = .ok (.bastore, 1) := by decide +kernel
theorem dX7_read_76 : decode cX7_read 76 = .ok (.iconst 1, 1) := by decide +kernel
theorem dX7_read_77 : decode cX7_read 77 = .ok (.ireturn, 1) := by decide +kernel
theorem dX7_lose_0 : decode cX7_lose 0 = .ok (.aload_n 0, 1) := by decide +kernel
theorem dX7_lose_1 : decode cX7_lose 1 = .ok (.iload_n 1, 1) := by decide +kernel
theorem dX7_lose_2 : decode cX7_lose 2 = .ok (.invokevirtual 90, 3) := by decide +kernel
theorem dX7_lose_5 : decode cX7_lose 5 = .ok (.ifCond .ne 6, 3) := by decide +kernel
theorem dX7_lose_8 : decode cX7_lose 8 = .ok (.ldc 94, 2) := by decide +kernel
theorem dX7_lose_10 : decode cX7_lose 10 = .ok (.ireturn, 1) := by decide +kernel
theorem dX7_lose_11 : decode cX7_lose 11 = .ok (.aload_n 0, 1) := by decide +kernel
theorem dX7_lose_12 : decode cX7_lose 12 = .ok (.getfield 16, 3) := by decide +kernel
theorem dX7_lose_15 : decode cX7_lose 15 = .ok (.iload_n 1, 1) := by decide +kernel
theorem dX7_lose_16 : decode cX7_lose 16 = .ok (.baload, 1) := by decide +kernel
theorem dX7_lose_17 : decode cX7_lose 17 = .ok (.ifCond .eq 7, 3) := by decide +kernel
theorem dX7_lose_20 : decode cX7_lose 20 = .ok (.iconst 0, 1) := by decide +kernel
theorem dX7_lose_21 : decode cX7_lose 21 = .ok (.goto 4, 3) := by decide +kernel
theorem dX7_lose_24 : decode cX7_lose 24 = .ok (.iconst 1, 1) := by decide +kernel
theorem dX7_lose_25 : decode cX7_lose 25 = .ok (.istore_n 2, 1) := by decide +kernel
theorem dX7_lose_26 : decode cX7_lose 26 = .ok (.aload_n 0, 1) := by decide +kernel
theorem dX7_lose_27 : decode cX7_lose 27 = .ok (.getfield 16, 3) := by decide +kernel
theorem dX7_lose_30 : decode cX7_lose 30 = .ok (.iload_n 1, 1) := by decide +kernel
theorem dX7_lose_31 : decode cX7_lose 31 = .ok (.iconst 1, 1) := by decide +kernel
theorem dX7_lose_32 : decode cX7_lose 32 = .ok (.bastore, 1) := by decide +kernel
theorem dX7_lose_33 : decode cX7_lose 33 = .ok (.aload_n 0, 1) := by decide +kernel
theorem dX7_lose_34 : decode cX7_lose 34 = .ok (.getfield 20, 3) := by decide +kernel
theorem dX7_lose_37 : decode cX7_lose 37 = .ok (.iload_n 1, 1) := by decide +kernel
theorem dX7_lose_38 : decode cX7_lose 38 = .ok (.iconst 0, 1) := by decide +kernel
theorem dX7_lose_39 : decode cX7_lose 39 = .ok (.bastore, 1) := by decide +kernel
theorem dX7_lose_40 : decode cX7_lose 40 = .ok (.aload_n 0, 1) := by decide +kernel
theorem dX7_lose_41 : decode cX7_lose 41 = .ok (.getfield 13, 3) := by decide +kernel
theorem dX7_lose_44 : decode cX7_lose 44 = .ok (.iconst 2, 1) := by decide +kernel
theorem dX7_lose_45 : decode cX7_lose 45 = .ok (.iload_n 1, 1) := by decide +kernel
theorem dX7_lose_46 : decode cX7_lose 46 = .ok (.imul, 1) := by decide +kernel
theorem dX7_lose_47 : decode cX7_lose 47 = .ok (.iconst 0, 1) := by decide +kernel
theorem dX7_lose_48 : decode cX7_lose 48 = .ok (.iastore, 1) := by decide +kernel
theorem dX7_lose_49 : decode cX7_lose 49 = .ok (.aload_n 0, 1) := by decide +kernel
theorem dX7_lose_50 : decode cX7_lose 50 = .ok (.getfield 13, 3) := by decide +kernel
theorem dX7_lose_53 : decode cX7_lose 53 = .ok (.iconst 2, 1) := by decide +kernel
theorem dX7_lose_54 : decode cX7_lose 54 = .ok (.iload_n 1, 1) := by decide +kernel
theorem dX7_lose_55 : decode cX7_lose 55 = .ok (.imul, 1) := by decide +kernel
theorem dX7_lose_56 : decode cX7_lose 56 = .ok (.iconst 1, 1) := by decide +kernel
theorem dX7_lose_57 : decode cX7_lose 57 = .ok (.iadd, 1) := by decide +kernel
theorem dX7_lose_58 : decode cX7_lose 58 = .ok (.iconst 0, 1) := by decide +kernel
theorem dX7_lose_59 : decode cX7_lose 59 = .ok (.iastore, 1) := by decide +kernel
theorem dX7_lose_60 : decode cX7_lose 60 = .ok (.iload_n 2, 1) := by decide +kernel
theorem dX7_lose_61 : decode cX7_lose 61 = .ok (.ireturn, 1) := by decide +kernel
theorem dX7_told_0 : decode cX7_told 0 = .ok (.aload_n 0, 1) := by decide +kernel
theorem dX7_told_1 : decode cX7_told 1 = .ok (.iload_n 1, 1) := by decide +kernel
theorem dX7_told_2 : decode cX7_told 2 = .ok (.invokevirtual 90, 3) := by decide +kernel
theorem dX7_told_5 : decode cX7_told 5 = .ok (.ifCond .ne 6, 3) := by decide +kernel
theorem dX7_told_8 : decode cX7_told 8 = .ok (.ldc 94, 2) := by decide +kernel
theorem dX7_told_10 : decode cX7_told 10 = .ok (.ireturn, 1) := by decide +kernel
theorem dX7_told_11 : decode cX7_told 11 = .ok (.iload_n 2, 1) := by decide +kernel
theorem dX7_told_12 : decode cX7_told 12 = .ok (.i2l, 1) := by decide +kernel
theorem dX7_told_13 : decode cX7_told 13 = .ok (.lconst 0, 1) := by decide +kernel
theorem dX7_told_14 : decode cX7_told 14 = .ok (.ldc2_w 99, 3) := by decide +kernel
theorem dX7_told_17 : decode cX7_told 17 = .ok (.invokestatic 77, 3) := by decide +kernel
theorem dX7_told_20 : decode cX7_told 20 = .ok (.ifCond .ne 6, 3) := by decide +kernel
theorem dX7_told_23 : decode cX7_told 23 = .ok (.ldc 85, 2) := by decide +kernel
theorem dX7_told_25 : decode cX7_told 25 = .ok (.ireturn, 1) := by decide +kernel
theorem dX7_told_26 : decode cX7_told 26 = .ok (.iload_n 2, 1) := by decide +kernel
theorem dX7_told_27 : decode cX7_told 27 = .ok (.iconst 4, 1) := by decide +kernel
theorem dX7_told_28 : decode cX7_told 28 = .ok (.if_icmp .ge 16, 3) := by decide +kernel
theorem dX7_told_31 : decode cX7_told 31 = .ok (.aload_n 0, 1) := by decide +kernel
theorem dX7_told_32 : decode cX7_told 32 = .ok (.getfield 7, 3) := by decide +kernel
theorem dX7_told_35 : decode cX7_told 35 = .ok (.iconst 4, 1) := by decide +kernel
theorem dX7_told_36 : decode cX7_told 36 = .ok (.iload_n 1, 1) := by decide +kernel
theorem dX7_told_37 : decode cX7_told 37 = .ok (.imul, 1) := by decide +kernel
theorem dX7_told_38 : decode cX7_told 38 = .ok (.iload_n 2, 1) := by decide +kernel
theorem dX7_told_39 : decode cX7_told 39 = .ok (.iadd, 1) := by decide +kernel
theorem dX7_told_40 : decode cX7_told 40 = .ok (.iaload, 1) := by decide +kernel
theorem dX7_told_41 : decode cX7_told 41 = .ok (.goto 56, 3) := by decide +kernel
theorem dX7_told_44 : decode cX7_told 44 = .ok (.iload_n 2, 1) := by decide +kernel
theorem dX7_told_45 : decode cX7_told 45 = .ok (.bipush 6, 2) := by decide +kernel
theorem dX7_told_47 : decode cX7_told 47 = .ok (.if_icmp .ge 18, 3) := by decide +kernel
theorem dX7_told_50 : decode cX7_told 50 = .ok (.aload_n 0, 1) := by decide +kernel
theorem dX7_told_51 : decode cX7_told 51 = .ok (.getfield 13, 3) := by decide +kernel
theorem dX7_told_54 : decode cX7_told 54 = .ok (.iconst 2, 1) := by decide +kernel
theorem dX7_told_55 : decode cX7_told 55 = .ok (.iload_n 1, 1) := by decide +kernel
theorem dX7_told_56 : decode cX7_told 56 = .ok (.imul, 1) := by decide +kernel
theorem dX7_told_57 : decode cX7_told 57 = .ok (.iload_n 2, 1) := by decide +kernel
theorem dX7_told_58 : decode cX7_told 58 = .ok (.iadd, 1) := by decide +kernel
theorem dX7_told_59 : decode cX7_told 59 = .ok (.iconst 4, 1) := by decide +kernel
theorem dX7_told_60 : decode cX7_told 60 = .ok (.isub, 1) := by decide +kernel
theorem dX7_told_61 : decode cX7_told 61 = .ok (.iaload, 1) := by decide +kernel
theorem dX7_told_62 : decode cX7_told 62 = .ok (.goto 35, 3) := by decide +kernel
theorem dX7_told_65 : decode cX7_told 65 = .ok (.iload_n 2, 1) := by decide +kernel
theorem dX7_told_66 : decode cX7_told 66 = .ok (.bipush 6, 2) := by decide +kernel
theorem dX7_told_68 : decode cX7_told 68 = .ok (.if_icmp .ne 15, 3) := by decide +kernel
theorem dX7_told_71 : decode cX7_told 71 = .ok (.aload_n 0, 1) := by decide +kernel
theorem dX7_told_72 : decode cX7_told 72 = .ok (.getfield 16, 3) := by decide +kernel
theorem dX7_told_75 : decode cX7_told 75 = .ok (.iload_n 1, 1) := by decide +kernel
theorem dX7_told_76 : decode cX7_told 76 = .ok (.baload, 1) := by decide +kernel
theorem dX7_told_77 : decode cX7_told 77 = .ok (.ifCond .eq 19, 3) := by decide +kernel
theorem dX7_told_80 : decode cX7_told 80 = .ok (.goto 12, 3) := by decide +kernel
theorem dX7_told_83 : decode cX7_told 83 = .ok (.aload_n 0, 1) := by decide +kernel
theorem dX7_told_84 : decode cX7_told 84 = .ok (.getfield 20, 3) := by decide +kernel
theorem dX7_told_87 : decode cX7_told 87 = .ok (.iload_n 1, 1) := by decide +kernel
theorem dX7_told_88 : decode cX7_told 88 = .ok (.baload, 1) := by decide +kernel
theorem dX7_told_89 : decode cX7_told 89 = .ok (.ifCond .eq 7, 3) := by decide +kernel
theorem dX7_told_92 : decode cX7_told 92 = .ok (.iconst 1, 1) := by decide +kernel
theorem dX7_told_93 : decode cX7_told 93 = .ok (.goto 4, 3) := by decide +kernel
theorem dX7_told_96 : decode cX7_told 96 = .ok (.iconst 0, 1) := by decide +kernel
theorem dX7_told_97 : decode cX7_told 97 = .ok (.ireturn, 1) := by decide +kernel
theorem dX7_counts_0 : decode cX7_counts 0 = .ok (.aload_n 0, 1) := by decide +kernel
theorem dX7_counts_1 : decode cX7_counts 1 = .ok (.getfield 16, 3) := by decide +kernel
theorem dX7_counts_4 : decode cX7_counts 4 = .ok (.iload_n 1, 1) := by decide +kernel
theorem dX7_counts_5 : decode cX7_counts 5 = .ok (.baload, 1) := by decide +kernel
theorem dX7_counts_6 : decode cX7_counts 6 = .ok (.ifCond .ne 16, 3) := by decide +kernel
theorem dX7_counts_9 : decode cX7_counts 9 = .ok (.aload_n 0, 1) := by decide +kernel
theorem dX7_counts_10 : decode cX7_counts 10 = .ok (.getfield 20, 3) := by decide +kernel
theorem dX7_counts_13 : decode cX7_counts 13 = .ok (.iload_n 1, 1) := by decide +kernel
theorem dX7_counts_14 : decode cX7_counts 14 = .ok (.baload, 1) := by decide +kernel
theorem dX7_counts_15 : decode cX7_counts 15 = .ok (.ifCond .ne 7, 3) := by decide +kernel
theorem dX7_counts_18 : decode cX7_counts 18 = .ok (.iconst 1, 1) := by decide +kernel
theorem dX7_counts_19 : decode cX7_counts 19 = .ok (.goto 4, 3) := by decide +kernel
theorem dX7_counts_22 : decode cX7_counts 22 = .ok (.iconst 0, 1) := by decide +kernel
theorem dX7_counts_23 : decode cX7_counts 23 = .ok (.ireturn, 1) := by decide +kernel
theorem dX7_counting_0 : decode cX7_counting 0 = .ok (.iconst 0, 1) := by decide +kernel
theorem dX7_counting_1 : decode cX7_counting 1 = .ok (.istore_n 1, 1) := by decide +kernel
theorem dX7_counting_2 : decode cX7_counting 2 = .ok (.iconst 0, 1) := by decide +kernel
theorem dX7_counting_3 : decode cX7_counting 3 = .ok (.istore_n 2, 1) := by decide +kernel
theorem dX7_counting_4 : decode cX7_counting 4 = .ok (.iload_n 2, 1) := by decide +kernel
theorem dX7_counting_5 : decode cX7_counting 5 = .ok (.aload_n 0, 1) := by decide +kernel
theorem dX7_counting_6 : decode cX7_counting 6 = .ok (.getfield 86, 3) := by decide +kernel
theorem dX7_counting_9 : decode cX7_counting 9 = .ok (.if_icmp .ge 27, 3) := by decide +kernel
theorem dX7_counting_12 : decode cX7_counting 12 = .ok (.iload_n 1, 1) := by decide +kernel
theorem dX7_counting_13 : decode cX7_counting 13 = .ok (.aload_n 0, 1) := by decide +kernel
end
section
theorem dX7_counting_14 : decode cX7_counting 14 = .ok (.iload_n 2, 1) := by decide +kernel
theorem dX7_counting_15 : decode cX7_counting 15 = .ok (.invokevirtual 101, 3) := by decide +kernel
theorem dX7_counting_18 : decode cX7_counting 18 = .ok (.ifCond .eq 9, 3) := by decide +kernel
theorem dX7_counting_21 : decode cX7_counting 21 = .ok (.iconst 1, 1) := by decide +kernel
theorem dX7_counting_22 : decode cX7_counting 22 = .ok (.iload_n 2, 1) := by decide +kernel
theorem dX7_counting_23 : decode cX7_counting 23 = .ok (.ishl, 1) := by decide +kernel
theorem dX7_counting_24 : decode cX7_counting 24 = .ok (.goto 4, 3) := by decide +kernel
theorem dX7_counting_27 : decode cX7_counting 27 = .ok (.iconst 0, 1) := by decide +kernel
theorem dX7_counting_28 : decode cX7_counting 28 = .ok (.ior, 1) := by decide +kernel
theorem dX7_counting_29 : decode cX7_counting 29 = .ok (.istore_n 1, 1) := by decide +kernel
theorem dX7_counting_30 : decode cX7_counting 30 = .ok (.iinc 2 1, 3) := by decide +kernel
theorem dX7_counting_33 : decode cX7_counting 33 = .ok (.goto (-29), 3) := by decide +kernel
theorem dX7_counting_36 : decode cX7_counting 36 = .ok (.iload_n 1, 1) := by decide +kernel
theorem dX7_counting_37 : decode cX7_counting 37 = .ok (.ireturn, 1) := by decide +kernel
theorem dX7_bits_0 : decode cX7_bits 0 = .ok (.iconst 0, 1) := by decide +kernel
theorem dX7_bits_1 : decode cX7_bits 1 = .ok (.istore_n 1, 1) := by decide +kernel
theorem dX7_bits_2 : decode cX7_bits 2 = .ok (.iconst 0, 1) := by decide +kernel
theorem dX7_bits_3 : decode cX7_bits 3 = .ok (.istore_n 2, 1) := by decide +kernel
theorem dX7_bits_4 : decode cX7_bits 4 = .ok (.iload_n 2, 1) := by decide +kernel
theorem dX7_bits_5 : decode cX7_bits 5 = .ok (.bipush 12, 2) := by decide +kernel
theorem dX7_bits_7 : decode cX7_bits 7 = .ok (.if_icmp .ge 17, 3) := by decide +kernel
theorem dX7_bits_10 : decode cX7_bits 10 = .ok (.iload_n 1, 1) := by decide +kernel
theorem dX7_bits_11 : decode cX7_bits 11 = .ok (.iload_n 0, 1) := by decide +kernel
theorem dX7_bits_12 : decode cX7_bits 12 = .ok (.iload_n 2, 1) := by decide +kernel
theorem dX7_bits_13 : decode cX7_bits 13 = .ok (.ishr, 1) := by decide +kernel
theorem dX7_bits_14 : decode cX7_bits 14 = .ok (.iconst 1, 1) := by decide +kernel
theorem dX7_bits_15 : decode cX7_bits 15 = .ok (.iand, 1) := by decide +kernel
theorem dX7_bits_16 : decode cX7_bits 16 = .ok (.iadd, 1) := by decide +kernel
theorem dX7_bits_17 : decode cX7_bits 17 = .ok (.istore_n 1, 1) := by decide +kernel
theorem dX7_bits_18 : decode cX7_bits 18 = .ok (.iinc 2 1, 3) := by decide +kernel
theorem dX7_bits_21 : decode cX7_bits 21 = .ok (.goto (-17), 3) := by decide +kernel
theorem dX7_bits_24 : decode cX7_bits 24 = .ok (.iload_n 1, 1) := by decide +kernel
theorem dX7_bits_25 : decode cX7_bits 25 = .ok (.ireturn, 1) := by decide +kernel
theorem dX7_fieldsOf_0 : decode cX7_fieldsOf 0 = .ok (.iconst 0, 1) := by decide +kernel
theorem dX7_fieldsOf_1 : decode cX7_fieldsOf 1 = .ok (.istore_n 2, 1) := by decide +kernel
theorem dX7_fieldsOf_2 : decode cX7_fieldsOf 2 = .ok (.iconst 0, 1) := by decide +kernel
theorem dX7_fieldsOf_3 : decode cX7_fieldsOf 3 = .ok (.istore_n 3, 1) := by decide +kernel
theorem dX7_fieldsOf_4 : decode cX7_fieldsOf 4 = .ok (.iload_n 3, 1) := by decide +kernel
theorem dX7_fieldsOf_5 : decode cX7_fieldsOf 5 = .ok (.aload_n 0, 1) := by decide +kernel
theorem dX7_fieldsOf_6 : decode cX7_fieldsOf 6 = .ok (.getfield 86, 3) := by decide +kernel
theorem dX7_fieldsOf_9 : decode cX7_fieldsOf 9 = .ok (.if_icmp .ge 119, 3) := by decide +kernel
theorem dX7_fieldsOf_12 : decode cX7_fieldsOf 12 = .ok (.iload_n 1, 1) := by decide +kernel
theorem dX7_fieldsOf_13 : decode cX7_fieldsOf 13 = .ok (.iload_n 3, 1) := by decide +kernel
theorem dX7_fieldsOf_14 : decode cX7_fieldsOf 14 = .ok (.ishr, 1) := by decide +kernel
theorem dX7_fieldsOf_15 : decode cX7_fieldsOf 15 = .ok (.iconst 1, 1) := by decide +kernel
theorem dX7_fieldsOf_16 : decode cX7_fieldsOf 16 = .ok (.iand, 1) := by decide +kernel
theorem dX7_fieldsOf_17 : decode cX7_fieldsOf 17 = .ok (.iconst 1, 1) := by decide +kernel
theorem dX7_fieldsOf_18 : decode cX7_fieldsOf 18 = .ok (.if_icmp .ne 7, 3) := by decide +kernel
theorem dX7_fieldsOf_21 : decode cX7_fieldsOf 21 = .ok (.iconst 1, 1) := by decide +kernel
theorem dX7_fieldsOf_22 : decode cX7_fieldsOf 22 = .ok (.goto 4, 3) := by decide +kernel
theorem dX7_fieldsOf_25 : decode cX7_fieldsOf 25 = .ok (.iconst 0, 1) := by decide +kernel
theorem dX7_fieldsOf_26 : decode cX7_fieldsOf 26 = .ok (.istore 4, 2) := by decide +kernel
theorem dX7_fieldsOf_28 : decode cX7_fieldsOf 28 = .ok (.iconst 0, 1) := by decide +kernel
theorem dX7_fieldsOf_29 : decode cX7_fieldsOf 29 = .ok (.istore 5, 2) := by decide +kernel
theorem dX7_fieldsOf_31 : decode cX7_fieldsOf 31 = .ok (.iload 5, 2) := by decide +kernel
theorem dX7_fieldsOf_33 : decode cX7_fieldsOf 33 = .ok (.iload_n 3, 1) := by decide +kernel
theorem dX7_fieldsOf_34 : decode cX7_fieldsOf 34 = .ok (.if_icmp .ge 75, 3) := by decide +kernel
theorem dX7_fieldsOf_37 : decode cX7_fieldsOf 37 = .ok (.iload 4, 2) := by decide +kernel
theorem dX7_fieldsOf_39 : decode cX7_fieldsOf 39 = .ok (.ifCond .eq 61, 3) := by decide +kernel
theorem dX7_fieldsOf_42 : decode cX7_fieldsOf 42 = .ok (.iload_n 1, 1) := by decide +kernel
theorem dX7_fieldsOf_43 : decode cX7_fieldsOf 43 = .ok (.iload 5, 2) := by decide +kernel
theorem dX7_fieldsOf_45 : decode cX7_fieldsOf 45 = .ok (.ishr, 1) := by decide +kernel
theorem dX7_fieldsOf_46 : decode cX7_fieldsOf 46 = .ok (.iconst 1, 1) := by decide +kernel
theorem dX7_fieldsOf_47 : decode cX7_fieldsOf 47 = .ok (.iand, 1) := by decide +kernel
theorem dX7_fieldsOf_48 : decode cX7_fieldsOf 48 = .ok (.iconst 1, 1) := by decide +kernel
theorem dX7_fieldsOf_49 : decode cX7_fieldsOf 49 = .ok (.if_icmp .ne 47, 3) := by decide +kernel
theorem dX7_fieldsOf_52 : decode cX7_fieldsOf 52 = .ok (.aload_n 0, 1) := by decide +kernel
theorem dX7_fieldsOf_53 : decode cX7_fieldsOf 53 = .ok (.getfield 7, 3) := by decide +kernel
theorem dX7_fieldsOf_56 : decode cX7_fieldsOf 56 = .ok (.iconst 4, 1) := by decide +kernel
theorem dX7_fieldsOf_57 : decode cX7_fieldsOf 57 = .ok (.iload 5, 2) := by decide +kernel
theorem dX7_fieldsOf_59 : decode cX7_fieldsOf 59 = .ok (.imul, 1) := by decide +kernel
theorem dX7_fieldsOf_60 : decode cX7_fieldsOf 60 = .ok (.iaload, 1) := by decide +kernel
theorem dX7_fieldsOf_61 : decode cX7_fieldsOf 61 = .ok (.aload_n 0, 1) := by decide +kernel
theorem dX7_fieldsOf_62 : decode cX7_fieldsOf 62 = .ok (.getfield 7, 3) := by decide +kernel
theorem dX7_fieldsOf_65 : decode cX7_fieldsOf 65 = .ok (.iconst 4, 1) := by decide +kernel
theorem dX7_fieldsOf_66 : decode cX7_fieldsOf 66 = .ok (.iload_n 3, 1) := by decide +kernel
theorem dX7_fieldsOf_67 : decode cX7_fieldsOf 67 = .ok (.imul, 1) := by decide +kernel
theorem dX7_fieldsOf_68 : decode cX7_fieldsOf 68 = .ok (.iaload, 1) := by decide +kernel
theorem dX7_fieldsOf_69 : decode cX7_fieldsOf 69 = .ok (.if_icmp .ne 27, 3) := by decide +kernel
theorem dX7_fieldsOf_72 : decode cX7_fieldsOf 72 = .ok (.aload_n 0, 1) := by decide +kernel
theorem dX7_fieldsOf_73 : decode cX7_fieldsOf 73 = .ok (.getfield 7, 3) := by decide +kernel
theorem dX7_fieldsOf_76 : decode cX7_fieldsOf 76 = .ok (.iconst 4, 1) := by decide +kernel
theorem dX7_fieldsOf_77 : decode cX7_fieldsOf 77 = .ok (.iload 5, 2) := by decide +kernel
theorem dX7_fieldsOf_79 : decode cX7_fieldsOf 79 = .ok (.imul, 1) := by decide +kernel
theorem dX7_fieldsOf_80 : decode cX7_fieldsOf 80 = .ok (.iconst 1, 1) := by decide +kernel
theorem dX7_fieldsOf_81 : decode cX7_fieldsOf 81 = .ok (.iadd, 1) := by decide +kernel
theorem dX7_fieldsOf_82 : decode cX7_fieldsOf 82 = .ok (.iaload, 1) := by decide +kernel
theorem dX7_fieldsOf_83 : decode cX7_fieldsOf 83 = .ok (.aload_n 0, 1) := by decide +kernel
theorem dX7_fieldsOf_84 : decode cX7_fieldsOf 84 = .ok (.getfield 7, 3) := by decide +kernel
theorem dX7_fieldsOf_87 : decode cX7_fieldsOf 87 = .ok (.iconst 4, 1) := by decide +kernel
theorem dX7_fieldsOf_88 : decode cX7_fieldsOf 88 = .ok (.iload_n 3, 1) := by decide +kernel
theorem dX7_fieldsOf_89 : decode cX7_fieldsOf 89 = .ok (.imul, 1) := by decide +kernel
theorem dX7_fieldsOf_90 : decode cX7_fieldsOf 90 = .ok (.iconst 1, 1) := by decide +kernel
theorem dX7_fieldsOf_91 : decode cX7_fieldsOf 91 = .ok (.iadd, 1) := by decide +kernel
theorem dX7_fieldsOf_92 : decode cX7_fieldsOf 92 = .ok (.iaload, 1) := by decide +kernel
theorem dX7_fieldsOf_93 : decode cX7_fieldsOf 93 = .ok (.if_icmp .eq 7, 3) := by decide +kernel
theorem dX7_fieldsOf_96 : decode cX7_fieldsOf 96 = .ok (.iconst 1, 1) := by decide +kernel
theorem dX7_fieldsOf_97 : decode cX7_fieldsOf 97 = .ok (.goto 4, 3) := by decide +kernel
theorem dX7_fieldsOf_100 : decode cX7_fieldsOf 100 = .ok (.iconst 0, 1) := by decide +kernel
theorem dX7_fieldsOf_101 : decode cX7_fieldsOf 101 = .ok (.istore 4, 2) := by decide +kernel
theorem dX7_fieldsOf_103 : decode cX7_fieldsOf 103 = .ok (.iinc 5 1, 3) := by decide +kernel
theorem dX7_fieldsOf_106 : decode cX7_fieldsOf 106 = .ok (.goto (-75), 3) := by decide +kernel
theorem dX7_fieldsOf_109 : decode cX7_fieldsOf 109 = .ok (.iload_n 2, 1) := by decide +kernel
theorem dX7_fieldsOf_110 : decode cX7_fieldsOf 110 = .ok (.iload 4, 2) := by decide +kernel
theorem dX7_fieldsOf_112 : decode cX7_fieldsOf 112 = .ok (.ifCond .eq 7, 3) := by decide +kernel
theorem dX7_fieldsOf_115 : decode cX7_fieldsOf 115 = .ok (.iconst 1, 1) := by decide +kernel
theorem dX7_fieldsOf_116 : decode cX7_fieldsOf 116 = .ok (.goto 4, 3) := by decide +kernel
theorem dX7_fieldsOf_119 : decode cX7_fieldsOf 119 = .ok (.iconst 0, 1) := by decide +kernel
theorem dX7_fieldsOf_120 : decode cX7_fieldsOf 120 = .ok (.iadd, 1) := by decide +kernel
theorem dX7_fieldsOf_121 : decode cX7_fieldsOf 121 = .ok (.istore_n 2, 1) := by decide +kernel
theorem dX7_fieldsOf_122 : decode cX7_fieldsOf 122 = .ok (.iinc 3 1, 3) := by decide +kernel
theorem dX7_fieldsOf_125 : decode cX7_fieldsOf 125 = .ok (.goto (-121), 3) := by decide +kernel
theorem dX7_fieldsOf_128 : decode cX7_fieldsOf 128 = .ok (.iload_n 2, 1) := by decide +kernel
theorem dX7_fieldsOf_129 : decode cX7_fieldsOf 129 = .ok (.ireturn, 1) := by decide +kernel
theorem dX7_count_0 : decode cX7_count 0 = .ok (.iconst 0, 1) := by decide +kernel
theorem dX7_count_1 : decode cX7_count 1 = .ok (.istore_n 2, 1) := by decide +kernel
theorem dX7_count_2 : decode cX7_count 2 = .ok (.iconst 0, 1) := by decide +kernel
theorem dX7_count_3 : decode cX7_count 3 = .ok (.istore_n 3, 1) := by decide +kernel
theorem dX7_count_4 : decode cX7_count 4 = .ok (.iconst 0, 1) := by decide +kernel
theorem dX7_count_5 : decode cX7_count 5 = .ok (.istore 4, 2) := by decide +kernel
theorem dX7_count_7 : decode cX7_count 7 = .ok (.iconst 0, 1) := by decide +kernel
theorem dX7_count_8 : decode cX7_count 8 = .ok (.istore 5, 2) := by decide +kernel
theorem dX7_count_10 : decode cX7_count 10 = .ok (.iload 5, 2) := by decide +kernel
theorem dX7_count_12 : decode cX7_count 12 = .ok (.aload_n 0, 1) := by decide +kernel
theorem dX7_count_13 : decode cX7_count 13 = .ok (.getfield 86, 3) := by decide +kernel
theorem dX7_count_16 : decode cX7_count 16 = .ok (.if_icmp .ge 45, 3) := by decide +kernel
theorem dX7_count_19 : decode cX7_count 19 = .ok (.iload_n 2, 1) := by decide +kernel
theorem dX7_count_20 : decode cX7_count 20 = .ok (.aload_n 0, 1) := by decide +kernel
theorem dX7_count_21 : decode cX7_count 21 = .ok (.getfield 16, 3) := by decide +kernel
theorem dX7_count_24 : decode cX7_count 24 = .ok (.iload 5, 2) := by decide +kernel
theorem dX7_count_26 : decode cX7_count 26 = .ok (.baload, 1) := by decide +kernel
theorem dX7_count_27 : decode cX7_count 27 = .ok (.ifCond .eq 7, 3) := by decide +kernel
theorem dX7_count_30 : decode cX7_count 30 = .ok (.iconst 1, 1) := by decide +kernel
theorem dX7_count_31 : decode cX7_count 31 = .ok (.goto 4, 3) := by decide +kernel
theorem dX7_count_34 : decode cX7_count 34 = .ok (.iconst 0, 1) := by decide +kernel
theorem dX7_count_35 : decode cX7_count 35 = .ok (.iadd, 1) := by decide +kernel
theorem dX7_count_36 : decode cX7_count 36 = .ok (.istore_n 2, 1) := by decide +kernel
theorem dX7_count_37 : decode cX7_count 37 = .ok (.iload_n 3, 1) := by decide +kernel
theorem dX7_count_38 : decode cX7_count 38 = .ok (.aload_n 0, 1) := by decide +kernel
theorem dX7_count_39 : decode cX7_count 39 = .ok (.getfield 20, 3) := by decide +kernel
theorem dX7_count_42 : decode cX7_count 42 = .ok (.iload 5, 2) := by decide +kernel
theorem dX7_count_44 : decode cX7_count 44 = .ok (.baload, 1) := by decide +kernel
theorem dX7_count_45 : decode cX7_count 45 = .ok (.ifCond .eq 7, 3) := by decide +kernel
theorem dX7_count_48 : decode cX7_count 48 = .ok (.iconst 1, 1) := by decide +kernel
theorem dX7_count_49 : decode cX7_count 49 = .ok (.goto 4, 3) := by decide +kernel
theorem dX7_count_52 : decode cX7_count 52 = .ok (.iconst 0, 1) := by decide +kernel
theorem dX7_count_53 : decode cX7_count 53 = .ok (.iadd, 1) := by decide +kernel
theorem dX7_count_54 : decode cX7_count 54 = .ok (.istore_n 3, 1) := by decide +kernel
theorem dX7_count_55 : decode cX7_count 55 = .ok (.iinc 5 1, 3) := by decide +kernel
theorem dX7_count_58 : decode cX7_count 58 = .ok (.goto (-48), 3) := by decide +kernel
theorem dX7_count_61 : decode cX7_count 61 = .ok (.iconst 0, 1) := by decide +kernel
theorem dX7_count_62 : decode cX7_count 62 = .ok (.istore 5, 2) := by decide +kernel
theorem dX7_count_64 : decode cX7_count 64 = .ok (.iload 5, 2) := by decide +kernel
theorem dX7_count_66 : decode cX7_count 66 = .ok (.aload_n 0, 1) := by decide +kernel
theorem dX7_count_67 : decode cX7_count 67 = .ok (.getfield 104, 3) := by decide +kernel
theorem dX7_count_70 : decode cX7_count 70 = .ok (.if_icmp .ge 29, 3) := by decide +kernel
theorem dX7_count_73 : decode cX7_count 73 = .ok (.iload 4, 2) := by decide +kernel
theorem dX7_count_75 : decode cX7_count 75 = .ok (.aload_n 0, 1) := by decide +kernel
theorem dX7_count_76 : decode cX7_count 76 = .ok (.getfield 32, 3) := by decide +kernel
theorem dX7_count_79 : decode cX7_count 79 = .ok (.iload 5, 2) := by decide +kernel
theorem dX7_count_81 : decode cX7_count 81 = .ok (.baload, 1) := by decide +kernel
theorem dX7_count_82 : decode cX7_count 82 = .ok (.ifCond .eq 7, 3) := by decide +kernel
theorem dX7_count_85 : decode cX7_count 85 = .ok (.iconst 1, 1) := by decide +kernel
theorem dX7_count_86 : decode cX7_count 86 = .ok (.goto 4, 3) := by decide +kernel
theorem dX7_count_89 : decode cX7_count 89 = .ok (.iconst 0, 1) := by decide +kernel
theorem dX7_count_90 : decode cX7_count 90 = .ok (.iadd, 1) := by decide +kernel
theorem dX7_count_91 : decode cX7_count 91 = .ok (.istore 4, 2) := by decide +kernel
theorem dX7_count_93 : decode cX7_count 93 = .ok (.iinc 5 1, 3) := by decide +kernel
theorem dX7_count_96 : decode cX7_count 96 = .ok (.goto (-32), 3) := by decide +kernel
theorem dX7_count_99 : decode cX7_count 99 = .ok (.iload_n 1, 1) := by decide +kernel
theorem dX7_count_100 : decode cX7_count 100 = .ok (.tableswitch 78 0 6 #[44, 49, 51, 53, 61, 66, 69], 44) := by decide +kernel
theorem dX7_count_144 : decode cX7_count 144 = .ok (.aload_n 0, 1) := by decide +kernel
theorem dX7_count_145 : decode cX7_count 145 = .ok (.getfield 86, 3) := by decide +kernel
theorem dX7_count_148 : decode cX7_count 148 = .ok (.ireturn, 1) := by decide +kernel
theorem dX7_count_149 : decode cX7_count 149 = .ok (.iload_n 2, 1) := by decide +kernel
theorem dX7_count_150 : decode cX7_count 150 = .ok (.ireturn, 1) := by decide +kernel
theorem dX7_count_151 : decode cX7_count 151 = .ok (.iload_n 3, 1) := by decide +kernel
theorem dX7_count_152 : decode cX7_count 152 = .ok (.ireturn, 1) := by decide +kernel
theorem dX7_count_153 : decode cX7_count 153 = .ok (.aload_n 0, 1) := by decide +kernel
theorem dX7_count_154 : decode cX7_count 154 = .ok (.invokevirtual 107, 3) := by decide +kernel
theorem dX7_count_157 : decode cX7_count 157 = .ok (.invokestatic 111, 3) := by decide +kernel
theorem dX7_count_160 : decode cX7_count 160 = .ok (.ireturn, 1) := by decide +kernel
theorem dX7_count_161 : decode cX7_count 161 = .ok (.aload_n 0, 1) := by decide +kernel
theorem dX7_count_162 : decode cX7_count 162 = .ok (.getfield 104, 3) := by decide +kernel
theorem dX7_count_165 : decode cX7_count 165 = .ok (.ireturn, 1) := by decide +kernel
theorem dX7_count_166 : decode cX7_count 166 = .ok (.iload 4, 2) := by decide +kernel
theorem dX7_count_168 : decode cX7_count 168 = .ok (.ireturn, 1) := by decide +kernel
theorem dX7_count_169 : decode cX7_count 169 = .ok (.aload_n 0, 1) := by decide +kernel
theorem dX7_count_170 : decode cX7_count 170 = .ok (.aload_n 0, 1) := by decide +kernel
theorem dX7_count_171 : decode cX7_count 171 = .ok (.invokevirtual 107, 3) := by decide +kernel
theorem dX7_count_174 : decode cX7_count 174 = .ok (.invokevirtual 115, 3) := by decide +kernel
theorem dX7_count_177 : decode cX7_count 177 = .ok (.ireturn, 1) := by decide +kernel
theorem dX7_count_178 : decode cX7_count 178 = .ok (.ldc 85, 2) := by decide +kernel
theorem dX7_count_180 : decode cX7_count 180 = .ok (.ireturn, 1) := by decide +kernel
theorem dX7_isModel_0 : decode cX7_isModel 0 = .ok (.iload_n 0, 1) := by decide +kernel
theorem dX7_isModel_1 : decode cX7_isModel 1 = .ok (.i2l, 1) := by decide +kernel
theorem dX7_isModel_2 : decode cX7_isModel 2 = .ok (.lconst 0, 1) := by decide +kernel
theorem dX7_isModel_3 : decode cX7_isModel 3 = .ok (.ldc2_w 118, 3) := by decide +kernel
theorem dX7_isModel_6 : decode cX7_isModel 6 = .ok (.invokestatic 77, 3) := by decide +kernel
theorem dX7_isModel_9 : decode cX7_isModel 9 = .ok (.ireturn, 1) := by decide +kernel
theorem dX7_termsOf_0 : decode cX7_termsOf 0 = .ok (.iload_n 0, 1) := by decide +kernel
theorem dX7_termsOf_1 : decode cX7_termsOf 1 = .ok (.ifCond .ne 7, 3) := by decide +kernel
theorem dX7_termsOf_4 : decode cX7_termsOf 4 = .ok (.iconst 1, 1) := by decide +kernel
theorem dX7_termsOf_5 : decode cX7_termsOf 5 = .ok (.goto 4, 3) := by decide +kernel
theorem dX7_termsOf_8 : decode cX7_termsOf 8 = .ok (.iconst 3, 1) := by decide +kernel
theorem dX7_termsOf_9 : decode cX7_termsOf 9 = .ok (.ireturn, 1) := by decide +kernel
theorem dX7_term_0 : decode cX7_term 0 = .ok (.iload_n 3, 1) := by decide +kernel
theorem dX7_term_1 : decode cX7_term 1 = .ok (.ifCond .ne 7, 3) := by decide +kernel
theorem dX7_term_4 : decode cX7_term 4 = .ok (.lconst 1, 1) := by decide +kernel
theorem dX7_term_5 : decode cX7_term 5 = .ok (.goto 27, 3) := by decide +kernel
theorem dX7_term_8 : decode cX7_term 8 = .ok (.aload_n 0, 1) := by decide +kernel
theorem dX7_term_9 : decode cX7_term 9 = .ok (.getfield 7, 3) := by decide +kernel
theorem dX7_term_12 : decode cX7_term 12 = .ok (.iconst 4, 1) := by decide +kernel
theorem dX7_term_13 : decode cX7_term 13 = .ok (.iload_n 2, 1) := by decide +kernel
theorem dX7_term_14 : decode cX7_term 14 = .ok (.imul, 1) := by decide +kernel
theorem dX7_term_15 : decode cX7_term 15 = .ok (.iload_n 1, 1) := by decide +kernel
theorem dX7_term_16 : decode cX7_term 16 = .ok (.iconst 1, 1) := by decide +kernel
theorem dX7_term_17 : decode cX7_term 17 = .ok (.if_icmp .ne 7, 3) := by decide +kernel
theorem dX7_term_20 : decode cX7_term 20 = .ok (.iconst 0, 1) := by decide +kernel
theorem dX7_term_21 : decode cX7_term 21 = .ok (.goto 4, 3) := by decide +kernel
theorem dX7_term_24 : decode cX7_term 24 = .ok (.iconst 2, 1) := by decide +kernel
theorem dX7_term_25 : decode cX7_term 25 = .ok (.iadd, 1) := by decide +kernel
theorem dX7_term_26 : decode cX7_term 26 = .ok (.iload_n 3, 1) := by decide +kernel
theorem dX7_term_27 : decode cX7_term 27 = .ok (.iadd, 1) := by decide +kernel
theorem dX7_term_28 : decode cX7_term 28 = .ok (.iconst 1, 1) := by decide +kernel
theorem dX7_term_29 : decode cX7_term 29 = .ok (.isub, 1) := by decide +kernel
theorem dX7_term_30 : decode cX7_term 30 = .ok (.iaload, 1) := by decide +kernel
theorem dX7_term_31 : decode cX7_term 31 = .ok (.i2l, 1) := by decide +kernel
theorem dX7_term_32 : decode cX7_term 32 = .ok (.lreturn, 1) := by decide +kernel
theorem dX7_minor_0 : decode cX7_minor 0 = .ok (.iload_n 1, 1) := by decide +kernel
theorem dX7_minor_1 : decode cX7_minor 1 = .ok (.iconst 1, 1) := by decide +kernel
theorem dX7_minor_2 : decode cX7_minor 2 = .ok (.iadd, 1) := by decide +kernel
theorem dX7_minor_3 : decode cX7_minor 3 = .ok (.iconst 3, 1) := by decide +kernel
theorem dX7_minor_4 : decode cX7_minor 4 = .ok (.irem, 1) := by decide +kernel
theorem dX7_minor_5 : decode cX7_minor 5 = .ok (.istore_n 3, 1) := by decide +kernel
theorem dX7_minor_6 : decode cX7_minor 6 = .ok (.iload_n 1, 1) := by decide +kernel
theorem dX7_minor_7 : decode cX7_minor 7 = .ok (.iconst 2, 1) := by decide +kernel
theorem dX7_minor_8 : decode cX7_minor 8 = .ok (.iadd, 1) := by decide +kernel
theorem dX7_minor_9 : decode cX7_minor 9 = .ok (.iconst 3, 1) := by decide +kernel
theorem dX7_minor_10 : decode cX7_minor 10 = .ok (.irem, 1) := by decide +kernel
theorem dX7_minor_11 : decode cX7_minor 11 = .ok (.istore 4, 2) := by decide +kernel
theorem dX7_minor_13 : decode cX7_minor 13 = .ok (.iload_n 2, 1) := by decide +kernel
theorem dX7_minor_14 : decode cX7_minor 14 = .ok (.iconst 1, 1) := by decide +kernel
theorem dX7_minor_15 : decode cX7_minor 15 = .ok (.iadd, 1) := by decide +kernel
theorem dX7_minor_16 : decode cX7_minor 16 = .ok (.iconst 3, 1) := by decide +kernel
theorem dX7_minor_17 : decode cX7_minor 17 = .ok (.irem, 1) := by decide +kernel
theorem dX7_minor_18 : decode cX7_minor 18 = .ok (.istore 5, 2) := by decide +kernel
theorem dX7_minor_20 : decode cX7_minor 20 = .ok (.iload_n 2, 1) := by decide +kernel
theorem dX7_minor_21 : decode cX7_minor 21 = .ok (.iconst 2, 1) := by decide +kernel
theorem dX7_minor_22 : decode cX7_minor 22 = .ok (.iadd, 1) := by decide +kernel
theorem dX7_minor_23 : decode cX7_minor 23 = .ok (.iconst 3, 1) := by decide +kernel
theorem dX7_minor_24 : decode cX7_minor 24 = .ok (.irem, 1) := by decide +kernel
theorem dX7_minor_25 : decode cX7_minor 25 = .ok (.istore 6, 2) := by decide +kernel
theorem dX7_minor_27 : decode cX7_minor 27 = .ok (.aload_n 0, 1) := by decide +kernel
theorem dX7_minor_28 : decode cX7_minor 28 = .ok (.getfield 51, 3) := by decide +kernel
theorem dX7_minor_31 : decode cX7_minor 31 = .ok (.iconst 3, 1) := by decide +kernel
theorem dX7_minor_32 : decode cX7_minor 32 = .ok (.iload_n 3, 1) := by decide +kernel
theorem dX7_minor_33 : decode cX7_minor 33 = .ok (.imul, 1) := by decide +kernel
theorem dX7_minor_34 : decode cX7_minor 34 = .ok (.iload 5, 2) := by decide +kernel
theorem dX7_minor_36 : decode cX7_minor 36 = .ok (.iadd, 1) := by decide +kernel
theorem dX7_minor_37 : decode cX7_minor 37 = .ok (.laload, 1) := by decide +kernel
theorem dX7_minor_38 : decode cX7_minor 38 = .ok (.aload_n 0, 1) := by decide +kernel
theorem dX7_minor_39 : decode cX7_minor 39 = .ok (.getfield 51, 3) := by decide +kernel
theorem dX7_minor_42 : decode cX7_minor 42 = .ok (.iconst 3, 1) := by decide +kernel
theorem dX7_minor_43 : decode cX7_minor 43 = .ok (.iload 4, 2) := by decide +kernel
theorem dX7_minor_45 : decode cX7_minor 45 = .ok (.imul, 1) := by decide +kernel
theorem dX7_minor_46 : decode cX7_minor 46 = .ok (.iload 6, 2) := by decide +kernel
theorem dX7_minor_48 : decode cX7_minor 48 = .ok (.iadd, 1) := by decide +kernel
theorem dX7_minor_49 : decode cX7_minor 49 = .ok (.laload, 1) := by decide +kernel
theorem dX7_minor_50 : decode cX7_minor 50 = .ok (.lmul, 1) := by decide +kernel
theorem dX7_minor_51 : decode cX7_minor 51 = .ok (.aload_n 0, 1) := by decide +kernel
theorem dX7_minor_52 : decode cX7_minor 52 = .ok (.getfield 51, 3) := by decide +kernel
theorem dX7_minor_55 : decode cX7_minor 55 = .ok (.iconst 3, 1) := by decide +kernel
theorem dX7_minor_56 : decode cX7_minor 56 = .ok (.iload_n 3, 1) := by decide +kernel
theorem dX7_minor_57 : decode cX7_minor 57 = .ok (.imul, 1) := by decide +kernel
theorem dX7_minor_58 : decode cX7_minor 58 = .ok (.iload 6, 2) := by decide +kernel
theorem dX7_minor_60 : decode cX7_minor 60 = .ok (.iadd, 1) := by decide +kernel
theorem dX7_minor_61 : decode cX7_minor 61 = .ok (.laload, 1) := by decide +kernel
theorem dX7_minor_62 : decode cX7_minor 62 = .ok (.aload_n 0, 1) := by decide +kernel
theorem dX7_minor_63 : decode cX7_minor 63 = .ok (.getfield 51, 3) := by decide +kernel
theorem dX7_minor_66 : decode cX7_minor 66 = .ok (.iconst 3, 1) := by decide +kernel
theorem dX7_minor_67 : decode cX7_minor 67 = .ok (.iload 4, 2) := by decide +kernel
theorem dX7_minor_69 : decode cX7_minor 69 = .ok (.imul, 1) := by decide +kernel
theorem dX7_minor_70 : decode cX7_minor 70 = .ok (.iload 5, 2) := by decide +kernel
theorem dX7_minor_72 : decode cX7_minor 72 = .ok (.iadd, 1) := by decide +kernel
theorem dX7_minor_73 : decode cX7_minor 73 = .ok (.laload, 1) := by decide +kernel
theorem dX7_minor_74 : decode cX7_minor 74 = .ok (.lmul, 1) := by decide +kernel
theorem dX7_minor_75 : decode cX7_minor 75 = .ok (.lsub, 1) := by decide +kernel
theorem dX7_minor_76 : decode cX7_minor 76 = .ok (.lreturn, 1) := by decide +kernel
theorem dX7_lay_0 : decode cX7_lay 0 = .ok (.iload_n 1, 1) := by decide +kernel
theorem dX7_lay_1 : decode cX7_lay 1 = .ok (.invokestatic 120, 3) := by decide +kernel
theorem dX7_lay_4 : decode cX7_lay 4 = .ok (.istore_n 3, 1) := by decide +kernel
theorem dX7_lay_5 : decode cX7_lay 5 = .ok (.iconst 0, 1) := by decide +kernel
theorem dX7_lay_6 : decode cX7_lay 6 = .ok (.istore 4, 2) := by decide +kernel
theorem dX7_lay_8 : decode cX7_lay 8 = .ok (.iload 4, 2) := by decide +kernel
theorem dX7_lay_10 : decode cX7_lay 10 = .ok (.bipush 9, 2) := by decide +kernel
theorem dX7_lay_12 : decode cX7_lay 12 = .ok (.if_icmp .ge 38, 3) := by decide +kernel
theorem dX7_lay_15 : decode cX7_lay 15 = .ok (.aload_n 0, 1) := by decide +kernel
theorem dX7_lay_16 : decode cX7_lay 16 = .ok (.getfield 51, 3) := by decide +kernel
theorem dX7_lay_19 : decode cX7_lay 19 = .ok (.iload 4, 2) := by decide +kernel
theorem dX7_lay_21 : decode cX7_lay 21 = .ok (.iload_n 3, 1) := by decide +kernel
theorem dX7_lay_22 : decode cX7_lay 22 = .ok (.iconst 1, 1) := by decide +kernel
theorem dX7_lay_23 : decode cX7_lay 23 = .ok (.if_icmp .ne 19, 3) := by decide +kernel
theorem dX7_lay_26 : decode cX7_lay 26 = .ok (.iload 4, 2) := by decide +kernel
theorem dX7_lay_28 : decode cX7_lay 28 = .ok (.iconst 4, 1) := by decide +kernel
theorem dX7_lay_29 : decode cX7_lay 29 = .ok (.irem, 1) := by decide +kernel
theorem dX7_lay_30 : decode cX7_lay 30 = .ok (.ifCond .ne 12, 3) := by decide +kernel
theorem dX7_lay_33 : decode cX7_lay 33 = .ok (.iload 4, 2) := by decide +kernel
theorem dX7_lay_35 : decode cX7_lay 35 = .ok (.ifCond .le 7, 3) := by decide +kernel
theorem dX7_lay_38 : decode cX7_lay 38 = .ok (.lconst 1, 1) := by decide +kernel
theorem dX7_lay_39 : decode cX7_lay 39 = .ok (.goto 4, 3) := by decide +kernel
theorem dX7_lay_42 : decode cX7_lay 42 = .ok (.lconst 0, 1) := by decide +kernel
theorem dX7_lay_43 : decode cX7_lay 43 = .ok (.lastore, 1) := by decide +kernel
theorem dX7_lay_44 : decode cX7_lay 44 = .ok (.iinc 4 1, 3) := by decide +kernel
theorem dX7_lay_47 : decode cX7_lay 47 = .ok (.goto (-39), 3) := by decide +kernel
theorem dX7_lay_50 : decode cX7_lay 50 = .ok (.iconst 0, 1) := by decide +kernel
theorem dX7_lay_51 : decode cX7_lay 51 = .ok (.istore 4, 2) := by decide +kernel
theorem dX7_lay_53 : decode cX7_lay 53 = .ok (.iload 4, 2) := by decide +kernel
theorem dX7_lay_55 : decode cX7_lay 55 = .ok (.aload_n 0, 1) := by decide +kernel
theorem dX7_lay_56 : decode cX7_lay 56 = .ok (.getfield 86, 3) := by decide +kernel
theorem dX7_lay_59 : decode cX7_lay 59 = .ok (.if_icmp .ge 78, 3) := by decide +kernel
theorem dX7_lay_62 : decode cX7_lay 62 = .ok (.iconst 0, 1) := by decide +kernel
theorem dX7_lay_63 : decode cX7_lay 63 = .ok (.istore 5, 2) := by decide +kernel
theorem dX7_lay_65 : decode cX7_lay 65 = .ok (.iload 5, 2) := by decide +kernel
theorem dX7_lay_67 : decode cX7_lay 67 = .ok (.iload_n 3, 1) := by decide +kernel
theorem dX7_lay_68 : decode cX7_lay 68 = .ok (.iload_n 3, 1) := by decide +kernel
theorem dX7_lay_69 : decode cX7_lay 69 = .ok (.imul, 1) := by decide +kernel
theorem dX7_lay_70 : decode cX7_lay 70 = .ok (.if_icmp .ge 61, 3) := by decide +kernel
theorem dX7_lay_73 : decode cX7_lay 73 = .ok (.iload_n 2, 1) := by decide +kernel
theorem dX7_lay_74 : decode cX7_lay 74 = .ok (.iload 4, 2) := by decide +kernel
theorem dX7_lay_76 : decode cX7_lay 76 = .ok (.ishr, 1) := by decide +kernel
theorem dX7_lay_77 : decode cX7_lay 77 = .ok (.iconst 1, 1) := by decide +kernel
theorem dX7_lay_78 : decode cX7_lay 78 = .ok (.iand, 1) := by decide +kernel
theorem dX7_lay_79 : decode cX7_lay 79 = .ok (.iconst 1, 1) := by decide +kernel
theorem dX7_lay_80 : decode cX7_lay 80 = .ok (.if_icmp .ne 51, 3) := by decide +kernel
theorem dX7_lay_83 : decode cX7_lay 83 = .ok (.aload_n 0, 1) := by decide +kernel
theorem dX7_lay_84 : decode cX7_lay 84 = .ok (.getfield 51, 3) := by decide +kernel
theorem dX7_lay_87 : decode cX7_lay 87 = .ok (.iconst 3, 1) := by decide +kernel
theorem dX7_lay_88 : decode cX7_lay 88 = .ok (.iload 5, 2) := by decide +kernel
theorem dX7_lay_90 : decode cX7_lay 90 = .ok (.iload_n 3, 1) := by decide +kernel
theorem dX7_lay_91 : decode cX7_lay 91 = .ok (.idiv, 1) := by decide +kernel
theorem dX7_lay_92 : decode cX7_lay 92 = .ok (.imul, 1) := by decide +kernel
theorem dX7_lay_93 : decode cX7_lay 93 = .ok (.iload 5, 2) := by decide +kernel
theorem dX7_lay_95 : decode cX7_lay 95 = .ok (.iload_n 3, 1) := by decide +kernel
theorem dX7_lay_96 : decode cX7_lay 96 = .ok (.irem, 1) := by decide +kernel
theorem dX7_lay_97 : decode cX7_lay 97 = .ok (.iadd, 1) := by decide +kernel
theorem dX7_lay_98 : decode cX7_lay 98 = .ok (.dup2, 1) := by decide +kernel
theorem dX7_lay_99 : decode cX7_lay 99 = .ok (.laload, 1) := by decide +kernel
theorem dX7_lay_100 : decode cX7_lay 100 = .ok (.aload_n 0, 1) := by decide +kernel
theorem dX7_lay_101 : decode cX7_lay 101 = .ok (.iload_n 1, 1) := by decide +kernel
theorem dX7_lay_102 : decode cX7_lay 102 = .ok (.iload 4, 2) := by decide +kernel
theorem dX7_lay_104 : decode cX7_lay 104 = .ok (.iload 5, 2) := by decide +kernel
theorem dX7_lay_106 : decode cX7_lay 106 = .ok (.iload_n 3, 1) := by decide +kernel
theorem dX7_lay_107 : decode cX7_lay 107 = .ok (.idiv, 1) := by decide +kernel
theorem dX7_lay_108 : decode cX7_lay 108 = .ok (.invokevirtual 123, 3) := by decide +kernel
theorem dX7_lay_111 : decode cX7_lay 111 = .ok (.aload_n 0, 1) := by decide +kernel
theorem dX7_lay_112 : decode cX7_lay 112 = .ok (.iload_n 1, 1) := by decide +kernel
theorem dX7_lay_113 : decode cX7_lay 113 = .ok (.iload 4, 2) := by decide +kernel
theorem dX7_lay_115 : decode cX7_lay 115 = .ok (.iload 5, 2) := by decide +kernel
theorem dX7_lay_117 : decode cX7_lay 117 = .ok (.iload_n 3, 1) := by decide +kernel
theorem dX7_lay_118 : decode cX7_lay 118 = .ok (.irem, 1) := by decide +kernel
theorem dX7_lay_119 : decode cX7_lay 119 = .ok (.invokevirtual 123, 3) := by decide +kernel
theorem dX7_lay_122 : decode cX7_lay 122 = .ok (.lmul, 1) := by decide +kernel
theorem dX7_lay_123 : decode cX7_lay 123 = .ok (.ladd, 1) := by decide +kernel
theorem dX7_lay_124 : decode cX7_lay 124 = .ok (.lastore, 1) := by decide +kernel
theorem dX7_lay_125 : decode cX7_lay 125 = .ok (.iinc 5 1, 3) := by decide +kernel
theorem dX7_lay_128 : decode cX7_lay 128 = .ok (.goto (-63), 3) := by decide +kernel
theorem dX7_lay_131 : decode cX7_lay 131 = .ok (.iinc 4 1, 3) := by decide +kernel
theorem dX7_lay_134 : decode cX7_lay 134 = .ok (.goto (-81), 3) := by decide +kernel
theorem dX7_lay_137 : decode cX7_lay 137 = .ok (.iconst 0, 1) := by decide +kernel
theorem dX7_lay_138 : decode cX7_lay 138 = .ok (.istore 4, 2) := by decide +kernel
theorem dX7_lay_140 : decode cX7_lay 140 = .ok (.iload 4, 2) := by decide +kernel
theorem dX7_lay_142 : decode cX7_lay 142 = .ok (.bipush 9, 2) := by decide +kernel
theorem dX7_lay_144 : decode cX7_lay 144 = .ok (.if_icmp .ge 28, 3) := by decide +kernel
theorem dX7_lay_147 : decode cX7_lay 147 = .ok (.aload_n 0, 1) := by decide +kernel
theorem dX7_lay_148 : decode cX7_lay 148 = .ok (.getfield 55, 3) := by decide +kernel
theorem dX7_lay_151 : decode cX7_lay 151 = .ok (.iload 4, 2) := by decide +kernel
theorem dX7_lay_153 : decode cX7_lay 153 = .ok (.aload_n 0, 1) := by decide +kernel
theorem dX7_lay_154 : decode cX7_lay 154 = .ok (.iload 4, 2) := by decide +kernel
theorem dX7_lay_156 : decode cX7_lay 156 = .ok (.iconst 3, 1) := by decide +kernel
theorem dX7_lay_157 : decode cX7_lay 157 = .ok (.irem, 1) := by decide +kernel
theorem dX7_lay_158 : decode cX7_lay 158 = .ok (.iload 4, 2) := by decide +kernel
theorem dX7_lay_160 : decode cX7_lay 160 = .ok (.iconst 3, 1) := by decide +kernel
theorem dX7_lay_161 : decode cX7_lay 161 = .ok (.idiv, 1) := by decide +kernel
theorem dX7_lay_162 : decode cX7_lay 162 = .ok (.invokevirtual 127, 3) := by decide +kernel
theorem dX7_lay_165 : decode cX7_lay 165 = .ok (.lastore, 1) := by decide +kernel
theorem dX7_lay_166 : decode cX7_lay 166 = .ok (.iinc 4 1, 3) := by decide +kernel
theorem dX7_lay_169 : decode cX7_lay 169 = .ok (.goto (-29), 3) := by decide +kernel
theorem dX7_lay_172 : decode cX7_lay 172 = .ok (.aload_n 0, 1) := by decide +kernel
theorem dX7_lay_173 : decode cX7_lay 173 = .ok (.aload_n 0, 1) := by decide +kernel
theorem dX7_lay_174 : decode cX7_lay 174 = .ok (.getfield 51, 3) := by decide +kernel
theorem dX7_lay_177 : decode cX7_lay 177 = .ok (.iconst 0, 1) := by decide +kernel
theorem dX7_lay_178 : decode cX7_lay 178 = .ok (.laload, 1) := by decide +kernel
theorem dX7_lay_179 : decode cX7_lay 179 = .ok (.aload_n 0, 1) := by decide +kernel
theorem dX7_lay_180 : decode cX7_lay 180 = .ok (.getfield 55, 3) := by decide +kernel
theorem dX7_lay_183 : decode cX7_lay 183 = .ok (.iconst 0, 1) := by decide +kernel
theorem dX7_lay_184 : decode cX7_lay 184 = .ok (.laload, 1) := by decide +kernel
theorem dX7_lay_185 : decode cX7_lay 185 = .ok (.lmul, 1) := by decide +kernel
theorem dX7_lay_186 : decode cX7_lay 186 = .ok (.aload_n 0, 1) := by decide +kernel
theorem dX7_lay_187 : decode cX7_lay 187 = .ok (.getfield 51, 3) := by decide +kernel
theorem dX7_lay_190 : decode cX7_lay 190 = .ok (.iconst 1, 1) := by decide +kernel
theorem dX7_lay_191 : decode cX7_lay 191 = .ok (.laload, 1) := by decide +kernel
theorem dX7_lay_192 : decode cX7_lay 192 = .ok (.aload_n 0, 1) := by decide +kernel
theorem dX7_lay_193 : decode cX7_lay 193 = .ok (.getfield 55, 3) := by decide +kernel
theorem dX7_lay_196 : decode cX7_lay 196 = .ok (.iconst 3, 1) := by decide +kernel
theorem dX7_lay_197 : decode cX7_lay 197 = .ok (.laload, 1) := by decide +kernel
theorem dX7_lay_198 : decode cX7_lay 198 = .ok (.lmul, 1) := by decide +kernel
theorem dX7_lay_199 : decode cX7_lay 199 = .ok (.ladd, 1) := by decide +kernel
theorem dX7_lay_200 : decode cX7_lay 200 = .ok (.aload_n 0, 1) := by decide +kernel
theorem dX7_lay_201 : decode cX7_lay 201 = .ok (.getfield 51, 3) := by decide +kernel
theorem dX7_lay_204 : decode cX7_lay 204 = .ok (.iconst 2, 1) := by decide +kernel
theorem dX7_lay_205 : decode cX7_lay 205 = .ok (.laload, 1) := by decide +kernel
theorem dX7_lay_206 : decode cX7_lay 206 = .ok (.aload_n 0, 1) := by decide +kernel
theorem dX7_lay_207 : decode cX7_lay 207 = .ok (.getfield 55, 3) := by decide +kernel
theorem dX7_lay_210 : decode cX7_lay 210 = .ok (.bipush 6, 2) := by decide +kernel
theorem dX7_lay_212 : decode cX7_lay 212 = .ok (.laload, 1) := by decide +kernel
theorem dX7_lay_213 : decode cX7_lay 213 = .ok (.lmul, 1) := by decide +kernel
theorem dX7_lay_214 : decode cX7_lay 214 = .ok (.ladd, 1) := by decide +kernel
theorem dX7_lay_215 : decode cX7_lay 215 = .ok (.putfield 131, 3) := by decide +kernel
theorem dX7_lay_218 : decode cX7_lay 218 = .ok (.return_, 1) := by decide +kernel
theorem dX7_det_0 : decode cX7_det 0 = .ok (.iload_n 1, 1) := by decide +kernel
theorem dX7_det_1 : decode cX7_det 1 = .ok (.invokestatic 135, 3) := by decide +kernel
theorem dX7_det_4 : decode cX7_det 4 = .ok (.ifCond .ne 7, 3) := by decide +kernel
theorem dX7_det_7 : decode cX7_det 7 = .ok (.ldc2_w 138, 3) := by decide +kernel
theorem dX7_det_10 : decode cX7_det 10 = .ok (.lreturn, 1) := by decide +kernel
theorem dX7_det_11 : decode cX7_det 11 = .ok (.aload_n 0, 1) := by decide +kernel
theorem dX7_det_12 : decode cX7_det 12 = .ok (.iload_n 1, 1) := by decide +kernel
theorem dX7_det_13 : decode cX7_det 13 = .ok (.aload_n 0, 1) := by decide +kernel
theorem dX7_det_14 : decode cX7_det 14 = .ok (.invokevirtual 107, 3) := by decide +kernel
theorem dX7_det_17 : decode cX7_det 17 = .ok (.invokevirtual 140, 3) := by decide +kernel
theorem dX7_det_20 : decode cX7_det 20 = .ok (.aload_n 0, 1) := by decide +kernel
theorem dX7_det_21 : decode cX7_det 21 = .ok (.getfield 131, 3) := by decide +kernel
theorem dX7_det_24 : decode cX7_det 24 = .ok (.lreturn, 1) := by decide +kernel
theorem dX7_findFit_0 : decode cX7_findFit 0 = .ok (.aload_n 0, 1) := by decide +kernel
theorem dX7_findFit_1 : decode cX7_findFit 1 = .ok (.iload_n 1, 1) := by decide +kernel
theorem dX7_findFit_2 : decode cX7_findFit 2 = .ok (.iload_n 3, 1) := by decide +kernel
theorem dX7_findFit_3 : decode cX7_findFit 3 = .ok (.invokevirtual 140, 3) := by decide +kernel
theorem dX7_findFit_6 : decode cX7_findFit 6 = .ok (.iload_n 1, 1) := by decide +kernel
theorem dX7_findFit_7 : decode cX7_findFit 7 = .ok (.invokestatic 120, 3) := by decide +kernel
theorem dX7_findFit_10 : decode cX7_findFit 10 = .ok (.istore 4, 2) := by decide +kernel
theorem dX7_findFit_12 : decode cX7_findFit 12 = .ok (.iconst 0, 1) := by decide +kernel
theorem dX7_findFit_13 : decode cX7_findFit 13 = .ok (.istore 5, 2) := by decide +kernel
theorem dX7_findFit_15 : decode cX7_findFit 15 = .ok (.iload 5, 2) := by decide +kernel
theorem dX7_findFit_17 : decode cX7_findFit 17 = .ok (.iconst 3, 1) := by decide +kernel
theorem dX7_findFit_18 : decode cX7_findFit 18 = .ok (.if_icmp .ge 17, 3) := by decide +kernel
theorem dX7_findFit_21 : decode cX7_findFit 21 = .ok (.aload_n 0, 1) := by decide +kernel
theorem dX7_findFit_22 : decode cX7_findFit 22 = .ok (.getfield 58, 3) := by decide +kernel
theorem dX7_findFit_25 : decode cX7_findFit 25 = .ok (.iload 5, 2) := by decide +kernel
theorem dX7_findFit_27 : decode cX7_findFit 27 = .ok (.lconst 0, 1) := by decide +kernel
theorem dX7_findFit_28 : decode cX7_findFit 28 = .ok (.lastore, 1) := by decide +kernel
theorem dX7_findFit_29 : decode cX7_findFit 29 = .ok (.iinc 5 1, 3) := by decide +kernel
theorem dX7_findFit_32 : decode cX7_findFit 32 = .ok (.goto (-17), 3) := by decide +kernel
theorem dX7_findFit_35 : decode cX7_findFit 35 = .ok (.iconst 0, 1) := by decide +kernel
theorem dX7_findFit_36 : decode cX7_findFit 36 = .ok (.istore 5, 2) := by decide +kernel
theorem dX7_findFit_38 : decode cX7_findFit 38 = .ok (.iload 5, 2) := by decide +kernel
theorem dX7_findFit_40 : decode cX7_findFit 40 = .ok (.aload_n 0, 1) := by decide +kernel
theorem dX7_findFit_41 : decode cX7_findFit 41 = .ok (.getfield 86, 3) := by decide +kernel
theorem dX7_findFit_44 : decode cX7_findFit 44 = .ok (.if_icmp .ge 67, 3) := by decide +kernel
theorem dX7_findFit_47 : decode cX7_findFit 47 = .ok (.iconst 0, 1) := by decide +kernel
theorem dX7_findFit_48 : decode cX7_findFit 48 = .ok (.istore 6, 2) := by decide +kernel
theorem dX7_findFit_50 : decode cX7_findFit 50 = .ok (.iload 6, 2) := by decide +kernel
theorem dX7_findFit_52 : decode cX7_findFit 52 = .ok (.iload 4, 2) := by decide +kernel
theorem dX7_findFit_54 : decode cX7_findFit 54 = .ok (.if_icmp .ge 51, 3) := by decide +kernel
theorem dX7_findFit_57 : decode cX7_findFit 57 = .ok (.iload_n 3, 1) := by decide +kernel
theorem dX7_findFit_58 : decode cX7_findFit 58 = .ok (.iload 5, 2) := by decide +kernel
theorem dX7_findFit_60 : decode cX7_findFit 60 = .ok (.ishr, 1) := by decide +kernel
theorem dX7_findFit_61 : decode cX7_findFit 61 = .ok (.iconst 1, 1) := by decide +kernel
theorem dX7_findFit_62 : decode cX7_findFit 62 = .ok (.iand, 1) := by decide +kernel
theorem dX7_findFit_63 : decode cX7_findFit 63 = .ok (.iconst 1, 1) := by decide +kernel
theorem dX7_findFit_64 : decode cX7_findFit 64 = .ok (.if_icmp .ne 41, 3) := by decide +kernel
theorem dX7_findFit_67 : decode cX7_findFit 67 = .ok (.aload_n 0, 1) := by decide +kernel
theorem dX7_findFit_68 : decode cX7_findFit 68 = .ok (.getfield 58, 3) := by decide +kernel
theorem dX7_findFit_71 : decode cX7_findFit 71 = .ok (.iload 6, 2) := by decide +kernel
theorem dX7_findFit_73 : decode cX7_findFit 73 = .ok (.dup2, 1) := by decide +kernel
theorem dX7_findFit_74 : decode cX7_findFit 74 = .ok (.laload, 1) := by decide +kernel
theorem dX7_findFit_75 : decode cX7_findFit 75 = .ok (.aload_n 0, 1) := by decide +kernel
theorem dX7_findFit_76 : decode cX7_findFit 76 = .ok (.iload_n 1, 1) := by decide +kernel
theorem dX7_findFit_77 : decode cX7_findFit 77 = .ok (.iload 5, 2) := by decide +kernel
theorem dX7_findFit_79 : decode cX7_findFit 79 = .ok (.iload 6, 2) := by decide +kernel
theorem dX7_findFit_81 : decode cX7_findFit 81 = .ok (.invokevirtual 123, 3) := by decide +kernel
theorem dX7_findFit_84 : decode cX7_findFit 84 = .ok (.aload_n 0, 1) := by decide +kernel
theorem dX7_findFit_85 : decode cX7_findFit 85 = .ok (.getfield 13, 3) := by decide +kernel
theorem dX7_findFit_88 : decode cX7_findFit 88 = .ok (.iconst 2, 1) := by decide +kernel
theorem dX7_findFit_89 : decode cX7_findFit 89 = .ok (.iload 5, 2) := by decide +kernel
theorem dX7_findFit_91 : decode cX7_findFit 91 = .ok (.imul, 1) := by decide +kernel
theorem dX7_findFit_92 : decode cX7_findFit 92 = .ok (.iload_n 2, 1) := by decide +kernel
theorem dX7_findFit_93 : decode cX7_findFit 93 = .ok (.iadd, 1) := by decide +kernel
theorem dX7_findFit_94 : decode cX7_findFit 94 = .ok (.iaload, 1) := by decide +kernel
theorem dX7_findFit_95 : decode cX7_findFit 95 = .ok (.i2l, 1) := by decide +kernel
theorem dX7_findFit_96 : decode cX7_findFit 96 = .ok (.lmul, 1) := by decide +kernel
theorem dX7_findFit_97 : decode cX7_findFit 97 = .ok (.ladd, 1) := by decide +kernel
theorem dX7_findFit_98 : decode cX7_findFit 98 = .ok (.lastore, 1) := by decide +kernel
theorem dX7_findFit_99 : decode cX7_findFit 99 = .ok (.iinc 6 1, 3) := by decide +kernel
theorem dX7_findFit_102 : decode cX7_findFit 102 = .ok (.goto (-52), 3) := by decide +kernel
theorem dX7_findFit_105 : decode cX7_findFit 105 = .ok (.iinc 5 1, 3) := by decide +kernel
theorem dX7_findFit_108 : decode cX7_findFit 108 = .ok (.goto (-70), 3) := by decide +kernel
theorem dX7_findFit_111 : decode cX7_findFit 111 = .ok (.iconst 0, 1) := by decide +kernel
theorem dX7_findFit_112 : decode cX7_findFit 112 = .ok (.istore 5, 2) := by decide +kernel
theorem dX7_findFit_114 : decode cX7_findFit 114 = .ok (.iload 5, 2) := by decide +kernel
theorem dX7_findFit_116 : decode cX7_findFit 116 = .ok (.iconst 3, 1) := by decide +kernel
theorem dX7_findFit_117 : decode cX7_findFit 117 = .ok (.if_icmp .ge 70, 3) := by decide +kernel
theorem dX7_findFit_120 : decode cX7_findFit 120 = .ok (.aload_n 0, 1) := by decide +kernel
theorem dX7_findFit_121 : decode cX7_findFit 121 = .ok (.getfield 61, 3) := by decide +kernel
theorem dX7_findFit_124 : decode cX7_findFit 124 = .ok (.iload 5, 2) := by decide +kernel
theorem dX7_findFit_126 : decode cX7_findFit 126 = .ok (.aload_n 0, 1) := by decide +kernel
theorem dX7_findFit_127 : decode cX7_findFit 127 = .ok (.getfield 55, 3) := by decide +kernel
theorem dX7_findFit_130 : decode cX7_findFit 130 = .ok (.iconst 3, 1) := by decide +kernel
theorem dX7_findFit_131 : decode cX7_findFit 131 = .ok (.iload 5, 2) := by decide +kernel
theorem dX7_findFit_133 : decode cX7_findFit 133 = .ok (.imul, 1) := by decide +kernel
theorem dX7_findFit_134 : decode cX7_findFit 134 = .ok (.laload, 1) := by decide +kernel
theorem dX7_findFit_135 : decode cX7_findFit 135 = .ok (.aload_n 0, 1) := by decide +kernel
theorem dX7_findFit_136 : decode cX7_findFit 136 = .ok (.getfield 58, 3) := by decide +kernel
theorem dX7_findFit_139 : decode cX7_findFit 139 = .ok (.iconst 0, 1) := by decide +kernel
theorem dX7_findFit_140 : decode cX7_findFit 140 = .ok (.laload, 1) := by decide +kernel
theorem dX7_findFit_141 : decode cX7_findFit 141 = .ok (.lmul, 1) := by decide +kernel
theorem dX7_findFit_142 : decode cX7_findFit 142 = .ok (.aload_n 0, 1) := by decide +kernel
theorem dX7_findFit_143 : decode cX7_findFit 143 = .ok (.getfield 55, 3) := by decide +kernel
theorem dX7_findFit_146 : decode cX7_findFit 146 = .ok (.iconst 3, 1) := by decide +kernel
theorem dX7_findFit_147 : decode cX7_findFit 147 = .ok (.iload 5, 2) := by decide +kernel
theorem dX7_findFit_149 : decode cX7_findFit 149 = .ok (.imul, 1) := by decide +kernel
theorem dX7_findFit_150 : decode cX7_findFit 150 = .ok (.iconst 1, 1) := by decide +kernel
theorem dX7_findFit_151 : decode cX7_findFit 151 = .ok (.iadd, 1) := by decide +kernel
theorem dX7_findFit_152 : decode cX7_findFit 152 = .ok (.laload, 1) := by decide +kernel
theorem dX7_findFit_153 : decode cX7_findFit 153 = .ok (.aload_n 0, 1) := by decide +kernel
theorem dX7_findFit_154 : decode cX7_findFit 154 = .ok (.getfield 58, 3) := by decide +kernel
theorem dX7_findFit_157 : decode cX7_findFit 157 = .ok (.iconst 1, 1) := by decide +kernel
theorem dX7_findFit_158 : decode cX7_findFit 158 = .ok (.laload, 1) := by decide +kernel
theorem dX7_findFit_159 : decode cX7_findFit 159 = .ok (.lmul, 1) := by decide +kernel
theorem dX7_findFit_160 : decode cX7_findFit 160 = .ok (.ladd, 1) := by decide +kernel
theorem dX7_findFit_161 : decode cX7_findFit 161 = .ok (.aload_n 0, 1) := by decide +kernel
theorem dX7_findFit_162 : decode cX7_findFit 162 = .ok (.getfield 55, 3) := by decide +kernel
theorem dX7_findFit_165 : decode cX7_findFit 165 = .ok (.iconst 3, 1) := by decide +kernel
theorem dX7_findFit_166 : decode cX7_findFit 166 = .ok (.iload 5, 2) := by decide +kernel
theorem dX7_findFit_168 : decode cX7_findFit 168 = .ok (.imul, 1) := by decide +kernel
theorem dX7_findFit_169 : decode cX7_findFit 169 = .ok (.iconst 2, 1) := by decide +kernel
theorem dX7_findFit_170 : decode cX7_findFit 170 = .ok (.iadd, 1) := by decide +kernel
theorem dX7_findFit_171 : decode cX7_findFit 171 = .ok (.laload, 1) := by decide +kernel
theorem dX7_findFit_172 : decode cX7_findFit 172 = .ok (.aload_n 0, 1) := by decide +kernel
theorem dX7_findFit_173 : decode cX7_findFit 173 = .ok (.getfield 58, 3) := by decide +kernel
theorem dX7_findFit_176 : decode cX7_findFit 176 = .ok (.iconst 2, 1) := by decide +kernel
theorem dX7_findFit_177 : decode cX7_findFit 177 = .ok (.laload, 1) := by decide +kernel
theorem dX7_findFit_178 : decode cX7_findFit 178 = .ok (.lmul, 1) := by decide +kernel
theorem dX7_findFit_179 : decode cX7_findFit 179 = .ok (.ladd, 1) := by decide +kernel
theorem dX7_findFit_180 : decode cX7_findFit 180 = .ok (.lastore, 1) := by decide +kernel
theorem dX7_findFit_181 : decode cX7_findFit 181 = .ok (.iinc 5 1, 3) := by decide +kernel
theorem dX7_findFit_184 : decode cX7_findFit 184 = .ok (.goto (-70), 3) := by decide +kernel
theorem dX7_findFit_187 : decode cX7_findFit 187 = .ok (.return_, 1) := by decide +kernel
theorem dX7_restOf_0 : decode cX7_restOf 0 = .ok (.aload_n 0, 1) := by decide +kernel
theorem dX7_restOf_1 : decode cX7_restOf 1 = .ok (.getfield 13, 3) := by decide +kernel
theorem dX7_restOf_4 : decode cX7_restOf 4 = .ok (.iconst 2, 1) := by decide +kernel
theorem dX7_restOf_5 : decode cX7_restOf 5 = .ok (.iload_n 3, 1) := by decide +kernel
theorem dX7_restOf_6 : decode cX7_restOf 6 = .ok (.imul, 1) := by decide +kernel
theorem dX7_restOf_7 : decode cX7_restOf 7 = .ok (.iload_n 2, 1) := by decide +kernel
theorem dX7_restOf_8 : decode cX7_restOf 8 = .ok (.iadd, 1) := by decide +kernel
theorem dX7_restOf_9 : decode cX7_restOf 9 = .ok (.iaload, 1) := by decide +kernel
theorem dX7_restOf_10 : decode cX7_restOf 10 = .ok (.i2l, 1) := by decide +kernel
theorem dX7_restOf_11 : decode cX7_restOf 11 = .ok (.aload_n 0, 1) := by decide +kernel
theorem dX7_restOf_12 : decode cX7_restOf 12 = .ok (.getfield 131, 3) := by decide +kernel
theorem dX7_restOf_15 : decode cX7_restOf 15 = .ok (.lmul, 1) := by decide +kernel
theorem dX7_restOf_16 : decode cX7_restOf 16 = .ok (.lstore 4, 2) := by decide +kernel
theorem dX7_restOf_18 : decode cX7_restOf 18 = .ok (.iconst 0, 1) := by decide +kernel
theorem dX7_restOf_19 : decode cX7_restOf 19 = .ok (.istore 6, 2) := by decide +kernel
theorem dX7_restOf_21 : decode cX7_restOf 21 = .ok (.iload 6, 2) := by decide +kernel
theorem dX7_restOf_23 : decode cX7_restOf 23 = .ok (.iload_n 1, 1) := by decide +kernel
theorem dX7_restOf_24 : decode cX7_restOf 24 = .ok (.invokestatic 120, 3) := by decide +kernel
theorem dX7_restOf_27 : decode cX7_restOf 27 = .ok (.if_icmp .ge 30, 3) := by decide +kernel
theorem dX7_restOf_30 : decode cX7_restOf 30 = .ok (.lload 4, 2) := by decide +kernel
theorem dX7_restOf_32 : decode cX7_restOf 32 = .ok (.aload_n 0, 1) := by decide +kernel
theorem dX7_restOf_33 : decode cX7_restOf 33 = .ok (.getfield 61, 3) := by decide +kernel
theorem dX7_restOf_36 : decode cX7_restOf 36 = .ok (.iload 6, 2) := by decide +kernel
theorem dX7_restOf_38 : decode cX7_restOf 38 = .ok (.laload, 1) := by decide +kernel
theorem dX7_restOf_39 : decode cX7_restOf 39 = .ok (.aload_n 0, 1) := by decide +kernel
theorem dX7_restOf_40 : decode cX7_restOf 40 = .ok (.iload_n 1, 1) := by decide +kernel
theorem dX7_restOf_41 : decode cX7_restOf 41 = .ok (.iload_n 3, 1) := by decide +kernel
theorem dX7_restOf_42 : decode cX7_restOf 42 = .ok (.iload 6, 2) := by decide +kernel
theorem dX7_restOf_44 : decode cX7_restOf 44 = .ok (.invokevirtual 123, 3) := by decide +kernel
theorem dX7_restOf_47 : decode cX7_restOf 47 = .ok (.lmul, 1) := by decide +kernel
theorem dX7_restOf_48 : decode cX7_restOf 48 = .ok (.lsub, 1) := by decide +kernel
theorem dX7_restOf_49 : decode cX7_restOf 49 = .ok (.lstore 4, 2) := by decide +kernel
theorem dX7_restOf_51 : decode cX7_restOf 51 = .ok (.iinc 6 1, 3) := by decide +kernel
theorem dX7_restOf_54 : decode cX7_restOf 54 = .ok (.goto (-33), 3) := by decide +kernel
theorem dX7_restOf_57 : decode cX7_restOf 57 = .ok (.lload 4, 2) := by decide +kernel
theorem dX7_restOf_59 : decode cX7_restOf 59 = .ok (.lreturn, 1) := by decide +kernel
theorem dX7_size_0 : decode cX7_size 0 = .ok (.lload_n 0, 1) := by decide +kernel
theorem dX7_size_1 : decode cX7_size 1 = .ok (.lconst 0, 1) := by decide +kernel
theorem dX7_size_2 : decode cX7_size 2 = .ok (.lcmp, 1) := by decide +kernel
theorem dX7_size_3 : decode cX7_size 3 = .ok (.ifCond .ge 8, 3) := by decide +kernel
theorem dX7_size_6 : decode cX7_size 6 = .ok (.lload_n 0, 1) := by decide +kernel
theorem dX7_size_7 : decode cX7_size 7 = .ok (.lneg, 1) := by decide +kernel
theorem dX7_size_8 : decode cX7_size 8 = .ok (.goto 4, 3) := by decide +kernel
theorem dX7_size_11 : decode cX7_size 11 = .ok (.lload_n 0, 1) := by decide +kernel
theorem dX7_size_12 : decode cX7_size 12 = .ok (.lreturn, 1) := by decide +kernel
theorem dX7_share_0 : decode cX7_share 0 = .ok (.lload_n 0, 1) := by decide +kernel
theorem dX7_share_1 : decode cX7_share 1 = .ok (.invokestatic 144, 3) := by decide +kernel
theorem dX7_share_4 : decode cX7_share 4 = .ok (.lstore 5, 2) := by decide +kernel
theorem dX7_share_6 : decode cX7_share 6 = .ok (.lload_n 2, 1) := by decide +kernel
theorem dX7_share_7 : decode cX7_share 7 = .ok (.lstore 7, 2) := by decide +kernel
theorem dX7_share_9 : decode cX7_share 9 = .ok (.lload 7, 2) := by decide +kernel
theorem dX7_share_11 : decode cX7_share 11 = .ok (.lconst 0, 1) := by decide +kernel
theorem dX7_share_12 : decode cX7_share 12 = .ok (.lcmp, 1) := by decide +kernel
theorem dX7_share_13 : decode cX7_share 13 = .ok (.ifCond .eq 21, 3) := by decide +kernel
theorem dX7_share_16 : decode cX7_share 16 = .ok (.lload 5, 2) := by decide +kernel
theorem dX7_share_18 : decode cX7_share 18 = .ok (.lload 7, 2) := by decide +kernel
theorem dX7_share_20 : decode cX7_share 20 = .ok (.lrem, 1) := by decide +kernel
theorem dX7_share_21 : decode cX7_share 21 = .ok (.lstore 9, 2) := by decide +kernel
theorem dX7_share_23 : decode cX7_share 23 = .ok (.lload 7, 2) := by decide +kernel
theorem dX7_share_25 : decode cX7_share 25 = .ok (.lstore 5, 2) := by decide +kernel
theorem dX7_share_27 : decode cX7_share 27 = .ok (.lload 9, 2) := by decide +kernel
theorem dX7_share_29 : decode cX7_share 29 = .ok (.lstore 7, 2) := by decide +kernel
theorem dX7_share_31 : decode cX7_share 31 = .ok (.goto (-22), 3) := by decide +kernel
theorem dX7_share_34 : decode cX7_share 34 = .ok (.iload 4, 2) := by decide +kernel
theorem dX7_share_36 : decode cX7_share 36 = .ok (.ifCond .ne 10, 3) := by decide +kernel
theorem dX7_share_39 : decode cX7_share 39 = .ok (.lload_n 0, 1) := by decide +kernel
theorem dX7_share_40 : decode cX7_share 40 = .ok (.lload 5, 2) := by decide +kernel
theorem dX7_share_42 : decode cX7_share 42 = .ok (.ldiv, 1) := by decide +kernel
theorem dX7_share_43 : decode cX7_share 43 = .ok (.goto 7, 3) := by decide +kernel
theorem dX7_share_46 : decode cX7_share 46 = .ok (.lload_n 2, 1) := by decide +kernel
theorem dX7_share_47 : decode cX7_share 47 = .ok (.lload 5, 2) := by decide +kernel
theorem dX7_share_49 : decode cX7_share 49 = .ok (.ldiv, 1) := by decide +kernel
theorem dX7_share_50 : decode cX7_share 50 = .ok (.lreturn, 1) := by decide +kernel
theorem dX7_fit_0 : decode cX7_fit 0 = .ok (.iload_n 1, 1) := by decide +kernel
theorem dX7_fit_1 : decode cX7_fit 1 = .ok (.invokestatic 135, 3) := by decide +kernel
theorem dX7_fit_4 : decode cX7_fit 4 = .ok (.ifCond .eq 40, 3) := by decide +kernel
theorem dX7_fit_7 : decode cX7_fit 7 = .ok (.iload_n 2, 1) := by decide +kernel
theorem dX7_fit_8 : decode cX7_fit 8 = .ok (.i2l, 1) := by decide +kernel
theorem dX7_fit_9 : decode cX7_fit 9 = .ok (.lconst 0, 1) := by decide +kernel
theorem dX7_fit_10 : decode cX7_fit 10 = .ok (.lconst 1, 1) := by decide +kernel
theorem dX7_fit_11 : decode cX7_fit 11 = .ok (.invokestatic 77, 3) := by decide +kernel
theorem dX7_fit_14 : decode cX7_fit 14 = .ok (.ifCond .eq 30, 3) := by decide +kernel
theorem dX7_fit_17 : decode cX7_fit 17 = .ok (.iload_n 3, 1) := by decide +kernel
theorem dX7_fit_18 : decode cX7_fit 18 = .ok (.i2l, 1) := by decide +kernel
theorem dX7_fit_19 : decode cX7_fit 19 = .ok (.lconst 0, 1) := by decide +kernel
theorem dX7_fit_20 : decode cX7_fit 20 = .ok (.iload_n 1, 1) := by decide +kernel
theorem dX7_fit_21 : decode cX7_fit 21 = .ok (.invokestatic 120, 3) := by decide +kernel
theorem dX7_fit_24 : decode cX7_fit 24 = .ok (.iconst 1, 1) := by decide +kernel
theorem dX7_fit_25 : decode cX7_fit 25 = .ok (.isub, 1) := by decide +kernel
theorem dX7_fit_26 : decode cX7_fit 26 = .ok (.i2l, 1) := by decide +kernel
theorem dX7_fit_27 : decode cX7_fit 27 = .ok (.invokestatic 77, 3) := by decide +kernel
theorem dX7_fit_30 : decode cX7_fit 30 = .ok (.ifCond .eq 14, 3) := by decide +kernel
theorem dX7_fit_33 : decode cX7_fit 33 = .ok (.iload 4, 2) := by decide +kernel
theorem dX7_fit_35 : decode cX7_fit 35 = .ok (.i2l, 1) := by decide +kernel
theorem dX7_fit_36 : decode cX7_fit 36 = .ok (.lconst 0, 1) := by decide +kernel
theorem dX7_fit_37 : decode cX7_fit 37 = .ok (.lconst 1, 1) := by decide +kernel
theorem dX7_fit_38 : decode cX7_fit 38 = .ok (.invokestatic 77, 3) := by decide +kernel
theorem dX7_fit_41 : decode cX7_fit 41 = .ok (.ifCond .ne 7, 3) := by decide +kernel
theorem dX7_fit_44 : decode cX7_fit 44 = .ok (.ldc2_w 138, 3) := by decide +kernel
theorem dX7_fit_47 : decode cX7_fit 47 = .ok (.lreturn, 1) := by decide +kernel
theorem dX7_fit_48 : decode cX7_fit 48 = .ok (.aload_n 0, 1) := by decide +kernel
theorem dX7_fit_49 : decode cX7_fit 49 = .ok (.iload_n 1, 1) := by decide +kernel
theorem dX7_fit_50 : decode cX7_fit 50 = .ok (.iload_n 2, 1) := by decide +kernel
theorem dX7_fit_51 : decode cX7_fit 51 = .ok (.aload_n 0, 1) := by decide +kernel
theorem dX7_fit_52 : decode cX7_fit 52 = .ok (.invokevirtual 107, 3) := by decide +kernel
theorem dX7_fit_55 : decode cX7_fit 55 = .ok (.invokevirtual 148, 3) := by decide +kernel
theorem dX7_fit_58 : decode cX7_fit 58 = .ok (.aload_n 0, 1) := by decide +kernel
theorem dX7_fit_59 : decode cX7_fit 59 = .ok (.getfield 131, 3) := by decide +kernel
theorem dX7_fit_62 : decode cX7_fit 62 = .ok (.lconst 0, 1) := by decide +kernel
theorem dX7_fit_63 : decode cX7_fit 63 = .ok (.lcmp, 1) := by decide +kernel
theorem dX7_fit_64 : decode cX7_fit 64 = .ok (.ifCond .ne 9, 3) := by decide +kernel
theorem dX7_fit_67 : decode cX7_fit 67 = .ok (.ldc2_w 152, 3) := by decide +kernel
theorem dX7_fit_70 : decode cX7_fit 70 = .ok (.goto 18, 3) := by decide +kernel
theorem dX7_fit_73 : decode cX7_fit 73 = .ok (.aload_n 0, 1) := by decide +kernel
theorem dX7_fit_74 : decode cX7_fit 74 = .ok (.getfield 61, 3) := by decide +kernel
theorem dX7_fit_77 : decode cX7_fit 77 = .ok (.iload_n 3, 1) := by decide +kernel
theorem dX7_fit_78 : decode cX7_fit 78 = .ok (.laload, 1) := by decide +kernel
theorem dX7_fit_79 : decode cX7_fit 79 = .ok (.aload_n 0, 1) := by decide +kernel
theorem dX7_fit_80 : decode cX7_fit 80 = .ok (.getfield 131, 3) := by decide +kernel
theorem dX7_fit_83 : decode cX7_fit 83 = .ok (.iload 4, 2) := by decide +kernel
theorem dX7_fit_85 : decode cX7_fit 85 = .ok (.invokestatic 154, 3) := by decide +kernel
theorem dX7_fit_88 : decode cX7_fit 88 = .ok (.lreturn, 1) := by decide +kernel
theorem dX7_rest_0 : decode cX7_rest 0 = .ok (.aload_n 0, 1) := by decide +kernel
theorem dX7_rest_1 : decode cX7_rest 1 = .ok (.iload_n 3, 1) := by decide +kernel
theorem dX7_rest_2 : decode cX7_rest 2 = .ok (.invokevirtual 90, 3) := by decide +kernel
theorem dX7_rest_5 : decode cX7_rest 5 = .ok (.ifCond .ne 7, 3) := by decide +kernel
theorem dX7_rest_8 : decode cX7_rest 8 = .ok (.ldc2_w 158, 3) := by decide +kernel
theorem dX7_rest_11 : decode cX7_rest 11 = .ok (.lreturn, 1) := by decide +kernel
theorem dX7_rest_12 : decode cX7_rest 12 = .ok (.iload_n 1, 1) := by decide +kernel
theorem dX7_rest_13 : decode cX7_rest 13 = .ok (.invokestatic 135, 3) := by decide +kernel
theorem dX7_rest_16 : decode cX7_rest 16 = .ok (.ifCond .eq 24, 3) := by decide +kernel
theorem dX7_rest_19 : decode cX7_rest 19 = .ok (.iload_n 2, 1) := by decide +kernel
theorem dX7_rest_20 : decode cX7_rest 20 = .ok (.i2l, 1) := by decide +kernel
theorem dX7_rest_21 : decode cX7_rest 21 = .ok (.lconst 0, 1) := by decide +kernel
theorem dX7_rest_22 : decode cX7_rest 22 = .ok (.lconst 1, 1) := by decide +kernel
theorem dX7_rest_23 : decode cX7_rest 23 = .ok (.invokestatic 77, 3) := by decide +kernel
theorem dX7_rest_26 : decode cX7_rest 26 = .ok (.ifCond .eq 14, 3) := by decide +kernel
theorem dX7_rest_29 : decode cX7_rest 29 = .ok (.iload 4, 2) := by decide +kernel
theorem dX7_rest_31 : decode cX7_rest 31 = .ok (.i2l, 1) := by decide +kernel
theorem dX7_rest_32 : decode cX7_rest 32 = .ok (.lconst 0, 1) := by decide +kernel
theorem dX7_rest_33 : decode cX7_rest 33 = .ok (.lconst 1, 1) := by decide +kernel
theorem dX7_rest_34 : decode cX7_rest 34 = .ok (.invokestatic 77, 3) := by decide +kernel
theorem dX7_rest_37 : decode cX7_rest 37 = .ok (.ifCond .ne 7, 3) := by decide +kernel
theorem dX7_rest_40 : decode cX7_rest 40 = .ok (.ldc2_w 138, 3) := by decide +kernel
theorem dX7_rest_43 : decode cX7_rest 43 = .ok (.lreturn, 1) := by decide +kernel
theorem dX7_rest_44 : decode cX7_rest 44 = .ok (.aload_n 0, 1) := by decide +kernel
theorem dX7_rest_45 : decode cX7_rest 45 = .ok (.iload_n 1, 1) := by decide +kernel
theorem dX7_rest_46 : decode cX7_rest 46 = .ok (.iload_n 2, 1) := by decide +kernel
theorem dX7_rest_47 : decode cX7_rest 47 = .ok (.aload_n 0, 1) := by decide +kernel
theorem dX7_rest_48 : decode cX7_rest 48 = .ok (.invokevirtual 107, 3) := by decide +kernel
theorem dX7_rest_51 : decode cX7_rest 51 = .ok (.invokevirtual 148, 3) := by decide +kernel
theorem dX7_rest_54 : decode cX7_rest 54 = .ok (.aload_n 0, 1) := by decide +kernel
theorem dX7_rest_55 : decode cX7_rest 55 = .ok (.getfield 131, 3) := by decide +kernel
theorem dX7_rest_58 : decode cX7_rest 58 = .ok (.lconst 0, 1) := by decide +kernel
theorem dX7_rest_59 : decode cX7_rest 59 = .ok (.lcmp, 1) := by decide +kernel
theorem dX7_rest_60 : decode cX7_rest 60 = .ok (.ifCond .eq 12, 3) := by decide +kernel
theorem dX7_rest_63 : decode cX7_rest 63 = .ok (.aload_n 0, 1) := by decide +kernel
theorem dX7_rest_64 : decode cX7_rest 64 = .ok (.getfield 16, 3) := by decide +kernel
theorem dX7_rest_67 : decode cX7_rest 67 = .ok (.iload_n 3, 1) := by decide +kernel
theorem dX7_rest_68 : decode cX7_rest 68 = .ok (.baload, 1) := by decide +kernel
theorem dX7_rest_69 : decode cX7_rest 69 = .ok (.ifCond .eq 9, 3) := by decide +kernel
theorem dX7_rest_72 : decode cX7_rest 72 = .ok (.ldc2_w 152, 3) := by decide +kernel
theorem dX7_rest_75 : decode cX7_rest 75 = .ok (.goto 19, 3) := by decide +kernel
theorem dX7_rest_78 : decode cX7_rest 78 = .ok (.aload_n 0, 1) := by decide +kernel
theorem dX7_rest_79 : decode cX7_rest 79 = .ok (.iload_n 1, 1) := by decide +kernel
theorem dX7_rest_80 : decode cX7_rest 80 = .ok (.iload_n 2, 1) := by decide +kernel
theorem dX7_rest_81 : decode cX7_rest 81 = .ok (.iload_n 3, 1) := by decide +kernel
theorem dX7_rest_82 : decode cX7_rest 82 = .ok (.invokevirtual 160, 3) := by decide +kernel
theorem dX7_rest_85 : decode cX7_rest 85 = .ok (.aload_n 0, 1) := by decide +kernel
theorem dX7_rest_86 : decode cX7_rest 86 = .ok (.getfield 131, 3) := by decide +kernel
theorem dX7_rest_89 : decode cX7_rest 89 = .ok (.iload 4, 2) := by decide +kernel
theorem dX7_rest_91 : decode cX7_rest 91 = .ok (.invokestatic 154, 3) := by decide +kernel
theorem dX7_rest_94 : decode cX7_rest 94 = .ok (.lreturn, 1) := by decide +kernel
theorem dX7_spread_0 : decode cX7_spread 0 = .ok (.iload_n 1, 1) := by decide +kernel
theorem dX7_spread_1 : decode cX7_spread 1 = .ok (.invokestatic 135, 3) := by decide +kernel
theorem dX7_spread_4 : decode cX7_spread 4 = .ok (.ifCond .eq 23, 3) := by decide +kernel
theorem dX7_spread_7 : decode cX7_spread 7 = .ok (.iload_n 2, 1) := by decide +kernel
theorem dX7_spread_8 : decode cX7_spread 8 = .ok (.i2l, 1) := by decide +kernel
theorem dX7_spread_9 : decode cX7_spread 9 = .ok (.lconst 0, 1) := by decide +kernel
theorem dX7_spread_10 : decode cX7_spread 10 = .ok (.lconst 1, 1) := by decide +kernel
theorem dX7_spread_11 : decode cX7_spread 11 = .ok (.invokestatic 77, 3) := by decide +kernel
theorem dX7_spread_14 : decode cX7_spread 14 = .ok (.ifCond .eq 13, 3) := by decide +kernel
theorem dX7_spread_17 : decode cX7_spread 17 = .ok (.iload_n 3, 1) := by decide +kernel
theorem dX7_spread_18 : decode cX7_spread 18 = .ok (.i2l, 1) := by decide +kernel
theorem dX7_spread_19 : decode cX7_spread 19 = .ok (.lconst 0, 1) := by decide +kernel
theorem dX7_spread_20 : decode cX7_spread 20 = .ok (.lconst 1, 1) := by decide +kernel
theorem dX7_spread_21 : decode cX7_spread 21 = .ok (.invokestatic 77, 3) := by decide +kernel
theorem dX7_spread_24 : decode cX7_spread 24 = .ok (.ifCond .ne 7, 3) := by decide +kernel
theorem dX7_spread_27 : decode cX7_spread 27 = .ok (.ldc2_w 138, 3) := by decide +kernel
theorem dX7_spread_30 : decode cX7_spread 30 = .ok (.lreturn, 1) := by decide +kernel
theorem dX7_spread_31 : decode cX7_spread 31 = .ok (.aload_n 0, 1) := by decide +kernel
theorem dX7_spread_32 : decode cX7_spread 32 = .ok (.iload_n 1, 1) := by decide +kernel
theorem dX7_spread_33 : decode cX7_spread 33 = .ok (.iload_n 2, 1) := by decide +kernel
theorem dX7_spread_34 : decode cX7_spread 34 = .ok (.aload_n 0, 1) := by decide +kernel
theorem dX7_spread_35 : decode cX7_spread 35 = .ok (.invokevirtual 107, 3) := by decide +kernel
theorem dX7_spread_38 : decode cX7_spread 38 = .ok (.invokevirtual 148, 3) := by decide +kernel
theorem dX7_spread_41 : decode cX7_spread 41 = .ok (.aload_n 0, 1) := by decide +kernel
theorem dX7_spread_42 : decode cX7_spread 42 = .ok (.getfield 131, 3) := by decide +kernel
theorem dX7_spread_45 : decode cX7_spread 45 = .ok (.lconst 0, 1) := by decide +kernel
theorem dX7_spread_46 : decode cX7_spread 46 = .ok (.lcmp, 1) := by decide +kernel
theorem dX7_spread_47 : decode cX7_spread 47 = .ok (.ifCond .ne 7, 3) := by decide +kernel
theorem dX7_spread_50 : decode cX7_spread 50 = .ok (.ldc2_w 152, 3) := by decide +kernel
theorem dX7_spread_53 : decode cX7_spread 53 = .ok (.lreturn, 1) := by decide +kernel
theorem dX7_spread_54 : decode cX7_spread 54 = .ok (.lconst 0, 1) := by decide +kernel
theorem dX7_spread_55 : decode cX7_spread 55 = .ok (.lstore 4, 2) := by decide +kernel
theorem dX7_spread_57 : decode cX7_spread 57 = .ok (.iconst 0, 1) := by decide +kernel
theorem dX7_spread_58 : decode cX7_spread 58 = .ok (.istore 6, 2) := by decide +kernel
theorem dX7_spread_60 : decode cX7_spread 60 = .ok (.iload 6, 2) := by decide +kernel
theorem dX7_spread_62 : decode cX7_spread 62 = .ok (.aload_n 0, 1) := by decide +kernel
theorem dX7_spread_63 : decode cX7_spread 63 = .ok (.getfield 86, 3) := by decide +kernel
theorem dX7_spread_66 : decode cX7_spread 66 = .ok (.if_icmp .ge 52, 3) := by decide +kernel
theorem dX7_spread_69 : decode cX7_spread 69 = .ok (.lload 4, 2) := by decide +kernel
theorem dX7_spread_71 : decode cX7_spread 71 = .ok (.aload_n 0, 1) := by decide +kernel
theorem dX7_spread_72 : decode cX7_spread 72 = .ok (.iload 6, 2) := by decide +kernel
theorem dX7_spread_74 : decode cX7_spread 74 = .ok (.invokevirtual 101, 3) := by decide +kernel
theorem dX7_spread_77 : decode cX7_spread 77 = .ok (.ifCond .eq 31, 3) := by decide +kernel
theorem dX7_spread_80 : decode cX7_spread 80 = .ok (.aload_n 0, 1) := by decide +kernel
theorem dX7_spread_81 : decode cX7_spread 81 = .ok (.getfield 13, 3) := by decide +kernel
theorem dX7_spread_84 : decode cX7_spread 84 = .ok (.iconst 2, 1) := by decide +kernel
theorem dX7_spread_85 : decode cX7_spread 85 = .ok (.iload 6, 2) := by decide +kernel
theorem dX7_spread_87 : decode cX7_spread 87 = .ok (.imul, 1) := by decide +kernel
theorem dX7_spread_88 : decode cX7_spread 88 = .ok (.iload_n 2, 1) := by decide +kernel
theorem dX7_spread_89 : decode cX7_spread 89 = .ok (.iadd, 1) := by decide +kernel
theorem dX7_spread_90 : decode cX7_spread 90 = .ok (.iaload, 1) := by decide +kernel
theorem dX7_spread_91 : decode cX7_spread 91 = .ok (.i2l, 1) := by decide +kernel
theorem dX7_spread_92 : decode cX7_spread 92 = .ok (.aload_n 0, 1) := by decide +kernel
theorem dX7_spread_93 : decode cX7_spread 93 = .ok (.getfield 13, 3) := by decide +kernel
theorem dX7_spread_96 : decode cX7_spread 96 = .ok (.iconst 2, 1) := by decide +kernel
theorem dX7_spread_97 : decode cX7_spread 97 = .ok (.iload 6, 2) := by decide +kernel
theorem dX7_spread_99 : decode cX7_spread 99 = .ok (.imul, 1) := by decide +kernel
theorem dX7_spread_100 : decode cX7_spread 100 = .ok (.iload_n 2, 1) := by decide +kernel
theorem dX7_spread_101 : decode cX7_spread 101 = .ok (.iadd, 1) := by decide +kernel
theorem dX7_spread_102 : decode cX7_spread 102 = .ok (.iaload, 1) := by decide +kernel
theorem dX7_spread_103 : decode cX7_spread 103 = .ok (.i2l, 1) := by decide +kernel
theorem dX7_spread_104 : decode cX7_spread 104 = .ok (.lmul, 1) := by decide +kernel
theorem dX7_spread_105 : decode cX7_spread 105 = .ok (.goto 4, 3) := by decide +kernel
theorem dX7_spread_108 : decode cX7_spread 108 = .ok (.lconst 0, 1) := by decide +kernel
theorem dX7_spread_109 : decode cX7_spread 109 = .ok (.ladd, 1) := by decide +kernel
theorem dX7_spread_110 : decode cX7_spread 110 = .ok (.lstore 4, 2) := by decide +kernel
theorem dX7_spread_112 : decode cX7_spread 112 = .ok (.iinc 6 1, 3) := by decide +kernel
theorem dX7_spread_115 : decode cX7_spread 115 = .ok (.goto (-55), 3) := by decide +kernel
theorem dX7_spread_118 : decode cX7_spread 118 = .ok (.lload 4, 2) := by decide +kernel
theorem dX7_spread_120 : decode cX7_spread 120 = .ok (.aload_n 0, 1) := by decide +kernel
theorem dX7_spread_121 : decode cX7_spread 121 = .ok (.getfield 131, 3) := by decide +kernel
theorem dX7_spread_124 : decode cX7_spread 124 = .ok (.lmul, 1) := by decide +kernel
theorem dX7_spread_125 : decode cX7_spread 125 = .ok (.lstore 6, 2) := by decide +kernel
theorem dX7_spread_127 : decode cX7_spread 127 = .ok (.iconst 0, 1) := by decide +kernel
theorem dX7_spread_128 : decode cX7_spread 128 = .ok (.istore 8, 2) := by decide +kernel
theorem dX7_spread_130 : decode cX7_spread 130 = .ok (.iload 8, 2) := by decide +kernel
theorem dX7_spread_132 : decode cX7_spread 132 = .ok (.iconst 3, 1) := by decide +kernel
theorem dX7_spread_133 : decode cX7_spread 133 = .ok (.if_icmp .ge 29, 3) := by decide +kernel
theorem dX7_spread_136 : decode cX7_spread 136 = .ok (.lload 6, 2) := by decide +kernel
theorem dX7_spread_138 : decode cX7_spread 138 = .ok (.aload_n 0, 1) := by decide +kernel
theorem dX7_spread_139 : decode cX7_spread 139 = .ok (.getfield 61, 3) := by decide +kernel
theorem dX7_spread_142 : decode cX7_spread 142 = .ok (.iload 8, 2) := by decide +kernel
theorem dX7_spread_144 : decode cX7_spread 144 = .ok (.laload, 1) := by decide +kernel
theorem dX7_spread_145 : decode cX7_spread 145 = .ok (.aload_n 0, 1) := by decide +kernel
theorem dX7_spread_146 : decode cX7_spread 146 = .ok (.getfield 58, 3) := by decide +kernel
theorem dX7_spread_149 : decode cX7_spread 149 = .ok (.iload 8, 2) := by decide +kernel
theorem dX7_spread_151 : decode cX7_spread 151 = .ok (.laload, 1) := by decide +kernel
theorem dX7_spread_152 : decode cX7_spread 152 = .ok (.lmul, 1) := by decide +kernel
theorem dX7_spread_153 : decode cX7_spread 153 = .ok (.lsub, 1) := by decide +kernel
theorem dX7_spread_154 : decode cX7_spread 154 = .ok (.lstore 6, 2) := by decide +kernel
theorem dX7_spread_156 : decode cX7_spread 156 = .ok (.iinc 8 1, 3) := by decide +kernel
theorem dX7_spread_159 : decode cX7_spread 159 = .ok (.goto (-29), 3) := by decide +kernel
theorem dX7_spread_162 : decode cX7_spread 162 = .ok (.lload 6, 2) := by decide +kernel
theorem dX7_spread_164 : decode cX7_spread 164 = .ok (.aload_n 0, 1) := by decide +kernel
theorem dX7_spread_165 : decode cX7_spread 165 = .ok (.getfield 131, 3) := by decide +kernel
theorem dX7_spread_168 : decode cX7_spread 168 = .ok (.iload_n 3, 1) := by decide +kernel
theorem dX7_spread_169 : decode cX7_spread 169 = .ok (.invokestatic 154, 3) := by decide +kernel
theorem dX7_spread_172 : decode cX7_spread 172 = .ok (.lreturn, 1) := by decide +kernel
theorem dX7_findWorst_0 : decode cX7_findWorst 0 = .ok (.iconst 0, 1) := by decide +kernel
theorem dX7_findWorst_1 : decode cX7_findWorst 1 = .ok (.istore_n 3, 1) := by decide +kernel
theorem dX7_findWorst_2 : decode cX7_findWorst 2 = .ok (.iload_n 3, 1) := by decide +kernel
theorem dX7_findWorst_3 : decode cX7_findWorst 3 = .ok (.aload_n 0, 1) := by decide +kernel
theorem dX7_findWorst_4 : decode cX7_findWorst 4 = .ok (.getfield 86, 3) := by decide +kernel
theorem dX7_findWorst_7 : decode cX7_findWorst 7 = .ok (.if_icmp .ge 18, 3) := by decide +kernel
theorem dX7_findWorst_10 : decode cX7_findWorst 10 = .ok (.aload_n 0, 1) := by decide +kernel
theorem dX7_findWorst_11 : decode cX7_findWorst 11 = .ok (.getfield 64, 3) := by decide +kernel
theorem dX7_findWorst_14 : decode cX7_findWorst 14 = .ok (.iload_n 3, 1) := by decide +kernel
theorem dX7_findWorst_15 : decode cX7_findWorst 15 = .ok (.ldc2_w 163, 3) := by decide +kernel
theorem dX7_findWorst_18 : decode cX7_findWorst 18 = .ok (.lastore, 1) := by decide +kernel
theorem dX7_findWorst_19 : decode cX7_findWorst 19 = .ok (.iinc 3 1, 3) := by decide +kernel
theorem dX7_findWorst_22 : decode cX7_findWorst 22 = .ok (.goto (-20), 3) := by decide +kernel
theorem dX7_findWorst_25 : decode cX7_findWorst 25 = .ok (.iconst 0, 1) := by decide +kernel
theorem dX7_findWorst_26 : decode cX7_findWorst 26 = .ok (.istore_n 3, 1) := by decide +kernel
theorem dX7_findWorst_27 : decode cX7_findWorst 27 = .ok (.iload_n 3, 1) := by decide +kernel
theorem dX7_findWorst_28 : decode cX7_findWorst 28 = .ok (.iconst 2, 1) := by decide +kernel
theorem dX7_findWorst_29 : decode cX7_findWorst 29 = .ok (.if_icmp .ge 95, 3) := by decide +kernel
theorem dX7_findWorst_32 : decode cX7_findWorst 32 = .ok (.aload_n 0, 1) := by decide +kernel
theorem dX7_findWorst_33 : decode cX7_findWorst 33 = .ok (.iload_n 1, 1) := by decide +kernel
theorem dX7_findWorst_34 : decode cX7_findWorst 34 = .ok (.iload_n 3, 1) := by decide +kernel
theorem dX7_findWorst_35 : decode cX7_findWorst 35 = .ok (.iload_n 2, 1) := by decide +kernel
theorem dX7_findWorst_36 : decode cX7_findWorst 36 = .ok (.invokevirtual 148, 3) := by decide +kernel
theorem dX7_findWorst_39 : decode cX7_findWorst 39 = .ok (.iconst 0, 1) := by decide +kernel
theorem dX7_findWorst_40 : decode cX7_findWorst 40 = .ok (.istore 4, 2) := by decide +kernel
theorem dX7_findWorst_42 : decode cX7_findWorst 42 = .ok (.iload 4, 2) := by decide +kernel
theorem dX7_findWorst_44 : decode cX7_findWorst 44 = .ok (.aload_n 0, 1) := by decide +kernel
theorem dX7_findWorst_45 : decode cX7_findWorst 45 = .ok (.getfield 86, 3) := by decide +kernel
theorem dX7_findWorst_48 : decode cX7_findWorst 48 = .ok (.if_icmp .ge 70, 3) := by decide +kernel
theorem dX7_findWorst_51 : decode cX7_findWorst 51 = .ok (.iload_n 2, 1) := by decide +kernel
theorem dX7_findWorst_52 : decode cX7_findWorst 52 = .ok (.iload 4, 2) := by decide +kernel
theorem dX7_findWorst_54 : decode cX7_findWorst 54 = .ok (.ishr, 1) := by decide +kernel
theorem dX7_findWorst_55 : decode cX7_findWorst 55 = .ok (.iconst 1, 1) := by decide +kernel
theorem dX7_findWorst_56 : decode cX7_findWorst 56 = .ok (.iand, 1) := by decide +kernel
theorem dX7_findWorst_57 : decode cX7_findWorst 57 = .ok (.iconst 1, 1) := by decide +kernel
theorem dX7_findWorst_58 : decode cX7_findWorst 58 = .ok (.if_icmp .ne 17, 3) := by decide +kernel
theorem dX7_findWorst_61 : decode cX7_findWorst 61 = .ok (.aload_n 0, 1) := by decide +kernel
theorem dX7_findWorst_62 : decode cX7_findWorst 62 = .ok (.iload_n 1, 1) := by decide +kernel
theorem dX7_findWorst_63 : decode cX7_findWorst 63 = .ok (.iload_n 3, 1) := by decide +kernel
theorem dX7_findWorst_64 : decode cX7_findWorst 64 = .ok (.iload 4, 2) := by decide +kernel
theorem dX7_findWorst_66 : decode cX7_findWorst 66 = .ok (.invokevirtual 160, 3) := by decide +kernel
theorem dX7_findWorst_69 : decode cX7_findWorst 69 = .ok (.invokestatic 144, 3) := by decide +kernel
theorem dX7_findWorst_72 : decode cX7_findWorst 72 = .ok (.goto 6, 3) := by decide +kernel
theorem dX7_findWorst_75 : decode cX7_findWorst 75 = .ok (.ldc2_w 163, 3) := by decide +kernel
theorem dX7_findWorst_78 : decode cX7_findWorst 78 = .ok (.lstore 5, 2) := by decide +kernel
theorem dX7_findWorst_80 : decode cX7_findWorst 80 = .ok (.aload_n 0, 1) := by decide +kernel
theorem dX7_findWorst_81 : decode cX7_findWorst 81 = .ok (.getfield 64, 3) := by decide +kernel
theorem dX7_findWorst_84 : decode cX7_findWorst 84 = .ok (.iload 4, 2) := by decide +kernel
theorem dX7_findWorst_86 : decode cX7_findWorst 86 = .ok (.lload 5, 2) := by decide +kernel
theorem dX7_findWorst_88 : decode cX7_findWorst 88 = .ok (.aload_n 0, 1) := by decide +kernel
theorem dX7_findWorst_89 : decode cX7_findWorst 89 = .ok (.getfield 64, 3) := by decide +kernel
theorem dX7_findWorst_92 : decode cX7_findWorst 92 = .ok (.iload 4, 2) := by decide +kernel
theorem dX7_findWorst_94 : decode cX7_findWorst 94 = .ok (.laload, 1) := by decide +kernel
theorem dX7_findWorst_95 : decode cX7_findWorst 95 = .ok (.lcmp, 1) := by decide +kernel
theorem dX7_findWorst_96 : decode cX7_findWorst 96 = .ok (.ifCond .le 8, 3) := by decide +kernel
theorem dX7_findWorst_99 : decode cX7_findWorst 99 = .ok (.lload 5, 2) := by decide +kernel
theorem dX7_findWorst_101 : decode cX7_findWorst 101 = .ok (.goto 10, 3) := by decide +kernel
theorem dX7_findWorst_104 : decode cX7_findWorst 104 = .ok (.aload_n 0, 1) := by decide +kernel
theorem dX7_findWorst_105 : decode cX7_findWorst 105 = .ok (.getfield 64, 3) := by decide +kernel
theorem dX7_findWorst_108 : decode cX7_findWorst 108 = .ok (.iload 4, 2) := by decide +kernel
theorem dX7_findWorst_110 : decode cX7_findWorst 110 = .ok (.laload, 1) := by decide +kernel
theorem dX7_findWorst_111 : decode cX7_findWorst 111 = .ok (.lastore, 1) := by decide +kernel
theorem dX7_findWorst_112 : decode cX7_findWorst 112 = .ok (.iinc 4 1, 3) := by decide +kernel
theorem dX7_findWorst_115 : decode cX7_findWorst 115 = .ok (.goto (-73), 3) := by decide +kernel
theorem dX7_findWorst_118 : decode cX7_findWorst 118 = .ok (.iinc 3 1, 3) := by decide +kernel
theorem dX7_findWorst_121 : decode cX7_findWorst 121 = .ok (.goto (-94), 3) := by decide +kernel
theorem dX7_findWorst_124 : decode cX7_findWorst 124 = .ok (.return_, 1) := by decide +kernel
theorem dX7_judge_0 : decode cX7_judge 0 = .ok (.iload_n 1, 1) := by decide +kernel
theorem dX7_judge_1 : decode cX7_judge 1 = .ok (.invokestatic 135, 3) := by decide +kernel
theorem dX7_judge_4 : decode cX7_judge 4 = .ok (.ifCond .eq 15, 3) := by decide +kernel
theorem dX7_judge_7 : decode cX7_judge 7 = .ok (.iload_n 2, 1) := by decide +kernel
theorem dX7_judge_8 : decode cX7_judge 8 = .ok (.i2l, 1) := by decide +kernel
theorem dX7_judge_9 : decode cX7_judge 9 = .ok (.lconst 1, 1) := by decide +kernel
theorem dX7_judge_10 : decode cX7_judge 10 = .ok (.ldc2_w 97, 3) := by decide +kernel
theorem dX7_judge_13 : decode cX7_judge 13 = .ok (.invokestatic 77, 3) := by decide +kernel
theorem dX7_judge_16 : decode cX7_judge 16 = .ok (.ifCond .ne 6, 3) := by decide +kernel
theorem dX7_judge_19 : decode cX7_judge 19 = .ok (.ldc 85, 2) := by decide +kernel
theorem dX7_judge_21 : decode cX7_judge 21 = .ok (.ireturn, 1) := by decide +kernel
theorem dX7_judge_22 : decode cX7_judge 22 = .ok (.iconst 0, 1) := by decide +kernel
theorem dX7_judge_23 : decode cX7_judge 23 = .ok (.istore_n 3, 1) := by decide +kernel
theorem dX7_judge_24 : decode cX7_judge 24 = .ok (.iconst 0, 1) := by decide +kernel
theorem dX7_judge_25 : decode cX7_judge 25 = .ok (.istore 4, 2) := by decide +kernel
theorem dX7_judge_27 : decode cX7_judge 27 = .ok (.iload 4, 2) := by decide +kernel
theorem dX7_judge_29 : decode cX7_judge 29 = .ok (.aload_n 0, 1) := by decide +kernel
theorem dX7_judge_30 : decode cX7_judge 30 = .ok (.getfield 86, 3) := by decide +kernel
theorem dX7_judge_33 : decode cX7_judge 33 = .ok (.if_icmp .ge 30, 3) := by decide +kernel
theorem dX7_judge_36 : decode cX7_judge 36 = .ok (.iload_n 3, 1) := by decide +kernel
theorem dX7_judge_37 : decode cX7_judge 37 = .ok (.aload_n 0, 1) := by decide +kernel
theorem dX7_judge_38 : decode cX7_judge 38 = .ok (.getfield 16, 3) := by decide +kernel
theorem dX7_judge_41 : decode cX7_judge 41 = .ok (.iload 4, 2) := by decide +kernel
theorem dX7_judge_43 : decode cX7_judge 43 = .ok (.baload, 1) := by decide +kernel
theorem dX7_judge_44 : decode cX7_judge 44 = .ok (.ifCond .eq 7, 3) := by decide +kernel
theorem dX7_judge_47 : decode cX7_judge 47 = .ok (.iconst 0, 1) := by decide +kernel
theorem dX7_judge_48 : decode cX7_judge 48 = .ok (.goto 7, 3) := by decide +kernel
theorem dX7_judge_51 : decode cX7_judge 51 = .ok (.iconst 1, 1) := by decide +kernel
theorem dX7_judge_52 : decode cX7_judge 52 = .ok (.iload 4, 2) := by decide +kernel
theorem dX7_judge_54 : decode cX7_judge 54 = .ok (.ishl, 1) := by decide +kernel
theorem dX7_judge_55 : decode cX7_judge 55 = .ok (.ior, 1) := by decide +kernel
theorem dX7_judge_56 : decode cX7_judge 56 = .ok (.istore_n 3, 1) := by decide +kernel
theorem dX7_judge_57 : decode cX7_judge 57 = .ok (.iinc 4 1, 3) := by decide +kernel
theorem dX7_judge_60 : decode cX7_judge 60 = .ok (.goto (-33), 3) := by decide +kernel
theorem dX7_judge_63 : decode cX7_judge 63 = .ok (.aload_n 0, 1) := by decide +kernel
theorem dX7_judge_64 : decode cX7_judge 64 = .ok (.iload_n 1, 1) := by decide +kernel
theorem dX7_judge_65 : decode cX7_judge 65 = .ok (.iload_n 3, 1) := by decide +kernel
theorem dX7_judge_66 : decode cX7_judge 66 = .ok (.invokevirtual 140, 3) := by decide +kernel
theorem dX7_judge_69 : decode cX7_judge 69 = .ok (.aload_n 0, 1) := by decide +kernel
theorem dX7_judge_70 : decode cX7_judge 70 = .ok (.getfield 131, 3) := by decide +kernel
theorem dX7_judge_73 : decode cX7_judge 73 = .ok (.lconst 0, 1) := by decide +kernel
theorem dX7_judge_74 : decode cX7_judge 74 = .ok (.lcmp, 1) := by decide +kernel
theorem dX7_judge_75 : decode cX7_judge 75 = .ok (.ifCond .ne 6, 3) := by decide +kernel
theorem dX7_judge_78 : decode cX7_judge 78 = .ok (.ldc 165, 2) := by decide +kernel
theorem dX7_judge_80 : decode cX7_judge 80 = .ok (.ireturn, 1) := by decide +kernel
theorem dX7_judge_81 : decode cX7_judge 81 = .ok (.iload_n 3, 1) := by decide +kernel
theorem dX7_judge_82 : decode cX7_judge 82 = .ok (.istore 4, 2) := by decide +kernel
theorem dX7_judge_84 : decode cX7_judge 84 = .ok (.iconst 1, 1) := by decide +kernel
theorem dX7_judge_85 : decode cX7_judge 85 = .ok (.istore 5, 2) := by decide +kernel
theorem dX7_judge_87 : decode cX7_judge 87 = .ok (.iload 5, 2) := by decide +kernel
theorem dX7_judge_89 : decode cX7_judge 89 = .ok (.ifCond .eq 147, 3) := by decide +kernel
theorem dX7_judge_92 : decode cX7_judge 92 = .ok (.aload_n 0, 1) := by decide +kernel
theorem dX7_judge_93 : decode cX7_judge 93 = .ok (.iload_n 1, 1) := by decide +kernel
theorem dX7_judge_94 : decode cX7_judge 94 = .ok (.iload_n 3, 1) := by decide +kernel
theorem dX7_judge_95 : decode cX7_judge 95 = .ok (.invokevirtual 166, 3) := by decide +kernel
theorem dX7_judge_98 : decode cX7_judge 98 = .ok (.iconst (-1), 1) := by decide +kernel
theorem dX7_judge_99 : decode cX7_judge 99 = .ok (.istore 6, 2) := by decide +kernel
theorem dX7_judge_101 : decode cX7_judge 101 = .ok (.iconst 0, 1) := by decide +kernel
theorem dX7_judge_102 : decode cX7_judge 102 = .ok (.istore 7, 2) := by decide +kernel
theorem dX7_judge_104 : decode cX7_judge 104 = .ok (.iload 7, 2) := by decide +kernel
theorem dX7_judge_106 : decode cX7_judge 106 = .ok (.aload_n 0, 1) := by decide +kernel
theorem dX7_judge_107 : decode cX7_judge 107 = .ok (.getfield 86, 3) := by decide +kernel
theorem dX7_judge_110 : decode cX7_judge 110 = .ok (.if_icmp .ge 59, 3) := by decide +kernel
theorem dX7_judge_113 : decode cX7_judge 113 = .ok (.aload_n 0, 1) := by decide +kernel
theorem dX7_judge_114 : decode cX7_judge 114 = .ok (.getfield 64, 3) := by decide +kernel
theorem dX7_judge_117 : decode cX7_judge 117 = .ok (.iload 7, 2) := by decide +kernel
theorem dX7_judge_119 : decode cX7_judge 119 = .ok (.laload, 1) := by decide +kernel
theorem dX7_judge_120 : decode cX7_judge 120 = .ok (.iload_n 2, 1) := by decide +kernel
theorem dX7_judge_121 : decode cX7_judge 121 = .ok (.i2l, 1) := by decide +kernel
theorem dX7_judge_122 : decode cX7_judge 122 = .ok (.aload_n 0, 1) := by decide +kernel
theorem dX7_judge_123 : decode cX7_judge 123 = .ok (.getfield 131, 3) := by decide +kernel
theorem dX7_judge_126 : decode cX7_judge 126 = .ok (.lmul, 1) := by decide +kernel
theorem dX7_judge_127 : decode cX7_judge 127 = .ok (.lcmp, 1) := by decide +kernel
theorem dX7_judge_128 : decode cX7_judge 128 = .ok (.ifCond .le 31, 3) := by decide +kernel
theorem dX7_judge_131 : decode cX7_judge 131 = .ok (.iload 6, 2) := by decide +kernel
theorem dX7_judge_133 : decode cX7_judge 133 = .ok (.ifCond .lt 21, 3) := by decide +kernel
theorem dX7_judge_136 : decode cX7_judge 136 = .ok (.aload_n 0, 1) := by decide +kernel
theorem dX7_judge_137 : decode cX7_judge 137 = .ok (.getfield 64, 3) := by decide +kernel
theorem dX7_judge_140 : decode cX7_judge 140 = .ok (.iload 7, 2) := by decide +kernel
theorem dX7_judge_142 : decode cX7_judge 142 = .ok (.laload, 1) := by decide +kernel
theorem dX7_judge_143 : decode cX7_judge 143 = .ok (.aload_n 0, 1) := by decide +kernel
theorem dX7_judge_144 : decode cX7_judge 144 = .ok (.getfield 64, 3) := by decide +kernel
theorem dX7_judge_147 : decode cX7_judge 147 = .ok (.iload 6, 2) := by decide +kernel
theorem dX7_judge_149 : decode cX7_judge 149 = .ok (.laload, 1) := by decide +kernel
theorem dX7_judge_150 : decode cX7_judge 150 = .ok (.lcmp, 1) := by decide +kernel
theorem dX7_judge_151 : decode cX7_judge 151 = .ok (.ifCond .le 8, 3) := by decide +kernel
theorem dX7_judge_154 : decode cX7_judge 154 = .ok (.iload 7, 2) := by decide +kernel
theorem dX7_judge_156 : decode cX7_judge 156 = .ok (.goto 5, 3) := by decide +kernel
theorem dX7_judge_159 : decode cX7_judge 159 = .ok (.iload 6, 2) := by decide +kernel
theorem dX7_judge_161 : decode cX7_judge 161 = .ok (.istore 6, 2) := by decide +kernel
theorem dX7_judge_163 : decode cX7_judge 163 = .ok (.iinc 7 1, 3) := by decide +kernel
theorem dX7_judge_166 : decode cX7_judge 166 = .ok (.goto (-62), 3) := by decide +kernel
theorem dX7_judge_169 : decode cX7_judge 169 = .ok (.iload 6, 2) := by decide +kernel
theorem dX7_judge_171 : decode cX7_judge 171 = .ok (.ifCond .lt 7, 3) := by decide +kernel
theorem dX7_judge_174 : decode cX7_judge 174 = .ok (.iconst 1, 1) := by decide +kernel
theorem dX7_judge_175 : decode cX7_judge 175 = .ok (.goto 4, 3) := by decide +kernel
theorem dX7_judge_178 : decode cX7_judge 178 = .ok (.iconst 0, 1) := by decide +kernel
theorem dX7_judge_179 : decode cX7_judge 179 = .ok (.istore 5, 2) := by decide +kernel
theorem dX7_judge_181 : decode cX7_judge 181 = .ok (.iload 5, 2) := by decide +kernel
theorem dX7_judge_183 : decode cX7_judge 183 = .ok (.ifCond .eq 50, 3) := by decide +kernel
theorem dX7_judge_186 : decode cX7_judge 186 = .ok (.aload_n 0, 1) := by decide +kernel
theorem dX7_judge_187 : decode cX7_judge 187 = .ok (.iload_n 1, 1) := by decide +kernel
theorem dX7_judge_188 : decode cX7_judge 188 = .ok (.iload_n 3, 1) := by decide +kernel
theorem dX7_judge_189 : decode cX7_judge 189 = .ok (.iconst 1, 1) := by decide +kernel
theorem dX7_judge_190 : decode cX7_judge 190 = .ok (.iload 6, 2) := by decide +kernel
theorem dX7_judge_192 : decode cX7_judge 192 = .ok (.ishl, 1) := by decide +kernel
theorem dX7_judge_193 : decode cX7_judge 193 = .ok (.iconst (-1), 1) := by decide +kernel
theorem dX7_judge_194 : decode cX7_judge 194 = .ok (.ixor, 1) := by decide +kernel
theorem dX7_judge_195 : decode cX7_judge 195 = .ok (.iand, 1) := by decide +kernel
theorem dX7_judge_196 : decode cX7_judge 196 = .ok (.invokevirtual 140, 3) := by decide +kernel
theorem dX7_judge_199 : decode cX7_judge 199 = .ok (.aload_n 0, 1) := by decide +kernel
theorem dX7_judge_200 : decode cX7_judge 200 = .ok (.getfield 131, 3) := by decide +kernel
theorem dX7_judge_203 : decode cX7_judge 203 = .ok (.lconst 0, 1) := by decide +kernel
theorem dX7_judge_204 : decode cX7_judge 204 = .ok (.lcmp, 1) := by decide +kernel
theorem dX7_judge_205 : decode cX7_judge 205 = .ok (.ifCond .eq 7, 3) := by decide +kernel
theorem dX7_judge_208 : decode cX7_judge 208 = .ok (.iconst 1, 1) := by decide +kernel
theorem dX7_judge_209 : decode cX7_judge 209 = .ok (.goto 4, 3) := by decide +kernel
theorem dX7_judge_212 : decode cX7_judge 212 = .ok (.iconst 0, 1) := by decide +kernel
theorem dX7_judge_213 : decode cX7_judge 213 = .ok (.istore 5, 2) := by decide +kernel
theorem dX7_judge_215 : decode cX7_judge 215 = .ok (.iload 5, 2) := by decide +kernel
theorem dX7_judge_217 : decode cX7_judge 217 = .ok (.ifCond .eq 14, 3) := by decide +kernel
theorem dX7_judge_220 : decode cX7_judge 220 = .ok (.iload_n 3, 1) := by decide +kernel
theorem dX7_judge_221 : decode cX7_judge 221 = .ok (.iconst 1, 1) := by decide +kernel
theorem dX7_judge_222 : decode cX7_judge 222 = .ok (.iload 6, 2) := by decide +kernel
theorem dX7_judge_224 : decode cX7_judge 224 = .ok (.ishl, 1) := by decide +kernel
theorem dX7_judge_225 : decode cX7_judge 225 = .ok (.iconst (-1), 1) := by decide +kernel
theorem dX7_judge_226 : decode cX7_judge 226 = .ok (.ixor, 1) := by decide +kernel
theorem dX7_judge_227 : decode cX7_judge 227 = .ok (.iand, 1) := by decide +kernel
theorem dX7_judge_228 : decode cX7_judge 228 = .ok (.goto 4, 3) := by decide +kernel
theorem dX7_judge_231 : decode cX7_judge 231 = .ok (.iload_n 3, 1) := by decide +kernel
theorem dX7_judge_232 : decode cX7_judge 232 = .ok (.istore_n 3, 1) := by decide +kernel
theorem dX7_judge_233 : decode cX7_judge 233 = .ok (.goto (-146), 3) := by decide +kernel
theorem dX7_judge_236 : decode cX7_judge 236 = .ok (.iconst 0, 1) := by decide +kernel
theorem dX7_judge_237 : decode cX7_judge 237 = .ok (.istore 6, 2) := by decide +kernel
theorem dX7_judge_239 : decode cX7_judge 239 = .ok (.iload 6, 2) := by decide +kernel
theorem dX7_judge_241 : decode cX7_judge 241 = .ok (.aload_n 0, 1) := by decide +kernel
theorem dX7_judge_242 : decode cX7_judge 242 = .ok (.getfield 86, 3) := by decide +kernel
theorem dX7_judge_245 : decode cX7_judge 245 = .ok (.if_icmp .ge 41, 3) := by decide +kernel
theorem dX7_judge_248 : decode cX7_judge 248 = .ok (.aload_n 0, 1) := by decide +kernel
theorem dX7_judge_249 : decode cX7_judge 249 = .ok (.getfield 20, 3) := by decide +kernel
theorem dX7_judge_252 : decode cX7_judge 252 = .ok (.iload 6, 2) := by decide +kernel
theorem dX7_judge_254 : decode cX7_judge 254 = .ok (.iload 4, 2) := by decide +kernel
theorem dX7_judge_256 : decode cX7_judge 256 = .ok (.iload 6, 2) := by decide +kernel
theorem dX7_judge_258 : decode cX7_judge 258 = .ok (.ishr, 1) := by decide +kernel
theorem dX7_judge_259 : decode cX7_judge 259 = .ok (.iconst 1, 1) := by decide +kernel
theorem dX7_judge_260 : decode cX7_judge 260 = .ok (.iand, 1) := by decide +kernel
theorem dX7_judge_261 : decode cX7_judge 261 = .ok (.iconst 1, 1) := by decide +kernel
theorem dX7_judge_262 : decode cX7_judge 262 = .ok (.if_icmp .ne 16, 3) := by decide +kernel
theorem dX7_judge_265 : decode cX7_judge 265 = .ok (.iload_n 3, 1) := by decide +kernel
theorem dX7_judge_266 : decode cX7_judge 266 = .ok (.iload 6, 2) := by decide +kernel
theorem dX7_judge_268 : decode cX7_judge 268 = .ok (.ishr, 1) := by decide +kernel
theorem dX7_judge_269 : decode cX7_judge 269 = .ok (.iconst 1, 1) := by decide +kernel
theorem dX7_judge_270 : decode cX7_judge 270 = .ok (.iand, 1) := by decide +kernel
theorem dX7_judge_271 : decode cX7_judge 271 = .ok (.ifCond .ne 7, 3) := by decide +kernel
theorem dX7_judge_274 : decode cX7_judge 274 = .ok (.iconst 1, 1) := by decide +kernel
theorem dX7_judge_275 : decode cX7_judge 275 = .ok (.goto 4, 3) := by decide +kernel
theorem dX7_judge_278 : decode cX7_judge 278 = .ok (.iconst 0, 1) := by decide +kernel
theorem dX7_judge_279 : decode cX7_judge 279 = .ok (.bastore, 1) := by decide +kernel
theorem dX7_judge_280 : decode cX7_judge 280 = .ok (.iinc 6 1, 3) := by decide +kernel
theorem dX7_judge_283 : decode cX7_judge 283 = .ok (.goto (-44), 3) := by decide +kernel
theorem dX7_judge_286 : decode cX7_judge 286 = .ok (.iload 4, 2) := by decide +kernel
theorem dX7_judge_288 : decode cX7_judge 288 = .ok (.iload_n 3, 1) := by decide +kernel
theorem dX7_judge_289 : decode cX7_judge 289 = .ok (.iconst (-1), 1) := by decide +kernel
theorem dX7_judge_290 : decode cX7_judge 290 = .ok (.ixor, 1) := by decide +kernel
theorem dX7_judge_291 : decode cX7_judge 291 = .ok (.iand, 1) := by decide +kernel
theorem dX7_judge_292 : decode cX7_judge 292 = .ok (.invokestatic 111, 3) := by decide +kernel
theorem dX7_judge_295 : decode cX7_judge 295 = .ok (.ireturn, 1) := by decide +kernel
theorem dX7_worstOf_0 : decode cX7_worstOf 0 = .ok (.lconst 0, 1) := by decide +kernel
theorem dX7_worstOf_1 : decode cX7_worstOf 1 = .ok (.lstore_n 2, 1) := by decide +kernel
theorem dX7_worstOf_2 : decode cX7_worstOf 2 = .ok (.iconst 0, 1) := by decide +kernel
theorem dX7_worstOf_3 : decode cX7_worstOf 3 = .ok (.istore 4, 2) := by decide +kernel
theorem dX7_worstOf_5 : decode cX7_worstOf 5 = .ok (.iload 4, 2) := by decide +kernel
theorem dX7_worstOf_7 : decode cX7_worstOf 7 = .ok (.aload_n 0, 1) := by decide +kernel
theorem dX7_worstOf_8 : decode cX7_worstOf 8 = .ok (.getfield 86, 3) := by decide +kernel
theorem dX7_worstOf_11 : decode cX7_worstOf 11 = .ok (.if_icmp .ge 104, 3) := by decide +kernel
theorem dX7_worstOf_14 : decode cX7_worstOf 14 = .ok (.lconst 0, 1) := by decide +kernel
theorem dX7_worstOf_15 : decode cX7_worstOf 15 = .ok (.lstore 5, 2) := by decide +kernel
theorem dX7_worstOf_17 : decode cX7_worstOf 17 = .ok (.iconst 0, 1) := by decide +kernel
theorem dX7_worstOf_18 : decode cX7_worstOf 18 = .ok (.istore 7, 2) := by decide +kernel
theorem dX7_worstOf_20 : decode cX7_worstOf 20 = .ok (.iload 7, 2) := by decide +kernel
theorem dX7_worstOf_22 : decode cX7_worstOf 22 = .ok (.bipush 9, 2) := by decide +kernel
theorem dX7_worstOf_24 : decode cX7_worstOf 24 = .ok (.if_icmp .ge 71, 3) := by decide +kernel
theorem dX7_worstOf_27 : decode cX7_worstOf 27 = .ok (.lload 5, 2) := by decide +kernel
theorem dX7_worstOf_29 : decode cX7_worstOf 29 = .ok (.iload 7, 2) := by decide +kernel
theorem dX7_worstOf_31 : decode cX7_worstOf 31 = .ok (.iconst 3, 1) := by decide +kernel
theorem dX7_worstOf_32 : decode cX7_worstOf 32 = .ok (.idiv, 1) := by decide +kernel
theorem dX7_worstOf_33 : decode cX7_worstOf 33 = .ok (.iload_n 1, 1) := by decide +kernel
theorem dX7_worstOf_34 : decode cX7_worstOf 34 = .ok (.invokestatic 120, 3) := by decide +kernel
theorem dX7_worstOf_37 : decode cX7_worstOf 37 = .ok (.if_icmp .ge 48, 3) := by decide +kernel
theorem dX7_worstOf_40 : decode cX7_worstOf 40 = .ok (.iload 7, 2) := by decide +kernel
theorem dX7_worstOf_42 : decode cX7_worstOf 42 = .ok (.iconst 3, 1) := by decide +kernel
theorem dX7_worstOf_43 : decode cX7_worstOf 43 = .ok (.irem, 1) := by decide +kernel
theorem dX7_worstOf_44 : decode cX7_worstOf 44 = .ok (.iload_n 1, 1) := by decide +kernel
theorem dX7_worstOf_45 : decode cX7_worstOf 45 = .ok (.invokestatic 120, 3) := by decide +kernel
theorem dX7_worstOf_48 : decode cX7_worstOf 48 = .ok (.if_icmp .ge 37, 3) := by decide +kernel
theorem dX7_worstOf_51 : decode cX7_worstOf 51 = .ok (.aload_n 0, 1) := by decide +kernel
theorem dX7_worstOf_52 : decode cX7_worstOf 52 = .ok (.iload_n 1, 1) := by decide +kernel
theorem dX7_worstOf_53 : decode cX7_worstOf 53 = .ok (.iload 4, 2) := by decide +kernel
theorem dX7_worstOf_55 : decode cX7_worstOf 55 = .ok (.iload 7, 2) := by decide +kernel
theorem dX7_worstOf_57 : decode cX7_worstOf 57 = .ok (.iconst 3, 1) := by decide +kernel
theorem dX7_worstOf_58 : decode cX7_worstOf 58 = .ok (.idiv, 1) := by decide +kernel
theorem dX7_worstOf_59 : decode cX7_worstOf 59 = .ok (.invokevirtual 123, 3) := by decide +kernel
theorem dX7_worstOf_62 : decode cX7_worstOf 62 = .ok (.aload_n 0, 1) := by decide +kernel
theorem dX7_worstOf_63 : decode cX7_worstOf 63 = .ok (.getfield 55, 3) := by decide +kernel
theorem dX7_worstOf_66 : decode cX7_worstOf 66 = .ok (.iload 7, 2) := by decide +kernel
theorem dX7_worstOf_68 : decode cX7_worstOf 68 = .ok (.laload, 1) := by decide +kernel
theorem dX7_worstOf_69 : decode cX7_worstOf 69 = .ok (.lmul, 1) := by decide +kernel
theorem dX7_worstOf_70 : decode cX7_worstOf 70 = .ok (.aload_n 0, 1) := by decide +kernel
theorem dX7_worstOf_71 : decode cX7_worstOf 71 = .ok (.iload_n 1, 1) := by decide +kernel
theorem dX7_worstOf_72 : decode cX7_worstOf 72 = .ok (.iload 4, 2) := by decide +kernel
theorem dX7_worstOf_74 : decode cX7_worstOf 74 = .ok (.iload 7, 2) := by decide +kernel
theorem dX7_worstOf_76 : decode cX7_worstOf 76 = .ok (.iconst 3, 1) := by decide +kernel
theorem dX7_worstOf_77 : decode cX7_worstOf 77 = .ok (.irem, 1) := by decide +kernel
theorem dX7_worstOf_78 : decode cX7_worstOf 78 = .ok (.invokevirtual 123, 3) := by decide +kernel
theorem dX7_worstOf_81 : decode cX7_worstOf 81 = .ok (.lmul, 1) := by decide +kernel
theorem dX7_worstOf_82 : decode cX7_worstOf 82 = .ok (.goto 4, 3) := by decide +kernel
theorem dX7_worstOf_85 : decode cX7_worstOf 85 = .ok (.lconst 0, 1) := by decide +kernel
theorem dX7_worstOf_86 : decode cX7_worstOf 86 = .ok (.ladd, 1) := by decide +kernel
theorem dX7_worstOf_87 : decode cX7_worstOf 87 = .ok (.lstore 5, 2) := by decide +kernel
theorem dX7_worstOf_89 : decode cX7_worstOf 89 = .ok (.iinc 7 1, 3) := by decide +kernel
theorem dX7_worstOf_92 : decode cX7_worstOf 92 = .ok (.goto (-72), 3) := by decide +kernel
theorem dX7_worstOf_95 : decode cX7_worstOf 95 = .ok (.lload 5, 2) := by decide +kernel
theorem dX7_worstOf_97 : decode cX7_worstOf 97 = .ok (.lload_n 2, 1) := by decide +kernel
theorem dX7_worstOf_98 : decode cX7_worstOf 98 = .ok (.lcmp, 1) := by decide +kernel
theorem dX7_worstOf_99 : decode cX7_worstOf 99 = .ok (.ifCond .le 8, 3) := by decide +kernel
theorem dX7_worstOf_102 : decode cX7_worstOf 102 = .ok (.lload 5, 2) := by decide +kernel
theorem dX7_worstOf_104 : decode cX7_worstOf 104 = .ok (.goto 4, 3) := by decide +kernel
theorem dX7_worstOf_107 : decode cX7_worstOf 107 = .ok (.lload_n 2, 1) := by decide +kernel
theorem dX7_worstOf_108 : decode cX7_worstOf 108 = .ok (.lstore_n 2, 1) := by decide +kernel
theorem dX7_worstOf_109 : decode cX7_worstOf 109 = .ok (.iinc 4 1, 3) := by decide +kernel
theorem dX7_worstOf_112 : decode cX7_worstOf 112 = .ok (.goto (-107), 3) := by decide +kernel
theorem dX7_worstOf_115 : decode cX7_worstOf 115 = .ok (.lload_n 2, 1) := by decide +kernel
theorem dX7_worstOf_116 : decode cX7_worstOf 116 = .ok (.lreturn, 1) := by decide +kernel
theorem dX7_plan_0 : decode cX7_plan 0 = .ok (.iload_n 1, 1) := by decide +kernel
theorem dX7_plan_1 : decode cX7_plan 1 = .ok (.i2l, 1) := by decide +kernel
theorem dX7_plan_2 : decode cX7_plan 2 = .ok (.lconst 1, 1) := by decide +kernel
theorem dX7_plan_3 : decode cX7_plan 3 = .ok (.ldc2_w 169, 3) := by decide +kernel
theorem dX7_plan_6 : decode cX7_plan 6 = .ok (.invokestatic 77, 3) := by decide +kernel
theorem dX7_plan_9 : decode cX7_plan 9 = .ok (.ifCond .eq 22, 3) := by decide +kernel
theorem dX7_plan_12 : decode cX7_plan 12 = .ok (.iload_n 2, 1) := by decide +kernel
theorem dX7_plan_13 : decode cX7_plan 13 = .ok (.invokestatic 135, 3) := by decide +kernel
theorem dX7_plan_16 : decode cX7_plan 16 = .ok (.ifCond .eq 15, 3) := by decide +kernel
theorem dX7_plan_19 : decode cX7_plan 19 = .ok (.iload_n 3, 1) := by decide +kernel
theorem dX7_plan_20 : decode cX7_plan 20 = .ok (.i2l, 1) := by decide +kernel
theorem dX7_plan_21 : decode cX7_plan 21 = .ok (.lconst 0, 1) := by decide +kernel
theorem dX7_plan_22 : decode cX7_plan 22 = .ok (.ldc2_w 118, 3) := by decide +kernel
theorem dX7_plan_25 : decode cX7_plan 25 = .ok (.invokestatic 77, 3) := by decide +kernel
theorem dX7_plan_28 : decode cX7_plan 28 = .ok (.ifCond .ne 7, 3) := by decide +kernel
theorem dX7_plan_31 : decode cX7_plan 31 = .ok (.ldc2_w 138, 3) := by decide +kernel
theorem dX7_plan_34 : decode cX7_plan 34 = .ok (.lreturn, 1) := by decide +kernel
theorem dX7_plan_35 : decode cX7_plan 35 = .ok (.iconst (-1), 1) := by decide +kernel
theorem dX7_plan_36 : decode cX7_plan 36 = .ok (.istore 4, 2) := by decide +kernel
theorem dX7_plan_38 : decode cX7_plan 38 = .ok (.lconst 0, 1) := by decide +kernel
theorem dX7_plan_39 : decode cX7_plan 39 = .ok (.lstore 5, 2) := by decide +kernel
theorem dX7_plan_41 : decode cX7_plan 41 = .ok (.lconst 1, 1) := by decide +kernel
theorem dX7_plan_42 : decode cX7_plan 42 = .ok (.lstore 7, 2) := by decide +kernel
theorem dX7_plan_44 : decode cX7_plan 44 = .ok (.iconst 0, 1) := by decide +kernel
theorem dX7_plan_45 : decode cX7_plan 45 = .ok (.istore 9, 2) := by decide +kernel
theorem dX7_plan_47 : decode cX7_plan 47 = .ok (.iload 9, 2) := by decide +kernel
theorem dX7_plan_49 : decode cX7_plan 49 = .ok (.iconst 1, 1) := by decide +kernel
theorem dX7_plan_50 : decode cX7_plan 50 = .ok (.aload_n 0, 1) := by decide +kernel
theorem dX7_plan_51 : decode cX7_plan 51 = .ok (.getfield 86, 3) := by decide +kernel
theorem dX7_plan_54 : decode cX7_plan 54 = .ok (.ishl, 1) := by decide +kernel
theorem dX7_plan_55 : decode cX7_plan 55 = .ok (.if_icmp .ge 99, 3) := by decide +kernel
theorem dX7_plan_58 : decode cX7_plan 58 = .ok (.iload 9, 2) := by decide +kernel
theorem dX7_plan_60 : decode cX7_plan 60 = .ok (.invokestatic 111, 3) := by decide +kernel
theorem dX7_plan_63 : decode cX7_plan 63 = .ok (.iload_n 1, 1) := by decide +kernel
theorem dX7_plan_64 : decode cX7_plan 64 = .ok (.if_icmp .ne 84, 3) := by decide +kernel
theorem dX7_plan_67 : decode cX7_plan 67 = .ok (.aload_n 0, 1) := by decide +kernel
theorem dX7_plan_68 : decode cX7_plan 68 = .ok (.iload_n 2, 1) := by decide +kernel
theorem dX7_plan_69 : decode cX7_plan 69 = .ok (.iload 9, 2) := by decide +kernel
theorem dX7_plan_71 : decode cX7_plan 71 = .ok (.invokevirtual 140, 3) := by decide +kernel
theorem dX7_plan_74 : decode cX7_plan 74 = .ok (.aload_n 0, 1) := by decide +kernel
theorem dX7_plan_75 : decode cX7_plan 75 = .ok (.getfield 131, 3) := by decide +kernel
theorem dX7_plan_78 : decode cX7_plan 78 = .ok (.lconst 0, 1) := by decide +kernel
theorem dX7_plan_79 : decode cX7_plan 79 = .ok (.lcmp, 1) := by decide +kernel
theorem dX7_plan_80 : decode cX7_plan 80 = .ok (.ifCond .eq 68, 3) := by decide +kernel
theorem dX7_plan_83 : decode cX7_plan 83 = .ok (.aload_n 0, 1) := by decide +kernel
theorem dX7_plan_84 : decode cX7_plan 84 = .ok (.iload_n 2, 1) := by decide +kernel
theorem dX7_plan_85 : decode cX7_plan 85 = .ok (.invokevirtual 171, 3) := by decide +kernel
theorem dX7_plan_88 : decode cX7_plan 88 = .ok (.lstore 10, 2) := by decide +kernel
theorem dX7_plan_90 : decode cX7_plan 90 = .ok (.lload 10, 2) := by decide +kernel
theorem dX7_plan_92 : decode cX7_plan 92 = .ok (.lload 7, 2) := by decide +kernel
theorem dX7_plan_94 : decode cX7_plan 94 = .ok (.lmul, 1) := by decide +kernel
theorem dX7_plan_95 : decode cX7_plan 95 = .ok (.lload 5, 2) := by decide +kernel
theorem dX7_plan_97 : decode cX7_plan 97 = .ok (.aload_n 0, 1) := by decide +kernel
theorem dX7_plan_98 : decode cX7_plan 98 = .ok (.getfield 131, 3) := by decide +kernel
theorem dX7_plan_101 : decode cX7_plan 101 = .ok (.lmul, 1) := by decide +kernel
theorem dX7_plan_102 : decode cX7_plan 102 = .ok (.lsub, 1) := by decide +kernel
theorem dX7_plan_103 : decode cX7_plan 103 = .ok (.lstore 12, 2) := by decide +kernel
theorem dX7_plan_105 : decode cX7_plan 105 = .ok (.iload 4, 2) := by decide +kernel
theorem dX7_plan_107 : decode cX7_plan 107 = .ok (.ifCond .lt 27, 3) := by decide +kernel
theorem dX7_plan_110 : decode cX7_plan 110 = .ok (.lload 12, 2) := by decide +kernel
theorem dX7_plan_112 : decode cX7_plan 112 = .ok (.lconst 0, 1) := by decide +kernel
theorem dX7_plan_113 : decode cX7_plan 113 = .ok (.lcmp, 1) := by decide +kernel
theorem dX7_plan_114 : decode cX7_plan 114 = .ok (.ifCond .lt 20, 3) := by decide +kernel
theorem dX7_plan_117 : decode cX7_plan 117 = .ok (.lload 12, 2) := by decide +kernel
theorem dX7_plan_119 : decode cX7_plan 119 = .ok (.lconst 0, 1) := by decide +kernel
theorem dX7_plan_120 : decode cX7_plan 120 = .ok (.lcmp, 1) := by decide +kernel
theorem dX7_plan_121 : decode cX7_plan 121 = .ok (.ifCond .ne 27, 3) := by decide +kernel
theorem dX7_plan_124 : decode cX7_plan 124 = .ok (.iload 9, 2) := by decide +kernel
theorem dX7_plan_126 : decode cX7_plan 126 = .ok (.iload 4, 2) := by decide +kernel
theorem dX7_plan_128 : decode cX7_plan 128 = .ok (.invokestatic 175, 3) := by decide +kernel
theorem dX7_plan_131 : decode cX7_plan 131 = .ok (.ifCond .eq 17, 3) := by decide +kernel
theorem dX7_plan_134 : decode cX7_plan 134 = .ok (.iload 9, 2) := by decide +kernel
theorem dX7_plan_136 : decode cX7_plan 136 = .ok (.istore 4, 2) := by decide +kernel
theorem dX7_plan_138 : decode cX7_plan 138 = .ok (.lload 10, 2) := by decide +kernel
theorem dX7_plan_140 : decode cX7_plan 140 = .ok (.lstore 5, 2) := by decide +kernel
theorem dX7_plan_142 : decode cX7_plan 142 = .ok (.aload_n 0, 1) := by decide +kernel
theorem dX7_plan_143 : decode cX7_plan 143 = .ok (.getfield 131, 3) := by decide +kernel
theorem dX7_plan_146 : decode cX7_plan 146 = .ok (.lstore 7, 2) := by decide +kernel
theorem dX7_plan_148 : decode cX7_plan 148 = .ok (.iinc 9 1, 3) := by decide +kernel
theorem dX7_plan_151 : decode cX7_plan 151 = .ok (.goto (-104), 3) := by decide +kernel
theorem dX7_plan_154 : decode cX7_plan 154 = .ok (.iload 4, 2) := by decide +kernel
theorem dX7_plan_156 : decode cX7_plan 156 = .ok (.ifCond .ge 9, 3) := by decide +kernel
theorem dX7_plan_159 : decode cX7_plan 159 = .ok (.ldc2_w 152, 3) := by decide +kernel
theorem dX7_plan_162 : decode cX7_plan 162 = .ok (.goto 23, 3) := by decide +kernel
theorem dX7_plan_165 : decode cX7_plan 165 = .ok (.iload_n 3, 1) := by decide +kernel
theorem dX7_plan_166 : decode cX7_plan 166 = .ok (.ifCond .ne 9, 3) := by decide +kernel
theorem dX7_plan_169 : decode cX7_plan 169 = .ok (.iload 4, 2) := by decide +kernel
theorem dX7_plan_171 : decode cX7_plan 171 = .ok (.i2l, 1) := by decide +kernel
theorem dX7_plan_172 : decode cX7_plan 172 = .ok (.goto 13, 3) := by decide +kernel
theorem dX7_plan_175 : decode cX7_plan 175 = .ok (.lload 5, 2) := by decide +kernel
theorem dX7_plan_177 : decode cX7_plan 177 = .ok (.lload 7, 2) := by decide +kernel
theorem dX7_plan_179 : decode cX7_plan 179 = .ok (.iload_n 3, 1) := by decide +kernel
theorem dX7_plan_180 : decode cX7_plan 180 = .ok (.iconst 1, 1) := by decide +kernel
theorem dX7_plan_181 : decode cX7_plan 181 = .ok (.isub, 1) := by decide +kernel
theorem dX7_plan_182 : decode cX7_plan 182 = .ok (.invokestatic 154, 3) := by decide +kernel
theorem dX7_plan_185 : decode cX7_plan 185 = .ok (.lreturn, 1) := by decide +kernel
theorem dX7_isAhead_0 : decode cX7_isAhead 0 = .ok (.iload_n 0, 1) := by decide +kernel
theorem dX7_isAhead_1 : decode cX7_isAhead 1 = .ok (.iload_n 1, 1) := by decide +kernel
theorem dX7_isAhead_2 : decode cX7_isAhead 2 = .ok (.ixor, 1) := by decide +kernel
theorem dX7_isAhead_3 : decode cX7_isAhead 3 = .ok (.istore_n 2, 1) := by decide +kernel
theorem dX7_isAhead_4 : decode cX7_isAhead 4 = .ok (.iload_n 0, 1) := by decide +kernel
theorem dX7_isAhead_5 : decode cX7_isAhead 5 = .ok (.iload_n 2, 1) := by decide +kernel
theorem dX7_isAhead_6 : decode cX7_isAhead 6 = .ok (.iand, 1) := by decide +kernel
theorem dX7_isAhead_7 : decode cX7_isAhead 7 = .ok (.iload_n 2, 1) := by decide +kernel
theorem dX7_isAhead_8 : decode cX7_isAhead 8 = .ok (.ineg, 1) := by decide +kernel
theorem dX7_isAhead_9 : decode cX7_isAhead 9 = .ok (.iand, 1) := by decide +kernel
theorem dX7_isAhead_10 : decode cX7_isAhead 10 = .ok (.ifCond .eq 7, 3) := by decide +kernel
theorem dX7_isAhead_13 : decode cX7_isAhead 13 = .ok (.iconst 1, 1) := by decide +kernel
theorem dX7_isAhead_14 : decode cX7_isAhead 14 = .ok (.goto 4, 3) := by decide +kernel
theorem dX7_isAhead_17 : decode cX7_isAhead 17 = .ok (.iconst 0, 1) := by decide +kernel
theorem dX7_isAhead_18 : decode cX7_isAhead 18 = .ok (.ireturn, 1) := by decide +kernel
theorem dX7_isTool_0 : decode cX7_isTool 0 = .ok (.iload_n 0, 1) := by decide +kernel
theorem dX7_isTool_1 : decode cX7_isTool 1 = .ok (.i2l, 1) := by decide +kernel
theorem dX7_isTool_2 : decode cX7_isTool 2 = .ok (.lconst 0, 1) := by decide +kernel
theorem dX7_isTool_3 : decode cX7_isTool 3 = .ok (.ldc2_w 83, 3) := by decide +kernel
theorem dX7_isTool_6 : decode cX7_isTool 6 = .ok (.invokestatic 77, 3) := by decide +kernel
theorem dX7_isTool_9 : decode cX7_isTool 9 = .ok (.ireturn, 1) := by decide +kernel
theorem dX7_lot_0 : decode cX7_lot 0 = .ok (.iload_n 1, 1) := by decide +kernel
theorem dX7_lot_1 : decode cX7_lot 1 = .ok (.invokestatic 179, 3) := by decide +kernel
theorem dX7_lot_4 : decode cX7_lot 4 = .ok (.ifCond .ne 6, 3) := by decide +kernel
theorem dX7_lot_7 : decode cX7_lot 7 = .ok (.ldc 94, 2) := by decide +kernel
theorem dX7_lot_9 : decode cX7_lot 9 = .ok (.ireturn, 1) := by decide +kernel
theorem dX7_lot_10 : decode cX7_lot 10 = .ok (.iload_n 2, 1) := by decide +kernel
theorem dX7_lot_11 : decode cX7_lot 11 = .ok (.i2l, 1) := by decide +kernel
theorem dX7_lot_12 : decode cX7_lot 12 = .ok (.ldc2_w 182, 3) := by decide +kernel
theorem dX7_lot_15 : decode cX7_lot 15 = .ok (.ldc2_w 184, 3) := by decide +kernel
theorem dX7_lot_18 : decode cX7_lot 18 = .ok (.invokestatic 77, 3) := by decide +kernel
theorem dX7_lot_21 : decode cX7_lot 21 = .ok (.ifCond .ne 6, 3) := by decide +kernel
theorem dX7_lot_24 : decode cX7_lot 24 = .ok (.ldc 85, 2) := by decide +kernel
theorem dX7_lot_26 : decode cX7_lot 26 = .ok (.ireturn, 1) := by decide +kernel
theorem dX7_lot_27 : decode cX7_lot 27 = .ok (.aload_n 0, 1) := by decide +kernel
theorem dX7_lot_28 : decode cX7_lot 28 = .ok (.getfield 104, 3) := by decide +kernel
theorem dX7_lot_31 : decode cX7_lot 31 = .ok (.bipush 60, 2) := by decide +kernel
theorem dX7_lot_33 : decode cX7_lot 33 = .ok (.if_icmp .ne 6, 3) := by decide +kernel
theorem dX7_lot_36 : decode cX7_lot 36 = .ok (.ldc 89, 2) := by decide +kernel
theorem dX7_lot_38 : decode cX7_lot 38 = .ok (.ireturn, 1) := by decide +kernel
theorem dX7_lot_39 : decode cX7_lot 39 = .ok (.aload_n 0, 1) := by decide +kernel
theorem dX7_lot_40 : decode cX7_lot 40 = .ok (.getfield 23, 3) := by decide +kernel
theorem dX7_lot_43 : decode cX7_lot 43 = .ok (.aload_n 0, 1) := by decide +kernel
theorem dX7_lot_44 : decode cX7_lot 44 = .ok (.getfield 104, 3) := by decide +kernel
theorem dX7_lot_47 : decode cX7_lot 47 = .ok (.iload_n 1, 1) := by decide +kernel
theorem dX7_lot_48 : decode cX7_lot 48 = .ok (.iastore, 1) := by decide +kernel
theorem dX7_lot_49 : decode cX7_lot 49 = .ok (.aload_n 0, 1) := by decide +kernel
theorem dX7_lot_50 : decode cX7_lot 50 = .ok (.getfield 26, 3) := by decide +kernel
theorem dX7_lot_53 : decode cX7_lot 53 = .ok (.aload_n 0, 1) := by decide +kernel
theorem dX7_lot_54 : decode cX7_lot 54 = .ok (.getfield 104, 3) := by decide +kernel
theorem dX7_lot_57 : decode cX7_lot 57 = .ok (.iload_n 2, 1) := by decide +kernel
theorem dX7_lot_58 : decode cX7_lot 58 = .ok (.iastore, 1) := by decide +kernel
theorem dX7_lot_59 : decode cX7_lot 59 = .ok (.aload_n 0, 1) := by decide +kernel
theorem dX7_lot_60 : decode cX7_lot 60 = .ok (.getfield 32, 3) := by decide +kernel
theorem dX7_lot_63 : decode cX7_lot 63 = .ok (.aload_n 0, 1) := by decide +kernel
theorem dX7_lot_64 : decode cX7_lot 64 = .ok (.getfield 104, 3) := by decide +kernel
theorem dX7_lot_67 : decode cX7_lot 67 = .ok (.iconst 0, 1) := by decide +kernel
theorem dX7_lot_68 : decode cX7_lot 68 = .ok (.bastore, 1) := by decide +kernel
theorem dX7_lot_69 : decode cX7_lot 69 = .ok (.aload_n 0, 1) := by decide +kernel
theorem dX7_lot_70 : decode cX7_lot 70 = .ok (.dup, 1) := by decide +kernel
theorem dX7_lot_71 : decode cX7_lot 71 = .ok (.getfield 104, 3) := by decide +kernel
theorem dX7_lot_74 : decode cX7_lot 74 = .ok (.iconst 1, 1) := by decide +kernel
theorem dX7_lot_75 : decode cX7_lot 75 = .ok (.iadd, 1) := by decide +kernel
theorem dX7_lot_76 : decode cX7_lot 76 = .ok (.putfield 104, 3) := by decide +kernel
theorem dX7_lot_79 : decode cX7_lot 79 = .ok (.aload_n 0, 1) := by decide +kernel
theorem dX7_lot_80 : decode cX7_lot 80 = .ok (.getfield 104, 3) := by decide +kernel
theorem dX7_lot_83 : decode cX7_lot 83 = .ok (.iconst 1, 1) := by decide +kernel
theorem dX7_lot_84 : decode cX7_lot 84 = .ok (.isub, 1) := by decide +kernel
theorem dX7_lot_85 : decode cX7_lot 85 = .ok (.ireturn, 1) := by decide +kernel
theorem dX7_back_0 : decode cX7_back 0 = .ok (.iload_n 1, 1) := by decide +kernel
theorem dX7_back_1 : decode cX7_back 1 = .ok (.i2l, 1) := by decide +kernel
theorem dX7_back_2 : decode cX7_back 2 = .ok (.lconst 0, 1) := by decide +kernel
theorem dX7_back_3 : decode cX7_back 3 = .ok (.aload_n 0, 1) := by decide +kernel
theorem dX7_back_4 : decode cX7_back 4 = .ok (.getfield 104, 3) := by decide +kernel
theorem dX7_back_7 : decode cX7_back 7 = .ok (.iconst 1, 1) := by decide +kernel
theorem dX7_back_8 : decode cX7_back 8 = .ok (.isub, 1) := by decide +kernel
theorem dX7_back_9 : decode cX7_back 9 = .ok (.i2l, 1) := by decide +kernel
theorem dX7_back_10 : decode cX7_back 10 = .ok (.invokestatic 77, 3) := by decide +kernel
theorem dX7_back_13 : decode cX7_back 13 = .ok (.ifCond .ne 6, 3) := by decide +kernel
theorem dX7_back_16 : decode cX7_back 16 = .ok (.ldc 94, 2) := by decide +kernel
theorem dX7_back_18 : decode cX7_back 18 = .ok (.ireturn, 1) := by decide +kernel
theorem dX7_back_19 : decode cX7_back 19 = .ok (.iload_n 2, 1) := by decide +kernel
theorem dX7_back_20 : decode cX7_back 20 = .ok (.i2l, 1) := by decide +kernel
theorem dX7_back_21 : decode cX7_back 21 = .ok (.ldc2_w 182, 3) := by decide +kernel
theorem dX7_back_24 : decode cX7_back 24 = .ok (.ldc2_w 184, 3) := by decide +kernel
theorem dX7_back_27 : decode cX7_back 27 = .ok (.invokestatic 77, 3) := by decide +kernel
end
section
theorem dX7_back_30 : decode cX7_back 30 = .ok (.ifCond .ne 6, 3) := by decide +kernel
theorem dX7_back_33 : decode cX7_back 33 = .ok (.ldc 85, 2) := by decide +kernel
theorem dX7_back_35 : decode cX7_back 35 = .ok (.ireturn, 1) := by decide +kernel
theorem dX7_back_36 : decode cX7_back 36 = .ok (.aload_n 0, 1) := by decide +kernel
theorem dX7_back_37 : decode cX7_back 37 = .ok (.getfield 29, 3) := by decide +kernel
theorem dX7_back_40 : decode cX7_back 40 = .ok (.iload_n 1, 1) := by decide +kernel
theorem dX7_back_41 : decode cX7_back 41 = .ok (.iload_n 2, 1) := by decide +kernel
theorem dX7_back_42 : decode cX7_back 42 = .ok (.iastore, 1) := by decide +kernel
theorem dX7_back_43 : decode cX7_back 43 = .ok (.aload_n 0, 1) := by decide +kernel
theorem dX7_back_44 : decode cX7_back 44 = .ok (.getfield 32, 3) := by decide +kernel
theorem dX7_back_47 : decode cX7_back 47 = .ok (.iload_n 1, 1) := by decide +kernel
theorem dX7_back_48 : decode cX7_back 48 = .ok (.iconst 1, 1) := by decide +kernel
theorem dX7_back_49 : decode cX7_back 49 = .ok (.bastore, 1) := by decide +kernel
theorem dX7_back_50 : decode cX7_back 50 = .ok (.iconst 1, 1) := by decide +kernel
theorem dX7_back_51 : decode cX7_back 51 = .ok (.ireturn, 1) := by decide +kernel
theorem dX7_mend_0 : decode cX7_mend 0 = .ok (.iload_n 1, 1) := by decide +kernel
theorem dX7_mend_1 : decode cX7_mend 1 = .ok (.invokestatic 179, 3) := by decide +kernel
theorem dX7_mend_4 : decode cX7_mend 4 = .ok (.ifCond .ne 6, 3) := by decide +kernel
theorem dX7_mend_7 : decode cX7_mend 7 = .ok (.ldc 94, 2) := by decide +kernel
theorem dX7_mend_9 : decode cX7_mend 9 = .ok (.ireturn, 1) := by decide +kernel
theorem dX7_mend_10 : decode cX7_mend 10 = .ok (.aload_n 0, 1) := by decide +kernel
theorem dX7_mend_11 : decode cX7_mend 11 = .ok (.getfield 35, 3) := by decide +kernel
theorem dX7_mend_14 : decode cX7_mend 14 = .ok (.iconst 4, 1) := by decide +kernel
theorem dX7_mend_15 : decode cX7_mend 15 = .ok (.aload_n 0, 1) := by decide +kernel
theorem dX7_mend_16 : decode cX7_mend 16 = .ok (.getfield 104, 3) := by decide +kernel
theorem dX7_mend_19 : decode cX7_mend 19 = .ok (.imul, 1) := by decide +kernel
theorem dX7_mend_20 : decode cX7_mend 20 = .ok (.iload_n 1, 1) := by decide +kernel
theorem dX7_mend_21 : decode cX7_mend 21 = .ok (.iadd, 1) := by decide +kernel
theorem dX7_mend_22 : decode cX7_mend 22 = .ok (.iconst 1, 1) := by decide +kernel
theorem dX7_mend_23 : decode cX7_mend 23 = .ok (.bastore, 1) := by decide +kernel
theorem dX7_mend_24 : decode cX7_mend 24 = .ok (.iconst 1, 1) := by decide +kernel
theorem dX7_mend_25 : decode cX7_mend 25 = .ok (.ireturn, 1) := by decide +kernel
theorem dX7_gain_0 : decode cX7_gain 0 = .ok (.iload_n 1, 1) := by decide +kernel
theorem dX7_gain_1 : decode cX7_gain 1 = .ok (.i2l, 1) := by decide +kernel
theorem dX7_gain_2 : decode cX7_gain 2 = .ok (.lconst 1, 1) := by decide +kernel
theorem dX7_gain_3 : decode cX7_gain 3 = .ok (.ldc2_w 186, 3) := by decide +kernel
theorem dX7_gain_6 : decode cX7_gain 6 = .ok (.invokestatic 77, 3) := by decide +kernel
theorem dX7_gain_9 : decode cX7_gain 9 = .ok (.ifCond .ne 6, 3) := by decide +kernel
theorem dX7_gain_12 : decode cX7_gain 12 = .ok (.ldc 85, 2) := by decide +kernel
theorem dX7_gain_14 : decode cX7_gain 14 = .ok (.ireturn, 1) := by decide +kernel
theorem dX7_gain_15 : decode cX7_gain 15 = .ok (.aload_n 0, 1) := by decide +kernel
theorem dX7_gain_16 : decode cX7_gain 16 = .ok (.getfield 38, 3) := by decide +kernel
theorem dX7_gain_19 : decode cX7_gain 19 = .ok (.istore_n 2, 1) := by decide +kernel
theorem dX7_gain_20 : decode cX7_gain 20 = .ok (.aload_n 0, 1) := by decide +kernel
theorem dX7_gain_21 : decode cX7_gain 21 = .ok (.iload_n 1, 1) := by decide +kernel
theorem dX7_gain_22 : decode cX7_gain 22 = .ok (.putfield 38, 3) := by decide +kernel
theorem dX7_gain_25 : decode cX7_gain 25 = .ok (.iload_n 2, 1) := by decide +kernel
theorem dX7_gain_26 : decode cX7_gain 26 = .ok (.ireturn, 1) := by decide +kernel
theorem dX7_stateOf_0 : decode cX7_stateOf 0 = .ok (.iconst 0, 1) := by decide +kernel
theorem dX7_stateOf_1 : decode cX7_stateOf 1 = .ok (.istore_n 3, 1) := by decide +kernel
theorem dX7_stateOf_2 : decode cX7_stateOf 2 = .ok (.iconst 0, 1) := by decide +kernel
theorem dX7_stateOf_3 : decode cX7_stateOf 3 = .ok (.istore 4, 2) := by decide +kernel
theorem dX7_stateOf_5 : decode cX7_stateOf 5 = .ok (.iload 4, 2) := by decide +kernel
theorem dX7_stateOf_7 : decode cX7_stateOf 7 = .ok (.iload_n 2, 1) := by decide +kernel
theorem dX7_stateOf_8 : decode cX7_stateOf 8 = .ok (.if_icmp .gt 88, 3) := by decide +kernel
theorem dX7_stateOf_11 : decode cX7_stateOf 11 = .ok (.aload_n 0, 1) := by decide +kernel
theorem dX7_stateOf_12 : decode cX7_stateOf 12 = .ok (.getfield 35, 3) := by decide +kernel
theorem dX7_stateOf_15 : decode cX7_stateOf 15 = .ok (.iconst 4, 1) := by decide +kernel
theorem dX7_stateOf_16 : decode cX7_stateOf 16 = .ok (.iload 4, 2) := by decide +kernel
theorem dX7_stateOf_18 : decode cX7_stateOf 18 = .ok (.imul, 1) := by decide +kernel
theorem dX7_stateOf_19 : decode cX7_stateOf 19 = .ok (.iload_n 1, 1) := by decide +kernel
theorem dX7_stateOf_20 : decode cX7_stateOf 20 = .ok (.iadd, 1) := by decide +kernel
theorem dX7_stateOf_21 : decode cX7_stateOf 21 = .ok (.baload, 1) := by decide +kernel
theorem dX7_stateOf_22 : decode cX7_stateOf 22 = .ok (.ifCond .eq 7, 3) := by decide +kernel
theorem dX7_stateOf_25 : decode cX7_stateOf 25 = .ok (.iconst 0, 1) := by decide +kernel
theorem dX7_stateOf_26 : decode cX7_stateOf 26 = .ok (.goto 4, 3) := by decide +kernel
theorem dX7_stateOf_29 : decode cX7_stateOf 29 = .ok (.iload_n 3, 1) := by decide +kernel
theorem dX7_stateOf_30 : decode cX7_stateOf 30 = .ok (.istore_n 3, 1) := by decide +kernel
theorem dX7_stateOf_31 : decode cX7_stateOf 31 = .ok (.iload 4, 2) := by decide +kernel
theorem dX7_stateOf_33 : decode cX7_stateOf 33 = .ok (.iload_n 2, 1) := by decide +kernel
theorem dX7_stateOf_34 : decode cX7_stateOf 34 = .ok (.if_icmp .ge 56, 3) := by decide +kernel
theorem dX7_stateOf_37 : decode cX7_stateOf 37 = .ok (.aload_n 0, 1) := by decide +kernel
theorem dX7_stateOf_38 : decode cX7_stateOf 38 = .ok (.getfield 23, 3) := by decide +kernel
theorem dX7_stateOf_41 : decode cX7_stateOf 41 = .ok (.iload 4, 2) := by decide +kernel
theorem dX7_stateOf_43 : decode cX7_stateOf 43 = .ok (.iaload, 1) := by decide +kernel
theorem dX7_stateOf_44 : decode cX7_stateOf 44 = .ok (.iload_n 1, 1) := by decide +kernel
theorem dX7_stateOf_45 : decode cX7_stateOf 45 = .ok (.if_icmp .ne 45, 3) := by decide +kernel
theorem dX7_stateOf_48 : decode cX7_stateOf 48 = .ok (.aload_n 0, 1) := by decide +kernel
theorem dX7_stateOf_49 : decode cX7_stateOf 49 = .ok (.getfield 32, 3) := by decide +kernel
theorem dX7_stateOf_52 : decode cX7_stateOf 52 = .ok (.iload 4, 2) := by decide +kernel
theorem dX7_stateOf_54 : decode cX7_stateOf 54 = .ok (.baload, 1) := by decide +kernel
theorem dX7_stateOf_55 : decode cX7_stateOf 55 = .ok (.ifCond .eq 35, 3) := by decide +kernel
theorem dX7_stateOf_58 : decode cX7_stateOf 58 = .ok (.iload_n 3, 1) := by decide +kernel
theorem dX7_stateOf_59 : decode cX7_stateOf 59 = .ok (.aload_n 0, 1) := by decide +kernel
theorem dX7_stateOf_60 : decode cX7_stateOf 60 = .ok (.getfield 38, 3) := by decide +kernel
theorem dX7_stateOf_63 : decode cX7_stateOf 63 = .ok (.sipush 1000, 3) := by decide +kernel
theorem dX7_stateOf_66 : decode cX7_stateOf 66 = .ok (.aload_n 0, 1) := by decide +kernel
theorem dX7_stateOf_67 : decode cX7_stateOf 67 = .ok (.getfield 29, 3) := by decide +kernel
theorem dX7_stateOf_70 : decode cX7_stateOf 70 = .ok (.iload 4, 2) := by decide +kernel
theorem dX7_stateOf_72 : decode cX7_stateOf 72 = .ok (.iaload, 1) := by decide +kernel
theorem dX7_stateOf_73 : decode cX7_stateOf 73 = .ok (.aload_n 0, 1) := by decide +kernel
theorem dX7_stateOf_74 : decode cX7_stateOf 74 = .ok (.getfield 26, 3) := by decide +kernel
theorem dX7_stateOf_77 : decode cX7_stateOf 77 = .ok (.iload 4, 2) := by decide +kernel
theorem dX7_stateOf_79 : decode cX7_stateOf 79 = .ok (.iaload, 1) := by decide +kernel
theorem dX7_stateOf_80 : decode cX7_stateOf 80 = .ok (.isub, 1) := by decide +kernel
theorem dX7_stateOf_81 : decode cX7_stateOf 81 = .ok (.imul, 1) := by decide +kernel
theorem dX7_stateOf_82 : decode cX7_stateOf 82 = .ok (.iload_n 3, 1) := by decide +kernel
theorem dX7_stateOf_83 : decode cX7_stateOf 83 = .ok (.isub, 1) := by decide +kernel
theorem dX7_stateOf_84 : decode cX7_stateOf 84 = .ok (.imul, 1) := by decide +kernel
theorem dX7_stateOf_85 : decode cX7_stateOf 85 = .ok (.bipush 16, 2) := by decide +kernel
theorem dX7_stateOf_87 : decode cX7_stateOf 87 = .ok (.idiv, 1) := by decide +kernel
theorem dX7_stateOf_88 : decode cX7_stateOf 88 = .ok (.iadd, 1) := by decide +kernel
theorem dX7_stateOf_89 : decode cX7_stateOf 89 = .ok (.istore_n 3, 1) := by decide +kernel
theorem dX7_stateOf_90 : decode cX7_stateOf 90 = .ok (.iinc 4 1, 3) := by decide +kernel
theorem dX7_stateOf_93 : decode cX7_stateOf 93 = .ok (.goto (-88), 3) := by decide +kernel
theorem dX7_stateOf_96 : decode cX7_stateOf 96 = .ok (.iload_n 3, 1) := by decide +kernel
theorem dX7_stateOf_97 : decode cX7_stateOf 97 = .ok (.ireturn, 1) := by decide +kernel
theorem dX7_state_0 : decode cX7_state 0 = .ok (.iload_n 1, 1) := by decide +kernel
theorem dX7_state_1 : decode cX7_state 1 = .ok (.invokestatic 179, 3) := by decide +kernel
theorem dX7_state_4 : decode cX7_state 4 = .ok (.ifCond .ne 6, 3) := by decide +kernel
theorem dX7_state_7 : decode cX7_state 7 = .ok (.ldc 94, 2) := by decide +kernel
theorem dX7_state_9 : decode cX7_state 9 = .ok (.ireturn, 1) := by decide +kernel
theorem dX7_state_10 : decode cX7_state 10 = .ok (.iload_n 2, 1) := by decide +kernel
theorem dX7_state_11 : decode cX7_state 11 = .ok (.i2l, 1) := by decide +kernel
theorem dX7_state_12 : decode cX7_state 12 = .ok (.lconst 0, 1) := by decide +kernel
theorem dX7_state_13 : decode cX7_state 13 = .ok (.aload_n 0, 1) := by decide +kernel
theorem dX7_state_14 : decode cX7_state 14 = .ok (.getfield 104, 3) := by decide +kernel
theorem dX7_state_17 : decode cX7_state 17 = .ok (.i2l, 1) := by decide +kernel
theorem dX7_state_18 : decode cX7_state 18 = .ok (.invokestatic 77, 3) := by decide +kernel
theorem dX7_state_21 : decode cX7_state 21 = .ok (.ifCond .eq 12, 3) := by decide +kernel
theorem dX7_state_24 : decode cX7_state 24 = .ok (.aload_n 0, 1) := by decide +kernel
theorem dX7_state_25 : decode cX7_state 25 = .ok (.iload_n 1, 1) := by decide +kernel
theorem dX7_state_26 : decode cX7_state 26 = .ok (.iload_n 2, 1) := by decide +kernel
theorem dX7_state_27 : decode cX7_state 27 = .ok (.invokevirtual 188, 3) := by decide +kernel
theorem dX7_state_30 : decode cX7_state 30 = .ok (.goto 5, 3) := by decide +kernel
theorem dX7_state_33 : decode cX7_state 33 = .ok (.ldc 85, 2) := by decide +kernel
theorem dX7_state_35 : decode cX7_state 35 = .ok (.ireturn, 1) := by decide +kernel
theorem dX7_advice_0 : decode cX7_advice 0 = .ok (.iload_n 1, 1) := by decide +kernel
theorem dX7_advice_1 : decode cX7_advice 1 = .ok (.invokestatic 179, 3) := by decide +kernel
theorem dX7_advice_4 : decode cX7_advice 4 = .ok (.ifCond .eq 20, 3) := by decide +kernel
theorem dX7_advice_7 : decode cX7_advice 7 = .ok (.aload_n 0, 1) := by decide +kernel
theorem dX7_advice_8 : decode cX7_advice 8 = .ok (.iload_n 1, 1) := by decide +kernel
theorem dX7_advice_9 : decode cX7_advice 9 = .ok (.aload_n 0, 1) := by decide +kernel
theorem dX7_advice_10 : decode cX7_advice 10 = .ok (.getfield 104, 3) := by decide +kernel
theorem dX7_advice_13 : decode cX7_advice 13 = .ok (.invokevirtual 188, 3) := by decide +kernel
theorem dX7_advice_16 : decode cX7_advice 16 = .ok (.sipush 1000, 3) := by decide +kernel
theorem dX7_advice_19 : decode cX7_advice 19 = .ok (.idiv, 1) := by decide +kernel
theorem dX7_advice_20 : decode cX7_advice 20 = .ok (.ineg, 1) := by decide +kernel
theorem dX7_advice_21 : decode cX7_advice 21 = .ok (.goto 5, 3) := by decide +kernel
theorem dX7_advice_24 : decode cX7_advice 24 = .ok (.ldc 94, 2) := by decide +kernel
theorem dX7_advice_26 : decode cX7_advice 26 = .ok (.ireturn, 1) := by decide +kernel
theorem dX7_offset_0 : decode cX7_offset 0 = .ok (.iload_n 1, 1) := by decide +kernel
theorem dX7_offset_1 : decode cX7_offset 1 = .ok (.invokestatic 179, 3) := by decide +kernel
theorem dX7_offset_4 : decode cX7_offset 4 = .ok (.ifCond .ne 6, 3) := by decide +kernel
theorem dX7_offset_7 : decode cX7_offset 7 = .ok (.ldc 94, 2) := by decide +kernel
theorem dX7_offset_9 : decode cX7_offset 9 = .ok (.ireturn, 1) := by decide +kernel
theorem dX7_offset_10 : decode cX7_offset 10 = .ok (.iload_n 2, 1) := by decide +kernel
theorem dX7_offset_11 : decode cX7_offset 11 = .ok (.i2l, 1) := by decide +kernel
theorem dX7_offset_12 : decode cX7_offset 12 = .ok (.lconst 0, 1) := by decide +kernel
theorem dX7_offset_13 : decode cX7_offset 13 = .ok (.ldc2_w 75, 3) := by decide +kernel
theorem dX7_offset_16 : decode cX7_offset 16 = .ok (.invokestatic 77, 3) := by decide +kernel
theorem dX7_offset_19 : decode cX7_offset 19 = .ok (.ifCond .eq 17, 3) := by decide +kernel
theorem dX7_offset_22 : decode cX7_offset 22 = .ok (.iload_n 3, 1) := by decide +kernel
theorem dX7_offset_23 : decode cX7_offset 23 = .ok (.i2l, 1) := by decide +kernel
theorem dX7_offset_24 : decode cX7_offset 24 = .ok (.ldc2_w 95, 3) := by decide +kernel
theorem dX7_offset_27 : decode cX7_offset 27 = .ok (.ldc2_w 97, 3) := by decide +kernel
theorem dX7_offset_30 : decode cX7_offset 30 = .ok (.invokestatic 77, 3) := by decide +kernel
theorem dX7_offset_33 : decode cX7_offset 33 = .ok (.ifCond .ne 6, 3) := by decide +kernel
theorem dX7_offset_36 : decode cX7_offset 36 = .ok (.ldc 85, 2) := by decide +kernel
theorem dX7_offset_38 : decode cX7_offset 38 = .ok (.ireturn, 1) := by decide +kernel
theorem dX7_offset_39 : decode cX7_offset 39 = .ok (.aload_n 0, 1) := by decide +kernel
theorem dX7_offset_40 : decode cX7_offset 40 = .ok (.getfield 42, 3) := by decide +kernel
theorem dX7_offset_43 : decode cX7_offset 43 = .ok (.bipush 6, 2) := by decide +kernel
theorem dX7_offset_45 : decode cX7_offset 45 = .ok (.iload_n 1, 1) := by decide +kernel
theorem dX7_offset_46 : decode cX7_offset 46 = .ok (.imul, 1) := by decide +kernel
theorem dX7_offset_47 : decode cX7_offset 47 = .ok (.iload_n 2, 1) := by decide +kernel
theorem dX7_offset_48 : decode cX7_offset 48 = .ok (.iadd, 1) := by decide +kernel
theorem dX7_offset_49 : decode cX7_offset 49 = .ok (.iaload, 1) := by decide +kernel
theorem dX7_offset_50 : decode cX7_offset 50 = .ok (.istore 4, 2) := by decide +kernel
theorem dX7_offset_52 : decode cX7_offset 52 = .ok (.aload_n 0, 1) := by decide +kernel
theorem dX7_offset_53 : decode cX7_offset 53 = .ok (.getfield 42, 3) := by decide +kernel
theorem dX7_offset_56 : decode cX7_offset 56 = .ok (.bipush 6, 2) := by decide +kernel
theorem dX7_offset_58 : decode cX7_offset 58 = .ok (.iload_n 1, 1) := by decide +kernel
theorem dX7_offset_59 : decode cX7_offset 59 = .ok (.imul, 1) := by decide +kernel
theorem dX7_offset_60 : decode cX7_offset 60 = .ok (.iload_n 2, 1) := by decide +kernel
theorem dX7_offset_61 : decode cX7_offset 61 = .ok (.iadd, 1) := by decide +kernel
theorem dX7_offset_62 : decode cX7_offset 62 = .ok (.iload_n 3, 1) := by decide +kernel
theorem dX7_offset_63 : decode cX7_offset 63 = .ok (.iastore, 1) := by decide +kernel
theorem dX7_offset_64 : decode cX7_offset 64 = .ok (.iload 4, 2) := by decide +kernel
theorem dX7_offset_66 : decode cX7_offset 66 = .ok (.ireturn, 1) := by decide +kernel
theorem dX7_rule_0 : decode cX7_rule 0 = .ok (.iload_n 1, 1) := by decide +kernel
theorem dX7_rule_1 : decode cX7_rule 1 = .ok (.i2l, 1) := by decide +kernel
theorem dX7_rule_2 : decode cX7_rule 2 = .ok (.lconst 0, 1) := by decide +kernel
theorem dX7_rule_3 : decode cX7_rule 3 = .ok (.lconst 1, 1) := by decide +kernel
theorem dX7_rule_4 : decode cX7_rule 4 = .ok (.invokestatic 77, 3) := by decide +kernel
theorem dX7_rule_7 : decode cX7_rule 7 = .ok (.ifCond .eq 26, 3) := by decide +kernel
theorem dX7_rule_10 : decode cX7_rule 10 = .ok (.iload_n 2, 1) := by decide +kernel
theorem dX7_rule_11 : decode cX7_rule 11 = .ok (.i2l, 1) := by decide +kernel
theorem dX7_rule_12 : decode cX7_rule 12 = .ok (.iload_n 1, 1) := by decide +kernel
theorem dX7_rule_13 : decode cX7_rule 13 = .ok (.i2l, 1) := by decide +kernel
theorem dX7_rule_14 : decode cX7_rule 14 = .ok (.iload_n 1, 1) := by decide +kernel
theorem dX7_rule_15 : decode cX7_rule 15 = .ok (.ifCond .ne 9, 3) := by decide +kernel
theorem dX7_rule_18 : decode cX7_rule 18 = .ok (.ldc2_w 192, 3) := by decide +kernel
theorem dX7_rule_21 : decode cX7_rule 21 = .ok (.goto 6, 3) := by decide +kernel
theorem dX7_rule_24 : decode cX7_rule 24 = .ok (.ldc2_w 169, 3) := by decide +kernel
theorem dX7_rule_27 : decode cX7_rule 27 = .ok (.invokestatic 77, 3) := by decide +kernel
theorem dX7_rule_30 : decode cX7_rule 30 = .ok (.ifCond .ne 6, 3) := by decide +kernel
theorem dX7_rule_33 : decode cX7_rule 33 = .ok (.ldc 85, 2) := by decide +kernel
theorem dX7_rule_35 : decode cX7_rule 35 = .ok (.ireturn, 1) := by decide +kernel
theorem dX7_rule_36 : decode cX7_rule 36 = .ok (.iload_n 1, 1) := by decide +kernel
theorem dX7_rule_37 : decode cX7_rule 37 = .ok (.ifCond .ne 10, 3) := by decide +kernel
theorem dX7_rule_40 : decode cX7_rule 40 = .ok (.aload_n 0, 1) := by decide +kernel
theorem dX7_rule_41 : decode cX7_rule 41 = .ok (.getfield 45, 3) := by decide +kernel
theorem dX7_rule_44 : decode cX7_rule 44 = .ok (.goto 7, 3) := by decide +kernel
theorem dX7_rule_47 : decode cX7_rule 47 = .ok (.aload_n 0, 1) := by decide +kernel
theorem dX7_rule_48 : decode cX7_rule 48 = .ok (.getfield 48, 3) := by decide +kernel
theorem dX7_rule_51 : decode cX7_rule 51 = .ok (.istore_n 3, 1) := by decide +kernel
theorem dX7_rule_52 : decode cX7_rule 52 = .ok (.aload_n 0, 1) := by decide +kernel
theorem dX7_rule_53 : decode cX7_rule 53 = .ok (.iload_n 1, 1) := by decide +kernel
theorem dX7_rule_54 : decode cX7_rule 54 = .ok (.ifCond .ne 7, 3) := by decide +kernel
theorem dX7_rule_57 : decode cX7_rule 57 = .ok (.iload_n 2, 1) := by decide +kernel
theorem dX7_rule_58 : decode cX7_rule 58 = .ok (.goto 7, 3) := by decide +kernel
theorem dX7_rule_61 : decode cX7_rule 61 = .ok (.aload_n 0, 1) := by decide +kernel
theorem dX7_rule_62 : decode cX7_rule 62 = .ok (.getfield 45, 3) := by decide +kernel
theorem dX7_rule_65 : decode cX7_rule 65 = .ok (.putfield 45, 3) := by decide +kernel
theorem dX7_rule_68 : decode cX7_rule 68 = .ok (.aload_n 0, 1) := by decide +kernel
theorem dX7_rule_69 : decode cX7_rule 69 = .ok (.iload_n 1, 1) := by decide +kernel
theorem dX7_rule_70 : decode cX7_rule 70 = .ok (.iconst 1, 1) := by decide +kernel
theorem dX7_rule_71 : decode cX7_rule 71 = .ok (.if_icmp .ne 7, 3) := by decide +kernel
theorem dX7_rule_74 : decode cX7_rule 74 = .ok (.iload_n 2, 1) := by decide +kernel
theorem dX7_rule_75 : decode cX7_rule 75 = .ok (.goto 7, 3) := by decide +kernel
theorem dX7_rule_78 : decode cX7_rule 78 = .ok (.aload_n 0, 1) := by decide +kernel
theorem dX7_rule_79 : decode cX7_rule 79 = .ok (.getfield 48, 3) := by decide +kernel
theorem dX7_rule_82 : decode cX7_rule 82 = .ok (.putfield 48, 3) := by decide +kernel
theorem dX7_rule_85 : decode cX7_rule 85 = .ok (.iload_n 3, 1) := by decide +kernel
theorem dX7_rule_86 : decode cX7_rule 86 = .ok (.ireturn, 1) := by decide +kernel
theorem dX7_sumOf_0 : decode cX7_sumOf 0 = .ok (.iconst 0, 1) := by decide +kernel
theorem dX7_sumOf_1 : decode cX7_sumOf 1 = .ok (.istore_n 2, 1) := by decide +kernel
theorem dX7_sumOf_2 : decode cX7_sumOf 2 = .ok (.iconst 0, 1) := by decide +kernel
theorem dX7_sumOf_3 : decode cX7_sumOf 3 = .ok (.istore_n 3, 1) := by decide +kernel
theorem dX7_sumOf_4 : decode cX7_sumOf 4 = .ok (.iload_n 3, 1) := by decide +kernel
theorem dX7_sumOf_5 : decode cX7_sumOf 5 = .ok (.iconst 4, 1) := by decide +kernel
theorem dX7_sumOf_6 : decode cX7_sumOf 6 = .ok (.if_icmp .ge 16, 3) := by decide +kernel
theorem dX7_sumOf_9 : decode cX7_sumOf 9 = .ok (.aload_n 0, 1) := by decide +kernel
theorem dX7_sumOf_10 : decode cX7_sumOf 10 = .ok (.getfield 70, 3) := by decide +kernel
theorem dX7_sumOf_13 : decode cX7_sumOf 13 = .ok (.iload_n 3, 1) := by decide +kernel
theorem dX7_sumOf_14 : decode cX7_sumOf 14 = .ok (.iconst 0, 1) := by decide +kernel
theorem dX7_sumOf_15 : decode cX7_sumOf 15 = .ok (.iastore, 1) := by decide +kernel
theorem dX7_sumOf_16 : decode cX7_sumOf 16 = .ok (.iinc 3 1, 3) := by decide +kernel
theorem dX7_sumOf_19 : decode cX7_sumOf 19 = .ok (.goto (-15), 3) := by decide +kernel
theorem dX7_sumOf_22 : decode cX7_sumOf 22 = .ok (.iconst 0, 1) := by decide +kernel
theorem dX7_sumOf_23 : decode cX7_sumOf 23 = .ok (.istore_n 3, 1) := by decide +kernel
theorem dX7_sumOf_24 : decode cX7_sumOf 24 = .ok (.iload_n 3, 1) := by decide +kernel
theorem dX7_sumOf_25 : decode cX7_sumOf 25 = .ok (.iload_n 1, 1) := by decide +kernel
theorem dX7_sumOf_26 : decode cX7_sumOf 26 = .ok (.if_icmp .ge 118, 3) := by decide +kernel
theorem dX7_sumOf_29 : decode cX7_sumOf 29 = .ok (.aload_n 0, 1) := by decide +kernel
theorem dX7_sumOf_30 : decode cX7_sumOf 30 = .ok (.getfield 70, 3) := by decide +kernel
theorem dX7_sumOf_33 : decode cX7_sumOf 33 = .ok (.aload_n 0, 1) := by decide +kernel
theorem dX7_sumOf_34 : decode cX7_sumOf 34 = .ok (.getfield 67, 3) := by decide +kernel
theorem dX7_sumOf_37 : decode cX7_sumOf 37 = .ok (.iload_n 3, 1) := by decide +kernel
theorem dX7_sumOf_38 : decode cX7_sumOf 38 = .ok (.iaload, 1) := by decide +kernel
theorem dX7_sumOf_39 : decode cX7_sumOf 39 = .ok (.dup2, 1) := by decide +kernel
theorem dX7_sumOf_40 : decode cX7_sumOf 40 = .ok (.iaload, 1) := by decide +kernel
theorem dX7_sumOf_41 : decode cX7_sumOf 41 = .ok (.iconst 1, 1) := by decide +kernel
theorem dX7_sumOf_42 : decode cX7_sumOf 42 = .ok (.iadd, 1) := by decide +kernel
theorem dX7_sumOf_43 : decode cX7_sumOf 43 = .ok (.iastore, 1) := by decide +kernel
theorem dX7_sumOf_44 : decode cX7_sumOf 44 = .ok (.aload_n 0, 1) := by decide +kernel
theorem dX7_sumOf_45 : decode cX7_sumOf 45 = .ok (.getfield 70, 3) := by decide +kernel
theorem dX7_sumOf_48 : decode cX7_sumOf 48 = .ok (.aload_n 0, 1) := by decide +kernel
theorem dX7_sumOf_49 : decode cX7_sumOf 49 = .ok (.getfield 67, 3) := by decide +kernel
theorem dX7_sumOf_52 : decode cX7_sumOf 52 = .ok (.iload_n 3, 1) := by decide +kernel
theorem dX7_sumOf_53 : decode cX7_sumOf 53 = .ok (.iaload, 1) := by decide +kernel
theorem dX7_sumOf_54 : decode cX7_sumOf 54 = .ok (.iaload, 1) := by decide +kernel
theorem dX7_sumOf_55 : decode cX7_sumOf 55 = .ok (.aload_n 0, 1) := by decide +kernel
theorem dX7_sumOf_56 : decode cX7_sumOf 56 = .ok (.getfield 48, 3) := by decide +kernel
theorem dX7_sumOf_59 : decode cX7_sumOf 59 = .ok (.if_icmp .le 5, 3) := by decide +kernel
theorem dX7_sumOf_62 : decode cX7_sumOf 62 = .ok (.iconst (-1), 1) := by decide +kernel
theorem dX7_sumOf_63 : decode cX7_sumOf 63 = .ok (.ireturn, 1) := by decide +kernel
theorem dX7_sumOf_64 : decode cX7_sumOf 64 = .ok (.iload_n 3, 1) := by decide +kernel
theorem dX7_sumOf_65 : decode cX7_sumOf 65 = .ok (.ifCond .le 73, 3) := by decide +kernel
theorem dX7_sumOf_68 : decode cX7_sumOf 68 = .ok (.aload_n 0, 1) := by decide +kernel
theorem dX7_sumOf_69 : decode cX7_sumOf 69 = .ok (.getfield 42, 3) := by decide +kernel
theorem dX7_sumOf_72 : decode cX7_sumOf 72 = .ok (.bipush 6, 2) := by decide +kernel
theorem dX7_sumOf_74 : decode cX7_sumOf 74 = .ok (.aload_n 0, 1) := by decide +kernel
theorem dX7_sumOf_75 : decode cX7_sumOf 75 = .ok (.getfield 67, 3) := by decide +kernel
theorem dX7_sumOf_78 : decode cX7_sumOf 78 = .ok (.iload_n 3, 1) := by decide +kernel
theorem dX7_sumOf_79 : decode cX7_sumOf 79 = .ok (.iaload, 1) := by decide +kernel
theorem dX7_sumOf_80 : decode cX7_sumOf 80 = .ok (.imul, 1) := by decide +kernel
theorem dX7_sumOf_81 : decode cX7_sumOf 81 = .ok (.iload_n 3, 1) := by decide +kernel
theorem dX7_sumOf_82 : decode cX7_sumOf 82 = .ok (.iadd, 1) := by decide +kernel
theorem dX7_sumOf_83 : decode cX7_sumOf 83 = .ok (.iaload, 1) := by decide +kernel
theorem dX7_sumOf_84 : decode cX7_sumOf 84 = .ok (.aload_n 0, 1) := by decide +kernel
theorem dX7_sumOf_85 : decode cX7_sumOf 85 = .ok (.getfield 42, 3) := by decide +kernel
theorem dX7_sumOf_88 : decode cX7_sumOf 88 = .ok (.bipush 6, 2) := by decide +kernel
theorem dX7_sumOf_90 : decode cX7_sumOf 90 = .ok (.aload_n 0, 1) := by decide +kernel
theorem dX7_sumOf_91 : decode cX7_sumOf 91 = .ok (.getfield 67, 3) := by decide +kernel
theorem dX7_sumOf_94 : decode cX7_sumOf 94 = .ok (.iload_n 3, 1) := by decide +kernel
theorem dX7_sumOf_95 : decode cX7_sumOf 95 = .ok (.iconst 1, 1) := by decide +kernel
theorem dX7_sumOf_96 : decode cX7_sumOf 96 = .ok (.isub, 1) := by decide +kernel
theorem dX7_sumOf_97 : decode cX7_sumOf 97 = .ok (.iaload, 1) := by decide +kernel
theorem dX7_sumOf_98 : decode cX7_sumOf 98 = .ok (.imul, 1) := by decide +kernel
theorem dX7_sumOf_99 : decode cX7_sumOf 99 = .ok (.iload_n 3, 1) := by decide +kernel
theorem dX7_sumOf_100 : decode cX7_sumOf 100 = .ok (.iadd, 1) := by decide +kernel
theorem dX7_sumOf_101 : decode cX7_sumOf 101 = .ok (.iconst 1, 1) := by decide +kernel
theorem dX7_sumOf_102 : decode cX7_sumOf 102 = .ok (.isub, 1) := by decide +kernel
theorem dX7_sumOf_103 : decode cX7_sumOf 103 = .ok (.iaload, 1) := by decide +kernel
theorem dX7_sumOf_104 : decode cX7_sumOf 104 = .ok (.isub, 1) := by decide +kernel
theorem dX7_sumOf_105 : decode cX7_sumOf 105 = .ok (.istore 4, 2) := by decide +kernel
theorem dX7_sumOf_107 : decode cX7_sumOf 107 = .ok (.iload 4, 2) := by decide +kernel
theorem dX7_sumOf_109 : decode cX7_sumOf 109 = .ok (.ifCond .ge 9, 3) := by decide +kernel
theorem dX7_sumOf_112 : decode cX7_sumOf 112 = .ok (.iload 4, 2) := by decide +kernel
theorem dX7_sumOf_114 : decode cX7_sumOf 114 = .ok (.ineg, 1) := by decide +kernel
theorem dX7_sumOf_115 : decode cX7_sumOf 115 = .ok (.goto 5, 3) := by decide +kernel
theorem dX7_sumOf_118 : decode cX7_sumOf 118 = .ok (.iload 4, 2) := by decide +kernel
theorem dX7_sumOf_120 : decode cX7_sumOf 120 = .ok (.istore 4, 2) := by decide +kernel
theorem dX7_sumOf_122 : decode cX7_sumOf 122 = .ok (.iload 4, 2) := by decide +kernel
theorem dX7_sumOf_124 : decode cX7_sumOf 124 = .ok (.aload_n 0, 1) := by decide +kernel
theorem dX7_sumOf_125 : decode cX7_sumOf 125 = .ok (.getfield 45, 3) := by decide +kernel
theorem dX7_sumOf_128 : decode cX7_sumOf 128 = .ok (.if_icmp .le 5, 3) := by decide +kernel
theorem dX7_sumOf_131 : decode cX7_sumOf 131 = .ok (.iconst (-1), 1) := by decide +kernel
theorem dX7_sumOf_132 : decode cX7_sumOf 132 = .ok (.ireturn, 1) := by decide +kernel
theorem dX7_sumOf_133 : decode cX7_sumOf 133 = .ok (.iload_n 2, 1) := by decide +kernel
theorem dX7_sumOf_134 : decode cX7_sumOf 134 = .ok (.iload 4, 2) := by decide +kernel
theorem dX7_sumOf_136 : decode cX7_sumOf 136 = .ok (.iadd, 1) := by decide +kernel
theorem dX7_sumOf_137 : decode cX7_sumOf 137 = .ok (.istore_n 2, 1) := by decide +kernel
theorem dX7_sumOf_138 : decode cX7_sumOf 138 = .ok (.iinc 3 1, 3) := by decide +kernel
theorem dX7_sumOf_141 : decode cX7_sumOf 141 = .ok (.goto (-117), 3) := by decide +kernel
theorem dX7_sumOf_144 : decode cX7_sumOf 144 = .ok (.iload_n 2, 1) := by decide +kernel
theorem dX7_sumOf_145 : decode cX7_sumOf 145 = .ok (.ireturn, 1) := by decide +kernel
theorem dX7_layRoute_0 : decode cX7_layRoute 0 = .ok (.iload_n 2, 1) := by decide +kernel
theorem dX7_layRoute_1 : decode cX7_layRoute 1 = .ok (.istore_n 3, 1) := by decide +kernel
theorem dX7_layRoute_2 : decode cX7_layRoute 2 = .ok (.iload_n 1, 1) := by decide +kernel
theorem dX7_layRoute_3 : decode cX7_layRoute 3 = .ok (.iconst 1, 1) := by decide +kernel
theorem dX7_layRoute_4 : decode cX7_layRoute 4 = .ok (.isub, 1) := by decide +kernel
theorem dX7_layRoute_5 : decode cX7_layRoute 5 = .ok (.istore 4, 2) := by decide +kernel
theorem dX7_layRoute_7 : decode cX7_layRoute 7 = .ok (.iload 4, 2) := by decide +kernel
theorem dX7_layRoute_9 : decode cX7_layRoute 9 = .ok (.ifCond .lt 23, 3) := by decide +kernel
theorem dX7_layRoute_12 : decode cX7_layRoute 12 = .ok (.aload_n 0, 1) := by decide +kernel
theorem dX7_layRoute_13 : decode cX7_layRoute 13 = .ok (.getfield 67, 3) := by decide +kernel
theorem dX7_layRoute_16 : decode cX7_layRoute 16 = .ok (.iload 4, 2) := by decide +kernel
theorem dX7_layRoute_18 : decode cX7_layRoute 18 = .ok (.iload_n 3, 1) := by decide +kernel
theorem dX7_layRoute_19 : decode cX7_layRoute 19 = .ok (.iconst 4, 1) := by decide +kernel
theorem dX7_layRoute_20 : decode cX7_layRoute 20 = .ok (.irem, 1) := by decide +kernel
theorem dX7_layRoute_21 : decode cX7_layRoute 21 = .ok (.iastore, 1) := by decide +kernel
theorem dX7_layRoute_22 : decode cX7_layRoute 22 = .ok (.iload_n 3, 1) := by decide +kernel
theorem dX7_layRoute_23 : decode cX7_layRoute 23 = .ok (.iconst 4, 1) := by decide +kernel
theorem dX7_layRoute_24 : decode cX7_layRoute 24 = .ok (.idiv, 1) := by decide +kernel
theorem dX7_layRoute_25 : decode cX7_layRoute 25 = .ok (.istore_n 3, 1) := by decide +kernel
theorem dX7_layRoute_26 : decode cX7_layRoute 26 = .ok (.iinc 4 (-1), 3) := by decide +kernel
theorem dX7_layRoute_29 : decode cX7_layRoute 29 = .ok (.goto (-22), 3) := by decide +kernel
theorem dX7_layRoute_32 : decode cX7_layRoute 32 = .ok (.return_, 1) := by decide +kernel
theorem dX7_route_0 : decode cX7_route 0 = .ok (.iload_n 1, 1) := by decide +kernel
theorem dX7_route_1 : decode cX7_route 1 = .ok (.i2l, 1) := by decide +kernel
theorem dX7_route_2 : decode cX7_route 2 = .ok (.lconst 1, 1) := by decide +kernel
theorem dX7_route_3 : decode cX7_route 3 = .ok (.ldc2_w 169, 3) := by decide +kernel
theorem dX7_route_6 : decode cX7_route 6 = .ok (.invokestatic 77, 3) := by decide +kernel
theorem dX7_route_9 : decode cX7_route 9 = .ok (.ifCond .eq 18, 3) := by decide +kernel
theorem dX7_route_12 : decode cX7_route 12 = .ok (.iload_n 2, 1) := by decide +kernel
theorem dX7_route_13 : decode cX7_route 13 = .ok (.i2l, 1) := by decide +kernel
theorem dX7_route_14 : decode cX7_route 14 = .ok (.ldc2_w 163, 3) := by decide +kernel
theorem dX7_route_17 : decode cX7_route 17 = .ok (.iload_n 1, 1) := by decide +kernel
theorem dX7_route_18 : decode cX7_route 18 = .ok (.iconst 1, 1) := by decide +kernel
theorem dX7_route_19 : decode cX7_route 19 = .ok (.isub, 1) := by decide +kernel
theorem dX7_route_20 : decode cX7_route 20 = .ok (.i2l, 1) := by decide +kernel
theorem dX7_route_21 : decode cX7_route 21 = .ok (.invokestatic 77, 3) := by decide +kernel
theorem dX7_route_24 : decode cX7_route 24 = .ok (.ifCond .ne 6, 3) := by decide +kernel
theorem dX7_route_27 : decode cX7_route 27 = .ok (.ldc 85, 2) := by decide +kernel
theorem dX7_route_29 : decode cX7_route 29 = .ok (.ireturn, 1) := by decide +kernel
theorem dX7_route_30 : decode cX7_route 30 = .ok (.iconst (-1), 1) := by decide +kernel
theorem dX7_route_31 : decode cX7_route 31 = .ok (.istore_n 3, 1) := by decide +kernel
theorem dX7_route_32 : decode cX7_route 32 = .ok (.iconst 0, 1) := by decide +kernel
theorem dX7_route_33 : decode cX7_route 33 = .ok (.istore 4, 2) := by decide +kernel
theorem dX7_route_35 : decode cX7_route 35 = .ok (.iconst 0, 1) := by decide +kernel
theorem dX7_route_36 : decode cX7_route 36 = .ok (.istore 5, 2) := by decide +kernel
theorem dX7_route_38 : decode cX7_route 38 = .ok (.iload 5, 2) := by decide +kernel
theorem dX7_route_40 : decode cX7_route 40 = .ok (.iconst 1, 1) := by decide +kernel
theorem dX7_route_41 : decode cX7_route 41 = .ok (.iconst 2, 1) := by decide +kernel
theorem dX7_route_42 : decode cX7_route 42 = .ok (.iload_n 1, 1) := by decide +kernel
theorem dX7_route_43 : decode cX7_route 43 = .ok (.imul, 1) := by decide +kernel
theorem dX7_route_44 : decode cX7_route 44 = .ok (.ishl, 1) := by decide +kernel
theorem dX7_route_45 : decode cX7_route 45 = .ok (.if_icmp .ge 46, 3) := by decide +kernel
theorem dX7_route_48 : decode cX7_route 48 = .ok (.aload_n 0, 1) := by decide +kernel
theorem dX7_route_49 : decode cX7_route 49 = .ok (.iload_n 1, 1) := by decide +kernel
theorem dX7_route_50 : decode cX7_route 50 = .ok (.iload 5, 2) := by decide +kernel
theorem dX7_route_52 : decode cX7_route 52 = .ok (.invokevirtual 194, 3) := by decide +kernel
theorem dX7_route_55 : decode cX7_route 55 = .ok (.aload_n 0, 1) := by decide +kernel
theorem dX7_route_56 : decode cX7_route 56 = .ok (.iload_n 1, 1) := by decide +kernel
theorem dX7_route_57 : decode cX7_route 57 = .ok (.invokevirtual 197, 3) := by decide +kernel
theorem dX7_route_60 : decode cX7_route 60 = .ok (.istore 6, 2) := by decide +kernel
theorem dX7_route_62 : decode cX7_route 62 = .ok (.iload 6, 2) := by decide +kernel
theorem dX7_route_64 : decode cX7_route 64 = .ok (.ifCond .lt 21, 3) := by decide +kernel
theorem dX7_route_67 : decode cX7_route 67 = .ok (.iload_n 3, 1) := by decide +kernel
theorem dX7_route_68 : decode cX7_route 68 = .ok (.ifCond .lt 10, 3) := by decide +kernel
theorem dX7_route_71 : decode cX7_route 71 = .ok (.iload 6, 2) := by decide +kernel
theorem dX7_route_73 : decode cX7_route 73 = .ok (.iload 4, 2) := by decide +kernel
theorem dX7_route_75 : decode cX7_route 75 = .ok (.if_icmp .ge 10, 3) := by decide +kernel
theorem dX7_route_78 : decode cX7_route 78 = .ok (.iload 5, 2) := by decide +kernel
theorem dX7_route_80 : decode cX7_route 80 = .ok (.istore_n 3, 1) := by decide +kernel
theorem dX7_route_81 : decode cX7_route 81 = .ok (.iload 6, 2) := by decide +kernel
theorem dX7_route_83 : decode cX7_route 83 = .ok (.istore 4, 2) := by decide +kernel
theorem dX7_route_85 : decode cX7_route 85 = .ok (.iinc 5 1, 3) := by decide +kernel
theorem dX7_route_88 : decode cX7_route 88 = .ok (.goto (-50), 3) := by decide +kernel
theorem dX7_route_91 : decode cX7_route 91 = .ok (.iload_n 3, 1) := by decide +kernel
theorem dX7_route_92 : decode cX7_route 92 = .ok (.ifCond .ge 6, 3) := by decide +kernel
theorem dX7_route_95 : decode cX7_route 95 = .ok (.ldc 165, 2) := by decide +kernel
theorem dX7_route_97 : decode cX7_route 97 = .ok (.ireturn, 1) := by decide +kernel
theorem dX7_route_98 : decode cX7_route 98 = .ok (.aload_n 0, 1) := by decide +kernel
theorem dX7_route_99 : decode cX7_route 99 = .ok (.iload_n 1, 1) := by decide +kernel
theorem dX7_route_100 : decode cX7_route 100 = .ok (.iload_n 3, 1) := by decide +kernel
theorem dX7_route_101 : decode cX7_route 101 = .ok (.invokevirtual 194, 3) := by decide +kernel
theorem dX7_route_104 : decode cX7_route 104 = .ok (.iload_n 2, 1) := by decide +kernel
theorem dX7_route_105 : decode cX7_route 105 = .ok (.ifCond .ge 8, 3) := by decide +kernel
theorem dX7_route_108 : decode cX7_route 108 = .ok (.iload 4, 2) := by decide +kernel
theorem dX7_route_110 : decode cX7_route 110 = .ok (.goto 9, 3) := by decide +kernel
theorem dX7_route_113 : decode cX7_route 113 = .ok (.aload_n 0, 1) := by decide +kernel
theorem dX7_route_114 : decode cX7_route 114 = .ok (.getfield 67, 3) := by decide +kernel
theorem dX7_route_117 : decode cX7_route 117 = .ok (.iload_n 2, 1) := by decide +kernel
theorem dX7_route_118 : decode cX7_route 118 = .ok (.iaload, 1) := by decide +kernel
theorem dX7_route_119 : decode cX7_route 119 = .ok (.ireturn, 1) := by decide +kernel
theorem dX7_bad_0 : decode cX7_bad 0 = .ok (.iload_n 1, 1) := by decide +kernel
theorem dX7_bad_1 : decode cX7_bad 1 = .ok (.invokestatic 135, 3) := by decide +kernel
theorem dX7_bad_4 : decode cX7_bad 4 = .ok (.ifCond .eq 27, 3) := by decide +kernel
theorem dX7_bad_7 : decode cX7_bad 7 = .ok (.iload_n 2, 1) := by decide +kernel
theorem dX7_bad_8 : decode cX7_bad 8 = .ok (.i2l, 1) := by decide +kernel
theorem dX7_bad_9 : decode cX7_bad 9 = .ok (.lconst 0, 1) := by decide +kernel
theorem dX7_bad_10 : decode cX7_bad 10 = .ok (.ldc2_w 97, 3) := by decide +kernel
theorem dX7_bad_13 : decode cX7_bad 13 = .ok (.invokestatic 77, 3) := by decide +kernel
theorem dX7_bad_16 : decode cX7_bad 16 = .ok (.ifCond .eq 15, 3) := by decide +kernel
theorem dX7_bad_19 : decode cX7_bad 19 = .ok (.iload_n 3, 1) := by decide +kernel
theorem dX7_bad_20 : decode cX7_bad 20 = .ok (.i2l, 1) := by decide +kernel
theorem dX7_bad_21 : decode cX7_bad 21 = .ok (.lconst 0, 1) := by decide +kernel
theorem dX7_bad_22 : decode cX7_bad 22 = .ok (.ldc2_w 118, 3) := by decide +kernel
theorem dX7_bad_25 : decode cX7_bad 25 = .ok (.invokestatic 77, 3) := by decide +kernel
theorem dX7_bad_28 : decode cX7_bad 28 = .ok (.ifCond .ne 6, 3) := by decide +kernel
theorem dX7_bad_31 : decode cX7_bad 31 = .ok (.ldc 85, 2) := by decide +kernel
theorem dX7_bad_33 : decode cX7_bad 33 = .ok (.ireturn, 1) := by decide +kernel
theorem dX7_bad_34 : decode cX7_bad 34 = .ok (.aload_n 0, 1) := by decide +kernel
theorem dX7_bad_35 : decode cX7_bad 35 = .ok (.invokevirtual 107, 3) := by decide +kernel
theorem dX7_bad_38 : decode cX7_bad 38 = .ok (.istore 4, 2) := by decide +kernel
theorem dX7_bad_40 : decode cX7_bad 40 = .ok (.aload_n 0, 1) := by decide +kernel
theorem dX7_bad_41 : decode cX7_bad 41 = .ok (.iload_n 1, 1) := by decide +kernel
theorem dX7_bad_42 : decode cX7_bad 42 = .ok (.iload 4, 2) := by decide +kernel
theorem dX7_bad_44 : decode cX7_bad 44 = .ok (.invokevirtual 166, 3) := by decide +kernel
theorem dX7_bad_47 : decode cX7_bad 47 = .ok (.aload_n 0, 1) := by decide +kernel
theorem dX7_bad_48 : decode cX7_bad 48 = .ok (.getfield 131, 3) := by decide +kernel
theorem dX7_bad_51 : decode cX7_bad 51 = .ok (.lconst 0, 1) := by decide +kernel
theorem dX7_bad_52 : decode cX7_bad 52 = .ok (.lcmp, 1) := by decide +kernel
theorem dX7_bad_53 : decode cX7_bad 53 = .ok (.ifCond .ne 6, 3) := by decide +kernel
theorem dX7_bad_56 : decode cX7_bad 56 = .ok (.ldc 165, 2) := by decide +kernel
theorem dX7_bad_58 : decode cX7_bad 58 = .ok (.ireturn, 1) := by decide +kernel
theorem dX7_bad_59 : decode cX7_bad 59 = .ok (.iconst 0, 1) := by decide +kernel
theorem dX7_bad_60 : decode cX7_bad 60 = .ok (.istore 5, 2) := by decide +kernel
theorem dX7_bad_62 : decode cX7_bad 62 = .ok (.iconst 0, 1) := by decide +kernel
theorem dX7_bad_63 : decode cX7_bad 63 = .ok (.istore 6, 2) := by decide +kernel
theorem dX7_bad_65 : decode cX7_bad 65 = .ok (.iload 6, 2) := by decide +kernel
theorem dX7_bad_67 : decode cX7_bad 67 = .ok (.aload_n 0, 1) := by decide +kernel
theorem dX7_bad_68 : decode cX7_bad 68 = .ok (.getfield 86, 3) := by decide +kernel
theorem dX7_bad_71 : decode cX7_bad 71 = .ok (.if_icmp .ge 40, 3) := by decide +kernel
theorem dX7_bad_74 : decode cX7_bad 74 = .ok (.iload 5, 2) := by decide +kernel
theorem dX7_bad_76 : decode cX7_bad 76 = .ok (.aload_n 0, 1) := by decide +kernel
theorem dX7_bad_77 : decode cX7_bad 77 = .ok (.getfield 64, 3) := by decide +kernel
theorem dX7_bad_80 : decode cX7_bad 80 = .ok (.iload 6, 2) := by decide +kernel
theorem dX7_bad_82 : decode cX7_bad 82 = .ok (.laload, 1) := by decide +kernel
theorem dX7_bad_83 : decode cX7_bad 83 = .ok (.iload_n 2, 1) := by decide +kernel
theorem dX7_bad_84 : decode cX7_bad 84 = .ok (.i2l, 1) := by decide +kernel
theorem dX7_bad_85 : decode cX7_bad 85 = .ok (.aload_n 0, 1) := by decide +kernel
theorem dX7_bad_86 : decode cX7_bad 86 = .ok (.getfield 131, 3) := by decide +kernel
theorem dX7_bad_89 : decode cX7_bad 89 = .ok (.lmul, 1) := by decide +kernel
theorem dX7_bad_90 : decode cX7_bad 90 = .ok (.lcmp, 1) := by decide +kernel
theorem dX7_bad_91 : decode cX7_bad 91 = .ok (.ifCond .le 10, 3) := by decide +kernel
theorem dX7_bad_94 : decode cX7_bad 94 = .ok (.iconst 1, 1) := by decide +kernel
theorem dX7_bad_95 : decode cX7_bad 95 = .ok (.iload 6, 2) := by decide +kernel
theorem dX7_bad_97 : decode cX7_bad 97 = .ok (.ishl, 1) := by decide +kernel
theorem dX7_bad_98 : decode cX7_bad 98 = .ok (.goto 4, 3) := by decide +kernel
theorem dX7_bad_101 : decode cX7_bad 101 = .ok (.iconst 0, 1) := by decide +kernel
theorem dX7_bad_102 : decode cX7_bad 102 = .ok (.ior, 1) := by decide +kernel
theorem dX7_bad_103 : decode cX7_bad 103 = .ok (.istore 5, 2) := by decide +kernel
theorem dX7_bad_105 : decode cX7_bad 105 = .ok (.iinc 6 1, 3) := by decide +kernel
theorem dX7_bad_108 : decode cX7_bad 108 = .ok (.goto (-43), 3) := by decide +kernel
theorem dX7_bad_111 : decode cX7_bad 111 = .ok (.aload_n 0, 1) := by decide +kernel
theorem dX7_bad_112 : decode cX7_bad 112 = .ok (.iload 5, 2) := by decide +kernel
theorem dX7_bad_114 : decode cX7_bad 114 = .ok (.invokevirtual 115, 3) := by decide +kernel
theorem dX7_bad_117 : decode cX7_bad 117 = .ok (.istore 6, 2) := by decide +kernel
theorem dX7_bad_119 : decode cX7_bad 119 = .ok (.iload_n 3, 1) := by decide +kernel
theorem dX7_bad_120 : decode cX7_bad 120 = .ok (.ifCond .ne 11, 3) := by decide +kernel
theorem dX7_bad_123 : decode cX7_bad 123 = .ok (.iload 5, 2) := by decide +kernel
theorem dX7_bad_125 : decode cX7_bad 125 = .ok (.invokestatic 111, 3) := by decide +kernel
theorem dX7_bad_128 : decode cX7_bad 128 = .ok (.goto 31, 3) := by decide +kernel
theorem dX7_bad_131 : decode cX7_bad 131 = .ok (.iload_n 3, 1) := by decide +kernel
theorem dX7_bad_132 : decode cX7_bad 132 = .ok (.iconst 1, 1) := by decide +kernel
theorem dX7_bad_133 : decode cX7_bad 133 = .ok (.if_icmp .ne 8, 3) := by decide +kernel
theorem dX7_bad_136 : decode cX7_bad 136 = .ok (.iload 6, 2) := by decide +kernel
theorem dX7_bad_138 : decode cX7_bad 138 = .ok (.goto 21, 3) := by decide +kernel
theorem dX7_bad_141 : decode cX7_bad 141 = .ok (.iconst 2, 1) := by decide +kernel
theorem dX7_bad_142 : decode cX7_bad 142 = .ok (.iload 6, 2) := by decide +kernel
theorem dX7_bad_144 : decode cX7_bad 144 = .ok (.imul, 1) := by decide +kernel
theorem dX7_bad_145 : decode cX7_bad 145 = .ok (.aload_n 0, 1) := by decide +kernel
theorem dX7_bad_146 : decode cX7_bad 146 = .ok (.iload 4, 2) := by decide +kernel
theorem dX7_bad_148 : decode cX7_bad 148 = .ok (.invokevirtual 115, 3) := by decide +kernel
theorem dX7_bad_151 : decode cX7_bad 151 = .ok (.if_icmp .le 7, 3) := by decide +kernel
theorem dX7_bad_154 : decode cX7_bad 154 = .ok (.iconst 1, 1) := by decide +kernel
theorem dX7_bad_155 : decode cX7_bad 155 = .ok (.goto 4, 3) := by decide +kernel
theorem dX7_bad_158 : decode cX7_bad 158 = .ok (.iconst 0, 1) := by decide +kernel
theorem dX7_bad_159 : decode cX7_bad 159 = .ok (.ireturn, 1) := by decide +kernel
theorem dJ6_bitCount_0f7a4_0 : decode cJ6_bitCount_0f7a4 0 = .ok (.iload_n 0, 1) := by decide +kernel
theorem dJ6_bitCount_0f7a4_1 : decode cJ6_bitCount_0f7a4 1 = .ok (.iload_n 0, 1) := by decide +kernel
theorem dJ6_bitCount_0f7a4_2 : decode cJ6_bitCount_0f7a4 2 = .ok (.iconst 1, 1) := by decide +kernel
theorem dJ6_bitCount_0f7a4_3 : decode cJ6_bitCount_0f7a4 3 = .ok (.iushr, 1) := by decide +kernel
theorem dJ6_bitCount_0f7a4_4 : decode cJ6_bitCount_0f7a4 4 = .ok (.ldc_w 265, 3) := by decide +kernel
theorem dJ6_bitCount_0f7a4_7 : decode cJ6_bitCount_0f7a4 7 = .ok (.iand, 1) := by decide +kernel
theorem dJ6_bitCount_0f7a4_8 : decode cJ6_bitCount_0f7a4 8 = .ok (.isub, 1) := by decide +kernel
theorem dJ6_bitCount_0f7a4_9 : decode cJ6_bitCount_0f7a4 9 = .ok (.istore_n 0, 1) := by decide +kernel
theorem dJ6_bitCount_0f7a4_10 : decode cJ6_bitCount_0f7a4 10 = .ok (.iload_n 0, 1) := by decide +kernel
theorem dJ6_bitCount_0f7a4_11 : decode cJ6_bitCount_0f7a4 11 = .ok (.ldc_w 266, 3) := by decide +kernel
theorem dJ6_bitCount_0f7a4_14 : decode cJ6_bitCount_0f7a4 14 = .ok (.iand, 1) := by decide +kernel
theorem dJ6_bitCount_0f7a4_15 : decode cJ6_bitCount_0f7a4 15 = .ok (.iload_n 0, 1) := by decide +kernel
theorem dJ6_bitCount_0f7a4_16 : decode cJ6_bitCount_0f7a4 16 = .ok (.iconst 2, 1) := by decide +kernel
theorem dJ6_bitCount_0f7a4_17 : decode cJ6_bitCount_0f7a4 17 = .ok (.iushr, 1) := by decide +kernel
theorem dJ6_bitCount_0f7a4_18 : decode cJ6_bitCount_0f7a4 18 = .ok (.ldc_w 266, 3) := by decide +kernel
theorem dJ6_bitCount_0f7a4_21 : decode cJ6_bitCount_0f7a4 21 = .ok (.iand, 1) := by decide +kernel
theorem dJ6_bitCount_0f7a4_22 : decode cJ6_bitCount_0f7a4 22 = .ok (.iadd, 1) := by decide +kernel
theorem dJ6_bitCount_0f7a4_23 : decode cJ6_bitCount_0f7a4 23 = .ok (.istore_n 0, 1) := by decide +kernel
theorem dJ6_bitCount_0f7a4_24 : decode cJ6_bitCount_0f7a4 24 = .ok (.iload_n 0, 1) := by decide +kernel
theorem dJ6_bitCount_0f7a4_25 : decode cJ6_bitCount_0f7a4 25 = .ok (.iload_n 0, 1) := by decide +kernel
theorem dJ6_bitCount_0f7a4_26 : decode cJ6_bitCount_0f7a4 26 = .ok (.iconst 4, 1) := by decide +kernel
theorem dJ6_bitCount_0f7a4_27 : decode cJ6_bitCount_0f7a4 27 = .ok (.iushr, 1) := by decide +kernel
theorem dJ6_bitCount_0f7a4_28 : decode cJ6_bitCount_0f7a4 28 = .ok (.iadd, 1) := by decide +kernel
theorem dJ6_bitCount_0f7a4_29 : decode cJ6_bitCount_0f7a4 29 = .ok (.ldc_w 267, 3) := by decide +kernel
theorem dJ6_bitCount_0f7a4_32 : decode cJ6_bitCount_0f7a4 32 = .ok (.iand, 1) := by decide +kernel
theorem dJ6_bitCount_0f7a4_33 : decode cJ6_bitCount_0f7a4 33 = .ok (.istore_n 0, 1) := by decide +kernel
theorem dJ6_bitCount_0f7a4_34 : decode cJ6_bitCount_0f7a4 34 = .ok (.iload_n 0, 1) := by decide +kernel
theorem dJ6_bitCount_0f7a4_35 : decode cJ6_bitCount_0f7a4 35 = .ok (.iload_n 0, 1) := by decide +kernel
theorem dJ6_bitCount_0f7a4_36 : decode cJ6_bitCount_0f7a4 36 = .ok (.bipush 8, 2) := by decide +kernel
theorem dJ6_bitCount_0f7a4_38 : decode cJ6_bitCount_0f7a4 38 = .ok (.iushr, 1) := by decide +kernel
theorem dJ6_bitCount_0f7a4_39 : decode cJ6_bitCount_0f7a4 39 = .ok (.iadd, 1) := by decide +kernel
theorem dJ6_bitCount_0f7a4_40 : decode cJ6_bitCount_0f7a4 40 = .ok (.istore_n 0, 1) := by decide +kernel
theorem dJ6_bitCount_0f7a4_41 : decode cJ6_bitCount_0f7a4 41 = .ok (.iload_n 0, 1) := by decide +kernel
theorem dJ6_bitCount_0f7a4_42 : decode cJ6_bitCount_0f7a4 42 = .ok (.iload_n 0, 1) := by decide +kernel
theorem dJ6_bitCount_0f7a4_43 : decode cJ6_bitCount_0f7a4 43 = .ok (.bipush 16, 2) := by decide +kernel
theorem dJ6_bitCount_0f7a4_45 : decode cJ6_bitCount_0f7a4 45 = .ok (.iushr, 1) := by decide +kernel
theorem dJ6_bitCount_0f7a4_46 : decode cJ6_bitCount_0f7a4 46 = .ok (.iadd, 1) := by decide +kernel
theorem dJ6_bitCount_0f7a4_47 : decode cJ6_bitCount_0f7a4 47 = .ok (.istore_n 0, 1) := by decide +kernel
theorem dJ6_bitCount_0f7a4_48 : decode cJ6_bitCount_0f7a4 48 = .ok (.iload_n 0, 1) := by decide +kernel
theorem dJ6_bitCount_0f7a4_49 : decode cJ6_bitCount_0f7a4 49 = .ok (.bipush 63, 2) := by decide +kernel
theorem dJ6_bitCount_0f7a4_51 : decode cJ6_bitCount_0f7a4 51 = .ok (.iand, 1) := by decide +kernel
theorem dJ6_bitCount_0f7a4_52 : decode cJ6_bitCount_0f7a4 52 = .ok (.ireturn, 1) := by decide +kernel
theorem dJ9_abs_0f7a4_0 : decode cJ9_abs_0f7a4 0 = .ok (.iload_n 0, 1) := by decide +kernel
theorem dJ9_abs_0f7a4_1 : decode cJ9_abs_0f7a4 1 = .ok (.ifCond .ge 8, 3) := by decide +kernel
theorem dJ9_abs_0f7a4_4 : decode cJ9_abs_0f7a4 4 = .ok (.iload_n 0, 1) := by decide +kernel
theorem dJ9_abs_0f7a4_5 : decode cJ9_abs_0f7a4 5 = .ok (.ineg, 1) := by decide +kernel
theorem dJ9_abs_0f7a4_6 : decode cJ9_abs_0f7a4 6 = .ok (.goto 4, 3) := by decide +kernel
theorem dJ9_abs_0f7a4_9 : decode cJ9_abs_0f7a4 9 = .ok (.iload_n 0, 1) := by decide +kernel
theorem dJ9_abs_0f7a4_10 : decode cJ9_abs_0f7a4 10 = .ok (.ireturn, 1) := by decide +kernel
theorem dJ9_abs_067f4_0 : decode cJ9_abs_067f4 0 = .ok (.lload_n 0, 1) := by decide +kernel
theorem dJ9_abs_067f4_1 : decode cJ9_abs_067f4 1 = .ok (.lconst 0, 1) := by decide +kernel
theorem dJ9_abs_067f4_2 : decode cJ9_abs_067f4 2 = .ok (.lcmp, 1) := by decide +kernel
theorem dJ9_abs_067f4_3 : decode cJ9_abs_067f4 3 = .ok (.ifCond .ge 8, 3) := by decide +kernel
theorem dJ9_abs_067f4_6 : decode cJ9_abs_067f4 6 = .ok (.lload_n 0, 1) := by decide +kernel
theorem dJ9_abs_067f4_7 : decode cJ9_abs_067f4 7 = .ok (.lneg, 1) := by decide +kernel
theorem dJ9_abs_067f4_8 : decode cJ9_abs_067f4 8 = .ok (.goto 4, 3) := by decide +kernel
theorem dJ9_abs_067f4_11 : decode cJ9_abs_067f4 11 = .ok (.lload_n 0, 1) := by decide +kernel
theorem dJ9_abs_067f4_12 : decode cJ9_abs_067f4 12 = .ok (.lreturn, 1) := by decide +kernel
theorem dJ9_max_f86c9_0 : decode cJ9_max_f86c9 0 = .ok (.lload_n 0, 1) := by decide +kernel
theorem dJ9_max_f86c9_1 : decode cJ9_max_f86c9 1 = .ok (.lload_n 2, 1) := by decide +kernel
theorem dJ9_max_f86c9_2 : decode cJ9_max_f86c9 2 = .ok (.lcmp, 1) := by decide +kernel
theorem dJ9_max_f86c9_3 : decode cJ9_max_f86c9 3 = .ok (.ifCond .lt 7, 3) := by decide +kernel
theorem dJ9_max_f86c9_6 : decode cJ9_max_f86c9 6 = .ok (.lload_n 0, 1) := by decide +kernel
theorem dJ9_max_f86c9_7 : decode cJ9_max_f86c9 7 = .ok (.goto 4, 3) := by decide +kernel
theorem dJ9_max_f86c9_10 : decode cJ9_max_f86c9 10 = .ok (.lload_n 2, 1) := by decide +kernel
theorem dJ9_max_f86c9_11 : decode cJ9_max_f86c9 11 = .ok (.lreturn, 1) := by decide +kernel
theorem dL_law_0 : decode cL_law 0 = .ok (.new 7, 3) := by decide +kernel
theorem dL_law_3 : decode cL_law 3 = .ok (.dup, 1) := by decide +kernel
theorem dL_law_4 : decode cL_law 4 = .ok (.invokespecial 9, 3) := by decide +kernel
theorem dL_law_7 : decode cL_law 7 = .ok (.astore_n 1, 1) := by decide +kernel
theorem dL_law_8 : decode cL_law 8 = .ok (.new 10, 3) := by decide +kernel
theorem dL_law_11 : decode cL_law 11 = .ok (.dup, 1) := by decide +kernel
theorem dL_law_12 : decode cL_law 12 = .ok (.invokespecial 12, 3) := by decide +kernel
theorem dL_law_15 : decode cL_law 15 = .ok (.astore_n 2, 1) := by decide +kernel
theorem dL_law_16 : decode cL_law 16 = .ok (.iconst 0, 1) := by decide +kernel
theorem dL_law_17 : decode cL_law 17 = .ok (.istore_n 3, 1) := by decide +kernel
theorem dL_law_18 : decode cL_law 18 = .ok (.iload_n 3, 1) := by decide +kernel
theorem dL_law_19 : decode cL_law 19 = .ok (.aload_n 0, 1) := by decide +kernel
theorem dL_law_20 : decode cL_law 20 = .ok (.arraylength, 1) := by decide +kernel
theorem dL_law_21 : decode cL_law 21 = .ok (.iconst 5, 1) := by decide +kernel
theorem dL_law_22 : decode cL_law 22 = .ok (.isub, 1) := by decide +kernel
theorem dL_law_23 : decode cL_law 23 = .ok (.if_icmp .gt 863, 3) := by decide +kernel
theorem dL_law_26 : decode cL_law 26 = .ok (.aload_n 0, 1) := by decide +kernel
theorem dL_law_27 : decode cL_law 27 = .ok (.iload_n 3, 1) := by decide +kernel
theorem dL_law_28 : decode cL_law 28 = .ok (.iaload, 1) := by decide +kernel
theorem dL_law_29 : decode cL_law 29 = .ok (.bipush 31, 2) := by decide +kernel
theorem dL_law_31 : decode cL_law 31 = .ok (.iand, 1) := by decide +kernel
theorem dL_law_32 : decode cL_law 32 = .ok (.tableswitch 848 0 20 #[100, 153, 196, 219, 252, 275, 299, 353, 407, 451, 484, 528, 561, 594, 617, 640, 673, 696, 739, 772, 805], 100) := by decide +kernel
theorem dL_law_132 : decode cL_law 132 = .ok (.aload_n 1, 1) := by decide +kernel
theorem dL_law_133 : decode cL_law 133 = .ok (.aload_n 0, 1) := by decide +kernel
theorem dL_law_134 : decode cL_law 134 = .ok (.iload_n 3, 1) := by decide +kernel
theorem dL_law_135 : decode cL_law 135 = .ok (.iconst 1, 1) := by decide +kernel
theorem dL_law_136 : decode cL_law 136 = .ok (.iadd, 1) := by decide +kernel
theorem dL_law_137 : decode cL_law 137 = .ok (.iaload, 1) := by decide +kernel
theorem dL_law_138 : decode cL_law 138 = .ok (.aload_n 0, 1) := by decide +kernel
theorem dL_law_139 : decode cL_law 139 = .ok (.iload_n 3, 1) := by decide +kernel
theorem dL_law_140 : decode cL_law 140 = .ok (.iconst 2, 1) := by decide +kernel
theorem dL_law_141 : decode cL_law 141 = .ok (.iadd, 1) := by decide +kernel
theorem dL_law_142 : decode cL_law 142 = .ok (.iaload, 1) := by decide +kernel
theorem dL_law_143 : decode cL_law 143 = .ok (.aload_n 0, 1) := by decide +kernel
theorem dL_law_144 : decode cL_law 144 = .ok (.iload_n 3, 1) := by decide +kernel
theorem dL_law_145 : decode cL_law 145 = .ok (.iconst 3, 1) := by decide +kernel
theorem dL_law_146 : decode cL_law 146 = .ok (.iadd, 1) := by decide +kernel
theorem dL_law_147 : decode cL_law 147 = .ok (.iaload, 1) := by decide +kernel
theorem dL_law_148 : decode cL_law 148 = .ok (.aload_n 0, 1) := by decide +kernel
theorem dL_law_149 : decode cL_law 149 = .ok (.iload_n 3, 1) := by decide +kernel
theorem dL_law_150 : decode cL_law 150 = .ok (.iconst 4, 1) := by decide +kernel
theorem dL_law_151 : decode cL_law 151 = .ok (.iadd, 1) := by decide +kernel
theorem dL_law_152 : decode cL_law 152 = .ok (.iaload, 1) := by decide +kernel
theorem dL_law_153 : decode cL_law 153 = .ok (.invokevirtual 13, 3) := by decide +kernel
theorem dL_law_156 : decode cL_law 156 = .ok (.aload_n 2, 1) := by decide +kernel
theorem dL_law_157 : decode cL_law 157 = .ok (.aload_n 0, 1) := by decide +kernel
theorem dL_law_158 : decode cL_law 158 = .ok (.iload_n 3, 1) := by decide +kernel
theorem dL_law_159 : decode cL_law 159 = .ok (.iconst 1, 1) := by decide +kernel
theorem dL_law_160 : decode cL_law 160 = .ok (.iadd, 1) := by decide +kernel
theorem dL_law_161 : decode cL_law 161 = .ok (.iaload, 1) := by decide +kernel
theorem dL_law_162 : decode cL_law 162 = .ok (.aload_n 0, 1) := by decide +kernel
theorem dL_law_163 : decode cL_law 163 = .ok (.iload_n 3, 1) := by decide +kernel
theorem dL_law_164 : decode cL_law 164 = .ok (.iconst 2, 1) := by decide +kernel
theorem dL_law_165 : decode cL_law 165 = .ok (.iadd, 1) := by decide +kernel
theorem dL_law_166 : decode cL_law 166 = .ok (.iaload, 1) := by decide +kernel
theorem dL_law_167 : decode cL_law 167 = .ok (.aload_n 0, 1) := by decide +kernel
theorem dL_law_168 : decode cL_law 168 = .ok (.iload_n 3, 1) := by decide +kernel
theorem dL_law_169 : decode cL_law 169 = .ok (.iconst 3, 1) := by decide +kernel
theorem dL_law_170 : decode cL_law 170 = .ok (.iadd, 1) := by decide +kernel
theorem dL_law_171 : decode cL_law 171 = .ok (.iaload, 1) := by decide +kernel
theorem dL_law_172 : decode cL_law 172 = .ok (.aload_n 0, 1) := by decide +kernel
theorem dL_law_173 : decode cL_law 173 = .ok (.iload_n 3, 1) := by decide +kernel
theorem dL_law_174 : decode cL_law 174 = .ok (.iconst 4, 1) := by decide +kernel
theorem dL_law_175 : decode cL_law 175 = .ok (.iadd, 1) := by decide +kernel
theorem dL_law_176 : decode cL_law 176 = .ok (.iaload, 1) := by decide +kernel
theorem dL_law_177 : decode cL_law 177 = .ok (.invokevirtual 17, 3) := by decide +kernel
theorem dL_law_180 : decode cL_law 180 = .ok (.if_icmp .eq 700, 3) := by decide +kernel
theorem dL_law_183 : decode cL_law 183 = .ok (.iconst 0, 1) := by decide +kernel
theorem dL_law_184 : decode cL_law 184 = .ok (.ireturn, 1) := by decide +kernel
theorem dL_law_185 : decode cL_law 185 = .ok (.aload_n 1, 1) := by decide +kernel
theorem dL_law_186 : decode cL_law 186 = .ok (.aload_n 0, 1) := by decide +kernel
theorem dL_law_187 : decode cL_law 187 = .ok (.iload_n 3, 1) := by decide +kernel
theorem dL_law_188 : decode cL_law 188 = .ok (.iconst 1, 1) := by decide +kernel
theorem dL_law_189 : decode cL_law 189 = .ok (.iadd, 1) := by decide +kernel
theorem dL_law_190 : decode cL_law 190 = .ok (.iaload, 1) := by decide +kernel
theorem dL_law_191 : decode cL_law 191 = .ok (.aload_n 0, 1) := by decide +kernel
theorem dL_law_192 : decode cL_law 192 = .ok (.iload_n 3, 1) := by decide +kernel
theorem dL_law_193 : decode cL_law 193 = .ok (.iconst 2, 1) := by decide +kernel
theorem dL_law_194 : decode cL_law 194 = .ok (.iadd, 1) := by decide +kernel
theorem dL_law_195 : decode cL_law 195 = .ok (.iaload, 1) := by decide +kernel
theorem dL_law_196 : decode cL_law 196 = .ok (.aload_n 0, 1) := by decide +kernel
theorem dL_law_197 : decode cL_law 197 = .ok (.iload_n 3, 1) := by decide +kernel
theorem dL_law_198 : decode cL_law 198 = .ok (.iconst 3, 1) := by decide +kernel
theorem dL_law_199 : decode cL_law 199 = .ok (.iadd, 1) := by decide +kernel
theorem dL_law_200 : decode cL_law 200 = .ok (.iaload, 1) := by decide +kernel
theorem dL_law_201 : decode cL_law 201 = .ok (.invokevirtual 18, 3) := by decide +kernel
theorem dL_law_204 : decode cL_law 204 = .ok (.aload_n 2, 1) := by decide +kernel
theorem dL_law_205 : decode cL_law 205 = .ok (.aload_n 0, 1) := by decide +kernel
theorem dL_law_206 : decode cL_law 206 = .ok (.iload_n 3, 1) := by decide +kernel
theorem dL_law_207 : decode cL_law 207 = .ok (.iconst 1, 1) := by decide +kernel
theorem dL_law_208 : decode cL_law 208 = .ok (.iadd, 1) := by decide +kernel
theorem dL_law_209 : decode cL_law 209 = .ok (.iaload, 1) := by decide +kernel
theorem dL_law_210 : decode cL_law 210 = .ok (.aload_n 0, 1) := by decide +kernel
theorem dL_law_211 : decode cL_law 211 = .ok (.iload_n 3, 1) := by decide +kernel
theorem dL_law_212 : decode cL_law 212 = .ok (.iconst 2, 1) := by decide +kernel
theorem dL_law_213 : decode cL_law 213 = .ok (.iadd, 1) := by decide +kernel
theorem dL_law_214 : decode cL_law 214 = .ok (.iaload, 1) := by decide +kernel
theorem dL_law_215 : decode cL_law 215 = .ok (.aload_n 0, 1) := by decide +kernel
theorem dL_law_216 : decode cL_law 216 = .ok (.iload_n 3, 1) := by decide +kernel
theorem dL_law_217 : decode cL_law 217 = .ok (.iconst 3, 1) := by decide +kernel
theorem dL_law_218 : decode cL_law 218 = .ok (.iadd, 1) := by decide +kernel
theorem dL_law_219 : decode cL_law 219 = .ok (.iaload, 1) := by decide +kernel
theorem dL_law_220 : decode cL_law 220 = .ok (.invokevirtual 22, 3) := by decide +kernel
theorem dL_law_223 : decode cL_law 223 = .ok (.if_icmp .eq 657, 3) := by decide +kernel
theorem dL_law_226 : decode cL_law 226 = .ok (.iconst 0, 1) := by decide +kernel
theorem dL_law_227 : decode cL_law 227 = .ok (.ireturn, 1) := by decide +kernel
theorem dL_law_228 : decode cL_law 228 = .ok (.aload_n 1, 1) := by decide +kernel
theorem dL_law_229 : decode cL_law 229 = .ok (.aload_n 0, 1) := by decide +kernel
theorem dL_law_230 : decode cL_law 230 = .ok (.iload_n 3, 1) := by decide +kernel
theorem dL_law_231 : decode cL_law 231 = .ok (.iconst 1, 1) := by decide +kernel
theorem dL_law_232 : decode cL_law 232 = .ok (.iadd, 1) := by decide +kernel
theorem dL_law_233 : decode cL_law 233 = .ok (.iaload, 1) := by decide +kernel
theorem dL_law_234 : decode cL_law 234 = .ok (.invokevirtual 23, 3) := by decide +kernel
theorem dL_law_237 : decode cL_law 237 = .ok (.aload_n 2, 1) := by decide +kernel
theorem dL_law_238 : decode cL_law 238 = .ok (.aload_n 0, 1) := by decide +kernel
theorem dL_law_239 : decode cL_law 239 = .ok (.iload_n 3, 1) := by decide +kernel
theorem dL_law_240 : decode cL_law 240 = .ok (.iconst 1, 1) := by decide +kernel
theorem dL_law_241 : decode cL_law 241 = .ok (.iadd, 1) := by decide +kernel
theorem dL_law_242 : decode cL_law 242 = .ok (.iaload, 1) := by decide +kernel
theorem dL_law_243 : decode cL_law 243 = .ok (.invokevirtual 27, 3) := by decide +kernel
theorem dL_law_246 : decode cL_law 246 = .ok (.if_icmp .eq 634, 3) := by decide +kernel
theorem dL_law_249 : decode cL_law 249 = .ok (.iconst 0, 1) := by decide +kernel
theorem dL_law_250 : decode cL_law 250 = .ok (.ireturn, 1) := by decide +kernel
theorem dL_law_251 : decode cL_law 251 = .ok (.aload_n 1, 1) := by decide +kernel
theorem dL_law_252 : decode cL_law 252 = .ok (.aload_n 0, 1) := by decide +kernel
theorem dL_law_253 : decode cL_law 253 = .ok (.iload_n 3, 1) := by decide +kernel
theorem dL_law_254 : decode cL_law 254 = .ok (.iconst 1, 1) := by decide +kernel
theorem dL_law_255 : decode cL_law 255 = .ok (.iadd, 1) := by decide +kernel
theorem dL_law_256 : decode cL_law 256 = .ok (.iaload, 1) := by decide +kernel
theorem dL_law_257 : decode cL_law 257 = .ok (.aload_n 0, 1) := by decide +kernel
theorem dL_law_258 : decode cL_law 258 = .ok (.iload_n 3, 1) := by decide +kernel
theorem dL_law_259 : decode cL_law 259 = .ok (.iconst 2, 1) := by decide +kernel
theorem dL_law_260 : decode cL_law 260 = .ok (.iadd, 1) := by decide +kernel
theorem dL_law_261 : decode cL_law 261 = .ok (.iaload, 1) := by decide +kernel
theorem dL_law_262 : decode cL_law 262 = .ok (.invokevirtual 28, 3) := by decide +kernel
theorem dL_law_265 : decode cL_law 265 = .ok (.aload_n 2, 1) := by decide +kernel
theorem dL_law_266 : decode cL_law 266 = .ok (.aload_n 0, 1) := by decide +kernel
theorem dL_law_267 : decode cL_law 267 = .ok (.iload_n 3, 1) := by decide +kernel
theorem dL_law_268 : decode cL_law 268 = .ok (.iconst 1, 1) := by decide +kernel
theorem dL_law_269 : decode cL_law 269 = .ok (.iadd, 1) := by decide +kernel
theorem dL_law_270 : decode cL_law 270 = .ok (.iaload, 1) := by decide +kernel
theorem dL_law_271 : decode cL_law 271 = .ok (.aload_n 0, 1) := by decide +kernel
theorem dL_law_272 : decode cL_law 272 = .ok (.iload_n 3, 1) := by decide +kernel
theorem dL_law_273 : decode cL_law 273 = .ok (.iconst 2, 1) := by decide +kernel
theorem dL_law_274 : decode cL_law 274 = .ok (.iadd, 1) := by decide +kernel
theorem dL_law_275 : decode cL_law 275 = .ok (.iaload, 1) := by decide +kernel
theorem dL_law_276 : decode cL_law 276 = .ok (.invokevirtual 32, 3) := by decide +kernel
theorem dL_law_279 : decode cL_law 279 = .ok (.if_icmp .eq 601, 3) := by decide +kernel
theorem dL_law_282 : decode cL_law 282 = .ok (.iconst 0, 1) := by decide +kernel
theorem dL_law_283 : decode cL_law 283 = .ok (.ireturn, 1) := by decide +kernel
theorem dL_law_284 : decode cL_law 284 = .ok (.aload_n 1, 1) := by decide +kernel
theorem dL_law_285 : decode cL_law 285 = .ok (.aload_n 0, 1) := by decide +kernel
theorem dL_law_286 : decode cL_law 286 = .ok (.iload_n 3, 1) := by decide +kernel
theorem dL_law_287 : decode cL_law 287 = .ok (.iconst 1, 1) := by decide +kernel
theorem dL_law_288 : decode cL_law 288 = .ok (.iadd, 1) := by decide +kernel
theorem dL_law_289 : decode cL_law 289 = .ok (.iaload, 1) := by decide +kernel
theorem dL_law_290 : decode cL_law 290 = .ok (.invokevirtual 33, 3) := by decide +kernel
theorem dL_law_293 : decode cL_law 293 = .ok (.aload_n 2, 1) := by decide +kernel
theorem dL_law_294 : decode cL_law 294 = .ok (.aload_n 0, 1) := by decide +kernel
theorem dL_law_295 : decode cL_law 295 = .ok (.iload_n 3, 1) := by decide +kernel
theorem dL_law_296 : decode cL_law 296 = .ok (.iconst 1, 1) := by decide +kernel
theorem dL_law_297 : decode cL_law 297 = .ok (.iadd, 1) := by decide +kernel
theorem dL_law_298 : decode cL_law 298 = .ok (.iaload, 1) := by decide +kernel
theorem dL_law_299 : decode cL_law 299 = .ok (.invokevirtual 36, 3) := by decide +kernel
theorem dL_law_302 : decode cL_law 302 = .ok (.if_icmp .eq 578, 3) := by decide +kernel
theorem dL_law_305 : decode cL_law 305 = .ok (.iconst 0, 1) := by decide +kernel
theorem dL_law_306 : decode cL_law 306 = .ok (.ireturn, 1) := by decide +kernel
theorem dL_law_307 : decode cL_law 307 = .ok (.aload_n 1, 1) := by decide +kernel
theorem dL_law_308 : decode cL_law 308 = .ok (.aload_n 0, 1) := by decide +kernel
theorem dL_law_309 : decode cL_law 309 = .ok (.iload_n 3, 1) := by decide +kernel
theorem dL_law_310 : decode cL_law 310 = .ok (.iconst 1, 1) := by decide +kernel
theorem dL_law_311 : decode cL_law 311 = .ok (.iadd, 1) := by decide +kernel
theorem dL_law_312 : decode cL_law 312 = .ok (.iaload, 1) := by decide +kernel
theorem dL_law_313 : decode cL_law 313 = .ok (.invokevirtual 37, 3) := by decide +kernel
theorem dL_law_316 : decode cL_law 316 = .ok (.aload_n 2, 1) := by decide +kernel
theorem dL_law_317 : decode cL_law 317 = .ok (.aload_n 0, 1) := by decide +kernel
theorem dL_law_318 : decode cL_law 318 = .ok (.iload_n 3, 1) := by decide +kernel
theorem dL_law_319 : decode cL_law 319 = .ok (.iconst 1, 1) := by decide +kernel
theorem dL_law_320 : decode cL_law 320 = .ok (.iadd, 1) := by decide +kernel
theorem dL_law_321 : decode cL_law 321 = .ok (.iaload, 1) := by decide +kernel
theorem dL_law_322 : decode cL_law 322 = .ok (.invokevirtual 41, 3) := by decide +kernel
theorem dL_law_325 : decode cL_law 325 = .ok (.lcmp, 1) := by decide +kernel
theorem dL_law_326 : decode cL_law 326 = .ok (.ifCond .eq 554, 3) := by decide +kernel
theorem dL_law_329 : decode cL_law 329 = .ok (.iconst 0, 1) := by decide +kernel
theorem dL_law_330 : decode cL_law 330 = .ok (.ireturn, 1) := by decide +kernel
theorem dL_law_331 : decode cL_law 331 = .ok (.aload_n 1, 1) := by decide +kernel
theorem dL_law_332 : decode cL_law 332 = .ok (.aload_n 0, 1) := by decide +kernel
theorem dL_law_333 : decode cL_law 333 = .ok (.iload_n 3, 1) := by decide +kernel
theorem dL_law_334 : decode cL_law 334 = .ok (.iconst 1, 1) := by decide +kernel
theorem dL_law_335 : decode cL_law 335 = .ok (.iadd, 1) := by decide +kernel
theorem dL_law_336 : decode cL_law 336 = .ok (.iaload, 1) := by decide +kernel
theorem dL_law_337 : decode cL_law 337 = .ok (.aload_n 0, 1) := by decide +kernel
theorem dL_law_338 : decode cL_law 338 = .ok (.iload_n 3, 1) := by decide +kernel
theorem dL_law_339 : decode cL_law 339 = .ok (.iconst 2, 1) := by decide +kernel
theorem dL_law_340 : decode cL_law 340 = .ok (.iadd, 1) := by decide +kernel
theorem dL_law_341 : decode cL_law 341 = .ok (.iaload, 1) := by decide +kernel
theorem dL_law_342 : decode cL_law 342 = .ok (.aload_n 0, 1) := by decide +kernel
theorem dL_law_343 : decode cL_law 343 = .ok (.iload_n 3, 1) := by decide +kernel
theorem dL_law_344 : decode cL_law 344 = .ok (.iconst 3, 1) := by decide +kernel
theorem dL_law_345 : decode cL_law 345 = .ok (.iadd, 1) := by decide +kernel
theorem dL_law_346 : decode cL_law 346 = .ok (.iaload, 1) := by decide +kernel
theorem dL_law_347 : decode cL_law 347 = .ok (.aload_n 0, 1) := by decide +kernel
theorem dL_law_348 : decode cL_law 348 = .ok (.iload_n 3, 1) := by decide +kernel
theorem dL_law_349 : decode cL_law 349 = .ok (.iconst 4, 1) := by decide +kernel
theorem dL_law_350 : decode cL_law 350 = .ok (.iadd, 1) := by decide +kernel
theorem dL_law_351 : decode cL_law 351 = .ok (.iaload, 1) := by decide +kernel
theorem dL_law_352 : decode cL_law 352 = .ok (.invokevirtual 42, 3) := by decide +kernel
theorem dL_law_355 : decode cL_law 355 = .ok (.aload_n 2, 1) := by decide +kernel
theorem dL_law_356 : decode cL_law 356 = .ok (.aload_n 0, 1) := by decide +kernel
theorem dL_law_357 : decode cL_law 357 = .ok (.iload_n 3, 1) := by decide +kernel
theorem dL_law_358 : decode cL_law 358 = .ok (.iconst 1, 1) := by decide +kernel
theorem dL_law_359 : decode cL_law 359 = .ok (.iadd, 1) := by decide +kernel
theorem dL_law_360 : decode cL_law 360 = .ok (.iaload, 1) := by decide +kernel
theorem dL_law_361 : decode cL_law 361 = .ok (.aload_n 0, 1) := by decide +kernel
theorem dL_law_362 : decode cL_law 362 = .ok (.iload_n 3, 1) := by decide +kernel
theorem dL_law_363 : decode cL_law 363 = .ok (.iconst 2, 1) := by decide +kernel
theorem dL_law_364 : decode cL_law 364 = .ok (.iadd, 1) := by decide +kernel
theorem dL_law_365 : decode cL_law 365 = .ok (.iaload, 1) := by decide +kernel
theorem dL_law_366 : decode cL_law 366 = .ok (.aload_n 0, 1) := by decide +kernel
theorem dL_law_367 : decode cL_law 367 = .ok (.iload_n 3, 1) := by decide +kernel
theorem dL_law_368 : decode cL_law 368 = .ok (.iconst 3, 1) := by decide +kernel
theorem dL_law_369 : decode cL_law 369 = .ok (.iadd, 1) := by decide +kernel
theorem dL_law_370 : decode cL_law 370 = .ok (.iaload, 1) := by decide +kernel
theorem dL_law_371 : decode cL_law 371 = .ok (.aload_n 0, 1) := by decide +kernel
theorem dL_law_372 : decode cL_law 372 = .ok (.iload_n 3, 1) := by decide +kernel
theorem dL_law_373 : decode cL_law 373 = .ok (.iconst 4, 1) := by decide +kernel
theorem dL_law_374 : decode cL_law 374 = .ok (.iadd, 1) := by decide +kernel
theorem dL_law_375 : decode cL_law 375 = .ok (.iaload, 1) := by decide +kernel
theorem dL_law_376 : decode cL_law 376 = .ok (.invokevirtual 46, 3) := by decide +kernel
theorem dL_law_379 : decode cL_law 379 = .ok (.lcmp, 1) := by decide +kernel
theorem dL_law_380 : decode cL_law 380 = .ok (.ifCond .eq 500, 3) := by decide +kernel
theorem dL_law_383 : decode cL_law 383 = .ok (.iconst 0, 1) := by decide +kernel
theorem dL_law_384 : decode cL_law 384 = .ok (.ireturn, 1) := by decide +kernel
theorem dL_law_385 : decode cL_law 385 = .ok (.aload_n 1, 1) := by decide +kernel
theorem dL_law_386 : decode cL_law 386 = .ok (.aload_n 0, 1) := by decide +kernel
theorem dL_law_387 : decode cL_law 387 = .ok (.iload_n 3, 1) := by decide +kernel
theorem dL_law_388 : decode cL_law 388 = .ok (.iconst 1, 1) := by decide +kernel
theorem dL_law_389 : decode cL_law 389 = .ok (.iadd, 1) := by decide +kernel
theorem dL_law_390 : decode cL_law 390 = .ok (.iaload, 1) := by decide +kernel
theorem dL_law_391 : decode cL_law 391 = .ok (.aload_n 0, 1) := by decide +kernel
theorem dL_law_392 : decode cL_law 392 = .ok (.iload_n 3, 1) := by decide +kernel
theorem dL_law_393 : decode cL_law 393 = .ok (.iconst 2, 1) := by decide +kernel
theorem dL_law_394 : decode cL_law 394 = .ok (.iadd, 1) := by decide +kernel
theorem dL_law_395 : decode cL_law 395 = .ok (.iaload, 1) := by decide +kernel
theorem dL_law_396 : decode cL_law 396 = .ok (.aload_n 0, 1) := by decide +kernel
theorem dL_law_397 : decode cL_law 397 = .ok (.iload_n 3, 1) := by decide +kernel
theorem dL_law_398 : decode cL_law 398 = .ok (.iconst 3, 1) := by decide +kernel
theorem dL_law_399 : decode cL_law 399 = .ok (.iadd, 1) := by decide +kernel
theorem dL_law_400 : decode cL_law 400 = .ok (.iaload, 1) := by decide +kernel
theorem dL_law_401 : decode cL_law 401 = .ok (.aload_n 0, 1) := by decide +kernel
theorem dL_law_402 : decode cL_law 402 = .ok (.iload_n 3, 1) := by decide +kernel
theorem dL_law_403 : decode cL_law 403 = .ok (.iconst 4, 1) := by decide +kernel
theorem dL_law_404 : decode cL_law 404 = .ok (.iadd, 1) := by decide +kernel
theorem dL_law_405 : decode cL_law 405 = .ok (.iaload, 1) := by decide +kernel
theorem dL_law_406 : decode cL_law 406 = .ok (.invokevirtual 47, 3) := by decide +kernel
theorem dL_law_409 : decode cL_law 409 = .ok (.aload_n 2, 1) := by decide +kernel
theorem dL_law_410 : decode cL_law 410 = .ok (.aload_n 0, 1) := by decide +kernel
theorem dL_law_411 : decode cL_law 411 = .ok (.iload_n 3, 1) := by decide +kernel
theorem dL_law_412 : decode cL_law 412 = .ok (.iconst 1, 1) := by decide +kernel
theorem dL_law_413 : decode cL_law 413 = .ok (.iadd, 1) := by decide +kernel
theorem dL_law_414 : decode cL_law 414 = .ok (.iaload, 1) := by decide +kernel
theorem dL_law_415 : decode cL_law 415 = .ok (.aload_n 0, 1) := by decide +kernel
theorem dL_law_416 : decode cL_law 416 = .ok (.iload_n 3, 1) := by decide +kernel
theorem dL_law_417 : decode cL_law 417 = .ok (.iconst 2, 1) := by decide +kernel
theorem dL_law_418 : decode cL_law 418 = .ok (.iadd, 1) := by decide +kernel
theorem dL_law_419 : decode cL_law 419 = .ok (.iaload, 1) := by decide +kernel
theorem dL_law_420 : decode cL_law 420 = .ok (.aload_n 0, 1) := by decide +kernel
theorem dL_law_421 : decode cL_law 421 = .ok (.iload_n 3, 1) := by decide +kernel
theorem dL_law_422 : decode cL_law 422 = .ok (.iconst 3, 1) := by decide +kernel
theorem dL_law_423 : decode cL_law 423 = .ok (.iadd, 1) := by decide +kernel
theorem dL_law_424 : decode cL_law 424 = .ok (.iaload, 1) := by decide +kernel
theorem dL_law_425 : decode cL_law 425 = .ok (.aload_n 0, 1) := by decide +kernel
theorem dL_law_426 : decode cL_law 426 = .ok (.iload_n 3, 1) := by decide +kernel
theorem dL_law_427 : decode cL_law 427 = .ok (.iconst 4, 1) := by decide +kernel
theorem dL_law_428 : decode cL_law 428 = .ok (.iadd, 1) := by decide +kernel
theorem dL_law_429 : decode cL_law 429 = .ok (.iaload, 1) := by decide +kernel
theorem dL_law_430 : decode cL_law 430 = .ok (.invokevirtual 50, 3) := by decide +kernel
theorem dL_law_433 : decode cL_law 433 = .ok (.lcmp, 1) := by decide +kernel
theorem dL_law_434 : decode cL_law 434 = .ok (.ifCond .eq 446, 3) := by decide +kernel
theorem dL_law_437 : decode cL_law 437 = .ok (.iconst 0, 1) := by decide +kernel
theorem dL_law_438 : decode cL_law 438 = .ok (.ireturn, 1) := by decide +kernel
theorem dL_law_439 : decode cL_law 439 = .ok (.aload_n 1, 1) := by decide +kernel
theorem dL_law_440 : decode cL_law 440 = .ok (.aload_n 0, 1) := by decide +kernel
theorem dL_law_441 : decode cL_law 441 = .ok (.iload_n 3, 1) := by decide +kernel
theorem dL_law_442 : decode cL_law 442 = .ok (.iconst 1, 1) := by decide +kernel
theorem dL_law_443 : decode cL_law 443 = .ok (.iadd, 1) := by decide +kernel
theorem dL_law_444 : decode cL_law 444 = .ok (.iaload, 1) := by decide +kernel
theorem dL_law_445 : decode cL_law 445 = .ok (.aload_n 0, 1) := by decide +kernel
theorem dL_law_446 : decode cL_law 446 = .ok (.iload_n 3, 1) := by decide +kernel
theorem dL_law_447 : decode cL_law 447 = .ok (.iconst 2, 1) := by decide +kernel
theorem dL_law_448 : decode cL_law 448 = .ok (.iadd, 1) := by decide +kernel
theorem dL_law_449 : decode cL_law 449 = .ok (.iaload, 1) := by decide +kernel
theorem dL_law_450 : decode cL_law 450 = .ok (.aload_n 0, 1) := by decide +kernel
theorem dL_law_451 : decode cL_law 451 = .ok (.iload_n 3, 1) := by decide +kernel
theorem dL_law_452 : decode cL_law 452 = .ok (.iconst 3, 1) := by decide +kernel
theorem dL_law_453 : decode cL_law 453 = .ok (.iadd, 1) := by decide +kernel
theorem dL_law_454 : decode cL_law 454 = .ok (.iaload, 1) := by decide +kernel
theorem dL_law_455 : decode cL_law 455 = .ok (.invokevirtual 51, 3) := by decide +kernel
theorem dL_law_458 : decode cL_law 458 = .ok (.aload_n 2, 1) := by decide +kernel
theorem dL_law_459 : decode cL_law 459 = .ok (.aload_n 0, 1) := by decide +kernel
theorem dL_law_460 : decode cL_law 460 = .ok (.iload_n 3, 1) := by decide +kernel
theorem dL_law_461 : decode cL_law 461 = .ok (.iconst 1, 1) := by decide +kernel
theorem dL_law_462 : decode cL_law 462 = .ok (.iadd, 1) := by decide +kernel
theorem dL_law_463 : decode cL_law 463 = .ok (.iaload, 1) := by decide +kernel
theorem dL_law_464 : decode cL_law 464 = .ok (.aload_n 0, 1) := by decide +kernel
theorem dL_law_465 : decode cL_law 465 = .ok (.iload_n 3, 1) := by decide +kernel
theorem dL_law_466 : decode cL_law 466 = .ok (.iconst 2, 1) := by decide +kernel
theorem dL_law_467 : decode cL_law 467 = .ok (.iadd, 1) := by decide +kernel
theorem dL_law_468 : decode cL_law 468 = .ok (.iaload, 1) := by decide +kernel
theorem dL_law_469 : decode cL_law 469 = .ok (.aload_n 0, 1) := by decide +kernel
theorem dL_law_470 : decode cL_law 470 = .ok (.iload_n 3, 1) := by decide +kernel
theorem dL_law_471 : decode cL_law 471 = .ok (.iconst 3, 1) := by decide +kernel
theorem dL_law_472 : decode cL_law 472 = .ok (.iadd, 1) := by decide +kernel
theorem dL_law_473 : decode cL_law 473 = .ok (.iaload, 1) := by decide +kernel
theorem dL_law_474 : decode cL_law 474 = .ok (.invokevirtual 55, 3) := by decide +kernel
theorem dL_law_477 : decode cL_law 477 = .ok (.lcmp, 1) := by decide +kernel
theorem dL_law_478 : decode cL_law 478 = .ok (.ifCond .eq 402, 3) := by decide +kernel
theorem dL_law_481 : decode cL_law 481 = .ok (.iconst 0, 1) := by decide +kernel
theorem dL_law_482 : decode cL_law 482 = .ok (.ireturn, 1) := by decide +kernel
theorem dL_law_483 : decode cL_law 483 = .ok (.aload_n 1, 1) := by decide +kernel
theorem dL_law_484 : decode cL_law 484 = .ok (.aload_n 0, 1) := by decide +kernel
theorem dL_law_485 : decode cL_law 485 = .ok (.iload_n 3, 1) := by decide +kernel
theorem dL_law_486 : decode cL_law 486 = .ok (.iconst 1, 1) := by decide +kernel
theorem dL_law_487 : decode cL_law 487 = .ok (.iadd, 1) := by decide +kernel
theorem dL_law_488 : decode cL_law 488 = .ok (.iaload, 1) := by decide +kernel
theorem dL_law_489 : decode cL_law 489 = .ok (.aload_n 0, 1) := by decide +kernel
theorem dL_law_490 : decode cL_law 490 = .ok (.iload_n 3, 1) := by decide +kernel
theorem dL_law_491 : decode cL_law 491 = .ok (.iconst 2, 1) := by decide +kernel
theorem dL_law_492 : decode cL_law 492 = .ok (.iadd, 1) := by decide +kernel
theorem dL_law_493 : decode cL_law 493 = .ok (.iaload, 1) := by decide +kernel
theorem dL_law_494 : decode cL_law 494 = .ok (.invokevirtual 56, 3) := by decide +kernel
theorem dL_law_497 : decode cL_law 497 = .ok (.aload_n 2, 1) := by decide +kernel
theorem dL_law_498 : decode cL_law 498 = .ok (.aload_n 0, 1) := by decide +kernel
theorem dL_law_499 : decode cL_law 499 = .ok (.iload_n 3, 1) := by decide +kernel
theorem dL_law_500 : decode cL_law 500 = .ok (.iconst 1, 1) := by decide +kernel
theorem dL_law_501 : decode cL_law 501 = .ok (.iadd, 1) := by decide +kernel
theorem dL_law_502 : decode cL_law 502 = .ok (.iaload, 1) := by decide +kernel
theorem dL_law_503 : decode cL_law 503 = .ok (.aload_n 0, 1) := by decide +kernel
theorem dL_law_504 : decode cL_law 504 = .ok (.iload_n 3, 1) := by decide +kernel
theorem dL_law_505 : decode cL_law 505 = .ok (.iconst 2, 1) := by decide +kernel
theorem dL_law_506 : decode cL_law 506 = .ok (.iadd, 1) := by decide +kernel
theorem dL_law_507 : decode cL_law 507 = .ok (.iaload, 1) := by decide +kernel
theorem dL_law_508 : decode cL_law 508 = .ok (.invokevirtual 59, 3) := by decide +kernel
theorem dL_law_511 : decode cL_law 511 = .ok (.if_icmp .eq 369, 3) := by decide +kernel
theorem dL_law_514 : decode cL_law 514 = .ok (.iconst 0, 1) := by decide +kernel
theorem dL_law_515 : decode cL_law 515 = .ok (.ireturn, 1) := by decide +kernel
theorem dL_law_516 : decode cL_law 516 = .ok (.aload_n 1, 1) := by decide +kernel
theorem dL_law_517 : decode cL_law 517 = .ok (.aload_n 0, 1) := by decide +kernel
theorem dL_law_518 : decode cL_law 518 = .ok (.iload_n 3, 1) := by decide +kernel
theorem dL_law_519 : decode cL_law 519 = .ok (.iconst 1, 1) := by decide +kernel
theorem dL_law_520 : decode cL_law 520 = .ok (.iadd, 1) := by decide +kernel
theorem dL_law_521 : decode cL_law 521 = .ok (.iaload, 1) := by decide +kernel
theorem dL_law_522 : decode cL_law 522 = .ok (.aload_n 0, 1) := by decide +kernel
theorem dL_law_523 : decode cL_law 523 = .ok (.iload_n 3, 1) := by decide +kernel
theorem dL_law_524 : decode cL_law 524 = .ok (.iconst 2, 1) := by decide +kernel
theorem dL_law_525 : decode cL_law 525 = .ok (.iadd, 1) := by decide +kernel
theorem dL_law_526 : decode cL_law 526 = .ok (.iaload, 1) := by decide +kernel
theorem dL_law_527 : decode cL_law 527 = .ok (.aload_n 0, 1) := by decide +kernel
theorem dL_law_528 : decode cL_law 528 = .ok (.iload_n 3, 1) := by decide +kernel
theorem dL_law_529 : decode cL_law 529 = .ok (.iconst 3, 1) := by decide +kernel
theorem dL_law_530 : decode cL_law 530 = .ok (.iadd, 1) := by decide +kernel
theorem dL_law_531 : decode cL_law 531 = .ok (.iaload, 1) := by decide +kernel
theorem dL_law_532 : decode cL_law 532 = .ok (.invokevirtual 60, 3) := by decide +kernel
theorem dL_law_535 : decode cL_law 535 = .ok (.aload_n 2, 1) := by decide +kernel
theorem dL_law_536 : decode cL_law 536 = .ok (.aload_n 0, 1) := by decide +kernel
theorem dL_law_537 : decode cL_law 537 = .ok (.iload_n 3, 1) := by decide +kernel
theorem dL_law_538 : decode cL_law 538 = .ok (.iconst 1, 1) := by decide +kernel
theorem dL_law_539 : decode cL_law 539 = .ok (.iadd, 1) := by decide +kernel
theorem dL_law_540 : decode cL_law 540 = .ok (.iaload, 1) := by decide +kernel
theorem dL_law_541 : decode cL_law 541 = .ok (.aload_n 0, 1) := by decide +kernel
theorem dL_law_542 : decode cL_law 542 = .ok (.iload_n 3, 1) := by decide +kernel
theorem dL_law_543 : decode cL_law 543 = .ok (.iconst 2, 1) := by decide +kernel
theorem dL_law_544 : decode cL_law 544 = .ok (.iadd, 1) := by decide +kernel
theorem dL_law_545 : decode cL_law 545 = .ok (.iaload, 1) := by decide +kernel
theorem dL_law_546 : decode cL_law 546 = .ok (.aload_n 0, 1) := by decide +kernel
theorem dL_law_547 : decode cL_law 547 = .ok (.iload_n 3, 1) := by decide +kernel
theorem dL_law_548 : decode cL_law 548 = .ok (.iconst 3, 1) := by decide +kernel
theorem dL_law_549 : decode cL_law 549 = .ok (.iadd, 1) := by decide +kernel
theorem dL_law_550 : decode cL_law 550 = .ok (.iaload, 1) := by decide +kernel
theorem dL_law_551 : decode cL_law 551 = .ok (.invokevirtual 63, 3) := by decide +kernel
theorem dL_law_554 : decode cL_law 554 = .ok (.lcmp, 1) := by decide +kernel
theorem dL_law_555 : decode cL_law 555 = .ok (.ifCond .eq 325, 3) := by decide +kernel
theorem dL_law_558 : decode cL_law 558 = .ok (.iconst 0, 1) := by decide +kernel
theorem dL_law_559 : decode cL_law 559 = .ok (.ireturn, 1) := by decide +kernel
theorem dL_law_560 : decode cL_law 560 = .ok (.aload_n 1, 1) := by decide +kernel
theorem dL_law_561 : decode cL_law 561 = .ok (.aload_n 0, 1) := by decide +kernel
theorem dL_law_562 : decode cL_law 562 = .ok (.iload_n 3, 1) := by decide +kernel
theorem dL_law_563 : decode cL_law 563 = .ok (.iconst 1, 1) := by decide +kernel
theorem dL_law_564 : decode cL_law 564 = .ok (.iadd, 1) := by decide +kernel
theorem dL_law_565 : decode cL_law 565 = .ok (.iaload, 1) := by decide +kernel
theorem dL_law_566 : decode cL_law 566 = .ok (.aload_n 0, 1) := by decide +kernel
theorem dL_law_567 : decode cL_law 567 = .ok (.iload_n 3, 1) := by decide +kernel
theorem dL_law_568 : decode cL_law 568 = .ok (.iconst 2, 1) := by decide +kernel
theorem dL_law_569 : decode cL_law 569 = .ok (.iadd, 1) := by decide +kernel
theorem dL_law_570 : decode cL_law 570 = .ok (.iaload, 1) := by decide +kernel
theorem dL_law_571 : decode cL_law 571 = .ok (.invokevirtual 64, 3) := by decide +kernel
theorem dL_law_574 : decode cL_law 574 = .ok (.aload_n 2, 1) := by decide +kernel
theorem dL_law_575 : decode cL_law 575 = .ok (.aload_n 0, 1) := by decide +kernel
theorem dL_law_576 : decode cL_law 576 = .ok (.iload_n 3, 1) := by decide +kernel
theorem dL_law_577 : decode cL_law 577 = .ok (.iconst 1, 1) := by decide +kernel
theorem dL_law_578 : decode cL_law 578 = .ok (.iadd, 1) := by decide +kernel
theorem dL_law_579 : decode cL_law 579 = .ok (.iaload, 1) := by decide +kernel
theorem dL_law_580 : decode cL_law 580 = .ok (.aload_n 0, 1) := by decide +kernel
theorem dL_law_581 : decode cL_law 581 = .ok (.iload_n 3, 1) := by decide +kernel
theorem dL_law_582 : decode cL_law 582 = .ok (.iconst 2, 1) := by decide +kernel
theorem dL_law_583 : decode cL_law 583 = .ok (.iadd, 1) := by decide +kernel
theorem dL_law_584 : decode cL_law 584 = .ok (.iaload, 1) := by decide +kernel
theorem dL_law_585 : decode cL_law 585 = .ok (.invokevirtual 67, 3) := by decide +kernel
theorem dL_law_588 : decode cL_law 588 = .ok (.if_icmp .eq 292, 3) := by decide +kernel
theorem dL_law_591 : decode cL_law 591 = .ok (.iconst 0, 1) := by decide +kernel
theorem dL_law_592 : decode cL_law 592 = .ok (.ireturn, 1) := by decide +kernel
theorem dL_law_593 : decode cL_law 593 = .ok (.aload_n 1, 1) := by decide +kernel
theorem dL_law_594 : decode cL_law 594 = .ok (.aload_n 0, 1) := by decide +kernel
theorem dL_law_595 : decode cL_law 595 = .ok (.iload_n 3, 1) := by decide +kernel
theorem dL_law_596 : decode cL_law 596 = .ok (.iconst 1, 1) := by decide +kernel
theorem dL_law_597 : decode cL_law 597 = .ok (.iadd, 1) := by decide +kernel
theorem dL_law_598 : decode cL_law 598 = .ok (.iaload, 1) := by decide +kernel
theorem dL_law_599 : decode cL_law 599 = .ok (.aload_n 0, 1) := by decide +kernel
theorem dL_law_600 : decode cL_law 600 = .ok (.iload_n 3, 1) := by decide +kernel
theorem dL_law_601 : decode cL_law 601 = .ok (.iconst 2, 1) := by decide +kernel
theorem dL_law_602 : decode cL_law 602 = .ok (.iadd, 1) := by decide +kernel
theorem dL_law_603 : decode cL_law 603 = .ok (.iaload, 1) := by decide +kernel
theorem dL_law_604 : decode cL_law 604 = .ok (.invokevirtual 68, 3) := by decide +kernel
theorem dL_law_607 : decode cL_law 607 = .ok (.aload_n 2, 1) := by decide +kernel
theorem dL_law_608 : decode cL_law 608 = .ok (.aload_n 0, 1) := by decide +kernel
theorem dL_law_609 : decode cL_law 609 = .ok (.iload_n 3, 1) := by decide +kernel
theorem dL_law_610 : decode cL_law 610 = .ok (.iconst 1, 1) := by decide +kernel
theorem dL_law_611 : decode cL_law 611 = .ok (.iadd, 1) := by decide +kernel
theorem dL_law_612 : decode cL_law 612 = .ok (.iaload, 1) := by decide +kernel
theorem dL_law_613 : decode cL_law 613 = .ok (.aload_n 0, 1) := by decide +kernel
theorem dL_law_614 : decode cL_law 614 = .ok (.iload_n 3, 1) := by decide +kernel
theorem dL_law_615 : decode cL_law 615 = .ok (.iconst 2, 1) := by decide +kernel
theorem dL_law_616 : decode cL_law 616 = .ok (.iadd, 1) := by decide +kernel
theorem dL_law_617 : decode cL_law 617 = .ok (.iaload, 1) := by decide +kernel
theorem dL_law_618 : decode cL_law 618 = .ok (.invokevirtual 71, 3) := by decide +kernel
theorem dL_law_621 : decode cL_law 621 = .ok (.if_icmp .eq 259, 3) := by decide +kernel
theorem dL_law_624 : decode cL_law 624 = .ok (.iconst 0, 1) := by decide +kernel
theorem dL_law_625 : decode cL_law 625 = .ok (.ireturn, 1) := by decide +kernel
theorem dL_law_626 : decode cL_law 626 = .ok (.aload_n 1, 1) := by decide +kernel
theorem dL_law_627 : decode cL_law 627 = .ok (.aload_n 0, 1) := by decide +kernel
theorem dL_law_628 : decode cL_law 628 = .ok (.iload_n 3, 1) := by decide +kernel
theorem dL_law_629 : decode cL_law 629 = .ok (.iconst 1, 1) := by decide +kernel
theorem dL_law_630 : decode cL_law 630 = .ok (.iadd, 1) := by decide +kernel
theorem dL_law_631 : decode cL_law 631 = .ok (.iaload, 1) := by decide +kernel
theorem dL_law_632 : decode cL_law 632 = .ok (.invokevirtual 72, 3) := by decide +kernel
theorem dL_law_635 : decode cL_law 635 = .ok (.aload_n 2, 1) := by decide +kernel
theorem dL_law_636 : decode cL_law 636 = .ok (.aload_n 0, 1) := by decide +kernel
theorem dL_law_637 : decode cL_law 637 = .ok (.iload_n 3, 1) := by decide +kernel
theorem dL_law_638 : decode cL_law 638 = .ok (.iconst 1, 1) := by decide +kernel
theorem dL_law_639 : decode cL_law 639 = .ok (.iadd, 1) := by decide +kernel
theorem dL_law_640 : decode cL_law 640 = .ok (.iaload, 1) := by decide +kernel
theorem dL_law_641 : decode cL_law 641 = .ok (.invokevirtual 75, 3) := by decide +kernel
theorem dL_law_644 : decode cL_law 644 = .ok (.if_icmp .eq 236, 3) := by decide +kernel
theorem dL_law_647 : decode cL_law 647 = .ok (.iconst 0, 1) := by decide +kernel
theorem dL_law_648 : decode cL_law 648 = .ok (.ireturn, 1) := by decide +kernel
theorem dL_law_649 : decode cL_law 649 = .ok (.aload_n 1, 1) := by decide +kernel
theorem dL_law_650 : decode cL_law 650 = .ok (.aload_n 0, 1) := by decide +kernel
theorem dL_law_651 : decode cL_law 651 = .ok (.iload_n 3, 1) := by decide +kernel
theorem dL_law_652 : decode cL_law 652 = .ok (.iconst 1, 1) := by decide +kernel
theorem dL_law_653 : decode cL_law 653 = .ok (.iadd, 1) := by decide +kernel
theorem dL_law_654 : decode cL_law 654 = .ok (.iaload, 1) := by decide +kernel
theorem dL_law_655 : decode cL_law 655 = .ok (.invokevirtual 76, 3) := by decide +kernel
theorem dL_law_658 : decode cL_law 658 = .ok (.aload_n 2, 1) := by decide +kernel
theorem dL_law_659 : decode cL_law 659 = .ok (.aload_n 0, 1) := by decide +kernel
theorem dL_law_660 : decode cL_law 660 = .ok (.iload_n 3, 1) := by decide +kernel
theorem dL_law_661 : decode cL_law 661 = .ok (.iconst 1, 1) := by decide +kernel
theorem dL_law_662 : decode cL_law 662 = .ok (.iadd, 1) := by decide +kernel
theorem dL_law_663 : decode cL_law 663 = .ok (.iaload, 1) := by decide +kernel
theorem dL_law_664 : decode cL_law 664 = .ok (.invokevirtual 79, 3) := by decide +kernel
theorem dL_law_667 : decode cL_law 667 = .ok (.if_icmp .eq 213, 3) := by decide +kernel
theorem dL_law_670 : decode cL_law 670 = .ok (.iconst 0, 1) := by decide +kernel
theorem dL_law_671 : decode cL_law 671 = .ok (.ireturn, 1) := by decide +kernel
theorem dL_law_672 : decode cL_law 672 = .ok (.aload_n 1, 1) := by decide +kernel
theorem dL_law_673 : decode cL_law 673 = .ok (.aload_n 0, 1) := by decide +kernel
theorem dL_law_674 : decode cL_law 674 = .ok (.iload_n 3, 1) := by decide +kernel
theorem dL_law_675 : decode cL_law 675 = .ok (.iconst 1, 1) := by decide +kernel
theorem dL_law_676 : decode cL_law 676 = .ok (.iadd, 1) := by decide +kernel
theorem dL_law_677 : decode cL_law 677 = .ok (.iaload, 1) := by decide +kernel
theorem dL_law_678 : decode cL_law 678 = .ok (.aload_n 0, 1) := by decide +kernel
theorem dL_law_679 : decode cL_law 679 = .ok (.iload_n 3, 1) := by decide +kernel
theorem dL_law_680 : decode cL_law 680 = .ok (.iconst 2, 1) := by decide +kernel
theorem dL_law_681 : decode cL_law 681 = .ok (.iadd, 1) := by decide +kernel
theorem dL_law_682 : decode cL_law 682 = .ok (.iaload, 1) := by decide +kernel
theorem dL_law_683 : decode cL_law 683 = .ok (.invokevirtual 80, 3) := by decide +kernel
theorem dL_law_686 : decode cL_law 686 = .ok (.aload_n 2, 1) := by decide +kernel
theorem dL_law_687 : decode cL_law 687 = .ok (.aload_n 0, 1) := by decide +kernel
theorem dL_law_688 : decode cL_law 688 = .ok (.iload_n 3, 1) := by decide +kernel
theorem dL_law_689 : decode cL_law 689 = .ok (.iconst 1, 1) := by decide +kernel
theorem dL_law_690 : decode cL_law 690 = .ok (.iadd, 1) := by decide +kernel
theorem dL_law_691 : decode cL_law 691 = .ok (.iaload, 1) := by decide +kernel
theorem dL_law_692 : decode cL_law 692 = .ok (.aload_n 0, 1) := by decide +kernel
theorem dL_law_693 : decode cL_law 693 = .ok (.iload_n 3, 1) := by decide +kernel
theorem dL_law_694 : decode cL_law 694 = .ok (.iconst 2, 1) := by decide +kernel
theorem dL_law_695 : decode cL_law 695 = .ok (.iadd, 1) := by decide +kernel
theorem dL_law_696 : decode cL_law 696 = .ok (.iaload, 1) := by decide +kernel
theorem dL_law_697 : decode cL_law 697 = .ok (.invokevirtual 83, 3) := by decide +kernel
theorem dL_law_700 : decode cL_law 700 = .ok (.if_icmp .eq 180, 3) := by decide +kernel
theorem dL_law_703 : decode cL_law 703 = .ok (.iconst 0, 1) := by decide +kernel
theorem dL_law_704 : decode cL_law 704 = .ok (.ireturn, 1) := by decide +kernel
theorem dL_law_705 : decode cL_law 705 = .ok (.aload_n 1, 1) := by decide +kernel
theorem dL_law_706 : decode cL_law 706 = .ok (.aload_n 0, 1) := by decide +kernel
theorem dL_law_707 : decode cL_law 707 = .ok (.iload_n 3, 1) := by decide +kernel
theorem dL_law_708 : decode cL_law 708 = .ok (.iconst 1, 1) := by decide +kernel
theorem dL_law_709 : decode cL_law 709 = .ok (.iadd, 1) := by decide +kernel
theorem dL_law_710 : decode cL_law 710 = .ok (.iaload, 1) := by decide +kernel
theorem dL_law_711 : decode cL_law 711 = .ok (.invokevirtual 84, 3) := by decide +kernel
theorem dL_law_714 : decode cL_law 714 = .ok (.aload_n 2, 1) := by decide +kernel
theorem dL_law_715 : decode cL_law 715 = .ok (.aload_n 0, 1) := by decide +kernel
theorem dL_law_716 : decode cL_law 716 = .ok (.iload_n 3, 1) := by decide +kernel
theorem dL_law_717 : decode cL_law 717 = .ok (.iconst 1, 1) := by decide +kernel
theorem dL_law_718 : decode cL_law 718 = .ok (.iadd, 1) := by decide +kernel
theorem dL_law_719 : decode cL_law 719 = .ok (.iaload, 1) := by decide +kernel
theorem dL_law_720 : decode cL_law 720 = .ok (.invokevirtual 87, 3) := by decide +kernel
theorem dL_law_723 : decode cL_law 723 = .ok (.if_icmp .eq 157, 3) := by decide +kernel
theorem dL_law_726 : decode cL_law 726 = .ok (.iconst 0, 1) := by decide +kernel
theorem dL_law_727 : decode cL_law 727 = .ok (.ireturn, 1) := by decide +kernel
theorem dL_law_728 : decode cL_law 728 = .ok (.aload_n 1, 1) := by decide +kernel
theorem dL_law_729 : decode cL_law 729 = .ok (.aload_n 0, 1) := by decide +kernel
theorem dL_law_730 : decode cL_law 730 = .ok (.iload_n 3, 1) := by decide +kernel
theorem dL_law_731 : decode cL_law 731 = .ok (.iconst 1, 1) := by decide +kernel
theorem dL_law_732 : decode cL_law 732 = .ok (.iadd, 1) := by decide +kernel
theorem dL_law_733 : decode cL_law 733 = .ok (.iaload, 1) := by decide +kernel
theorem dL_law_734 : decode cL_law 734 = .ok (.aload_n 0, 1) := by decide +kernel
theorem dL_law_735 : decode cL_law 735 = .ok (.iload_n 3, 1) := by decide +kernel
theorem dL_law_736 : decode cL_law 736 = .ok (.iconst 2, 1) := by decide +kernel
theorem dL_law_737 : decode cL_law 737 = .ok (.iadd, 1) := by decide +kernel
theorem dL_law_738 : decode cL_law 738 = .ok (.iaload, 1) := by decide +kernel
theorem dL_law_739 : decode cL_law 739 = .ok (.aload_n 0, 1) := by decide +kernel
theorem dL_law_740 : decode cL_law 740 = .ok (.iload_n 3, 1) := by decide +kernel
theorem dL_law_741 : decode cL_law 741 = .ok (.iconst 3, 1) := by decide +kernel
theorem dL_law_742 : decode cL_law 742 = .ok (.iadd, 1) := by decide +kernel
theorem dL_law_743 : decode cL_law 743 = .ok (.iaload, 1) := by decide +kernel
theorem dL_law_744 : decode cL_law 744 = .ok (.invokevirtual 88, 3) := by decide +kernel
theorem dL_law_747 : decode cL_law 747 = .ok (.aload_n 2, 1) := by decide +kernel
theorem dL_law_748 : decode cL_law 748 = .ok (.aload_n 0, 1) := by decide +kernel
theorem dL_law_749 : decode cL_law 749 = .ok (.iload_n 3, 1) := by decide +kernel
theorem dL_law_750 : decode cL_law 750 = .ok (.iconst 1, 1) := by decide +kernel
theorem dL_law_751 : decode cL_law 751 = .ok (.iadd, 1) := by decide +kernel
theorem dL_law_752 : decode cL_law 752 = .ok (.iaload, 1) := by decide +kernel
theorem dL_law_753 : decode cL_law 753 = .ok (.aload_n 0, 1) := by decide +kernel
theorem dL_law_754 : decode cL_law 754 = .ok (.iload_n 3, 1) := by decide +kernel
theorem dL_law_755 : decode cL_law 755 = .ok (.iconst 2, 1) := by decide +kernel
theorem dL_law_756 : decode cL_law 756 = .ok (.iadd, 1) := by decide +kernel
theorem dL_law_757 : decode cL_law 757 = .ok (.iaload, 1) := by decide +kernel
theorem dL_law_758 : decode cL_law 758 = .ok (.aload_n 0, 1) := by decide +kernel
theorem dL_law_759 : decode cL_law 759 = .ok (.iload_n 3, 1) := by decide +kernel
theorem dL_law_760 : decode cL_law 760 = .ok (.iconst 3, 1) := by decide +kernel
theorem dL_law_761 : decode cL_law 761 = .ok (.iadd, 1) := by decide +kernel
theorem dL_law_762 : decode cL_law 762 = .ok (.iaload, 1) := by decide +kernel
theorem dL_law_763 : decode cL_law 763 = .ok (.invokevirtual 91, 3) := by decide +kernel
theorem dL_law_766 : decode cL_law 766 = .ok (.if_icmp .eq 114, 3) := by decide +kernel
theorem dL_law_769 : decode cL_law 769 = .ok (.iconst 0, 1) := by decide +kernel
theorem dL_law_770 : decode cL_law 770 = .ok (.ireturn, 1) := by decide +kernel
theorem dL_law_771 : decode cL_law 771 = .ok (.aload_n 1, 1) := by decide +kernel
theorem dL_law_772 : decode cL_law 772 = .ok (.aload_n 0, 1) := by decide +kernel
theorem dL_law_773 : decode cL_law 773 = .ok (.iload_n 3, 1) := by decide +kernel
theorem dL_law_774 : decode cL_law 774 = .ok (.iconst 1, 1) := by decide +kernel
theorem dL_law_775 : decode cL_law 775 = .ok (.iadd, 1) := by decide +kernel
theorem dL_law_776 : decode cL_law 776 = .ok (.iaload, 1) := by decide +kernel
theorem dL_law_777 : decode cL_law 777 = .ok (.aload_n 0, 1) := by decide +kernel
theorem dL_law_778 : decode cL_law 778 = .ok (.iload_n 3, 1) := by decide +kernel
theorem dL_law_779 : decode cL_law 779 = .ok (.iconst 2, 1) := by decide +kernel
theorem dL_law_780 : decode cL_law 780 = .ok (.iadd, 1) := by decide +kernel
theorem dL_law_781 : decode cL_law 781 = .ok (.iaload, 1) := by decide +kernel
theorem dL_law_782 : decode cL_law 782 = .ok (.invokevirtual 92, 3) := by decide +kernel
theorem dL_law_785 : decode cL_law 785 = .ok (.aload_n 2, 1) := by decide +kernel
theorem dL_law_786 : decode cL_law 786 = .ok (.aload_n 0, 1) := by decide +kernel
theorem dL_law_787 : decode cL_law 787 = .ok (.iload_n 3, 1) := by decide +kernel
theorem dL_law_788 : decode cL_law 788 = .ok (.iconst 1, 1) := by decide +kernel
theorem dL_law_789 : decode cL_law 789 = .ok (.iadd, 1) := by decide +kernel
theorem dL_law_790 : decode cL_law 790 = .ok (.iaload, 1) := by decide +kernel
theorem dL_law_791 : decode cL_law 791 = .ok (.aload_n 0, 1) := by decide +kernel
theorem dL_law_792 : decode cL_law 792 = .ok (.iload_n 3, 1) := by decide +kernel
theorem dL_law_793 : decode cL_law 793 = .ok (.iconst 2, 1) := by decide +kernel
theorem dL_law_794 : decode cL_law 794 = .ok (.iadd, 1) := by decide +kernel
theorem dL_law_795 : decode cL_law 795 = .ok (.iaload, 1) := by decide +kernel
theorem dL_law_796 : decode cL_law 796 = .ok (.invokevirtual 95, 3) := by decide +kernel
theorem dL_law_799 : decode cL_law 799 = .ok (.if_icmp .eq 81, 3) := by decide +kernel
theorem dL_law_802 : decode cL_law 802 = .ok (.iconst 0, 1) := by decide +kernel
theorem dL_law_803 : decode cL_law 803 = .ok (.ireturn, 1) := by decide +kernel
theorem dL_law_804 : decode cL_law 804 = .ok (.aload_n 1, 1) := by decide +kernel
theorem dL_law_805 : decode cL_law 805 = .ok (.aload_n 0, 1) := by decide +kernel
theorem dL_law_806 : decode cL_law 806 = .ok (.iload_n 3, 1) := by decide +kernel
theorem dL_law_807 : decode cL_law 807 = .ok (.iconst 1, 1) := by decide +kernel
theorem dL_law_808 : decode cL_law 808 = .ok (.iadd, 1) := by decide +kernel
theorem dL_law_809 : decode cL_law 809 = .ok (.iaload, 1) := by decide +kernel
theorem dL_law_810 : decode cL_law 810 = .ok (.aload_n 0, 1) := by decide +kernel
theorem dL_law_811 : decode cL_law 811 = .ok (.iload_n 3, 1) := by decide +kernel
theorem dL_law_812 : decode cL_law 812 = .ok (.iconst 2, 1) := by decide +kernel
theorem dL_law_813 : decode cL_law 813 = .ok (.iadd, 1) := by decide +kernel
theorem dL_law_814 : decode cL_law 814 = .ok (.iaload, 1) := by decide +kernel
theorem dL_law_815 : decode cL_law 815 = .ok (.invokevirtual 96, 3) := by decide +kernel
theorem dL_law_818 : decode cL_law 818 = .ok (.aload_n 2, 1) := by decide +kernel
theorem dL_law_819 : decode cL_law 819 = .ok (.aload_n 0, 1) := by decide +kernel
theorem dL_law_820 : decode cL_law 820 = .ok (.iload_n 3, 1) := by decide +kernel
theorem dL_law_821 : decode cL_law 821 = .ok (.iconst 1, 1) := by decide +kernel
theorem dL_law_822 : decode cL_law 822 = .ok (.iadd, 1) := by decide +kernel
theorem dL_law_823 : decode cL_law 823 = .ok (.iaload, 1) := by decide +kernel
theorem dL_law_824 : decode cL_law 824 = .ok (.aload_n 0, 1) := by decide +kernel
theorem dL_law_825 : decode cL_law 825 = .ok (.iload_n 3, 1) := by decide +kernel
theorem dL_law_826 : decode cL_law 826 = .ok (.iconst 2, 1) := by decide +kernel
theorem dL_law_827 : decode cL_law 827 = .ok (.iadd, 1) := by decide +kernel
theorem dL_law_828 : decode cL_law 828 = .ok (.iaload, 1) := by decide +kernel
theorem dL_law_829 : decode cL_law 829 = .ok (.invokevirtual 99, 3) := by decide +kernel
theorem dL_law_832 : decode cL_law 832 = .ok (.if_icmp .eq 48, 3) := by decide +kernel
theorem dL_law_835 : decode cL_law 835 = .ok (.iconst 0, 1) := by decide +kernel
theorem dL_law_836 : decode cL_law 836 = .ok (.ireturn, 1) := by decide +kernel
theorem dL_law_837 : decode cL_law 837 = .ok (.aload_n 1, 1) := by decide +kernel
theorem dL_law_838 : decode cL_law 838 = .ok (.aload_n 0, 1) := by decide +kernel
theorem dL_law_839 : decode cL_law 839 = .ok (.iload_n 3, 1) := by decide +kernel
theorem dL_law_840 : decode cL_law 840 = .ok (.iconst 1, 1) := by decide +kernel
theorem dL_law_841 : decode cL_law 841 = .ok (.iadd, 1) := by decide +kernel
theorem dL_law_842 : decode cL_law 842 = .ok (.iaload, 1) := by decide +kernel
theorem dL_law_843 : decode cL_law 843 = .ok (.aload_n 0, 1) := by decide +kernel
theorem dL_law_844 : decode cL_law 844 = .ok (.iload_n 3, 1) := by decide +kernel
theorem dL_law_845 : decode cL_law 845 = .ok (.iconst 2, 1) := by decide +kernel
theorem dL_law_846 : decode cL_law 846 = .ok (.iadd, 1) := by decide +kernel
theorem dL_law_847 : decode cL_law 847 = .ok (.iaload, 1) := by decide +kernel
theorem dL_law_848 : decode cL_law 848 = .ok (.aload_n 0, 1) := by decide +kernel
theorem dL_law_849 : decode cL_law 849 = .ok (.iload_n 3, 1) := by decide +kernel
theorem dL_law_850 : decode cL_law 850 = .ok (.iconst 3, 1) := by decide +kernel
theorem dL_law_851 : decode cL_law 851 = .ok (.iadd, 1) := by decide +kernel
theorem dL_law_852 : decode cL_law 852 = .ok (.iaload, 1) := by decide +kernel
theorem dL_law_853 : decode cL_law 853 = .ok (.invokevirtual 100, 3) := by decide +kernel
theorem dL_law_856 : decode cL_law 856 = .ok (.aload_n 2, 1) := by decide +kernel
theorem dL_law_857 : decode cL_law 857 = .ok (.aload_n 0, 1) := by decide +kernel
theorem dL_law_858 : decode cL_law 858 = .ok (.iload_n 3, 1) := by decide +kernel
theorem dL_law_859 : decode cL_law 859 = .ok (.iconst 1, 1) := by decide +kernel
theorem dL_law_860 : decode cL_law 860 = .ok (.iadd, 1) := by decide +kernel
theorem dL_law_861 : decode cL_law 861 = .ok (.iaload, 1) := by decide +kernel
theorem dL_law_862 : decode cL_law 862 = .ok (.aload_n 0, 1) := by decide +kernel
theorem dL_law_863 : decode cL_law 863 = .ok (.iload_n 3, 1) := by decide +kernel
theorem dL_law_864 : decode cL_law 864 = .ok (.iconst 2, 1) := by decide +kernel
theorem dL_law_865 : decode cL_law 865 = .ok (.iadd, 1) := by decide +kernel
theorem dL_law_866 : decode cL_law 866 = .ok (.iaload, 1) := by decide +kernel
theorem dL_law_867 : decode cL_law 867 = .ok (.aload_n 0, 1) := by decide +kernel
theorem dL_law_868 : decode cL_law 868 = .ok (.iload_n 3, 1) := by decide +kernel
theorem dL_law_869 : decode cL_law 869 = .ok (.iconst 3, 1) := by decide +kernel
theorem dL_law_870 : decode cL_law 870 = .ok (.iadd, 1) := by decide +kernel
theorem dL_law_871 : decode cL_law 871 = .ok (.iaload, 1) := by decide +kernel
theorem dL_law_872 : decode cL_law 872 = .ok (.invokevirtual 103, 3) := by decide +kernel
theorem dL_law_875 : decode cL_law 875 = .ok (.if_icmp .eq 5, 3) := by decide +kernel
theorem dL_law_878 : decode cL_law 878 = .ok (.iconst 0, 1) := by decide +kernel
theorem dL_law_879 : decode cL_law 879 = .ok (.ireturn, 1) := by decide +kernel
theorem dL_law_880 : decode cL_law 880 = .ok (.iinc 3 5, 3) := by decide +kernel
theorem dL_law_883 : decode cL_law 883 = .ok (.goto (-865), 3) := by decide +kernel
theorem dL_law_886 : decode cL_law 886 = .ok (.iconst 1, 1) := by decide +kernel
theorem dL_law_887 : decode cL_law 887 = .ok (.ireturn, 1) := by decide +kernel
end
section
/-! cells, types, rooms, calls: the shapes that every contract here has -/
abbrev tyv (C : Nat → ClassId) : List (ClassId × FieldType) := [(C 0, .int), (C 1, .long), (C 2, .boolean), (C 3, .array .int), (C 4, .array .long)]
abbrev eI (C : Nat → ClassId) (n : Nat) (f : Nat → Int32) : va_E := .inl (C 0, n, .inl f)
abbrev eJ (C : Nat → ClassId) (n : Nat) (f : Nat → Int64) : va_E := .inl (C 1, n, .inr (.inl f))
abbrev eZ (C : Nat → ClassId) (n : Nat) (f : Nat → Int32) : va_E := .inl (C 2, n, .inl f)
abbrev eII (C : Nat → ClassId) (n : Nat) (f : Nat → Option Nat) : va_E := .inl (C 3, n, .inr (.inr (.inr (.inr f))))
abbrev eJJ (C : Nat → ClassId) (n : Nat) (f : Nat → Option Nat) : va_E := .inl (C 4, n, .inr (.inr (.inr (.inr f))))
abbrev wm (y : MethodName) (cc : ByteArray) (n : Nat) (r : Option FieldType) : List Cond := Cond.code y cc n r :: WA
theorem wm_good {y : MethodName} {cc : ByteArray} {n : Nat} {r : Option FieldType} (h : Cond.code y cc n r ∈ WA) : GoodIn WA (wm y cc n r) := fun w hw => (List.mem_cons.mp hw).elim (fun e => by rw [e]; exact ⟨h, good_of_word (WA_good _ h)⟩) (fun h => ⟨h, good_of_word (WA_good _ h)⟩)
abbrev rmN (d : Nat) : Room := { frames := d, cells := 0, slots := 0, locals := 40 * d }
/-- a reader's start -/
def Bp (D : va_G) (C : Nat → ClassId) (w : va_W) (U : State) : Prop := va_P D vwCl w U.heap ∧ va_K D vwCl (tyv C) U ∧ nw U
/-- a writer's start -/
def Bw (D : va_G) (C : Nat → ClassId) (w : va_W) (sz : Nat) (U : State) : Prop := U.heap.size = sz ∧ va_P D vwCl w U.heap ∧ va_K D vwCl (tyv C) U ∧ nw U ∧ va_D (fun _ => True) w
/-- a writer's end -/
def Be (D : va_G) (w w1 : va_W) (sz : Nat) (_ : Unit) (t : State) : Prop := va_P D vwCl w1 t.heap ∧ va_D (va_A w sz) w1
/-- contracts: a method that answers without a heap; one that reads a world; one that changes it -/
abbrev Si (l : Launch) (y : MethodName) (cc : ByteArray) (n : Nat) (ty : FieldType) (d : Nat) (av : List Value) (r : Int32) : Prop := Met l y (wm y cc n (some ty)) (rmN d) (va_Pc av (fun _ => True)) (vp_Si (fun x => x = r)) 0 0 (fun _ => False)
abbrev Sl (l : Launch) (y : MethodName) (cc : ByteArray) (n : Nat) (d : Nat) (av : List Value) (r : Int64) : Prop := Met l y (wm y cc n (some .long)) (rmN d) (va_Pc av (fun _ => True)) (vp_Sl (fun x => x = r)) 0 0 (fun _ => False)
abbrev Ri (l : Launch) (D : va_G) (C : Nat → ClassId) (y : MethodName) (cc : ByteArray) (n : Nat) (ty : FieldType) (d : Nat) (av : List Value) (w : va_W) (r : Int32) : Prop := Met l y (wm y cc n (some ty)) (rmN d) (va_Pc av (Bp D C w)) (vp_Si (fun x => x = r)) 0 0 (fun _ => False)
abbrev Rl (l : Launch) (D : va_G) (C : Nat → ClassId) (y : MethodName) (cc : ByteArray) (n : Nat) (d : Nat) (av : List Value) (w : va_W) (r : Int64) : Prop := Met l y (wm y cc n (some .long)) (rmN d) (va_Pc av (Bp D C w)) (vp_Sl (fun x => x = r)) 0 0 (fun _ => False)
abbrev Wv (l : Launch) (D : va_G) (C : Nat → ClassId) (y : MethodName) (cc : ByteArray) (n : Nat) (d : Nat) (av : List Value) (w w1 : va_W) (sz : Nat) : Prop := Met l y (wm y cc n none) (rmN d) (va_Pc av (Bw D C w sz)) (va_Qv (fun _ : Unit => True) (Be D w w1 sz) (va_A w sz)) 0 0 (va_A w sz)
abbrev Wi (l : Launch) (D : va_G) (C : Nat → ClassId) (y : MethodName) (cc : ByteArray) (n : Nat) (ty : FieldType) (d : Nat) (av : List Value) (w w1 : va_W) (r : Int32) (sz : Nat) : Prop := Met l y (wm y cc n (some ty)) (rmN d) (va_Pc av (Bw D C w sz)) (va_Qi (fun (x : Int32) (_ : Unit) => x = r) (Be D w w1 sz) (va_A w sz)) 0 0 (va_A w sz)
abbrev Wl (l : Launch) (D : va_G) (C : Nat → ClassId) (y : MethodName) (cc : ByteArray) (n : Nat) (d : Nat) (av : List Value) (w w1 : va_W) (r : Int64) (sz : Nat) : Prop := Met l y (wm y cc n (some .long)) (rmN d) (va_Pc av (Bw D C w sz)) (va_Ql (fun (x : Int64) (_ : Unit) => x = r) (Be D w w1 sz) (va_A w sz)) 0 0 (va_A w sz)
section XL
variable {p : Program} {l : Launch} {e : Env} {R : Room} {s : State} {m : MethodId} {args : Array Value} {below : List Frame} {meth : Method} {c : Code} {H : Heap} {locs : List Loc} {cells slots : Nat} {Q : State → Prop}
variable {cc : ByteArray} {pc : Nat} {ls : Array Slot} {rest st0 : List Value} {D : va_G} {cl : List vw_C} {A : Nat → Prop} {a : Nat} {C : Nat → ClassId} {ws : va_W} {H0 : Heap}
theorem xiald (hx : p.tables.exec = Jvm.exec) (hb : c.code = cc) (hK : va_K D cl (tyv C) s) (hP : va_P D cl ws H) (q0 : Nat) {n : Nat} {f : Nat → Int32} (ha : ws[q0]? = some (a, eI C n f)) {i : Int32} (k : Nat) (hi : i = nI k) (hk : k < n) (hn : n < 2 ^ 31) (hdg : decode cc pc = .ok (.iaload, 1))
    (kk : W p l e R s m args below meth c H locs cells slots Q (F0 m (pc + 1) ls (.int (f k) :: rest))) : W p l e R s m args below meth c H locs cells slots Q (F0 m pc ls (.int i :: .ref a :: rest)) := by
  subst hi
  refine va_iald hx hb hK hP q0 0 ha rfl (vp_in_nI hk hn) hdg ?_
  rw [nI_clamp (Nat.lt_trans hk hn)]
  exact kk
theorem xzald (hx : p.tables.exec = Jvm.exec) (hb : c.code = cc) (hK : va_K D cl (tyv C) s) (hP : va_P D cl ws H) (q0 : Nat) {n : Nat} {f : Nat → Int32} (ha : ws[q0]? = some (a, eZ C n f)) {i : Int32} (k : Nat) (hi : i = nI k) (hk : k < n) (hn : n < 2 ^ 31) (hdg : decode cc pc = .ok (.baload, 1))
    (kk : W p l e R s m args below meth c H locs cells slots Q (F0 m (pc + 1) ls (.int (f k) :: rest))) : W p l e R s m args below meth c H locs cells slots Q (F0 m pc ls (.int i :: .ref a :: rest)) := by
  subst hi
  refine va_zald hx hb hK hP q0 2 ha rfl (vp_in_nI hk hn) hdg ?_
  rw [nI_clamp (Nat.lt_trans hk hn)]
  exact kk
theorem xlald (hx : p.tables.exec = Jvm.exec) (hb : c.code = cc) (hK : va_K D cl (tyv C) s) (hP : va_P D cl ws H) (q0 : Nat) {n : Nat} {f : Nat → Int64} (ha : ws[q0]? = some (a, eJ C n f)) {i : Int32} (k : Nat) (hi : i = nI k) (hk : k < n) (hn : n < 2 ^ 31) (hdg : decode cc pc = .ok (.laload, 1))
    (kk : W p l e R s m args below meth c H locs cells slots Q (F0 m (pc + 1) ls (.long (f k) :: rest))) : W p l e R s m args below meth c H locs cells slots Q (F0 m pc ls (.int i :: .ref a :: rest)) := by
  subst hi
  refine va_lald hx hb hK hP q0 1 ha rfl (vp_in_nI hk hn) hdg ?_
  rw [nI_clamp (Nat.lt_trans hk hn)]
  exact kk
theorem xiast (hx : p.tables.exec = Jvm.exec) (hb : c.code = cc) (hK : va_K D cl (tyv C) s) (hP : va_P D cl ws H) (hD : va_D A ws) (hS : va_S A H0 H locs) (q0 : Nat) {n : Nat} {f : Nat → Int32} (ha : ws[q0]? = some (a, eI C n f)) {i x : Int32} (k : Nat) (hi : i = nI k) (hk : k < n) (hn : n < 2 ^ 31) (hdg : decode cc pc = .ok (.iastore, 1))
    (kk : ∀ (H1 : Heap) (locs1 : List Loc), va_P D cl (ws.set q0 (a, eI C n (upd f k x))) H1 → va_D A (ws.set q0 (a, eI C n (upd f k x))) → va_S A H0 H1 locs1 → W p l e R s m args below meth c H1 locs1 cells slots Q (F0 m (pc + 1) ls rest)) : W p l e R s m args below meth c H locs cells slots Q (F0 m pc ls (.int x :: .int i :: .ref a :: rest)) := by
  subst hi
  refine va_iast hx hb hK hP hD hS q0 0 ha rfl (vp_in_nI hk hn) hdg ?_
  rw [nI_clamp (Nat.lt_trans hk hn)]
  exact kk
theorem xzast (hx : p.tables.exec = Jvm.exec) (hb : c.code = cc) (hK : va_K D cl (tyv C) s) (hP : va_P D cl ws H) (hD : va_D A ws) (hS : va_S A H0 H locs) (q0 : Nat) {n : Nat} {f : Nat → Int32} (ha : ws[q0]? = some (a, eZ C n f)) {i x : Int32} (k : Nat) (hi : i = nI k) (hk : k < n) (hn : n < 2 ^ 31) (hx1 : vp_nar .boolean x = x) (hdg : decode cc pc = .ok (.bastore, 1))
    (kk : ∀ (H1 : Heap) (locs1 : List Loc), va_P D cl (ws.set q0 (a, eZ C n (upd f k x))) H1 → va_D A (ws.set q0 (a, eZ C n (upd f k x))) → va_S A H0 H1 locs1 → W p l e R s m args below meth c H1 locs1 cells slots Q (F0 m (pc + 1) ls rest)) : W p l e R s m args below meth c H locs cells slots Q (F0 m pc ls (.int x :: .int i :: .ref a :: rest)) := by
  subst hi
  refine va_zast hx hb hK hP hD hS q0 2 ha rfl (vp_in_nI hk hn) hdg ?_
  rw [nI_clamp (Nat.lt_trans hk hn), hx1]
  exact kk
theorem xlast (hx : p.tables.exec = Jvm.exec) (hb : c.code = cc) (hK : va_K D cl (tyv C) s) (hP : va_P D cl ws H) (hD : va_D A ws) (hS : va_S A H0 H locs) (q0 : Nat) {n : Nat} {f : Nat → Int64} (ha : ws[q0]? = some (a, eJ C n f)) {i : Int32} {x : Int64} (k : Nat) (hi : i = nI k) (hk : k < n) (hn : n < 2 ^ 31) (hdg : decode cc pc = .ok (.lastore, 1))
    (kk : ∀ (H1 : Heap) (locs1 : List Loc), va_P D cl (ws.set q0 (a, eJ C n (vp_updL f k x))) H1 → va_D A (ws.set q0 (a, eJ C n (vp_updL f k x))) → va_S A H0 H1 locs1 → W p l e R s m args below meth c H1 locs1 cells slots Q (F0 m (pc + 1) ls rest)) : W p l e R s m args below meth c H locs cells slots Q (F0 m pc ls (.long x :: .int i :: .ref a :: rest)) := by
  subst hi
  refine va_last hx hb hK hP hD hS q0 1 ha rfl (vp_in_nI hk hn) hdg ?_
  rw [nI_clamp (Nat.lt_trans hk hn)]
  exact kk
theorem xaaldI (hx : p.tables.exec = Jvm.exec) (hb : c.code = cc) (hK : va_K D cl (tyv C) s) (hP : va_P D cl ws H) (q0 : Nat) {n : Nat} {f : Nat → Option Nat} (ha : ws[q0]? = some (a, eII C n f)) {i : Int32} (k : Nat) (hi : i = nI k) (hk : k < n) (hn : n < 2 ^ 31) {b : Nat} (hf : f k = some b) (hdg : decode cc pc = .ok (.aaload, 1))
    (kk : W p l e R s m args below meth c H locs cells slots Q (F0 m (pc + 1) ls (.ref b :: rest))) : W p l e R s m args below meth c H locs cells slots Q (F0 m pc ls (.int i :: .ref a :: rest)) := by
  subst hi
  have hin := vp_in_nI hk hn
  have hc : (nI k).toNatClampNeg = k := nI_clamp (Nat.lt_trans hk hn)
  exact W.aald (v := .ref b) (ty := .array .int) hx hb (hP q0 _ ha) ((hK.2 3 _ rfl).1 n (fun j => va_rf (f j))) rfl (fun q => by cases q) (by show ¬ (_ < 0 ∨ (arrV _ _ _).slots.size ≤ _); rw [arrV_size]; exact hin) (by show (arrV _ _ _).slots[_]? = _; rw [hc, arrV_read _ _ hk, hf]; rfl) rfl rfl hdg kk
theorem xaaldJ (hx : p.tables.exec = Jvm.exec) (hb : c.code = cc) (hK : va_K D cl (tyv C) s) (hP : va_P D cl ws H) (q0 : Nat) {n : Nat} {f : Nat → Option Nat} (ha : ws[q0]? = some (a, eJJ C n f)) {i : Int32} (k : Nat) (hi : i = nI k) (hk : k < n) (hn : n < 2 ^ 31) {b : Nat} (hf : f k = some b) (hdg : decode cc pc = .ok (.aaload, 1))
    (kk : W p l e R s m args below meth c H locs cells slots Q (F0 m (pc + 1) ls (.ref b :: rest))) : W p l e R s m args below meth c H locs cells slots Q (F0 m pc ls (.int i :: .ref a :: rest)) := by
  subst hi
  have hin := vp_in_nI hk hn
  have hc : (nI k).toNatClampNeg = k := nI_clamp (Nat.lt_trans hk hn)
  exact W.aald (v := .ref b) (ty := .array .long) hx hb (hP q0 _ ha) ((hK.2 4 _ rfl).1 n (fun j => va_rf (f j))) rfl (fun q => by cases q) (by show ¬ (_ < 0 ∨ (arrV _ _ _).slots.size ≤ _); rw [arrV_size]; exact hin) (by show (arrV _ _ _).slots[_]? = _; rw [hc, arrV_read _ _ hk, hf]; rfl) rfl rfl hdg kk
/-- the heap gets a name -/
theorem xgen (hP : va_P D cl ws H) (hS : va_S A H0 H locs) (kk : ∀ (H1 : Heap) (locs1 : List Loc), va_P D cl ws H1 → va_S A H0 H1 locs1 → W p l e R s m args below meth c H1 locs1 cells slots Q (F0 m pc ls st0)) : W p l e R s m args below meth c H locs cells slots Q (F0 m pc ls st0) := kk H locs hP hS
/-- behind calls -/
theorem xri {r : Int32} {av : Array Value} (hr : va_Run p l e R s m args below meth c H locs cells slots 0 0 (F0 m pc ls st0) rest (vp_Si (fun x => x = r) av) (fun _ => False))
    (kk : W p l e R s m args below meth c H locs cells slots Q (F0 m (pc + 3) ls (.int r :: rest))) : W p l e R s m args below meth c H locs cells slots Q (F0 m pc ls st0) := by
  intro T hT X
  obtain ⟨v, st₀, t, T', L, h0, X', hL, e1, -, ⟨r2, hv, hp, hh⟩, st⟩ := hr T hT X
  cases hv
  subst hp
  obtain ⟨t2, a1, b1⟩ := kk T' (by rw [e1, hh, h0]) (Stand.forget X' (fun q h => (hL q h).elim))
  exact ⟨t2, st t2 a1, b1⟩
theorem xrl {r : Int64} {av : Array Value} (hr : va_Run p l e R s m args below meth c H locs cells slots 0 0 (F0 m pc ls st0) rest (vp_Sl (fun x => x = r) av) (fun _ => False))
    (kk : W p l e R s m args below meth c H locs cells slots Q (F0 m (pc + 3) ls (.long r :: rest))) : W p l e R s m args below meth c H locs cells slots Q (F0 m pc ls st0) := by
  intro T hT X
  obtain ⟨v, st₀, t, T', L, h0, X', hL, e1, -, ⟨r2, hv, hp, hh⟩, st⟩ := hr T hT X
  cases hv
  subst hp
  obtain ⟨t2, a1, b1⟩ := kk T' (by rw [e1, hh, h0]) (Stand.forget X' (fun q h => (hL q h).elim))
  exact ⟨t2, st t2 a1, b1⟩
variable {wc wr w1 : va_W} {av : Array Value}
theorem xwv (hr : va_Run p l e R s m args below meth c H locs cells slots 0 0 (F0 m pc ls st0) rest (va_Qv (fun _ : Unit => True) (Be D wc w1 H.size) (va_A wc H.size) av) (va_A wc H.size)) (hP : va_P D vwCl ws H) (hD : va_D A ws) (hS : va_S A H0 H locs) (hA : ∀ q, H0.size ≤ q → A q) (isC isR : List Nat) (hC : isC.map (fun i => ws[i]?) = wc.map some) (hR : isR.map (fun i => ws[i]?) = wr.map some) (hn : va_nd isR = true) (hdis : ∀ i ∈ isR, i ∉ isC)
    (kk : ∀ (H1 : Heap) (locs1 : List Loc), va_P D vwCl (wr ++ w1) H1 → va_D A (wr ++ w1) → va_S A H0 H1 locs1 → W p l e R s m args below meth c H1 locs1 cells slots Q (F0 m (pc + 3) ls rest)) : W p l e R s m args below meth c H locs cells slots Q (F0 m pc ls st0) := by
  have hF := va_free (wc := wc) hD hS hA isC hC
  refine va_callv hr hS (fun q _ h => hF q h) hF (fun _ t H1 locs1 ht _ _ hB _ hk hS1 => ?_)
  obtain ⟨hP1, hD1⟩ := hB
  rw [ht] at hP1
  obtain ⟨hP2, hD2⟩ := va_join hP hD isC isR hC hR hn hdis hk hF hP1 hD1
  exact kk H1 locs1 hP2 hD2 hS1
theorem xwi {r : Int32} (hr : va_Run p l e R s m args below meth c H locs cells slots 0 0 (F0 m pc ls st0) rest (va_Qi (fun (x : Int32) (_ : Unit) => x = r) (Be D wc w1 H.size) (va_A wc H.size) av) (va_A wc H.size)) (hP : va_P D vwCl ws H) (hD : va_D A ws) (hS : va_S A H0 H locs) (hA : ∀ q, H0.size ≤ q → A q) (isC isR : List Nat) (hC : isC.map (fun i => ws[i]?) = wc.map some) (hR : isR.map (fun i => ws[i]?) = wr.map some) (hn : va_nd isR = true) (hdis : ∀ i ∈ isR, i ∉ isC)
    (kk : ∀ (H1 : Heap) (locs1 : List Loc), va_P D vwCl (wr ++ w1) H1 → va_D A (wr ++ w1) → va_S A H0 H1 locs1 → W p l e R s m args below meth c H1 locs1 cells slots Q (F0 m (pc + 3) ls (.int r :: rest))) : W p l e R s m args below meth c H locs cells slots Q (F0 m pc ls st0) := by
  have hF := va_free (wc := wc) hD hS hA isC hC
  refine va_calli hr hS (fun q _ h => hF q h) hF (fun r2 _ t H1 locs1 ht _ hw hB _ hk hS1 => ?_)
  obtain ⟨hP1, hD1⟩ := hB
  rw [ht] at hP1
  subst hw
  obtain ⟨hP2, hD2⟩ := va_join hP hD isC isR hC hR hn hdis hk hF hP1 hD1
  exact kk H1 locs1 hP2 hD2 hS1
theorem xwl {r : Int64} (hr : va_Run p l e R s m args below meth c H locs cells slots 0 0 (F0 m pc ls st0) rest (va_Ql (fun (x : Int64) (_ : Unit) => x = r) (Be D wc w1 H.size) (va_A wc H.size) av) (va_A wc H.size)) (hP : va_P D vwCl ws H) (hD : va_D A ws) (hS : va_S A H0 H locs) (hA : ∀ q, H0.size ≤ q → A q) (isC isR : List Nat) (hC : isC.map (fun i => ws[i]?) = wc.map some) (hR : isR.map (fun i => ws[i]?) = wr.map some) (hn : va_nd isR = true) (hdis : ∀ i ∈ isR, i ∉ isC)
    (kk : ∀ (H1 : Heap) (locs1 : List Loc), va_P D vwCl (wr ++ w1) H1 → va_D A (wr ++ w1) → va_S A H0 H1 locs1 → W p l e R s m args below meth c H1 locs1 cells slots Q (F0 m (pc + 3) ls (.long r :: rest))) : W p l e R s m args below meth c H locs cells slots Q (F0 m pc ls st0) := by
  have hF := va_free (wc := wc) hD hS hA isC hC
  refine va_calll hr hS (fun q _ h => hF q h) hF (fun r2 _ t H1 locs1 ht _ hw hB _ hk hS1 => ?_)
  obtain ⟨hP1, hD1⟩ := hB
  rw [ht] at hP1
  subst hw
  obtain ⟨hP2, hD2⟩ := va_join hP hD isC isR hC hR hn hdis hk hF hP1 hD1
  exact kk H1 locs1 hP2 hD2 hS1
end XL
theorem Bp.blind {D : va_G} {C : Nat → ClassId} {w : va_W} {av : List Value} : FrameBlind (va_Pc av (Bp D C w)) := fun a U g mk q => by
  obtain ⟨q0, qP, qK, qN⟩ := q
  exact ⟨q0, qP, va_K.moved (u := U) (U := U.calling g mk a) (Vm.Alike.refl U.vm) qK, nw.same (u := U) rfl qN⟩
theorem Bw.blind {D : va_G} {C : Nat → ClassId} {w : va_W} {sz : Nat} {av : List Value} : FrameBlind (va_Pc av (Bw D C w sz)) := fun a U g mk q => by
  obtain ⟨q0, q1, qP, qK, qN, qD⟩ := q
  exact ⟨q0, q1, qP, va_K.moved (u := U) (U := U.calling g mk a) (Vm.Alike.refl U.vm) qK, nw.same (u := U) rfl qN, qD⟩
theorem B0.blind {av : List Value} : FrameBlind (va_Pc av (fun _ => True)) := fun a U g mk q => ⟨q.1, trivial⟩
section XP
variable {s : State} {H : Heap} {D : va_G} {C : Nat → ClassId} {w : va_W} {A : Nat → Prop} {As : List Value} {b : Nat}
theorem pS0 : PreS s H (va_Pc As (fun _ => True)) As := ⟨B0.blind, fun _ _ _ => ⟨rfl, trivial⟩⟩
theorem pSr (hP : va_P D vwCl w H) (hK : va_K D vwCl (tyv C) s) (hN : nw s) : PreS s H (va_Pc As (Bp D C w)) As :=
  ⟨Bp.blind, fun U hU hW => ⟨rfl, by rw [hU]; exact hP, va_K.moved hW.alike hK, nw.warm hW hN⟩⟩
theorem pVr {y : String} {T : u_T} {N ci : Nat} {fs : List Value} (hP : va_P D vwCl w H) (hK : va_K D vwCl (tyv C) s) (hN : nw s) (q0 : Nat) (he : w[q0]? = some (b, .inr (ci, fs))) (hc : vwCl[ci]? = some (y, T, N)) : PreV s H y b (va_Pc (.ref b :: As) (Bp D C w)) As :=
  ⟨Bp.blind, va_recv hK hP hc he, fun U hU hW => ⟨rfl, by rw [hU]; exact hP, va_K.moved hW.alike hK, nw.warm hW hN⟩⟩
theorem pVw {y : String} {T : u_T} {N ci : Nat} {fs : List Value} (hP : va_P D vwCl w H) (hD : va_D A w) (hK : va_K D vwCl (tyv C) s) (hN : nw s) (q0 : Nat) (he : w[q0]? = some (b, .inr (ci, fs))) (hc : vwCl[ci]? = some (y, T, N)) : PreV s H y b (va_Pc (.ref b :: As) (Bw D C w H.size)) As :=
  ⟨Bw.blind, va_recv hK hP hc he, fun U hU hW => ⟨rfl, by rw [hU], by rw [hU]; exact hP, va_K.moved hW.alike hK, nw.warm hW hN, hD.weaken (fun _ _ _ _ => trivial)⟩⟩
end XP
section XR
variable {p : Program} {l : Launch} {e : Env} {R : Room} {s : State} {m : MethodId} {args : Array Value} {below : List Frame} {meth : Method} {c : Code} {H : Heap} {locs : List Loc} {cells slots : Nat}
variable {y : MethodName} {bytes cc : ByteArray} {maxL nL mc ms index n : Nat} {ret : Option FieldType} {rm : Room} {Pc : Array Value → State → Prop} {Qc : Array Value → State → Outcome → State → Prop} {free : Addr → Prop} {own host : String} {b : Addr} {As rest : List Value} {pc : Nat} {ls : Array Slot} {st0 : List Value}
theorem hd_of {y : MethodName} {n : Nat} (h : (parseMethodDescriptor y.desc).map (fun d => d.parameters.length) = some n) : ∀ sig, parseMethodDescriptor y.desc = some sig → n = sig.parameters.length := fun sig h1 => by
  rw [h1] at h
  exact (Option.some.inj h).symm
theorem rV (S : CallFix p m c cc nL s args WA own) (hM : Met l y (wm y bytes maxL ret) rm Pc Qc mc ms free) (hcd : Cond.code y bytes maxL ret ∈ WA) (hl : Cond.methodLink own index y ∈ WA) (him : Cond.instanceMethod y ∈ WA) (hse : Cond.selects y.cls y y ∈ WA) (hini : Cond.initialized y.cls ∈ WA)
    (hd : y.cls ≠ "java/lang/invoke/MethodHandle" ∧ y.cls ≠ "java/lang/invoke/VarHandle" ∧ (parseMethodDescriptor y.desc).map (fun d => d.parameters.length) = some n) (hR : rm.frames + 1 ≤ R.frames ∧ 8 + (maxL + 11) + rm.locals ≤ R.locals) (hp : PreV s H y.cls b Pc As)
    (hsize : ls.size = nL) (hstack : st0 = As.reverse ++ .ref b :: rest) (hWs : (rest.map fun v => v.category).sum ≤ 8) (hdg : decode cc pc = .ok (.invokevirtual index, 3)) (hf : cells + mc ≤ R.cells ∧ slots + ms ≤ R.slots) (hrc : rm.cells = mc) (hrs : rm.slots = ms) (hn : As.length = n) :
    va_Run p l e R s m args below meth c H locs cells slots mc ms (F0 m pc ls st0) rest (Qc (Value.ref b :: As).toArray) free :=
  va_runV S hM ⟨⟨hrc, hrs, hR.1, hR.2, pay_in S.2.2.2.2 (wm_good hcd), List.mem_cons_self, S.2.2.2.2 _ hcd, S.2.2.2.2 _ hini, ⟨hd.1, hd.2.1⟩, hd_of hd.2.2, S.2.2.2.2 _ hl⟩, S.2.2.2.2 _ him, S.2.2.2.2 _ hse⟩ hp rfl hn hsize hstack (lv_room hWs) hdg hf
theorem rVN (S : CallFix p m c cc nL s args WA own) (hM : Met l y (wm y bytes maxL ret) rm Pc Qc mc ms free) (hcd : Cond.code y bytes maxL ret ∈ WA) (hl : va_Nw (.methodLinkNest own index y host) s) (him : Cond.instanceMethod y ∈ WA) (hse : Cond.selects y.cls y y ∈ WA) (hini : Cond.initialized y.cls ∈ WA)
    (hd : y.cls ≠ "java/lang/invoke/MethodHandle" ∧ y.cls ≠ "java/lang/invoke/VarHandle" ∧ (parseMethodDescriptor y.desc).map (fun d => d.parameters.length) = some n) (hR : rm.frames + 1 ≤ R.frames ∧ 8 + (maxL + 11) + rm.locals ≤ R.locals) (hp : PreV s H y.cls b Pc As)
    (hsize : ls.size = nL) (hstack : st0 = As.reverse ++ .ref b :: rest) (hWs : (rest.map fun v => v.category).sum ≤ 8) (hdg : decode cc pc = .ok (.invokevirtual index, 3)) (hf : cells + mc ≤ R.cells ∧ slots + ms ≤ R.slots) (hrc : rm.cells = mc) (hrs : rm.slots = ms) (hn : As.length = n) :
    va_Run p l e R s m args below meth c H locs cells slots mc ms (F0 m pc ls st0) rest (Qc (Value.ref b :: As).toArray) free :=
  va_runVN S hM ⟨⟨⟨hrc, hrs, hR.1, hR.2, pay_in S.2.2.2.2 (wm_good hcd), List.mem_cons_self⟩, S.2.2.2.2 _ hcd, S.2.2.2.2 _ hini, ⟨hd.1, hd.2.1⟩, hd_of hd.2.2, va_Nw.use rfl hl⟩, S.2.2.2.2 _ him, S.2.2.2.2 _ hse⟩ hp rfl hn hsize hstack (lv_room hWs) hdg hf
theorem rS (S : CallFix p m c cc nL s args WA own) (hM : Met l y (wm y bytes maxL ret) rm Pc Qc mc ms free) (hcd : Cond.code y bytes maxL ret ∈ WA) (hl : Cond.methodLink own index y ∈ WA) (hst : Cond.static y ∈ WA) (hini : Cond.initialized y.cls ∈ WA)
    (hd : y.cls ≠ "java/lang/invoke/MethodHandle" ∧ y.cls ≠ "java/lang/invoke/VarHandle" ∧ (parseMethodDescriptor y.desc).map (fun d => d.parameters.length) = some n) (hR : rm.frames + 1 ≤ R.frames ∧ 8 + (maxL + 11) + rm.locals ≤ R.locals) (hp : PreS s H Pc As)
    (hsize : ls.size = nL) (hstack : st0 = As.reverse ++ rest) (hWs : (rest.map fun v => v.category).sum ≤ 8) (hdg : decode cc pc = .ok (.invokestatic index, 3)) (hf : cells + mc ≤ R.cells ∧ slots + ms ≤ R.slots) (hrc : rm.cells = mc) (hrs : rm.slots = ms) (hn : As.length = n) :
    va_Run p l e R s m args below meth c H locs cells slots mc ms (F0 m pc ls st0) rest (Qc As.toArray) free :=
  va_runS S hM ⟨⟨hrc, hrs, hR.1, hR.2, pay_in S.2.2.2.2 (wm_good hcd), List.mem_cons_self, S.2.2.2.2 _ hcd, S.2.2.2.2 _ hini, ⟨hd.1, hd.2.1⟩, hd_of hd.2.2, S.2.2.2.2 _ hl⟩, S.2.2.2.2 _ hst⟩ hp rfl hn hsize hstack (lv_room hWs) hdg hf
theorem rSN (S : CallFix p m c cc nL s args WA own) (hM : Met l y (wm y bytes maxL ret) rm Pc Qc mc ms free) (hcd : Cond.code y bytes maxL ret ∈ WA) (hl : va_Nw (.methodLinkNest own index y host) s) (hst : Cond.static y ∈ WA) (hini : Cond.initialized y.cls ∈ WA)
    (hd : y.cls ≠ "java/lang/invoke/MethodHandle" ∧ y.cls ≠ "java/lang/invoke/VarHandle" ∧ (parseMethodDescriptor y.desc).map (fun d => d.parameters.length) = some n) (hR : rm.frames + 1 ≤ R.frames ∧ 8 + (maxL + 11) + rm.locals ≤ R.locals) (hp : PreS s H Pc As)
    (hsize : ls.size = nL) (hstack : st0 = As.reverse ++ rest) (hWs : (rest.map fun v => v.category).sum ≤ 8) (hdg : decode cc pc = .ok (.invokestatic index, 3)) (hf : cells + mc ≤ R.cells ∧ slots + ms ≤ R.slots) (hrc : rm.cells = mc) (hrs : rm.slots = ms) (hn : As.length = n) :
    va_Run p l e R s m args below meth c H locs cells slots mc ms (F0 m pc ls st0) rest (Qc As.toArray) free :=
  va_runSN S hM ⟨⟨⟨hrc, hrs, hR.1, hR.2, pay_in S.2.2.2.2 (wm_good hcd), List.mem_cons_self⟩, S.2.2.2.2 _ hcd, S.2.2.2.2 _ hini, ⟨hd.1, hd.2.1⟩, hd_of hd.2.2, va_Nw.use rfl hl⟩, S.2.2.2.2 _ hst, trivial⟩ hp rfl hn hsize hstack (lv_room hWs) hdg hf
end XR
section XC
variable {p : Program} {l : Launch} {e : Env} {R : Room} {s : State} {m : MethodId} {args : Array Value} {below : List Frame} {meth : Method} {c : Code} {H : Heap} {locs : List Loc} {cells slots : Nat} {Q : State → Prop}
variable {cc : ByteArray} {pc : Nat} {ls : Array Slot} {rest : List Value} {x y : Int64} {off : Int} {tgt : Nat}
theorem xlcmp_lt (hx : p.tables.exec = Jvm.exec) (hb : c.code = cc) (hd1 : decode cc pc = .ok (.lcmp, 1)) (hd2 : decode cc (pc + 1) = .ok (.ifCond .lt off, 3)) (ht : ((pc + 1 : Nat) : Int) + off = (tgt : Int))
    (kt : x < y → W p l e R s m args below meth c H locs cells slots Q (F0 m tgt ls rest)) (kf : ¬ x < y → W p l e R s m args below meth c H locs cells slots Q (F0 m (pc + 1 + 3) ls rest)) : W p l e R s m args below meth c H locs cells slots Q (F0 m pc ls (.long y :: .long x :: rest)) :=
  W.lcmp hx hb hd1 (lv_if_lt hx hb hd2 ht (fun h => kt ((lg_cmp_lt x y).mp h)) (fun h => kf (fun q => h ((lg_cmp_lt x y).mpr q))))
theorem xlcmp_ge (hx : p.tables.exec = Jvm.exec) (hb : c.code = cc) (hd1 : decode cc pc = .ok (.lcmp, 1)) (hd2 : decode cc (pc + 1) = .ok (.ifCond .ge off, 3)) (ht : ((pc + 1 : Nat) : Int) + off = (tgt : Int))
    (kt : y ≤ x → W p l e R s m args below meth c H locs cells slots Q (F0 m tgt ls rest)) (kf : ¬ y ≤ x → W p l e R s m args below meth c H locs cells slots Q (F0 m (pc + 1 + 3) ls rest)) : W p l e R s m args below meth c H locs cells slots Q (F0 m pc ls (.long y :: .long x :: rest)) :=
  W.lcmp hx hb hd1 (lv_if_ge hx hb hd2 ht (fun h => kt ((lg_cmp_ge x y).mp h)) (fun h => kf (fun q => h ((lg_cmp_ge x y).mpr q))))
theorem xlcmp_gt (hx : p.tables.exec = Jvm.exec) (hb : c.code = cc) (hd1 : decode cc pc = .ok (.lcmp, 1)) (hd2 : decode cc (pc + 1) = .ok (.ifCond .gt off, 3)) (ht : ((pc + 1 : Nat) : Int) + off = (tgt : Int))
    (kt : y < x → W p l e R s m args below meth c H locs cells slots Q (F0 m tgt ls rest)) (kf : ¬ y < x → W p l e R s m args below meth c H locs cells slots Q (F0 m (pc + 1 + 3) ls rest)) : W p l e R s m args below meth c H locs cells slots Q (F0 m pc ls (.long y :: .long x :: rest)) :=
  W.lcmp hx hb hd1 (lv_if_gt hx hb hd2 ht (fun h => kt ((lg_cmp_gt x y).mp h)) (fun h => kf (fun q => h ((lg_cmp_gt x y).mpr q))))
theorem xlcmp_le (hx : p.tables.exec = Jvm.exec) (hb : c.code = cc) (hd1 : decode cc pc = .ok (.lcmp, 1)) (hd2 : decode cc (pc + 1) = .ok (.ifCond .le off, 3)) (ht : ((pc + 1 : Nat) : Int) + off = (tgt : Int))
    (kt : x ≤ y → W p l e R s m args below meth c H locs cells slots Q (F0 m tgt ls rest)) (kf : ¬ x ≤ y → W p l e R s m args below meth c H locs cells slots Q (F0 m (pc + 1 + 3) ls rest)) : W p l e R s m args below meth c H locs cells slots Q (F0 m pc ls (.long y :: .long x :: rest)) :=
  W.lcmp hx hb hd1 (lv_if_le hx hb hd2 ht (fun h => kt ((lg_cmp_le x y).mp h)) (fun h => kf (fun q => h ((lg_cmp_le x y).mpr q))))
theorem xlcmp_eq (hx : p.tables.exec = Jvm.exec) (hb : c.code = cc) (hd1 : decode cc pc = .ok (.lcmp, 1)) (hd2 : decode cc (pc + 1) = .ok (.ifCond .eq off, 3)) (ht : ((pc + 1 : Nat) : Int) + off = (tgt : Int))
    (kt : x = y → W p l e R s m args below meth c H locs cells slots Q (F0 m tgt ls rest)) (kf : ¬ x = y → W p l e R s m args below meth c H locs cells slots Q (F0 m (pc + 1 + 3) ls rest)) : W p l e R s m args below meth c H locs cells slots Q (F0 m pc ls (.long y :: .long x :: rest)) :=
  W.lcmp hx hb hd1 (lv_if_eq hx hb hd2 ht (fun h => kt ((lg_cmp_eq x y).mp h)) (fun h => kf (fun q => h ((lg_cmp_eq x y).mpr q))))
theorem xlcmp_ne (hx : p.tables.exec = Jvm.exec) (hb : c.code = cc) (hd1 : decode cc pc = .ok (.lcmp, 1)) (hd2 : decode cc (pc + 1) = .ok (.ifCond .ne off, 3)) (ht : ((pc + 1 : Nat) : Int) + off = (tgt : Int))
    (kt : ¬ x = y → W p l e R s m args below meth c H locs cells slots Q (F0 m tgt ls rest)) (kf : x = y → W p l e R s m args below meth c H locs cells slots Q (F0 m (pc + 1 + 3) ls rest)) : W p l e R s m args below meth c H locs cells slots Q (F0 m pc ls (.long y :: .long x :: rest)) :=
  W.lcmp hx hb hd1 (lv_if_ne hx hb hd2 ht (fun h => kt (fun q => h ((lg_cmp_eq x y).mpr q))) (fun h => kf ((lg_cmp_eq x y).mp h)))
end XC
/-- a bundle of rows, one row new -/
def uM {α : Type} (Z : Nat → Nat → α) (k : Nat) (r : Nat → α) : Nat → Nat → α := fun j => bif Nat.beq j k then r else Z j
theorem uM_same {α : Type} (Z : Nat → Nat → α) (k : Nat) (r : Nat → α) : uM Z k r k = r := by simp [uM]
theorem uM_ne {α : Type} (Z : Nat → Nat → α) {k j : Nat} (r : Nat → α) (h : j ≠ k) : uM Z k r j = Z j := by
  unfold uM
  rw [show Nat.beq j k = false from by rw [← Bool.not_eq_true, Nat.beq_eq]; exact h]
  rfl
def ix (x : Int32) : Nat := x.toNatClampNeg
theorem ix_nI {k : Nat} (h : k < 2 ^ 31) : ix (nI k) = k := nI_clamp h
theorem nI_lit (n : Nat) : (OfNat.ofNat n : Int32) = nI n := rfl
def rr (a : Nat → Nat) (b n : Nat) : Nat → Option Nat := fun j => bif Nat.blt j n then some (a (b + j)) else none
theorem rr_lt {a : Nat → Nat} {b n j : Nat} (h : j < n) : rr a b n j = some (a (b + j)) := by
  unfold rr
  rw [show Nat.blt j n = true from by rw [Nat.blt_eq]; exact h]
  rfl
section XT
variable {p : Program} {l : Launch} {e : Env} {R : Room} {s : State} {m : MethodId} {args : Array Value} {below : List Frame} {meth : Method} {c : Code} {H : Heap} {locs : List Loc} {cells slots : Nat} {Q : State → Prop}
variable {pc : Nat} {ls : Array Slot} {rest : List Value}
theorem xtopi {x y : Int32} (h : x = y) (k : W p l e R s m args below meth c H locs cells slots Q (F0 m pc ls (.int y :: rest))) : W p l e R s m args below meth c H locs cells slots Q (F0 m pc ls (.int x :: rest)) := h ▸ k
theorem xtopl {x y : Int64} (h : x = y) (k : W p l e R s m args below meth c H locs cells slots Q (F0 m pc ls (.long y :: rest))) : W p l e R s m args below meth c H locs cells slots Q (F0 m pc ls (.long x :: rest)) := h ▸ k
end XT
theorem nI_nle_of {a b : Nat} (h : ¬ nI b ≤ nI a) (ha : a < 2 ^ 31) (hb : b < 2 ^ 31) : a < b := by
  rcases Nat.lt_or_ge a b with q | q
  · exact q
  · exact absurd (nI_le q ha) h
/-- loop tests: at the end, and before it -/
theorem lt_end {k N : Nat} {c : Prop} (h : k + 0 = N) (hN : N < 2 ^ 31) (q : ¬ nI N ≤ nI k) : c := absurd (nI_le (by omega) (by omega)) q
theorem lt_go {k n N : Nat} {c : Prop} (h : k + (n + 1) = N) (hN : N < 2 ^ 31) (q : nI N ≤ nI k) : c := absurd q (nI_ge (by omega) (by omega))
/-! whole numbers behind Int32 -/
theorem q_add {x y : Int32} {a b : Nat} (hx : x = nI a) (hy : y = nI b) : x + y = nI (a + b) := by rw [hx, hy, nI_add]
theorem q_mul {x y : Int32} {a b : Nat} (hx : x = nI a) (hy : y = nI b) : x * y = nI (a * b) := by rw [hx, hy, pk_mul]
theorem q_sub {x y : Int32} {a b : Nat} (hx : x = nI a) (hy : y = nI b) (h : b ≤ a) : x - y = nI (a - b) := by rw [hx, hy, pk_sub h]
theorem q_div {x y : Int32} {a b : Nat} (hx : x = nI a) (hy : y = nI b) (ha : a < 2 ^ 31) (h0 : 0 < b) (hb : b < 2 ^ 31) : x / y = nI (a / b) := by rw [hx, hy, pk_div ha h0 hb]
theorem q_rem {x y : Int32} {a b : Nat} (hx : x = nI a) (hy : y = nI b) (ha : a < 2 ^ 31) (h0 : 0 < b) (hb : b < 2 ^ 31) : x - x / y * y = nI (a % b) := by rw [hx, hy, pk_rem ha h0 hb]
theorem q_le {x y : Int32} {a b : Nat} (hx : x = nI a) (hy : y = nI b) (h : a ≤ b) (hb : b < 2 ^ 31) : x ≤ y := by rw [hx, hy]; exact nI_le h hb
theorem q_nle {x y : Int32} {a b : Nat} (hx : x = nI a) (hy : y = nI b) (h : b < a) (ha : a < 2 ^ 31) : ¬ x ≤ y := by rw [hx, hy]; exact nI_ge h ha
theorem q_ne0 {y : Int32} {b : Nat} (hy : y = nI b) (h0 : 0 < b) (hb : b < 2 ^ 31) : ¬ y = 0 := by rw [hy]; exact nI_ne0 h0 hb
theorem q_of_ne0 {y : Int32} {b : Nat} (hy : y = nI b) (h : ¬ y = 0) : 0 < b := by
  rcases Nat.eq_zero_or_pos b with q | q
  · subst q; exact absurd hy h
  · exact q
end
section
def absI (x : Int32) : Int32 := if 0 ≤ x then x else 0 - x
def absL (x : Int64) : Int64 := if 0 < x then x else -x
def maxL (x y : Int64) : Int64 := if y < x then x else y

def bitC (x : Int32) : Int32 := ((((((((x - (((x.toUInt32 >>> ((1 : Int32).toUInt32 &&& Int32.toUInt32 31)).toInt32) &&& 1431655765)) &&& 858993459) + ((((x - (((x.toUInt32 >>> ((1 : Int32).toUInt32 &&& Int32.toUInt32 31)).toInt32) &&& 1431655765)).toUInt32 >>> ((2 : Int32).toUInt32 &&& Int32.toUInt32 31)).toInt32) &&& 858993459)) + (((((x - (((x.toUInt32 >>> ((1 : Int32).toUInt32 &&& Int32.toUInt32 31)).toInt32) &&& 1431655765)) &&& 858993459) + ((((x - (((x.toUInt32 >>> ((1 : Int32).toUInt32 &&& Int32.toUInt32 31)).toInt32) &&& 1431655765)).toUInt32 >>> ((2 : Int32).toUInt32 &&& Int32.toUInt32 31)).toInt32) &&& 858993459)).toUInt32 >>> ((4 : Int32).toUInt32 &&& Int32.toUInt32 31)).toInt32)) &&& 252645135) + (((((((x - (((x.toUInt32 >>> ((1 : Int32).toUInt32 &&& Int32.toUInt32 31)).toInt32) &&& 1431655765)) &&& 858993459) + ((((x - (((x.toUInt32 >>> ((1 : Int32).toUInt32 &&& Int32.toUInt32 31)).toInt32) &&& 1431655765)).toUInt32 >>> ((2 : Int32).toUInt32 &&& Int32.toUInt32 31)).toInt32) &&& 858993459)) + (((((x - (((x.toUInt32 >>> ((1 : Int32).toUInt32 &&& Int32.toUInt32 31)).toInt32) &&& 1431655765)) &&& 858993459) + ((((x - (((x.toUInt32 >>> ((1 : Int32).toUInt32 &&& Int32.toUInt32 31)).toInt32) &&& 1431655765)).toUInt32 >>> ((2 : Int32).toUInt32 &&& Int32.toUInt32 31)).toInt32) &&& 858993459)).toUInt32 >>> ((4 : Int32).toUInt32 &&& Int32.toUInt32 31)).toInt32)) &&& 252645135).toUInt32 >>> ((8 : Int32).toUInt32 &&& Int32.toUInt32 31)).toInt32)) + ((((((((x - (((x.toUInt32 >>> ((1 : Int32).toUInt32 &&& Int32.toUInt32 31)).toInt32) &&& 1431655765)) &&& 858993459) + ((((x - (((x.toUInt32 >>> ((1 : Int32).toUInt32 &&& Int32.toUInt32 31)).toInt32) &&& 1431655765)).toUInt32 >>> ((2 : Int32).toUInt32 &&& Int32.toUInt32 31)).toInt32) &&& 858993459)) + (((((x - (((x.toUInt32 >>> ((1 : Int32).toUInt32 &&& Int32.toUInt32 31)).toInt32) &&& 1431655765)) &&& 858993459) + ((((x - (((x.toUInt32 >>> ((1 : Int32).toUInt32 &&& Int32.toUInt32 31)).toInt32) &&& 1431655765)).toUInt32 >>> ((2 : Int32).toUInt32 &&& Int32.toUInt32 31)).toInt32) &&& 858993459)).toUInt32 >>> ((4 : Int32).toUInt32 &&& Int32.toUInt32 31)).toInt32)) &&& 252645135) + (((((((x - (((x.toUInt32 >>> ((1 : Int32).toUInt32 &&& Int32.toUInt32 31)).toInt32) &&& 1431655765)) &&& 858993459) + ((((x - (((x.toUInt32 >>> ((1 : Int32).toUInt32 &&& Int32.toUInt32 31)).toInt32) &&& 1431655765)).toUInt32 >>> ((2 : Int32).toUInt32 &&& Int32.toUInt32 31)).toInt32) &&& 858993459)) + (((((x - (((x.toUInt32 >>> ((1 : Int32).toUInt32 &&& Int32.toUInt32 31)).toInt32) &&& 1431655765)) &&& 858993459) + ((((x - (((x.toUInt32 >>> ((1 : Int32).toUInt32 &&& Int32.toUInt32 31)).toInt32) &&& 1431655765)).toUInt32 >>> ((2 : Int32).toUInt32 &&& Int32.toUInt32 31)).toInt32) &&& 858993459)).toUInt32 >>> ((4 : Int32).toUInt32 &&& Int32.toUInt32 31)).toInt32)) &&& 252645135).toUInt32 >>> ((8 : Int32).toUInt32 &&& Int32.toUInt32 31)).toInt32)).toUInt32 >>> ((16 : Int32).toUInt32 &&& Int32.toUInt32 31)).toInt32)) &&& 63)
set_option maxHeartbeats 4000000 in
set_option maxRecDepth 100000 in
theorem kJ6_bitCount_0f7a4 (l : Launch) (x : Int32)  : Si l yJ6_bitCount_0f7a4 cJ6_bitCount_0f7a4 1 .int 0 [.int x] (bitC x) := by
  refine Met.ofW (cc := cJ6_bitCount_0f7a4) (maxL := 1) (ret := (some .int)) (by decide) rfl ?_
  intro p e s m args below meth c s₁ B hml hv
  obtain ⟨rfl, -⟩ := hv
  have hx := B.exec
  have hb := B.bytes
  have hr := B.returns
  have hts := atoms_spec (ws := wm yJ6_bitCount_0f7a4 cJ6_bitCount_0f7a4 1 (some .int)) B.pre
  have hown : s.vm.findClass RJ6 = some m.cls := findClass_of_methodNamed B.named
  have hlocks := B.notSynchronized
  have hW : ∀ w ∈ WA, w.before _ s = true := fun w h => hts w (List.mem_cons_of_mem _ h)
  have hl := lv_entry ([.int x]) (n := 1) (Nat.le_of_ble_eq_true rfl)
  rw [lg_entry_eq]
  generalize (lg_sl ([.int x]) ++ List.replicate (1 - (lg_sl ([.int x])).length) Slot.unset).toArray = ls at hl ⊢
  have hl : lv_has ls 1 [(0, .int x)] := hl
  refine lv_iload_n hx hb dJ6_bitCount_0f7a4_0 rfl (lv_at hl 0 rfl) ?_
  refine lv_iload_n hx hb dJ6_bitCount_0f7a4_1 rfl (lv_at hl 0 rfl) ?_
  refine lv_iconst (v := 1) hx hb dJ6_bitCount_0f7a4_2 (by decide) ?_
  refine lv_iushr hx hb dJ6_bitCount_0f7a4_3 rfl ?_
  refine lv_ldcw hx hb hown (hW _ (wa tw302 rfl)) dJ6_bitCount_0f7a4_4 ?_
  refine lv_iand hx hb dJ6_bitCount_0f7a4_7 ?_
  refine lv_isub hx hb dJ6_bitCount_0f7a4_8 ?_
  refine lv_istore_n (lv' := [(0, .int (x - (((x.toUInt32 >>> ((1 : Int32).toUInt32 &&& Int32.toUInt32 31)).toInt32) &&& 1431655765)))]) hx hb dJ6_bitCount_0f7a4_9 rfl hl (by decide) rfl (fun ls hl => ?_)
  refine lv_iload_n hx hb dJ6_bitCount_0f7a4_10 rfl (lv_at hl 0 rfl) ?_
  refine lv_ldcw hx hb hown (hW _ (wa tw303 rfl)) dJ6_bitCount_0f7a4_11 ?_
  refine lv_iand hx hb dJ6_bitCount_0f7a4_14 ?_
  refine lv_iload_n hx hb dJ6_bitCount_0f7a4_15 rfl (lv_at hl 0 rfl) ?_
  refine lv_iconst (v := 2) hx hb dJ6_bitCount_0f7a4_16 (by decide) ?_
  refine lv_iushr hx hb dJ6_bitCount_0f7a4_17 rfl ?_
  refine lv_ldcw hx hb hown (hW _ (wa tw303 rfl)) dJ6_bitCount_0f7a4_18 ?_
  refine lv_iand hx hb dJ6_bitCount_0f7a4_21 ?_
  refine lv_iadd hx hb dJ6_bitCount_0f7a4_22 ?_
  refine lv_istore_n (lv' := [(0, .int (((x - (((x.toUInt32 >>> ((1 : Int32).toUInt32 &&& Int32.toUInt32 31)).toInt32) &&& 1431655765)) &&& 858993459) + ((((x - (((x.toUInt32 >>> ((1 : Int32).toUInt32 &&& Int32.toUInt32 31)).toInt32) &&& 1431655765)).toUInt32 >>> ((2 : Int32).toUInt32 &&& Int32.toUInt32 31)).toInt32) &&& 858993459)))]) hx hb dJ6_bitCount_0f7a4_23 rfl hl (by decide) rfl (fun ls hl => ?_)
  refine lv_iload_n hx hb dJ6_bitCount_0f7a4_24 rfl (lv_at hl 0 rfl) ?_
  refine lv_iload_n hx hb dJ6_bitCount_0f7a4_25 rfl (lv_at hl 0 rfl) ?_
  refine lv_iconst (v := 4) hx hb dJ6_bitCount_0f7a4_26 (by decide) ?_
  refine lv_iushr hx hb dJ6_bitCount_0f7a4_27 rfl ?_
  refine lv_iadd hx hb dJ6_bitCount_0f7a4_28 ?_
  refine lv_ldcw hx hb hown (hW _ (wa tw304 rfl)) dJ6_bitCount_0f7a4_29 ?_
  refine lv_iand hx hb dJ6_bitCount_0f7a4_32 ?_
  refine lv_istore_n (lv' := [(0, .int (((((x - (((x.toUInt32 >>> ((1 : Int32).toUInt32 &&& Int32.toUInt32 31)).toInt32) &&& 1431655765)) &&& 858993459) + ((((x - (((x.toUInt32 >>> ((1 : Int32).toUInt32 &&& Int32.toUInt32 31)).toInt32) &&& 1431655765)).toUInt32 >>> ((2 : Int32).toUInt32 &&& Int32.toUInt32 31)).toInt32) &&& 858993459)) + (((((x - (((x.toUInt32 >>> ((1 : Int32).toUInt32 &&& Int32.toUInt32 31)).toInt32) &&& 1431655765)) &&& 858993459) + ((((x - (((x.toUInt32 >>> ((1 : Int32).toUInt32 &&& Int32.toUInt32 31)).toInt32) &&& 1431655765)).toUInt32 >>> ((2 : Int32).toUInt32 &&& Int32.toUInt32 31)).toInt32) &&& 858993459)).toUInt32 >>> ((4 : Int32).toUInt32 &&& Int32.toUInt32 31)).toInt32)) &&& 252645135))]) hx hb dJ6_bitCount_0f7a4_33 rfl hl (by decide) rfl (fun ls hl => ?_)
  refine lv_iload_n hx hb dJ6_bitCount_0f7a4_34 rfl (lv_at hl 0 rfl) ?_
  refine lv_iload_n hx hb dJ6_bitCount_0f7a4_35 rfl (lv_at hl 0 rfl) ?_
  refine lv_bipush (v := 8) hx hb dJ6_bitCount_0f7a4_36 (by decide) ?_
  refine lv_iushr hx hb dJ6_bitCount_0f7a4_38 rfl ?_
  refine lv_iadd hx hb dJ6_bitCount_0f7a4_39 ?_
  refine lv_istore_n (lv' := [(0, .int ((((((x - (((x.toUInt32 >>> ((1 : Int32).toUInt32 &&& Int32.toUInt32 31)).toInt32) &&& 1431655765)) &&& 858993459) + ((((x - (((x.toUInt32 >>> ((1 : Int32).toUInt32 &&& Int32.toUInt32 31)).toInt32) &&& 1431655765)).toUInt32 >>> ((2 : Int32).toUInt32 &&& Int32.toUInt32 31)).toInt32) &&& 858993459)) + (((((x - (((x.toUInt32 >>> ((1 : Int32).toUInt32 &&& Int32.toUInt32 31)).toInt32) &&& 1431655765)) &&& 858993459) + ((((x - (((x.toUInt32 >>> ((1 : Int32).toUInt32 &&& Int32.toUInt32 31)).toInt32) &&& 1431655765)).toUInt32 >>> ((2 : Int32).toUInt32 &&& Int32.toUInt32 31)).toInt32) &&& 858993459)).toUInt32 >>> ((4 : Int32).toUInt32 &&& Int32.toUInt32 31)).toInt32)) &&& 252645135) + (((((((x - (((x.toUInt32 >>> ((1 : Int32).toUInt32 &&& Int32.toUInt32 31)).toInt32) &&& 1431655765)) &&& 858993459) + ((((x - (((x.toUInt32 >>> ((1 : Int32).toUInt32 &&& Int32.toUInt32 31)).toInt32) &&& 1431655765)).toUInt32 >>> ((2 : Int32).toUInt32 &&& Int32.toUInt32 31)).toInt32) &&& 858993459)) + (((((x - (((x.toUInt32 >>> ((1 : Int32).toUInt32 &&& Int32.toUInt32 31)).toInt32) &&& 1431655765)) &&& 858993459) + ((((x - (((x.toUInt32 >>> ((1 : Int32).toUInt32 &&& Int32.toUInt32 31)).toInt32) &&& 1431655765)).toUInt32 >>> ((2 : Int32).toUInt32 &&& Int32.toUInt32 31)).toInt32) &&& 858993459)).toUInt32 >>> ((4 : Int32).toUInt32 &&& Int32.toUInt32 31)).toInt32)) &&& 252645135).toUInt32 >>> ((8 : Int32).toUInt32 &&& Int32.toUInt32 31)).toInt32)))]) hx hb dJ6_bitCount_0f7a4_40 rfl hl (by decide) rfl (fun ls hl => ?_)
  refine lv_iload_n hx hb dJ6_bitCount_0f7a4_41 rfl (lv_at hl 0 rfl) ?_
  refine lv_iload_n hx hb dJ6_bitCount_0f7a4_42 rfl (lv_at hl 0 rfl) ?_
  refine lv_bipush (v := 16) hx hb dJ6_bitCount_0f7a4_43 (by decide) ?_
  refine lv_iushr hx hb dJ6_bitCount_0f7a4_45 rfl ?_
  refine lv_iadd hx hb dJ6_bitCount_0f7a4_46 ?_
  refine lv_istore_n (lv' := [(0, .int (((((((x - (((x.toUInt32 >>> ((1 : Int32).toUInt32 &&& Int32.toUInt32 31)).toInt32) &&& 1431655765)) &&& 858993459) + ((((x - (((x.toUInt32 >>> ((1 : Int32).toUInt32 &&& Int32.toUInt32 31)).toInt32) &&& 1431655765)).toUInt32 >>> ((2 : Int32).toUInt32 &&& Int32.toUInt32 31)).toInt32) &&& 858993459)) + (((((x - (((x.toUInt32 >>> ((1 : Int32).toUInt32 &&& Int32.toUInt32 31)).toInt32) &&& 1431655765)) &&& 858993459) + ((((x - (((x.toUInt32 >>> ((1 : Int32).toUInt32 &&& Int32.toUInt32 31)).toInt32) &&& 1431655765)).toUInt32 >>> ((2 : Int32).toUInt32 &&& Int32.toUInt32 31)).toInt32) &&& 858993459)).toUInt32 >>> ((4 : Int32).toUInt32 &&& Int32.toUInt32 31)).toInt32)) &&& 252645135) + (((((((x - (((x.toUInt32 >>> ((1 : Int32).toUInt32 &&& Int32.toUInt32 31)).toInt32) &&& 1431655765)) &&& 858993459) + ((((x - (((x.toUInt32 >>> ((1 : Int32).toUInt32 &&& Int32.toUInt32 31)).toInt32) &&& 1431655765)).toUInt32 >>> ((2 : Int32).toUInt32 &&& Int32.toUInt32 31)).toInt32) &&& 858993459)) + (((((x - (((x.toUInt32 >>> ((1 : Int32).toUInt32 &&& Int32.toUInt32 31)).toInt32) &&& 1431655765)) &&& 858993459) + ((((x - (((x.toUInt32 >>> ((1 : Int32).toUInt32 &&& Int32.toUInt32 31)).toInt32) &&& 1431655765)).toUInt32 >>> ((2 : Int32).toUInt32 &&& Int32.toUInt32 31)).toInt32) &&& 858993459)).toUInt32 >>> ((4 : Int32).toUInt32 &&& Int32.toUInt32 31)).toInt32)) &&& 252645135).toUInt32 >>> ((8 : Int32).toUInt32 &&& Int32.toUInt32 31)).toInt32)) + ((((((((x - (((x.toUInt32 >>> ((1 : Int32).toUInt32 &&& Int32.toUInt32 31)).toInt32) &&& 1431655765)) &&& 858993459) + ((((x - (((x.toUInt32 >>> ((1 : Int32).toUInt32 &&& Int32.toUInt32 31)).toInt32) &&& 1431655765)).toUInt32 >>> ((2 : Int32).toUInt32 &&& Int32.toUInt32 31)).toInt32) &&& 858993459)) + (((((x - (((x.toUInt32 >>> ((1 : Int32).toUInt32 &&& Int32.toUInt32 31)).toInt32) &&& 1431655765)) &&& 858993459) + ((((x - (((x.toUInt32 >>> ((1 : Int32).toUInt32 &&& Int32.toUInt32 31)).toInt32) &&& 1431655765)).toUInt32 >>> ((2 : Int32).toUInt32 &&& Int32.toUInt32 31)).toInt32) &&& 858993459)).toUInt32 >>> ((4 : Int32).toUInt32 &&& Int32.toUInt32 31)).toInt32)) &&& 252645135) + (((((((x - (((x.toUInt32 >>> ((1 : Int32).toUInt32 &&& Int32.toUInt32 31)).toInt32) &&& 1431655765)) &&& 858993459) + ((((x - (((x.toUInt32 >>> ((1 : Int32).toUInt32 &&& Int32.toUInt32 31)).toInt32) &&& 1431655765)).toUInt32 >>> ((2 : Int32).toUInt32 &&& Int32.toUInt32 31)).toInt32) &&& 858993459)) + (((((x - (((x.toUInt32 >>> ((1 : Int32).toUInt32 &&& Int32.toUInt32 31)).toInt32) &&& 1431655765)) &&& 858993459) + ((((x - (((x.toUInt32 >>> ((1 : Int32).toUInt32 &&& Int32.toUInt32 31)).toInt32) &&& 1431655765)).toUInt32 >>> ((2 : Int32).toUInt32 &&& Int32.toUInt32 31)).toInt32) &&& 858993459)).toUInt32 >>> ((4 : Int32).toUInt32 &&& Int32.toUInt32 31)).toInt32)) &&& 252645135).toUInt32 >>> ((8 : Int32).toUInt32 &&& Int32.toUInt32 31)).toInt32)).toUInt32 >>> ((16 : Int32).toUInt32 &&& Int32.toUInt32 31)).toInt32)))]) hx hb dJ6_bitCount_0f7a4_47 rfl hl (by decide) rfl (fun ls hl => ?_)
  refine lv_iload_n hx hb dJ6_bitCount_0f7a4_48 rfl (lv_at hl 0 rfl) ?_
  refine lv_bipush (v := 63) hx hb dJ6_bitCount_0f7a4_49 (by decide) ?_
  refine lv_iand hx hb dJ6_bitCount_0f7a4_51 ?_
  exact W.iret (v := (((((((x - (((x.toUInt32 >>> ((1 : Int32).toUInt32 &&& Int32.toUInt32 31)).toInt32) &&& 1431655765)) &&& 858993459) + ((((x - (((x.toUInt32 >>> ((1 : Int32).toUInt32 &&& Int32.toUInt32 31)).toInt32) &&& 1431655765)).toUInt32 >>> ((2 : Int32).toUInt32 &&& Int32.toUInt32 31)).toInt32) &&& 858993459)) + (((((x - (((x.toUInt32 >>> ((1 : Int32).toUInt32 &&& Int32.toUInt32 31)).toInt32) &&& 1431655765)) &&& 858993459) + ((((x - (((x.toUInt32 >>> ((1 : Int32).toUInt32 &&& Int32.toUInt32 31)).toInt32) &&& 1431655765)).toUInt32 >>> ((2 : Int32).toUInt32 &&& Int32.toUInt32 31)).toInt32) &&& 858993459)).toUInt32 >>> ((4 : Int32).toUInt32 &&& Int32.toUInt32 31)).toInt32)) &&& 252645135) + (((((((x - (((x.toUInt32 >>> ((1 : Int32).toUInt32 &&& Int32.toUInt32 31)).toInt32) &&& 1431655765)) &&& 858993459) + ((((x - (((x.toUInt32 >>> ((1 : Int32).toUInt32 &&& Int32.toUInt32 31)).toInt32) &&& 1431655765)).toUInt32 >>> ((2 : Int32).toUInt32 &&& Int32.toUInt32 31)).toInt32) &&& 858993459)) + (((((x - (((x.toUInt32 >>> ((1 : Int32).toUInt32 &&& Int32.toUInt32 31)).toInt32) &&& 1431655765)) &&& 858993459) + ((((x - (((x.toUInt32 >>> ((1 : Int32).toUInt32 &&& Int32.toUInt32 31)).toInt32) &&& 1431655765)).toUInt32 >>> ((2 : Int32).toUInt32 &&& Int32.toUInt32 31)).toInt32) &&& 858993459)).toUInt32 >>> ((4 : Int32).toUInt32 &&& Int32.toUInt32 31)).toInt32)) &&& 252645135).toUInt32 >>> ((8 : Int32).toUInt32 &&& Int32.toUInt32 31)).toInt32)) + ((((((((x - (((x.toUInt32 >>> ((1 : Int32).toUInt32 &&& Int32.toUInt32 31)).toInt32) &&& 1431655765)) &&& 858993459) + ((((x - (((x.toUInt32 >>> ((1 : Int32).toUInt32 &&& Int32.toUInt32 31)).toInt32) &&& 1431655765)).toUInt32 >>> ((2 : Int32).toUInt32 &&& Int32.toUInt32 31)).toInt32) &&& 858993459)) + (((((x - (((x.toUInt32 >>> ((1 : Int32).toUInt32 &&& Int32.toUInt32 31)).toInt32) &&& 1431655765)) &&& 858993459) + ((((x - (((x.toUInt32 >>> ((1 : Int32).toUInt32 &&& Int32.toUInt32 31)).toInt32) &&& 1431655765)).toUInt32 >>> ((2 : Int32).toUInt32 &&& Int32.toUInt32 31)).toInt32) &&& 858993459)).toUInt32 >>> ((4 : Int32).toUInt32 &&& Int32.toUInt32 31)).toInt32)) &&& 252645135) + (((((((x - (((x.toUInt32 >>> ((1 : Int32).toUInt32 &&& Int32.toUInt32 31)).toInt32) &&& 1431655765)) &&& 858993459) + ((((x - (((x.toUInt32 >>> ((1 : Int32).toUInt32 &&& Int32.toUInt32 31)).toInt32) &&& 1431655765)).toUInt32 >>> ((2 : Int32).toUInt32 &&& Int32.toUInt32 31)).toInt32) &&& 858993459)) + (((((x - (((x.toUInt32 >>> ((1 : Int32).toUInt32 &&& Int32.toUInt32 31)).toInt32) &&& 1431655765)) &&& 858993459) + ((((x - (((x.toUInt32 >>> ((1 : Int32).toUInt32 &&& Int32.toUInt32 31)).toInt32) &&& 1431655765)).toUInt32 >>> ((2 : Int32).toUInt32 &&& Int32.toUInt32 31)).toInt32) &&& 858993459)).toUInt32 >>> ((4 : Int32).toUInt32 &&& Int32.toUInt32 31)).toInt32)) &&& 252645135).toUInt32 >>> ((8 : Int32).toUInt32 &&& Int32.toUInt32 31)).toInt32)).toUInt32 >>> ((16 : Int32).toUInt32 &&& Int32.toUInt32 31)).toInt32)) &&& 63) hx hb hr (fun t ht _ => ⟨_, rfl, (by simp only [bitC]), ht⟩) (fun q h => by cases h) dJ6_bitCount_0f7a4_52

def f6_outside (v lo hi : Int32) : Int32 := (if v < lo then (1) else (if v ≤ hi then (0) else (1)))
set_option maxHeartbeats 4000000 in
set_option maxRecDepth 100000 in
theorem kX6_outside (l : Launch) (v lo hi : Int32)  : Si l yX6_outside cX6_outside 3 .boolean 0 [.int v, .int lo, .int hi] (f6_outside v lo hi) := by
  refine Met.ofW (cc := cX6_outside) (maxL := 3) (ret := (some .boolean)) (by decide) rfl ?_
  intro p e s m args below meth c s₁ B hml hv
  obtain ⟨rfl, -⟩ := hv
  have hx := B.exec
  have hb := B.bytes
  have hr := B.returns
  have hts := atoms_spec (ws := wm yX6_outside cX6_outside 3 (some .boolean)) B.pre
  have hown : s.vm.findClass RX6 = some m.cls := findClass_of_methodNamed B.named
  have hlocks := B.notSynchronized
  have hW : ∀ w ∈ WA, w.before _ s = true := fun w h => hts w (List.mem_cons_of_mem _ h)
  have hl := lv_entry ([.int v, .int lo, .int hi]) (n := 3) (Nat.le_of_ble_eq_true rfl)
  rw [lg_entry_eq]
  generalize (lg_sl ([.int v, .int lo, .int hi]) ++ List.replicate (3 - (lg_sl ([.int v, .int lo, .int hi])).length) Slot.unset).toArray = ls at hl ⊢
  have hl : lv_has ls 3 [(0, .int v), (1, .int lo), (2, .int hi)] := hl
  refine lv_iload_n hx hb dX6_outside_0 rfl (lv_at hl 0 rfl) ?_
  refine lv_iload_n hx hb dX6_outside_1 rfl (lv_at hl 1 rfl) ?_
  refine lv_icmp_lt (tgt := 10) hx hb dX6_outside_2 (by decide) (fun c_1 => ?_) (fun c_1 => ?_)
  · refine lv_iconst (v := 1) hx hb dX6_outside_10 (by decide) ?_
    refine lv_goto (tgt := 15) hx hb dX6_outside_11 (by decide) ?_
    exact W.zret (v := 1) hx hb hr rfl (fun t ht _ => ⟨_, rfl, (by simp only [f6_outside, if_pos c_1]), ht⟩) (fun q h => by cases h) dX6_outside_15
  · refine lv_iload_n hx hb dX6_outside_5 rfl (lv_at hl 0 rfl) ?_
    refine lv_iload_n hx hb dX6_outside_6 rfl (lv_at hl 2 rfl) ?_
    refine lv_icmp_le (tgt := 14) hx hb dX6_outside_7 (by decide) (fun c_2 => ?_) (fun c_2 => ?_)
    · refine lv_iconst (v := 0) hx hb dX6_outside_14 (by decide) ?_
      exact W.zret (v := 0) hx hb hr rfl (fun t ht _ => ⟨_, rfl, (by simp only [f6_outside, if_neg c_1, if_pos c_2]), ht⟩) (fun q h => by cases h) dX6_outside_15
    · refine lv_iconst (v := 1) hx hb dX6_outside_10 (by decide) ?_
      refine lv_goto (tgt := 15) hx hb dX6_outside_11 (by decide) ?_
      exact W.zret (v := 1) hx hb hr rfl (fun t ht _ => ⟨_, rfl, (by simp only [f6_outside, if_neg c_1, if_neg c_2]), ht⟩) (fun q h => by cases h) dX6_outside_15

def f6_outsideFit (model way what : Int32) : Int32 := (if (f6_outside model 0 2) = 0 then (if (f6_outside way 0 1) = 0 then (if (f6_outside what 0 1) = 0 then (0) else (1)) else (1)) else (1))
set_option maxHeartbeats 4000000 in
set_option maxRecDepth 100000 in
theorem kX6_outsideFit (l : Launch) (model way what : Int32)  : Si l yX6_outsideFit cX6_outsideFit 3 .boolean 1 [.int model, .int way, .int what] (f6_outsideFit model way what) := by
  refine Met.ofW (cc := cX6_outsideFit) (maxL := 3) (ret := (some .boolean)) (by decide) rfl ?_
  intro p e s m args below meth c s₁ B hml hv
  obtain ⟨rfl, -⟩ := hv
  have hx := B.exec
  have hb := B.bytes
  have hr := B.returns
  have hts := atoms_spec (ws := wm yX6_outsideFit cX6_outsideFit 3 (some .boolean)) B.pre
  have hown : s.vm.findClass RX6 = some m.cls := findClass_of_methodNamed B.named
  have hlocks := B.notSynchronized
  have hW : ∀ w ∈ WA, w.before _ s = true := fun w h => hts w (List.mem_cons_of_mem _ h)
  have hl := lv_entry ([.int model, .int way, .int what]) (n := 3) (Nat.le_of_ble_eq_true rfl)
  rw [lg_entry_eq]
  generalize (lg_sl ([.int model, .int way, .int what]) ++ List.replicate (3 - (lg_sl ([.int model, .int way, .int what])).length) Slot.unset).toArray = ls at hl ⊢
  have hl : lv_has ls 3 [(0, .int model), (1, .int way), (2, .int what)] := hl
  refine lv_iload_n hx hb dX6_outsideFit_0 rfl (lv_at hl 0 rfl) ?_
  refine lv_iconst (v := 0) hx hb dX6_outsideFit_1 (by decide) ?_
  refine lv_iconst (v := 2) hx hb dX6_outsideFit_2 (by decide) ?_
  refine xri (r := f6_outside model 0 2) (rS (As := [.int model, .int 0, .int 2]) (n := 3) (rest := []) ⟨hx, hb, hml, hown, hW⟩ (kX6_outside l model 0 2) (wa tw259 rfl) (wa tw257 rfl) (wa tw258 rfl) (wa tw1 rfl) (by decide +kernel) ⟨Nat.le_of_ble_eq_true rfl, Nat.le_of_ble_eq_true rfl⟩ pS0 hl.1 rfl (Nat.le_of_ble_eq_true rfl) dX6_outsideFit_3 ⟨Nat.le_of_ble_eq_true rfl, Nat.le_of_ble_eq_true rfl⟩ rfl rfl rfl) ?_
  refine lv_if_ne (tgt := 27) hx hb dX6_outsideFit_6 (by decide) (fun c_1 => ?_) (fun c_1 => ?_)
  · refine lv_iconst (v := 1) hx hb dX6_outsideFit_27 (by decide) ?_
    refine lv_goto (tgt := 32) hx hb dX6_outsideFit_28 (by decide) ?_
    exact W.zret (v := 1) hx hb hr rfl (fun t ht _ => ⟨_, rfl, (by simp only [f6_outsideFit, if_neg c_1]), ht⟩) (fun q h => by cases h) dX6_outsideFit_32
  · refine lv_iload_n hx hb dX6_outsideFit_9 rfl (lv_at hl 1 rfl) ?_
    refine lv_iconst (v := 0) hx hb dX6_outsideFit_10 (by decide) ?_
    refine lv_iconst (v := 1) hx hb dX6_outsideFit_11 (by decide) ?_
    refine xri (r := f6_outside way 0 1) (rS (As := [.int way, .int 0, .int 1]) (n := 3) (rest := []) ⟨hx, hb, hml, hown, hW⟩ (kX6_outside l way 0 1) (wa tw259 rfl) (wa tw257 rfl) (wa tw258 rfl) (wa tw1 rfl) (by decide +kernel) ⟨Nat.le_of_ble_eq_true rfl, Nat.le_of_ble_eq_true rfl⟩ pS0 hl.1 rfl (Nat.le_of_ble_eq_true rfl) dX6_outsideFit_12 ⟨Nat.le_of_ble_eq_true rfl, Nat.le_of_ble_eq_true rfl⟩ rfl rfl rfl) ?_
    refine lv_if_ne (tgt := 27) hx hb dX6_outsideFit_15 (by decide) (fun c_2 => ?_) (fun c_2 => ?_)
    · refine lv_iconst (v := 1) hx hb dX6_outsideFit_27 (by decide) ?_
      refine lv_goto (tgt := 32) hx hb dX6_outsideFit_28 (by decide) ?_
      exact W.zret (v := 1) hx hb hr rfl (fun t ht _ => ⟨_, rfl, (by simp only [f6_outsideFit, if_pos c_1, if_neg c_2]), ht⟩) (fun q h => by cases h) dX6_outsideFit_32
    · refine lv_iload_n hx hb dX6_outsideFit_18 rfl (lv_at hl 2 rfl) ?_
      refine lv_iconst (v := 0) hx hb dX6_outsideFit_19 (by decide) ?_
      refine lv_iconst (v := 1) hx hb dX6_outsideFit_20 (by decide) ?_
      refine xri (r := f6_outside what 0 1) (rS (As := [.int what, .int 0, .int 1]) (n := 3) (rest := []) ⟨hx, hb, hml, hown, hW⟩ (kX6_outside l what 0 1) (wa tw259 rfl) (wa tw257 rfl) (wa tw258 rfl) (wa tw1 rfl) (by decide +kernel) ⟨Nat.le_of_ble_eq_true rfl, Nat.le_of_ble_eq_true rfl⟩ pS0 hl.1 rfl (Nat.le_of_ble_eq_true rfl) dX6_outsideFit_21 ⟨Nat.le_of_ble_eq_true rfl, Nat.le_of_ble_eq_true rfl⟩ rfl rfl rfl) ?_
      refine lv_if_eq (tgt := 31) hx hb dX6_outsideFit_24 (by decide) (fun c_3 => ?_) (fun c_3 => ?_)
      · refine lv_iconst (v := 0) hx hb dX6_outsideFit_31 (by decide) ?_
        exact W.zret (v := 0) hx hb hr rfl (fun t ht _ => ⟨_, rfl, (by simp only [f6_outsideFit, if_pos c_1, if_pos c_2, if_pos c_3]), ht⟩) (fun q h => by cases h) dX6_outsideFit_32
      · refine lv_iconst (v := 1) hx hb dX6_outsideFit_27 (by decide) ?_
        refine lv_goto (tgt := 32) hx hb dX6_outsideFit_28 (by decide) ?_
        exact W.zret (v := 1) hx hb hr rfl (fun t ht _ => ⟨_, rfl, (by simp only [f6_outsideFit, if_pos c_1, if_pos c_2, if_neg c_3]), ht⟩) (fun q h => by cases h) dX6_outsideFit_32

def f6_lastTerm (model : Int32) : Int32 := (if model = 0 then (0) else (2))
set_option maxHeartbeats 4000000 in
set_option maxRecDepth 100000 in
theorem kX6_lastTerm (l : Launch) (model : Int32)  : Si l yX6_lastTerm cX6_lastTerm 1 .int 0 [.int model] (f6_lastTerm model) := by
  refine Met.ofW (cc := cX6_lastTerm) (maxL := 1) (ret := (some .int)) (by decide) rfl ?_
  intro p e s m args below meth c s₁ B hml hv
  obtain ⟨rfl, -⟩ := hv
  have hx := B.exec
  have hb := B.bytes
  have hr := B.returns
  have hts := atoms_spec (ws := wm yX6_lastTerm cX6_lastTerm 1 (some .int)) B.pre
  have hown : s.vm.findClass RX6 = some m.cls := findClass_of_methodNamed B.named
  have hlocks := B.notSynchronized
  have hW : ∀ w ∈ WA, w.before _ s = true := fun w h => hts w (List.mem_cons_of_mem _ h)
  have hl := lv_entry ([.int model]) (n := 1) (Nat.le_of_ble_eq_true rfl)
  rw [lg_entry_eq]
  generalize (lg_sl ([.int model]) ++ List.replicate (1 - (lg_sl ([.int model])).length) Slot.unset).toArray = ls at hl ⊢
  have hl : lv_has ls 1 [(0, .int model)] := hl
  refine lv_iload_n hx hb dX6_lastTerm_0 rfl (lv_at hl 0 rfl) ?_
  refine lv_if_ne (tgt := 8) hx hb dX6_lastTerm_1 (by decide) (fun c_1 => ?_) (fun c_1 => ?_)
  · refine lv_iconst (v := 2) hx hb dX6_lastTerm_8 (by decide) ?_
    exact W.iret (v := 2) hx hb hr (fun t ht _ => ⟨_, rfl, (by simp only [f6_lastTerm, if_neg c_1]), ht⟩) (fun q h => by cases h) dX6_lastTerm_9
  · refine lv_iconst (v := 0) hx hb dX6_lastTerm_4 (by decide) ?_
    refine lv_goto (tgt := 9) hx hb dX6_lastTerm_5 (by decide) ?_
    exact W.iret (v := 0) hx hb hr (fun t ht _ => ⟨_, rfl, (by simp only [f6_lastTerm, if_pos c_1]), ht⟩) (fun q h => by cases h) dX6_lastTerm_9

def f6_isIn (set mm : Int32) : Int32 := (if ((set >>> (mm &&& 31)) &&& 1) = 0 then (0) else (1))
set_option maxHeartbeats 4000000 in
set_option maxRecDepth 100000 in
theorem kX6_isIn (l : Launch) (set mm : Int32)  : Si l yX6_isIn cX6_isIn 2 .boolean 0 [.int set, .int mm] (f6_isIn set mm) := by
  refine Met.ofW (cc := cX6_isIn) (maxL := 2) (ret := (some .boolean)) (by decide) rfl ?_
  intro p e s m args below meth c s₁ B hml hv
  obtain ⟨rfl, -⟩ := hv
  have hx := B.exec
  have hb := B.bytes
  have hr := B.returns
  have hts := atoms_spec (ws := wm yX6_isIn cX6_isIn 2 (some .boolean)) B.pre
  have hown : s.vm.findClass RX6 = some m.cls := findClass_of_methodNamed B.named
  have hlocks := B.notSynchronized
  have hW : ∀ w ∈ WA, w.before _ s = true := fun w h => hts w (List.mem_cons_of_mem _ h)
  have hl := lv_entry ([.int set, .int mm]) (n := 2) (Nat.le_of_ble_eq_true rfl)
  rw [lg_entry_eq]
  generalize (lg_sl ([.int set, .int mm]) ++ List.replicate (2 - (lg_sl ([.int set, .int mm])).length) Slot.unset).toArray = ls at hl ⊢
  have hl : lv_has ls 2 [(0, .int set), (1, .int mm)] := hl
  refine lv_iload_n hx hb dX6_isIn_0 rfl (lv_at hl 0 rfl) ?_
  refine lv_iload_n hx hb dX6_isIn_1 rfl (lv_at hl 1 rfl) ?_
  refine lv_ishr hx hb dX6_isIn_2 ?_
  refine lv_iconst (v := 1) hx hb dX6_isIn_3 (by decide) ?_
  refine lv_iand hx hb dX6_isIn_4 ?_
  refine lv_if_eq (tgt := 12) hx hb dX6_isIn_5 (by decide) (fun c_1 => ?_) (fun c_1 => ?_)
  · refine lv_iconst (v := 0) hx hb dX6_isIn_12 (by decide) ?_
    exact W.zret (v := 0) hx hb hr rfl (fun t ht _ => ⟨_, rfl, (by simp only [f6_isIn, if_pos c_1]), ht⟩) (fun q h => by cases h) dX6_isIn_13
  · refine lv_iconst (v := 1) hx hb dX6_isIn_8 (by decide) ?_
    refine lv_goto (tgt := 13) hx hb dX6_isIn_9 (by decide) ?_
    exact W.zret (v := 1) hx hb hr rfl (fun t ht _ => ⟨_, rfl, (by simp only [f6_isIn, if_neg c_1]), ht⟩) (fun q h => by cases h) dX6_isIn_13

def f7_in (v lo hi : Int64) : Int32 := (if v < lo then (0) else (if hi < v then (0) else (1)))
set_option maxHeartbeats 4000000 in
set_option maxRecDepth 100000 in
theorem kX7_in (l : Launch) (v lo hi : Int64)  : Si l yX7_in cX7_in 6 .boolean 0 [.long v, .long lo, .long hi] (f7_in v lo hi) := by
  refine Met.ofW (cc := cX7_in) (maxL := 6) (ret := (some .boolean)) (by decide) rfl ?_
  intro p e s m args below meth c s₁ B hml hv
  obtain ⟨rfl, -⟩ := hv
  have hx := B.exec
  have hb := B.bytes
  have hr := B.returns
  have hts := atoms_spec (ws := wm yX7_in cX7_in 6 (some .boolean)) B.pre
  have hown : s.vm.findClass RX7 = some m.cls := findClass_of_methodNamed B.named
  have hlocks := B.notSynchronized
  have hW : ∀ w ∈ WA, w.before _ s = true := fun w h => hts w (List.mem_cons_of_mem _ h)
  have hl := lv_entry ([.long v, .long lo, .long hi]) (n := 6) (Nat.le_of_ble_eq_true rfl)
  rw [lg_entry_eq]
  generalize (lg_sl ([.long v, .long lo, .long hi]) ++ List.replicate (6 - (lg_sl ([.long v, .long lo, .long hi])).length) Slot.unset).toArray = ls at hl ⊢
  have hl : lv_has ls 6 [(0, .long v), (2, .long lo), (4, .long hi)] := hl
  refine lv_lload_n hx hb dX7_in_0 rfl (lv_at hl 0 rfl) ?_
  refine lv_lload_n hx hb dX7_in_1 rfl (lv_at hl 1 rfl) ?_
  refine xlcmp_lt (tgt := 17) hx hb dX7_in_2 dX7_in_3 (by decide) (fun c_1 => ?_) (fun c_1 => ?_)
  · refine lv_iconst (v := 0) hx hb dX7_in_17 (by decide) ?_
    exact W.zret (v := 0) hx hb hr rfl (fun t ht _ => ⟨_, rfl, (by simp only [f7_in, if_pos c_1]), ht⟩) (fun q h => by cases h) dX7_in_18
  · refine lv_lload_n hx hb dX7_in_6 rfl (lv_at hl 0 rfl) ?_
    refine lv_lload hx hb dX7_in_7 (lv_at hl 2 rfl) ?_
    refine xlcmp_gt (tgt := 17) hx hb dX7_in_9 dX7_in_10 (by decide) (fun c_2 => ?_) (fun c_2 => ?_)
    · refine lv_iconst (v := 0) hx hb dX7_in_17 (by decide) ?_
      exact W.zret (v := 0) hx hb hr rfl (fun t ht _ => ⟨_, rfl, (by simp only [f7_in, if_neg c_1, if_pos c_2]), ht⟩) (fun q h => by cases h) dX7_in_18
    · refine lv_iconst (v := 1) hx hb dX7_in_13 (by decide) ?_
      refine lv_goto (tgt := 18) hx hb dX7_in_14 (by decide) ?_
      exact W.zret (v := 1) hx hb hr rfl (fun t ht _ => ⟨_, rfl, (by simp only [f7_in, if_neg c_1, if_neg c_2]), ht⟩) (fun q h => by cases h) dX7_in_18

theorem f7_in_z (v lo hi : Int64) : narrow .boolean (.int (f7_in v lo hi)) = .int (f7_in v lo hi) := by
  unfold f7_in
  split
  · rfl
  · split <;> rfl

def f7_isModel (model : Int32) : Int32 := (f7_in model.toInt64 0 2)
set_option maxHeartbeats 4000000 in
set_option maxRecDepth 100000 in
theorem kX7_isModel (l : Launch) (model : Int32)  : Si l yX7_isModel cX7_isModel 1 .boolean 1 [.int model] (f7_isModel model) := by
  refine Met.ofW (cc := cX7_isModel) (maxL := 1) (ret := (some .boolean)) (by decide) rfl ?_
  intro p e s m args below meth c s₁ B hml hv
  obtain ⟨rfl, -⟩ := hv
  have hx := B.exec
  have hb := B.bytes
  have hr := B.returns
  have hts := atoms_spec (ws := wm yX7_isModel cX7_isModel 1 (some .boolean)) B.pre
  have hown : s.vm.findClass RX7 = some m.cls := findClass_of_methodNamed B.named
  have hlocks := B.notSynchronized
  have hW : ∀ w ∈ WA, w.before _ s = true := fun w h => hts w (List.mem_cons_of_mem _ h)
  have hl := lv_entry ([.int model]) (n := 1) (Nat.le_of_ble_eq_true rfl)
  rw [lg_entry_eq]
  generalize (lg_sl ([.int model]) ++ List.replicate (1 - (lg_sl ([.int model])).length) Slot.unset).toArray = ls at hl ⊢
  have hl : lv_has ls 1 [(0, .int model)] := hl
  refine lv_iload_n hx hb dX7_isModel_0 rfl (lv_at hl 0 rfl) ?_
  refine lv_i2l (v := model.toInt64) hx hb dX7_isModel_1 rfl ?_
  refine lv_lconst (v := 0) hx hb dX7_isModel_2 (by decide) ?_
  refine lv_ldc2 hx hb hown (hW _ (wa tw672 rfl)) dX7_isModel_3 ?_
  refine xri (r := f7_in model.toInt64 0 2) (rS (As := [.long model.toInt64, .long 0, .long 2]) (n := 3) (rest := []) ⟨hx, hb, hml, hown, hW⟩ (kX7_in l model.toInt64 0 2) (wa tw621 rfl) (wa tw619 rfl) (wa tw620 rfl) (wa tw8 rfl) (by decide +kernel) ⟨Nat.le_of_ble_eq_true rfl, Nat.le_of_ble_eq_true rfl⟩ pS0 hl.1 rfl (Nat.le_of_ble_eq_true rfl) dX7_isModel_6 ⟨Nat.le_of_ble_eq_true rfl, Nat.le_of_ble_eq_true rfl⟩ rfl rfl rfl) ?_
  exact W.zret (v := f7_in model.toInt64 0 2) hx hb hr (f7_in_z model.toInt64 0 2) (fun t ht _ => ⟨_, rfl, (by simp only [f7_isModel]), ht⟩) (fun q h => by cases h) dX7_isModel_9

def f7_isTool (t : Int32) : Int32 := (f7_in t.toInt64 0 3)
set_option maxHeartbeats 4000000 in
set_option maxRecDepth 100000 in
theorem kX7_isTool (l : Launch) (t : Int32)  : Si l yX7_isTool cX7_isTool 1 .boolean 1 [.int t] (f7_isTool t) := by
  refine Met.ofW (cc := cX7_isTool) (maxL := 1) (ret := (some .boolean)) (by decide) rfl ?_
  intro p e s m args below meth c s₁ B hml hv
  obtain ⟨rfl, -⟩ := hv
  have hx := B.exec
  have hb := B.bytes
  have hr := B.returns
  have hts := atoms_spec (ws := wm yX7_isTool cX7_isTool 1 (some .boolean)) B.pre
  have hown : s.vm.findClass RX7 = some m.cls := findClass_of_methodNamed B.named
  have hlocks := B.notSynchronized
  have hW : ∀ w ∈ WA, w.before _ s = true := fun w h => hts w (List.mem_cons_of_mem _ h)
  have hl := lv_entry ([.int t]) (n := 1) (Nat.le_of_ble_eq_true rfl)
  rw [lg_entry_eq]
  generalize (lg_sl ([.int t]) ++ List.replicate (1 - (lg_sl ([.int t])).length) Slot.unset).toArray = ls at hl ⊢
  have hl : lv_has ls 1 [(0, .int t)] := hl
  refine lv_iload_n hx hb dX7_isTool_0 rfl (lv_at hl 0 rfl) ?_
  refine lv_i2l (v := t.toInt64) hx hb dX7_isTool_1 rfl ?_
  refine lv_lconst (v := 0) hx hb dX7_isTool_2 (by decide) ?_
  refine lv_ldc2 hx hb hown (hW _ (wa tw623 rfl)) dX7_isTool_3 ?_
  refine xri (r := f7_in t.toInt64 0 3) (rS (As := [.long t.toInt64, .long 0, .long 3]) (n := 3) (rest := []) ⟨hx, hb, hml, hown, hW⟩ (kX7_in l t.toInt64 0 3) (wa tw621 rfl) (wa tw619 rfl) (wa tw620 rfl) (wa tw8 rfl) (by decide +kernel) ⟨Nat.le_of_ble_eq_true rfl, Nat.le_of_ble_eq_true rfl⟩ pS0 hl.1 rfl (Nat.le_of_ble_eq_true rfl) dX7_isTool_6 ⟨Nat.le_of_ble_eq_true rfl, Nat.le_of_ble_eq_true rfl⟩ rfl rfl rfl) ?_
  exact W.zret (v := f7_in t.toInt64 0 3) hx hb hr (f7_in_z t.toInt64 0 3) (fun t ht _ => ⟨_, rfl, (by simp only [f7_isTool]), ht⟩) (fun q h => by cases h) dX7_isTool_9

def f7_termsOf (model : Int32) : Int32 := (if model = 0 then (1) else (3))
set_option maxHeartbeats 4000000 in
set_option maxRecDepth 100000 in
theorem kX7_termsOf (l : Launch) (model : Int32)  : Si l yX7_termsOf cX7_termsOf 1 .int 0 [.int model] (f7_termsOf model) := by
  refine Met.ofW (cc := cX7_termsOf) (maxL := 1) (ret := (some .int)) (by decide) rfl ?_
  intro p e s m args below meth c s₁ B hml hv
  obtain ⟨rfl, -⟩ := hv
  have hx := B.exec
  have hb := B.bytes
  have hr := B.returns
  have hts := atoms_spec (ws := wm yX7_termsOf cX7_termsOf 1 (some .int)) B.pre
  have hown : s.vm.findClass RX7 = some m.cls := findClass_of_methodNamed B.named
  have hlocks := B.notSynchronized
  have hW : ∀ w ∈ WA, w.before _ s = true := fun w h => hts w (List.mem_cons_of_mem _ h)
  have hl := lv_entry ([.int model]) (n := 1) (Nat.le_of_ble_eq_true rfl)
  rw [lg_entry_eq]
  generalize (lg_sl ([.int model]) ++ List.replicate (1 - (lg_sl ([.int model])).length) Slot.unset).toArray = ls at hl ⊢
  have hl : lv_has ls 1 [(0, .int model)] := hl
  refine lv_iload_n hx hb dX7_termsOf_0 rfl (lv_at hl 0 rfl) ?_
  refine lv_if_ne (tgt := 8) hx hb dX7_termsOf_1 (by decide) (fun c_1 => ?_) (fun c_1 => ?_)
  · refine lv_iconst (v := 3) hx hb dX7_termsOf_8 (by decide) ?_
    exact W.iret (v := 3) hx hb hr (fun t ht _ => ⟨_, rfl, (by simp only [f7_termsOf, if_neg c_1]), ht⟩) (fun q h => by cases h) dX7_termsOf_9
  · refine lv_iconst (v := 1) hx hb dX7_termsOf_4 (by decide) ?_
    refine lv_goto (tgt := 9) hx hb dX7_termsOf_5 (by decide) ?_
    exact W.iret (v := 1) hx hb hr (fun t ht _ => ⟨_, rfl, (by simp only [f7_termsOf, if_pos c_1]), ht⟩) (fun q h => by cases h) dX7_termsOf_9

def f7_size (v : Int64) : Int64 := (if 0 ≤ v then (v) else (-v))
set_option maxHeartbeats 4000000 in
set_option maxRecDepth 100000 in
theorem kX7_size (l : Launch) (v : Int64)  : Sl l yX7_size cX7_size 2 0 [.long v] (f7_size v) := by
  refine Met.ofW (cc := cX7_size) (maxL := 2) (ret := (some .long)) (by decide) rfl ?_
  intro p e s m args below meth c s₁ B hml hv
  obtain ⟨rfl, -⟩ := hv
  have hx := B.exec
  have hb := B.bytes
  have hr := B.returns
  have hts := atoms_spec (ws := wm yX7_size cX7_size 2 (some .long)) B.pre
  have hown : s.vm.findClass RX7 = some m.cls := findClass_of_methodNamed B.named
  have hlocks := B.notSynchronized
  have hW : ∀ w ∈ WA, w.before _ s = true := fun w h => hts w (List.mem_cons_of_mem _ h)
  have hl := lv_entry ([.long v]) (n := 2) (Nat.le_of_ble_eq_true rfl)
  rw [lg_entry_eq]
  generalize (lg_sl ([.long v]) ++ List.replicate (2 - (lg_sl ([.long v])).length) Slot.unset).toArray = ls at hl ⊢
  have hl : lv_has ls 2 [(0, .long v)] := hl
  refine lv_lload_n hx hb dX7_size_0 rfl (lv_at hl 0 rfl) ?_
  refine lv_lconst (v := 0) hx hb dX7_size_1 (by decide) ?_
  refine xlcmp_ge (tgt := 11) hx hb dX7_size_2 dX7_size_3 (by decide) (fun c_1 => ?_) (fun c_1 => ?_)
  · refine lv_lload_n hx hb dX7_size_11 rfl (lv_at hl 0 rfl) ?_
    exact W.lret (v := v) hx hb hr (fun t ht _ => ⟨_, rfl, (by simp only [f7_size, if_pos c_1]), ht⟩) (fun q h => by cases h) dX7_size_12
  · refine lv_lload_n hx hb dX7_size_6 rfl (lv_at hl 0 rfl) ?_
    refine lv_lneg hx hb dX7_size_7 ?_
    refine lv_goto (tgt := 12) hx hb dX7_size_8 (by decide) ?_
    exact W.lret (v := -v) hx hb hr (fun t ht _ => ⟨_, rfl, (by simp only [f7_size, if_neg c_1]), ht⟩) (fun q h => by cases h) dX7_size_12

def f7_isAhead (x y : Int32) : Int32 := (if ((x &&& (x ^^^ y)) &&& (-(x ^^^ y))) = 0 then (0) else (1))
set_option maxHeartbeats 4000000 in
set_option maxRecDepth 100000 in
theorem kX7_isAhead (l : Launch) (x y : Int32)  : Si l yX7_isAhead cX7_isAhead 3 .boolean 0 [.int x, .int y] (f7_isAhead x y) := by
  refine Met.ofW (cc := cX7_isAhead) (maxL := 3) (ret := (some .boolean)) (by decide) rfl ?_
  intro p e s m args below meth c s₁ B hml hv
  obtain ⟨rfl, -⟩ := hv
  have hx := B.exec
  have hb := B.bytes
  have hr := B.returns
  have hts := atoms_spec (ws := wm yX7_isAhead cX7_isAhead 3 (some .boolean)) B.pre
  have hown : s.vm.findClass RX7 = some m.cls := findClass_of_methodNamed B.named
  have hlocks := B.notSynchronized
  have hW : ∀ w ∈ WA, w.before _ s = true := fun w h => hts w (List.mem_cons_of_mem _ h)
  have hl := lv_entry ([.int x, .int y]) (n := 3) (Nat.le_of_ble_eq_true rfl)
  rw [lg_entry_eq]
  generalize (lg_sl ([.int x, .int y]) ++ List.replicate (3 - (lg_sl ([.int x, .int y])).length) Slot.unset).toArray = ls at hl ⊢
  have hl : lv_has ls 3 [(0, .int x), (1, .int y)] := hl
  refine lv_iload_n hx hb dX7_isAhead_0 rfl (lv_at hl 0 rfl) ?_
  refine lv_iload_n hx hb dX7_isAhead_1 rfl (lv_at hl 1 rfl) ?_
  refine lv_ixor hx hb dX7_isAhead_2 ?_
  refine lv_istore_n (lv' := [(2, .int (x ^^^ y)), (0, .int x), (1, .int y)]) hx hb dX7_isAhead_3 rfl hl (by decide) rfl (fun ls hl => ?_)
  refine lv_iload_n hx hb dX7_isAhead_4 rfl (lv_at hl 1 rfl) ?_
  refine lv_iload_n hx hb dX7_isAhead_5 rfl (lv_at hl 0 rfl) ?_
  refine lv_iand hx hb dX7_isAhead_6 ?_
  refine lv_iload_n hx hb dX7_isAhead_7 rfl (lv_at hl 0 rfl) ?_
  refine lv_ineg hx hb dX7_isAhead_8 ?_
  refine lv_iand hx hb dX7_isAhead_9 ?_
  refine lv_if_eq (tgt := 17) hx hb dX7_isAhead_10 (by decide) (fun c_1 => ?_) (fun c_1 => ?_)
  · refine lv_iconst (v := 0) hx hb dX7_isAhead_17 (by decide) ?_
    exact W.zret (v := 0) hx hb hr rfl (fun t ht _ => ⟨_, rfl, (by simp only [f7_isAhead, if_pos c_1]), ht⟩) (fun q h => by cases h) dX7_isAhead_18
  · refine lv_iconst (v := 1) hx hb dX7_isAhead_13 (by decide) ?_
    refine lv_goto (tgt := 18) hx hb dX7_isAhead_14 (by decide) ?_
    exact W.zret (v := 1) hx hb hr rfl (fun t ht _ => ⟨_, rfl, (by simp only [f7_isAhead, if_neg c_1]), ht⟩) (fun q h => by cases h) dX7_isAhead_18

def bitsL (set : Int32) : Nat → Nat → Int32 → Int32
  | 0, _, acc => acc
  | n + 1, k, acc => bitsL set n (k + 1) (acc + ((set >>> (nI k &&& 31)) &&& 1))
def f7_bits (set : Int32) : Int32 := bitsL set 12 0 0

set_option maxHeartbeats 4000000 in
set_option maxRecDepth 100000 in
theorem kX7_bits (l : Launch) (set : Int32)  : Si l yX7_bits cX7_bits 3 .int 0 [.int set] (f7_bits set) := by
  refine Met.ofW (cc := cX7_bits) (maxL := 3) (ret := (some .int)) (by decide) rfl ?_
  intro p e s m args below meth c s₁ B hml hv
  obtain ⟨rfl, -⟩ := hv
  have hx := B.exec
  have hb := B.bytes
  have hr := B.returns
  have hts := atoms_spec (ws := wm yX7_bits cX7_bits 3 (some .int)) B.pre
  have hown : s.vm.findClass RX7 = some m.cls := findClass_of_methodNamed B.named
  have hlocks := B.notSynchronized
  have hW : ∀ w ∈ WA, w.before _ s = true := fun w h => hts w (List.mem_cons_of_mem _ h)
  have hl := lv_entry ([.int set]) (n := 3) (Nat.le_of_ble_eq_true rfl)
  rw [lg_entry_eq]
  generalize (lg_sl ([.int set]) ++ List.replicate (3 - (lg_sl ([.int set])).length) Slot.unset).toArray = ls at hl ⊢
  have hl : lv_has ls 3 [(0, .int set)] := hl
  refine lv_iconst (v := 0) hx hb dX7_bits_0 (by decide) ?_
  refine lv_istore_n (lv' := [(1, .int 0), (0, .int set)]) hx hb dX7_bits_1 rfl hl (by decide) rfl (fun ls hl => ?_)
  refine lv_iconst (v := 0) hx hb dX7_bits_2 (by decide) ?_
  refine lv_istore_n (lv' := [(2, .int 0), (1, .int 0), (0, .int set)]) hx hb dX7_bits_3 rfl hl (by decide) rfl (fun ls hl => ?_)
  obtain ⟨n4, k, acc, hinv⟩ : ∃ (n4 : Nat) (k : Nat) (acc : Int32), k + n4 = 12 ∧ bitsL set n4 k acc = f7_bits set ∧ lv_has ls 3 [(0, .int set), (1, .int acc), (2, .int (nI k))] := ⟨12, 0, 0, rfl, rfl, lv_sub hl [2, 1, 0] rfl⟩
  clear hl
  induction n4 generalizing k acc ls with
  | zero =>
    obtain ⟨h4_0, h4_1, hl⟩ := hinv
    refine lv_iload_n hx hb dX7_bits_4 rfl (lv_at hl 2 rfl) ?_
    refine lv_bipush (v := 12) hx hb dX7_bits_5 (by decide) ?_
    refine lv_icmp_ge (tgt := 24) hx hb dX7_bits_7 (by decide) (fun c_1 => ?_) (fun c_1 => ?_)
    · refine lv_iload_n hx hb dX7_bits_24 rfl (lv_at hl 1 rfl) ?_
      exact W.iret (v := acc) hx hb hr (fun t ht _ => ⟨_, rfl, h4_1, ht⟩) (fun q h => by cases h) dX7_bits_25
    · exact lt_end h4_0 (by decide) c_1
  | succ n4 ih4 =>
    obtain ⟨h4_0, h4_1, hl⟩ := hinv
    refine lv_iload_n hx hb dX7_bits_4 rfl (lv_at hl 2 rfl) ?_
    refine lv_bipush (v := 12) hx hb dX7_bits_5 (by decide) ?_
    refine lv_icmp_ge (tgt := 24) hx hb dX7_bits_7 (by decide) (fun c_2 => ?_) (fun c_2 => ?_)
    · exact lt_go h4_0 (by decide) c_2
    · refine lv_iload_n hx hb dX7_bits_10 rfl (lv_at hl 1 rfl) ?_
      refine lv_iload_n hx hb dX7_bits_11 rfl (lv_at hl 0 rfl) ?_
      refine lv_iload_n hx hb dX7_bits_12 rfl (lv_at hl 2 rfl) ?_
      refine lv_ishr hx hb dX7_bits_13 ?_
      refine lv_iconst (v := 1) hx hb dX7_bits_14 (by decide) ?_
      refine lv_iand hx hb dX7_bits_15 ?_
      refine lv_iadd hx hb dX7_bits_16 ?_
      refine lv_istore_n (lv' := [(1, .int (acc + ((set >>> ((nI k) &&& 31)) &&& 1))), (0, .int set), (2, .int (nI k))]) hx hb dX7_bits_17 rfl hl (by decide) rfl (fun ls hl => ?_)
      refine lv_iinc (v := nI k + 1) (lv' := [(2, .int (nI k + 1)), (1, .int (acc + ((set >>> ((nI k) &&& 31)) &&& 1))), (0, .int set)]) hx hb dX7_bits_18 hl (k := 2) rfl rfl (by decide) rfl (fun ls hl => ?_)
      refine lv_goto (tgt := 4) hx hb dX7_bits_21 (by decide) ?_
      rw [nI_1] at hl
      exact ih4 (k := k + 1) (acc := (acc + ((set >>> ((nI k) &&& 31)) &&& 1))) (ls := ls) ⟨by omega, h4_1, lv_sub hl [2, 1, 0] rfl⟩

def cdL : Nat → Int64 → Int64 → Int64
  | 0, x, _ => x
  | n + 1, x, y => if y = 0 then x else cdL n y (x - x / y * y)
def f6_cd (x y : Int64) : Int64 := cdL 100 x y

set_option maxHeartbeats 4000000 in
set_option maxRecDepth 100000 in
theorem kX6_commonDivisor (l : Launch) (x y : Int64)  : Sl l yX6_commonDivisor cX6_commonDivisor 7 0 [.long x, .long y] (f6_cd x y) := by
  refine Met.ofW (cc := cX6_commonDivisor) (maxL := 7) (ret := (some .long)) (by decide) rfl ?_
  intro p e s m args below meth c s₁ B hml hv
  obtain ⟨rfl, -⟩ := hv
  have hx := B.exec
  have hb := B.bytes
  have hr := B.returns
  have hts := atoms_spec (ws := wm yX6_commonDivisor cX6_commonDivisor 7 (some .long)) B.pre
  have hown : s.vm.findClass RX6 = some m.cls := findClass_of_methodNamed B.named
  have hlocks := B.notSynchronized
  have hW : ∀ w ∈ WA, w.before _ s = true := fun w h => hts w (List.mem_cons_of_mem _ h)
  have hl := lv_entry ([.long x, .long y]) (n := 7) (Nat.le_of_ble_eq_true rfl)
  rw [lg_entry_eq]
  generalize (lg_sl ([.long x, .long y]) ++ List.replicate (7 - (lg_sl ([.long x, .long y])).length) Slot.unset).toArray = ls at hl ⊢
  have hl : lv_has ls 7 [(0, .long x), (2, .long y)] := hl
  refine lv_iconst (v := 0) hx hb dX6_commonDivisor_0 (by decide) ?_
  refine lv_istore (lv' := [(4, .int 0), (0, .long x), (2, .long y)]) hx hb dX6_commonDivisor_1 hl (by decide) rfl (fun ls hl => ?_)
  obtain ⟨n3, k, u, v, hinv⟩ : ∃ (n3 : Nat) (k : Nat) (u : Int64) (v : Int64), k + n3 = 100 ∧ cdL n3 u v = f6_cd x y ∧ lv_has ls 7 [(0, .long u), (2, .long v), (4, .int (nI k))] := ⟨100, 0, x, y, rfl, rfl, lv_sub hl [1, 2, 0] rfl⟩
  clear hl
  induction n3 generalizing k u v ls with
  | zero =>
    obtain ⟨h3_0, h3_1, hl⟩ := hinv
    refine lv_iload hx hb dX6_commonDivisor_3 (lv_at hl 2 rfl) ?_
    refine lv_bipush (v := 100) hx hb dX6_commonDivisor_5 (by decide) ?_
    refine lv_icmp_ge (tgt := 32) hx hb dX6_commonDivisor_7 (by decide) (fun c_1 => ?_) (fun c_1 => ?_)
    · refine lv_lload_n hx hb dX6_commonDivisor_32 rfl (lv_at hl 0 rfl) ?_
      exact W.lret (v := u) hx hb hr (fun t ht _ => ⟨_, rfl, h3_1, ht⟩) (fun q h => by cases h) dX6_commonDivisor_33
    · exact lt_end h3_0 (by decide) c_1
  | succ n3 ih3 =>
    obtain ⟨h3_0, h3_1, hl⟩ := hinv
    refine lv_iload hx hb dX6_commonDivisor_3 (lv_at hl 2 rfl) ?_
    refine lv_bipush (v := 100) hx hb dX6_commonDivisor_5 (by decide) ?_
    refine lv_icmp_ge (tgt := 32) hx hb dX6_commonDivisor_7 (by decide) (fun c_2 => ?_) (fun c_2 => ?_)
    · exact lt_go h3_0 (by decide) c_2
    · refine lv_lload_n hx hb dX6_commonDivisor_10 rfl (lv_at hl 1 rfl) ?_
      refine lv_lconst (v := 0) hx hb dX6_commonDivisor_11 (by decide) ?_
      refine xlcmp_eq (tgt := 32) hx hb dX6_commonDivisor_12 dX6_commonDivisor_13 (by decide) (fun c_3 => ?_) (fun c_3 => ?_)
      · refine lv_lload_n hx hb dX6_commonDivisor_32 rfl (lv_at hl 0 rfl) ?_
        exact W.lret (v := u) hx hb hr (fun t ht _ => ⟨_, rfl, (by rw [← h3_1, cdL, if_pos c_3]), ht⟩) (fun q h => by cases h) dX6_commonDivisor_33
      · refine lv_lload_n hx hb dX6_commonDivisor_16 rfl (lv_at hl 0 rfl) ?_
        refine lv_lload_n hx hb dX6_commonDivisor_17 rfl (lv_at hl 1 rfl) ?_
        refine lv_lrem hx hb dX6_commonDivisor_18 c_3 ?_
        refine lv_lstore (lv' := [(5, .long (u - u / v * v)), (0, .long u), (2, .long v), (4, .int (nI k))]) hx hb dX6_commonDivisor_19 hl (by decide) rfl (fun ls hl => ?_)
        refine lv_lload_n hx hb dX6_commonDivisor_21 rfl (lv_at hl 2 rfl) ?_
        refine lv_lstore_n (lv' := [(0, .long v), (5, .long (u - u / v * v)), (2, .long v), (4, .int (nI k))]) hx hb dX6_commonDivisor_22 rfl hl (by decide) rfl (fun ls hl => ?_)
        refine lv_lload hx hb dX6_commonDivisor_23 (lv_at hl 1 rfl) ?_
        refine lv_lstore_n (lv' := [(2, .long (u - u / v * v)), (0, .long v), (5, .long (u - u / v * v)), (4, .int (nI k))]) hx hb dX6_commonDivisor_25 rfl hl (by decide) rfl (fun ls hl => ?_)
        refine lv_iinc (v := nI k + 1) (lv' := [(4, .int (nI k + 1)), (2, .long (u - u / v * v)), (0, .long v), (5, .long (u - u / v * v))]) hx hb dX6_commonDivisor_26 hl (k := 3) rfl rfl (by decide) rfl (fun ls hl => ?_)
        refine lv_goto (tgt := 3) hx hb dX6_commonDivisor_29 (by decide) ?_
        rw [nI_1] at hl
        exact ih3 (k := k + 1) (u := v) (v := (u - u / v * v)) (ls := ls) ⟨by omega, by rw [← h3_1, cdL, if_neg c_3], lv_sub hl [2, 1, 0] rfl⟩

def f6_partOf (up lo : Int64) (what : Int32) : Int64 := (if (f6_cd (absL up) lo) = 0 then (0) else (if what = 0 then (up / (f6_cd (absL up) lo)) else (lo / (f6_cd (absL up) lo))))
set_option maxHeartbeats 4000000 in
set_option maxRecDepth 100000 in
theorem kX6_partOf (l : Launch) (up lo : Int64) (what : Int32)  : Sl l yX6_partOf cX6_partOf 7 1 [.long up, .long lo, .int what] (f6_partOf up lo what) := by
  refine Met.ofW (cc := cX6_partOf) (maxL := 7) (ret := (some .long)) (by decide) rfl ?_
  intro p e s m args below meth c s₁ B hml hv
  obtain ⟨rfl, -⟩ := hv
  have hx := B.exec
  have hb := B.bytes
  have hr := B.returns
  have hts := atoms_spec (ws := wm yX6_partOf cX6_partOf 7 (some .long)) B.pre
  have hown : s.vm.findClass RX6 = some m.cls := findClass_of_methodNamed B.named
  have hlocks := B.notSynchronized
  have hW : ∀ w ∈ WA, w.before _ s = true := fun w h => hts w (List.mem_cons_of_mem _ h)
  have hl := lv_entry ([.long up, .long lo, .int what]) (n := 7) (Nat.le_of_ble_eq_true rfl)
  rw [lg_entry_eq]
  generalize (lg_sl ([.long up, .long lo, .int what]) ++ List.replicate (7 - (lg_sl ([.long up, .long lo, .int what])).length) Slot.unset).toArray = ls at hl ⊢
  have hl : lv_has ls 7 [(0, .long up), (2, .long lo), (4, .int what)] := hl
  refine lv_lload_n hx hb dX6_partOf_0 rfl (lv_at hl 0 rfl) ?_
  refine va_mabs_long hx hb (hml.trans hl.1.symm) hown (hW _ (wa tw378 rfl)) (hW _ (wa tw379 rfl)) (hW _ (wa tw10 rfl)) (hW _ (wa tw380 rfl)) (Nat.le_of_ble_eq_true rfl) (Nat.le_of_ble_eq_true rfl) (Nat.le_of_ble_eq_true rfl) (Nat.le_of_ble_eq_true rfl) dX6_partOf_1 ?_
  refine W.eq (g2 := F0 m 4 ls [.long (absL up)]) rfl ?_
  refine lv_lload_n hx hb dX6_partOf_4 rfl (lv_at hl 1 rfl) ?_
  refine xrl (r := f6_cd (absL up) lo) (rS (As := [.long (absL up), .long lo]) (n := 2) (rest := []) ⟨hx, hb, hml, hown, hW⟩ (kX6_commonDivisor l (absL up) lo) (wa tw383 rfl) (wa tw381 rfl) (wa tw382 rfl) (wa tw1 rfl) (by decide +kernel) ⟨Nat.le_of_ble_eq_true rfl, Nat.le_of_ble_eq_true rfl⟩ pS0 hl.1 rfl (Nat.le_of_ble_eq_true rfl) dX6_partOf_5 ⟨Nat.le_of_ble_eq_true rfl, Nat.le_of_ble_eq_true rfl⟩ rfl rfl rfl) ?_
  refine lv_lstore (lv' := [(5, .long (f6_cd (absL up) lo)), (0, .long up), (2, .long lo), (4, .int what)]) hx hb dX6_partOf_8 hl (by decide) rfl (fun ls hl => ?_)
  refine lv_lload hx hb dX6_partOf_10 (lv_at hl 0 rfl) ?_
  refine lv_lconst (v := 0) hx hb dX6_partOf_12 (by decide) ?_
  refine xlcmp_ne (tgt := 19) hx hb dX6_partOf_13 dX6_partOf_14 (by decide) (fun c_1 => ?_) (fun c_1 => ?_)
  · refine lv_iload hx hb dX6_partOf_19 (lv_at hl 3 rfl) ?_
    refine lv_if_ne (tgt := 28) hx hb dX6_partOf_21 (by decide) (fun c_2 => ?_) (fun c_2 => ?_)
    · refine lv_lload_n hx hb dX6_partOf_28 rfl (lv_at hl 2 rfl) ?_
      refine lv_lload hx hb dX6_partOf_29 (lv_at hl 0 rfl) ?_
      refine lv_ldiv hx hb dX6_partOf_31 c_1 ?_
      exact W.lret (v := lo / (f6_cd (absL up) lo)) hx hb hr (fun t ht _ => ⟨_, rfl, (by simp only [f6_partOf, if_neg c_1, if_neg c_2]), ht⟩) (fun q h => by cases h) dX6_partOf_32
    · refine lv_lload_n hx hb dX6_partOf_24 rfl (lv_at hl 1 rfl) ?_
      refine lv_goto (tgt := 29) hx hb dX6_partOf_25 (by decide) ?_
      refine lv_lload hx hb dX6_partOf_29 (lv_at hl 0 rfl) ?_
      refine lv_ldiv hx hb dX6_partOf_31 c_1 ?_
      exact W.lret (v := up / (f6_cd (absL up) lo)) hx hb hr (fun t ht _ => ⟨_, rfl, (by simp only [f6_partOf, if_neg c_1, if_pos c_2]), ht⟩) (fun q h => by cases h) dX6_partOf_32
  · refine lv_lconst (v := 0) hx hb dX6_partOf_17 (by decide) ?_
    exact W.lret (v := 0) hx hb hr (fun t ht _ => ⟨_, rfl, (by simp only [f6_partOf, if_pos c_1]), ht⟩) (fun q h => by cases h) dX6_partOf_18

theorem q_remL (x y : Int64) : (x - x / y * y).toInt = x.toInt.tmod y.toInt := by
  rw [Int64.toInt_sub, Int64.toInt_mul, Int64.toInt_div, Int.bmod_mul_bmod, Int.sub_bmod_bmod]
  rw [show x.toInt - x.toInt.tdiv y.toInt * y.toInt = (x % y).toInt from by rw [Int64.toInt_mod, Int.tmod_def, Int.mul_comm]]
  rw [Int64.toInt_bmod, Int64.toInt_mod]
theorem q_rem_lt (x : Int64) {y : Int64} (h : ¬ y = 0) : (x - x / y * y).toInt.natAbs < y.toInt.natAbs := by
  have h0 : y.toInt ≠ 0 := fun q => h (Int64.toInt_inj.mp (by rw [q]; rfl))
  rw [q_remL, Int.natAbs_tmod]
  exact Nat.mod_lt _ (Int.natAbs_pos.mpr h0)
def f7_gc (x y : Int64) : Int64 := cdL y.toInt.natAbs x y
def f7_share (up lo : Int64) (what : Int32) : Int64 := if what = 0 then up / f7_gc (f7_size up) lo else lo / f7_gc (f7_size up) lo

set_option maxHeartbeats 4000000 in
set_option maxRecDepth 100000 in
theorem kX7_share (l : Launch) (up lo : Int64) (what : Int32) (hlo : ¬ lo = 0) : Sl l yX7_share cX7_share 11 1 [.long up, .long lo, .int what] (f7_share up lo what) := by
  refine Met.ofW (cc := cX7_share) (maxL := 11) (ret := (some .long)) (by decide) rfl ?_
  intro p e s m args below meth c s₁ B hml hv
  obtain ⟨rfl, -⟩ := hv
  have hx := B.exec
  have hb := B.bytes
  have hr := B.returns
  have hts := atoms_spec (ws := wm yX7_share cX7_share 11 (some .long)) B.pre
  have hown : s.vm.findClass RX7 = some m.cls := findClass_of_methodNamed B.named
  have hlocks := B.notSynchronized
  have hW : ∀ w ∈ WA, w.before _ s = true := fun w h => hts w (List.mem_cons_of_mem _ h)
  have hl := lv_entry ([.long up, .long lo, .int what]) (n := 11) (Nat.le_of_ble_eq_true rfl)
  rw [lg_entry_eq]
  generalize (lg_sl ([.long up, .long lo, .int what]) ++ List.replicate (11 - (lg_sl ([.long up, .long lo, .int what])).length) Slot.unset).toArray = ls at hl ⊢
  have hl : lv_has ls 11 [(0, .long up), (2, .long lo), (4, .int what)] := hl
  refine lv_lload_n hx hb dX7_share_0 rfl (lv_at hl 0 rfl) ?_
  refine xrl (r := f7_size up) (rS (As := [.long up]) (n := 1) (rest := []) ⟨hx, hb, hml, hown, hW⟩ (kX7_size l up) (wa tw703 rfl) (wa tw701 rfl) (wa tw702 rfl) (wa tw8 rfl) (by decide +kernel) ⟨Nat.le_of_ble_eq_true rfl, Nat.le_of_ble_eq_true rfl⟩ pS0 hl.1 rfl (Nat.le_of_ble_eq_true rfl) dX7_share_1 ⟨Nat.le_of_ble_eq_true rfl, Nat.le_of_ble_eq_true rfl⟩ rfl rfl rfl) ?_
  refine lv_lstore (lv' := [(5, .long (f7_size up)), (0, .long up), (2, .long lo), (4, .int what)]) hx hb dX7_share_4 hl (by decide) rfl (fun ls hl => ?_)
  refine lv_lload_n hx hb dX7_share_6 rfl (lv_at hl 2 rfl) ?_
  refine lv_lstore (lv' := [(7, .long lo), (5, .long (f7_size up)), (0, .long up), (2, .long lo), (4, .int what)]) hx hb dX7_share_7 hl (by decide) rfl (fun ls hl => ?_)
  obtain ⟨n9, u, v, hinv⟩ : ∃ (n9 : Nat) (u : Int64) (v : Int64), v.toInt.natAbs ≤ n9 ∧ cdL n9 u v = f7_gc (f7_size up) lo ∧ ¬ (u = 0 ∧ v = 0) ∧ lv_has ls 11 [(0, .long up), (2, .long lo), (4, .int what), (5, .long u), (7, .long v)] := ⟨lo.toInt.natAbs, (f7_size up), lo, Nat.le_refl _, rfl, fun q => hlo q.2, lv_sub hl [2, 3, 4, 1, 0] rfl⟩
  clear hl
  induction n9 generalizing u v ls with
  | zero =>
    obtain ⟨h9_0, h9_1, h9_2, hl⟩ := hinv
    refine lv_lload hx hb dX7_share_9 (lv_at hl 4 rfl) ?_
    refine lv_lconst (v := 0) hx hb dX7_share_11 (by decide) ?_
    refine xlcmp_eq (tgt := 34) hx hb dX7_share_12 dX7_share_13 (by decide) (fun c_1 => ?_) (fun c_1 => ?_)
    · refine lv_iload hx hb dX7_share_34 (lv_at hl 2 rfl) ?_
      refine lv_if_ne (tgt := 46) hx hb dX7_share_36 (by decide) (fun c_2 => ?_) (fun c_2 => ?_)
      · refine lv_lload_n hx hb dX7_share_46 rfl (lv_at hl 1 rfl) ?_
        refine lv_lload hx hb dX7_share_47 (lv_at hl 3 rfl) ?_
        refine lv_ldiv hx hb dX7_share_49 (fun q => h9_2 ⟨q, c_1⟩) ?_
        exact W.lret (v := lo / u) hx hb hr (fun t ht _ => ⟨_, rfl, (by rw [f7_share, if_neg c_2, ← h9_1, cdL]), ht⟩) (fun q h => by cases h) dX7_share_50
      · refine lv_lload_n hx hb dX7_share_39 rfl (lv_at hl 0 rfl) ?_
        refine lv_lload hx hb dX7_share_40 (lv_at hl 3 rfl) ?_
        refine lv_ldiv hx hb dX7_share_42 (fun q => h9_2 ⟨q, c_1⟩) ?_
        refine lv_goto (tgt := 50) hx hb dX7_share_43 (by decide) ?_
        exact W.lret (v := up / u) hx hb hr (fun t ht _ => ⟨_, rfl, (by rw [f7_share, if_pos c_2, ← h9_1, cdL]), ht⟩) (fun q h => by cases h) dX7_share_50
    · exact absurd (Int64.toInt_inj.mp (Int.natAbs_eq_zero.mp (Nat.le_zero.mp h9_0))) c_1
  | succ n9 ih9 =>
    obtain ⟨h9_0, h9_1, h9_2, hl⟩ := hinv
    refine lv_lload hx hb dX7_share_9 (lv_at hl 4 rfl) ?_
    refine lv_lconst (v := 0) hx hb dX7_share_11 (by decide) ?_
    refine xlcmp_eq (tgt := 34) hx hb dX7_share_12 dX7_share_13 (by decide) (fun c_3 => ?_) (fun c_3 => ?_)
    · refine lv_iload hx hb dX7_share_34 (lv_at hl 2 rfl) ?_
      refine lv_if_ne (tgt := 46) hx hb dX7_share_36 (by decide) (fun c_4 => ?_) (fun c_4 => ?_)
      · refine lv_lload_n hx hb dX7_share_46 rfl (lv_at hl 1 rfl) ?_
        refine lv_lload hx hb dX7_share_47 (lv_at hl 3 rfl) ?_
        refine lv_ldiv hx hb dX7_share_49 (fun q => h9_2 ⟨q, c_3⟩) ?_
        exact W.lret (v := lo / u) hx hb hr (fun t ht _ => ⟨_, rfl, (by rw [f7_share, if_neg c_4, ← h9_1, cdL, if_pos c_3]), ht⟩) (fun q h => by cases h) dX7_share_50
      · refine lv_lload_n hx hb dX7_share_39 rfl (lv_at hl 0 rfl) ?_
        refine lv_lload hx hb dX7_share_40 (lv_at hl 3 rfl) ?_
        refine lv_ldiv hx hb dX7_share_42 (fun q => h9_2 ⟨q, c_3⟩) ?_
        refine lv_goto (tgt := 50) hx hb dX7_share_43 (by decide) ?_
        exact W.lret (v := up / u) hx hb hr (fun t ht _ => ⟨_, rfl, (by rw [f7_share, if_pos c_4, ← h9_1, cdL, if_pos c_3]), ht⟩) (fun q h => by cases h) dX7_share_50
    · refine lv_lload hx hb dX7_share_16 (lv_at hl 3 rfl) ?_
      refine lv_lload hx hb dX7_share_18 (lv_at hl 4 rfl) ?_
      refine lv_lrem hx hb dX7_share_20 c_3 ?_
      refine lv_lstore (lv' := [(9, .long (u - u / v * v)), (0, .long up), (2, .long lo), (4, .int what), (5, .long u), (7, .long v)]) hx hb dX7_share_21 hl (by decide) rfl (fun ls hl => ?_)
      refine lv_lload hx hb dX7_share_23 (lv_at hl 5 rfl) ?_
      refine lv_lstore (lv' := [(5, .long v), (9, .long (u - u / v * v)), (0, .long up), (2, .long lo), (4, .int what), (7, .long v)]) hx hb dX7_share_25 hl (by decide) rfl (fun ls hl => ?_)
      refine lv_lload hx hb dX7_share_27 (lv_at hl 1 rfl) ?_
      refine lv_lstore (lv' := [(7, .long (u - u / v * v)), (5, .long v), (9, .long (u - u / v * v)), (0, .long up), (2, .long lo), (4, .int what)]) hx hb dX7_share_29 hl (by decide) rfl (fun ls hl => ?_)
      refine lv_goto (tgt := 9) hx hb dX7_share_31 (by decide) ?_
      exact ih9 (u := v) (v := (u - u / v * v)) (ls := ls) ⟨Nat.le_of_lt_succ (Nat.lt_of_lt_of_le (q_rem_lt u c_3) h9_0), by rw [← h9_1, cdL, if_neg c_3], fun q => c_3 q.1, lv_sub hl [3, 4, 5, 1, 0] rfl⟩
end
section
abbrev wZ (a : Nat → Nat) (C : Nat → ClassId) (Z : Nat → Nat → Int32) (Y : Nat → Nat → Int64) : va_W := [((a 0), .inr (7, [.int (Z 12 0), .ref (a 1), .ref (a 2), .ref (a 3), .ref (a 4), .int (Z 12 1), .ref (a 5), .ref (a 6), .ref (a 7), .ref (a 8), .ref (a 9), .int (Z 12 2), .ref (a 10), .int (Z 12 3), .int (Z 12 4), .ref (a 11), .ref (a 12), .long (Y 5 0), .ref (a 13), .ref (a 14), .ref (a 15), .ref (a 16), .ref (a 17)])), ((a 1), eI C 48 (Z 0)), ((a 2), eI C 24 (Z 1)), ((a 3), eZ C 12 (Z 2)), ((a 4), eZ C 12 (Z 3)), ((a 5), eI C 60 (Z 4)), ((a 6), eI C 60 (Z 5)), ((a 7), eI C 60 (Z 6)), ((a 8), eZ C 60 (Z 7)), ((a 9), eZ C 244 (Z 8)), ((a 10), eI C 24 (Z 9)), ((a 11), eJ C 9 (Y 0)), ((a 12), eJ C 9 (Y 1)), ((a 13), eJ C 3 (Y 2)), ((a 14), eJ C 3 (Y 3)), ((a 15), eJ C 12 (Y 4)), ((a 16), eI C 6 (Z 10)), ((a 17), eI C 4 (Z 11))]
abbrev wM (am : Nat → Nat) (C : Nat → ClassId) (M : Nat → Nat → Int32) : va_W := [((am 0), .inr (2, [.ref (am 1), .ref (am 2), .ref (am 3), .ref (am 4), .ref (am 5), .int (M 6 0), .int (M 6 1), .int (M 6 2)])), ((am 1), eI C 12 (M 0)), ((am 2), eI C 12 (M 1)), ((am 3), eI C 12 (M 2)), ((am 4), eI C 12 (M 3)), ((am 5), eII C 2 (rr am 6 2)), ((am 6), eI C 12 (M 4)), ((am 7), eI C 12 (M 5))]
abbrev wT (tq : Nat) (C : Nat → ClassId) (T : Nat → Int64) : va_W := [(tq, .inr (5, [.long (T 0), .long (T 1), .long (T 2), .long (T 3), .long (T 4), .long (T 5), .long (T 6), .long (T 7), .long (T 8), .long (T 9), .long (T 10), .long (T 11), .long (T 12)]))]
abbrev wF (af : Nat → Nat) (C : Nat → ClassId) (F : Nat → Nat → Int64) (fm : Int32) : va_W := [((af 0), .inr (1, [.ref (af 1), .ref (af 2), .ref (af 5), .int fm])), ((af 1), .inr (5, [.long (F 0 0), .long (F 0 1), .long (F 0 2), .long (F 0 3), .long (F 0 4), .long (F 0 5), .long (F 0 6), .long (F 0 7), .long (F 0 8), .long (F 0 9), .long (F 0 10), .long (F 0 11), .long (F 0 12)])), ((af 2), eJJ C 2 (rr af 3 2)), ((af 3), eJ C 4 (F 1)), ((af 4), eJ C 4 (F 2)), ((af 5), eJJ C 2 (rr af 6 2)), ((af 6), eJ C 3 (F 3)), ((af 7), eJ C 3 (F 4))]
abbrev wP (ap : Nat → Nat) (C : Nat → ClassId) (Pt : Nat → Nat → Int64) (pi : Nat → Int32) : va_W := [((ap 0), .inr (3, [.ref (ap 1), .int (pi 0), .int (pi 1), .long (Pt 1 0), .long (Pt 1 1)])), ((ap 1), .inr (5, [.long (Pt 0 0), .long (Pt 0 1), .long (Pt 0 2), .long (Pt 0 3), .long (Pt 0 4), .long (Pt 0 5), .long (Pt 0 6), .long (Pt 0 7), .long (Pt 0 8), .long (Pt 0 9), .long (Pt 0 10), .long (Pt 0 11), .long (Pt 0 12)]))]
abbrev wB (ab : Nat → Nat) (C : Nat → ClassId) (Bk : Nat → Nat → Int32) : va_W := [((ab 0), .inr (0, [.ref (ab 1), .ref (ab 2), .ref (ab 3), .ref (ab 4), .ref (ab 5), .int (Bk 8 0), .int (Bk 8 1)])), ((ab 1), eI C 60 (Bk 0)), ((ab 2), eI C 60 (Bk 1)), ((ab 3), eI C 60 (Bk 2)), ((ab 4), eZ C 60 (Bk 3)), ((ab 5), eII C 4 (rr ab 6 4)), ((ab 6), eI C 61 (Bk 4)), ((ab 7), eI C 61 (Bk 5)), ((ab 8), eI C 61 (Bk 6)), ((ab 9), eI C 61 (Bk 7))]
abbrev wR (ar : Nat → Nat) (C : Nat → ClassId) (Rt : Nat → Nat → Int32) : va_W := [((ar 0), .inr (4, [.ref (ar 1), .ref (ar 6), .ref (ar 7), .ref (ar 8), .int (Rt 7 0), .int (Rt 7 1), .int (Rt 7 2)])), ((ar 1), eII C 4 (rr ar 2 4)), ((ar 2), eI C 6 (Rt 0)), ((ar 3), eI C 6 (Rt 1)), ((ar 4), eI C 6 (Rt 2)), ((ar 5), eI C 6 (Rt 3)), ((ar 6), eI C 6 (Rt 4)), ((ar 7), eI C 6 (Rt 5)), ((ar 8), eI C 4 (Rt 6))]
def f7_counts (Z : Nat → Nat → Int32) (k : Nat) : Int32 := (if ((Z 2) k) = 0 then (if ((Z 3) k) = 0 then (1) else (0)) else (0))
set_option maxHeartbeats 4000000 in
set_option maxRecDepth 100000 in
theorem kX7_counts (l : Launch) (D : va_G) (C : Nat → ClassId) (a : Nat → Nat) (Z : Nat → Nat → Int32) (Y : Nat → Nat → Int64) (k : Nat) (hk : k < 12) : Ri l D C yX7_counts cX7_counts 2 .boolean 0 [.ref (a 0), .int (nI k)] (wZ a C Z Y) (f7_counts Z k) := by
  refine Met.ofW (cc := cX7_counts) (maxL := 2) (ret := (some .boolean)) (by decide) rfl ?_
  intro p e s m args below meth c s₁ B hml hv
  obtain ⟨rfl, hP, hK, hNw⟩ := hv
  have hx := B.exec
  have hb := B.bytes
  have hr := B.returns
  have hts := atoms_spec (ws := wm yX7_counts cX7_counts 2 (some .boolean)) B.pre
  have hown : s.vm.findClass RX7 = some m.cls := findClass_of_methodNamed B.named
  have hlocks := B.notSynchronized
  have hW : ∀ w ∈ WA, w.before _ s = true := fun w h => hts w (List.mem_cons_of_mem _ h)
  have hP : va_P D vwCl [((a 0), .inr (7, [.int (Z 12 0), .ref (a 1), .ref (a 2), .ref (a 3), .ref (a 4), .int (Z 12 1), .ref (a 5), .ref (a 6), .ref (a 7), .ref (a 8), .ref (a 9), .int (Z 12 2), .ref (a 10), .int (Z 12 3), .int (Z 12 4), .ref (a 11), .ref (a 12), .long (Y 5 0), .ref (a 13), .ref (a 14), .ref (a 15), .ref (a 16), .ref (a 17)])), ((a 1), eI C 48 (Z 0)), ((a 2), eI C 24 (Z 1)), ((a 3), eZ C 12 (Z 2)), ((a 4), eZ C 12 (Z 3)), ((a 5), eI C 60 (Z 4)), ((a 6), eI C 60 (Z 5)), ((a 7), eI C 60 (Z 6)), ((a 8), eZ C 60 (Z 7)), ((a 9), eZ C 244 (Z 8)), ((a 10), eI C 24 (Z 9)), ((a 11), eJ C 9 (Y 0)), ((a 12), eJ C 9 (Y 1)), ((a 13), eJ C 3 (Y 2)), ((a 14), eJ C 3 (Y 3)), ((a 15), eJ C 12 (Y 4)), ((a 16), eI C 6 (Z 10)), ((a 17), eI C 4 (Z 11))] s.heap := hP
  have hl := lv_entry ([.ref (a 0), .int (nI k)]) (n := 2) (Nat.le_of_ble_eq_true rfl)
  rw [lg_entry_eq]
  generalize (lg_sl ([.ref (a 0), .int (nI k)]) ++ List.replicate (2 - (lg_sl ([.ref (a 0), .int (nI k)])).length) Slot.unset).toArray = ls at hl ⊢
  have hl : lv_has ls 2 [(0, .ref (a 0)), (1, .int (nI k))] := hl
  refine lv_aload_n hx hb dX7_counts_0 rfl (lv_at hl 0 rfl) ?_
  refine va_get (D := D) (ci := 7) (C := RX7) (T := TX7) (N := 23) hx hb hW inX7 hown hK hP 0 rfl rfl 3 (by decide) (hW _ (wa tw546 rfl)) (fun _ h9 => h9) rfl dX7_counts_1 ?_
  refine lv_iload_n hx hb dX7_counts_4 rfl (lv_at hl 1 rfl) ?_
  refine xzald hx hb hK hP 3 rfl k rfl (by omega) (by decide) dX7_counts_5 ?_
  refine lv_if_ne (tgt := 22) hx hb dX7_counts_6 (by decide) (fun c_1 => ?_) (fun c_1 => ?_)
  · refine lv_iconst (v := 0) hx hb dX7_counts_22 (by decide) ?_
    exact W.zret (v := 0) hx hb hr rfl (fun t ht _ => ⟨_, rfl, (by simp only [f7_counts, if_neg c_1]), ht⟩) (fun q h => by cases h) dX7_counts_23
  · refine lv_aload_n hx hb dX7_counts_9 rfl (lv_at hl 0 rfl) ?_
    refine va_get (D := D) (ci := 7) (C := RX7) (T := TX7) (N := 23) hx hb hW inX7 hown hK hP 0 rfl rfl 4 (by decide) (hW _ (wa tw547 rfl)) (fun _ h9 => h9) rfl dX7_counts_10 ?_
    refine lv_iload_n hx hb dX7_counts_13 rfl (lv_at hl 1 rfl) ?_
    refine xzald hx hb hK hP 4 rfl k rfl (by omega) (by decide) dX7_counts_14 ?_
    refine lv_if_ne (tgt := 22) hx hb dX7_counts_15 (by decide) (fun c_2 => ?_) (fun c_2 => ?_)
    · refine lv_iconst (v := 0) hx hb dX7_counts_22 (by decide) ?_
      exact W.zret (v := 0) hx hb hr rfl (fun t ht _ => ⟨_, rfl, (by simp only [f7_counts, if_pos c_1, if_neg c_2]), ht⟩) (fun q h => by cases h) dX7_counts_23
    · refine lv_iconst (v := 1) hx hb dX7_counts_18 (by decide) ?_
      refine lv_goto (tgt := 23) hx hb dX7_counts_19 (by decide) ?_
      exact W.zret (v := 1) hx hb hr rfl (fun t ht _ => ⟨_, rfl, (by simp only [f7_counts, if_pos c_1, if_pos c_2]), ht⟩) (fun q h => by cases h) dX7_counts_23

def f7_isMark (Z : Nat → Nat → Int32) (x : Int32) : Int32 := (f7_in x.toInt64 0 (((Z 12 0) - 1).toInt64))
set_option maxHeartbeats 4000000 in
set_option maxRecDepth 100000 in
theorem kX7_isMark (l : Launch) (D : va_G) (C : Nat → ClassId) (a : Nat → Nat) (Z : Nat → Nat → Int32) (Y : Nat → Nat → Int64) (x : Int32)  : Ri l D C yX7_isMark cX7_isMark 2 .boolean 1 [.ref (a 0), .int x] (wZ a C Z Y) (f7_isMark Z x) := by
  refine Met.ofW (cc := cX7_isMark) (maxL := 2) (ret := (some .boolean)) (by decide) rfl ?_
  intro p e s m args below meth c s₁ B hml hv
  obtain ⟨rfl, hP, hK, hNw⟩ := hv
  have hx := B.exec
  have hb := B.bytes
  have hr := B.returns
  have hts := atoms_spec (ws := wm yX7_isMark cX7_isMark 2 (some .boolean)) B.pre
  have hown : s.vm.findClass RX7 = some m.cls := findClass_of_methodNamed B.named
  have hlocks := B.notSynchronized
  have hW : ∀ w ∈ WA, w.before _ s = true := fun w h => hts w (List.mem_cons_of_mem _ h)
  have hP : va_P D vwCl [((a 0), .inr (7, [.int (Z 12 0), .ref (a 1), .ref (a 2), .ref (a 3), .ref (a 4), .int (Z 12 1), .ref (a 5), .ref (a 6), .ref (a 7), .ref (a 8), .ref (a 9), .int (Z 12 2), .ref (a 10), .int (Z 12 3), .int (Z 12 4), .ref (a 11), .ref (a 12), .long (Y 5 0), .ref (a 13), .ref (a 14), .ref (a 15), .ref (a 16), .ref (a 17)])), ((a 1), eI C 48 (Z 0)), ((a 2), eI C 24 (Z 1)), ((a 3), eZ C 12 (Z 2)), ((a 4), eZ C 12 (Z 3)), ((a 5), eI C 60 (Z 4)), ((a 6), eI C 60 (Z 5)), ((a 7), eI C 60 (Z 6)), ((a 8), eZ C 60 (Z 7)), ((a 9), eZ C 244 (Z 8)), ((a 10), eI C 24 (Z 9)), ((a 11), eJ C 9 (Y 0)), ((a 12), eJ C 9 (Y 1)), ((a 13), eJ C 3 (Y 2)), ((a 14), eJ C 3 (Y 3)), ((a 15), eJ C 12 (Y 4)), ((a 16), eI C 6 (Z 10)), ((a 17), eI C 4 (Z 11))] s.heap := hP
  have hl := lv_entry ([.ref (a 0), .int x]) (n := 2) (Nat.le_of_ble_eq_true rfl)
  rw [lg_entry_eq]
  generalize (lg_sl ([.ref (a 0), .int x]) ++ List.replicate (2 - (lg_sl ([.ref (a 0), .int x])).length) Slot.unset).toArray = ls at hl ⊢
  have hl : lv_has ls 2 [(0, .ref (a 0)), (1, .int x)] := hl
  refine lv_iload_n hx hb dX7_isMark_0 rfl (lv_at hl 1 rfl) ?_
  refine lv_i2l (v := x.toInt64) hx hb dX7_isMark_1 rfl ?_
  refine lv_lconst (v := 0) hx hb dX7_isMark_2 (by decide) ?_
  refine lv_aload_n hx hb dX7_isMark_3 rfl (lv_at hl 0 rfl) ?_
  refine va_get (D := D) (ci := 7) (C := RX7) (T := TX7) (N := 23) hx hb hW inX7 hown hK hP 0 rfl rfl 0 (by decide) (hW _ (wa tw543 rfl)) (fun _ h9 => h9) rfl dX7_isMark_4 ?_
  refine lv_iconst (v := 1) hx hb dX7_isMark_7 (by decide) ?_
  refine lv_isub hx hb dX7_isMark_8 ?_
  refine lv_i2l (v := ((Z 12 0) - 1).toInt64) hx hb dX7_isMark_9 rfl ?_
  refine xri (r := f7_in x.toInt64 0 (((Z 12 0) - 1).toInt64)) (rS (As := [.long x.toInt64, .long 0, .long (((Z 12 0) - 1).toInt64)]) (n := 3) (rest := []) ⟨hx, hb, hml, hown, hW⟩ (kX7_in l x.toInt64 0 (((Z 12 0) - 1).toInt64)) (wa tw621 rfl) (wa tw619 rfl) (wa tw620 rfl) (wa tw8 rfl) (by decide +kernel) ⟨Nat.le_of_ble_eq_true rfl, Nat.le_of_ble_eq_true rfl⟩ pS0 hl.1 rfl (Nat.le_of_ble_eq_true rfl) dX7_isMark_10 ⟨Nat.le_of_ble_eq_true rfl, Nat.le_of_ble_eq_true rfl⟩ rfl rfl rfl) ?_
  exact W.zret (v := f7_in x.toInt64 0 (((Z 12 0) - 1).toInt64)) hx hb hr (f7_in_z x.toInt64 0 (((Z 12 0) - 1).toInt64)) (fun t ht _ => ⟨_, rfl, (by simp only [f7_isMark]), ht⟩) (fun q h => by cases h) dX7_isMark_13

def cntL (Z : Nat → Nat → Int32) : Nat → Nat → Int32 → Int32
  | 0, _, acc => acc
  | n + 1, k, acc => cntL Z n (k + 1) (acc ||| (if f7_counts Z k = 0 then 0 else (1 : Int32) <<< (nI k &&& 31)))
def f7_counting (Z : Nat → Nat → Int32) (N : Nat) : Int32 := cntL Z N 0 0

set_option maxHeartbeats 4000000 in
set_option maxRecDepth 100000 in
theorem kX7_counting (l : Launch) (D : va_G) (C : Nat → ClassId) (a : Nat → Nat) (Z : Nat → Nat → Int32) (Y : Nat → Nat → Int64)  (N : Nat) (hN : Z 12 0 = nI N) (hN12 : N ≤ 12) : Ri l D C yX7_counting cX7_counting 3 .int 1 [.ref (a 0)] (wZ a C Z Y) (f7_counting Z N) := by
  refine Met.ofW (cc := cX7_counting) (maxL := 3) (ret := (some .int)) (by decide) rfl ?_
  intro p e s m args below meth c s₁ B hml hv
  obtain ⟨rfl, hP, hK, hNw⟩ := hv
  have hx := B.exec
  have hb := B.bytes
  have hr := B.returns
  have hts := atoms_spec (ws := wm yX7_counting cX7_counting 3 (some .int)) B.pre
  have hown : s.vm.findClass RX7 = some m.cls := findClass_of_methodNamed B.named
  have hlocks := B.notSynchronized
  have hW : ∀ w ∈ WA, w.before _ s = true := fun w h => hts w (List.mem_cons_of_mem _ h)
  have hP : va_P D vwCl [((a 0), .inr (7, [.int (Z 12 0), .ref (a 1), .ref (a 2), .ref (a 3), .ref (a 4), .int (Z 12 1), .ref (a 5), .ref (a 6), .ref (a 7), .ref (a 8), .ref (a 9), .int (Z 12 2), .ref (a 10), .int (Z 12 3), .int (Z 12 4), .ref (a 11), .ref (a 12), .long (Y 5 0), .ref (a 13), .ref (a 14), .ref (a 15), .ref (a 16), .ref (a 17)])), ((a 1), eI C 48 (Z 0)), ((a 2), eI C 24 (Z 1)), ((a 3), eZ C 12 (Z 2)), ((a 4), eZ C 12 (Z 3)), ((a 5), eI C 60 (Z 4)), ((a 6), eI C 60 (Z 5)), ((a 7), eI C 60 (Z 6)), ((a 8), eZ C 60 (Z 7)), ((a 9), eZ C 244 (Z 8)), ((a 10), eI C 24 (Z 9)), ((a 11), eJ C 9 (Y 0)), ((a 12), eJ C 9 (Y 1)), ((a 13), eJ C 3 (Y 2)), ((a 14), eJ C 3 (Y 3)), ((a 15), eJ C 12 (Y 4)), ((a 16), eI C 6 (Z 10)), ((a 17), eI C 4 (Z 11))] s.heap := hP
  have hl := lv_entry ([.ref (a 0)]) (n := 3) (Nat.le_of_ble_eq_true rfl)
  rw [lg_entry_eq]
  generalize (lg_sl ([.ref (a 0)]) ++ List.replicate (3 - (lg_sl ([.ref (a 0)])).length) Slot.unset).toArray = ls at hl ⊢
  have hl : lv_has ls 3 [(0, .ref (a 0))] := hl
  refine lv_iconst (v := 0) hx hb dX7_counting_0 (by decide) ?_
  refine lv_istore_n (lv' := [(1, .int 0), (0, .ref (a 0))]) hx hb dX7_counting_1 rfl hl (by decide) rfl (fun ls hl => ?_)
  refine lv_iconst (v := 0) hx hb dX7_counting_2 (by decide) ?_
  refine lv_istore_n (lv' := [(2, .int 0), (1, .int 0), (0, .ref (a 0))]) hx hb dX7_counting_3 rfl hl (by decide) rfl (fun ls hl => ?_)
  obtain ⟨n4, k, acc, hinv⟩ : ∃ (n4 : Nat) (k : Nat) (acc : Int32), k + n4 = N ∧ cntL Z n4 k acc = f7_counting Z N ∧ lv_has ls 3 [(0, .ref (a 0)), (1, .int acc), (2, .int (nI k))] := ⟨N, 0, 0, by omega, rfl, lv_sub hl [2, 1, 0] rfl⟩
  clear hl
  induction n4 generalizing k acc ls with
  | zero =>
    obtain ⟨h4_0, h4_1, hl⟩ := hinv
    refine lv_iload_n hx hb dX7_counting_4 rfl (lv_at hl 2 rfl) ?_
    refine lv_aload_n hx hb dX7_counting_5 rfl (lv_at hl 0 rfl) ?_
    refine va_get (D := D) (ci := 7) (C := RX7) (T := TX7) (N := 23) hx hb hW inX7 hown hK hP 0 rfl rfl 0 (by decide) (hW _ (wa tw543 rfl)) (fun _ h9 => h9) rfl dX7_counting_6 ?_
    refine lv_icmp_ge (tgt := 36) hx hb dX7_counting_9 (by decide) (fun c_1 => ?_) (fun c_1 => ?_)
    · refine lv_iload_n hx hb dX7_counting_36 rfl (lv_at hl 1 rfl) ?_
      exact W.iret (v := acc) hx hb hr (fun t ht _ => ⟨_, rfl, h4_1, ht⟩) (fun q h => by cases h) dX7_counting_37
    · exact absurd (q_le hN rfl (by omega) (by omega)) c_1
  | succ n4 ih4 =>
    obtain ⟨h4_0, h4_1, hl⟩ := hinv
    refine lv_iload_n hx hb dX7_counting_4 rfl (lv_at hl 2 rfl) ?_
    refine lv_aload_n hx hb dX7_counting_5 rfl (lv_at hl 0 rfl) ?_
    refine va_get (D := D) (ci := 7) (C := RX7) (T := TX7) (N := 23) hx hb hW inX7 hown hK hP 0 rfl rfl 0 (by decide) (hW _ (wa tw543 rfl)) (fun _ h9 => h9) rfl dX7_counting_6 ?_
    refine lv_icmp_ge (tgt := 36) hx hb dX7_counting_9 (by decide) (fun c_2 => ?_) (fun c_2 => ?_)
    · exact absurd c_2 (q_nle hN rfl (by omega) (by omega))
    · refine lv_iload_n hx hb dX7_counting_12 rfl (lv_at hl 1 rfl) ?_
      refine lv_aload_n hx hb dX7_counting_13 rfl (lv_at hl 0 rfl) ?_
      refine lv_iload_n hx hb dX7_counting_14 rfl (lv_at hl 2 rfl) ?_
      refine xri (r := f7_counts Z k) (rV (As := [.int (nI k)]) (n := 1) (rest := [.int acc]) ⟨hx, hb, hml, hown, hW⟩ (kX7_counts l D C a Z Y k (by omega)) (wa tw657 rfl) (wa tw654 rfl) (wa tw656 rfl) (was ts37 rfl) (wa tw8 rfl) (by decide +kernel) ⟨Nat.le_of_ble_eq_true rfl, Nat.le_of_ble_eq_true rfl⟩ (pVr hP hK hNw 0 rfl rfl) hl.1 rfl (Nat.le_of_ble_eq_true rfl) dX7_counting_15 ⟨Nat.le_of_ble_eq_true rfl, Nat.le_of_ble_eq_true rfl⟩ rfl rfl rfl) ?_
      refine lv_if_eq (tgt := 27) hx hb dX7_counting_18 (by decide) (fun c_3 => ?_) (fun c_3 => ?_)
      · refine lv_iconst (v := 0) hx hb dX7_counting_27 (by decide) ?_
        refine lv_ior hx hb dX7_counting_28 ?_
        refine lv_istore_n (lv' := [(1, .int (acc ||| 0)), (0, .ref (a 0)), (2, .int (nI k))]) hx hb dX7_counting_29 rfl hl (by decide) rfl (fun ls hl => ?_)
        refine lv_iinc (v := nI k + 1) (lv' := [(2, .int (nI k + 1)), (1, .int (acc ||| 0)), (0, .ref (a 0))]) hx hb dX7_counting_30 hl (k := 2) rfl rfl (by decide) rfl (fun ls hl => ?_)
        refine lv_goto (tgt := 4) hx hb dX7_counting_33 (by decide) ?_
        rw [nI_1] at hl
        exact ih4 (k := k + 1) (acc := (acc ||| 0)) (ls := ls) ⟨by omega, (by rw [← h4_1, cntL, if_pos c_3]), lv_sub hl [2, 1, 0] rfl⟩
      · refine lv_iconst (v := 1) hx hb dX7_counting_21 (by decide) ?_
        refine lv_iload_n hx hb dX7_counting_22 rfl (lv_at hl 2 rfl) ?_
        refine lv_ishl hx hb dX7_counting_23 ?_
        refine lv_goto (tgt := 28) hx hb dX7_counting_24 (by decide) ?_
        refine lv_ior hx hb dX7_counting_28 ?_
        refine lv_istore_n (lv' := [(1, .int (acc ||| ((1 : Int32) <<< ((nI k) &&& 31)))), (0, .ref (a 0)), (2, .int (nI k))]) hx hb dX7_counting_29 rfl hl (by decide) rfl (fun ls hl => ?_)
        refine lv_iinc (v := nI k + 1) (lv' := [(2, .int (nI k + 1)), (1, .int (acc ||| ((1 : Int32) <<< ((nI k) &&& 31)))), (0, .ref (a 0))]) hx hb dX7_counting_30 hl (k := 2) rfl rfl (by decide) rfl (fun ls hl => ?_)
        refine lv_goto (tgt := 4) hx hb dX7_counting_33 (by decide) ?_
        rw [nI_1] at hl
        exact ih4 (k := k + 1) (acc := (acc ||| ((1 : Int32) <<< ((nI k) &&& 31)))) (ls := ls) ⟨by omega, (by rw [← h4_1, cntL, if_neg c_3]), lv_sub hl [2, 1, 0] rfl⟩

def fiL (pl : Nat → Int32) (set : Int32) (j : Nat) : Nat → Nat → Int32 → Int32
  | 0, _, f => f
  | n + 1, k, f => fiL pl set j n (k + 1) (if f = 0 then 0 else if ((set >>> (nI k &&& 31)) &&& 1) = 1 then (if pl (4 * k) = pl (4 * j) then (if pl (4 * k + 1) = pl (4 * j + 1) then 0 else 1) else 1) else 1)
def foL (pl : Nat → Int32) (set : Int32) : Nat → Nat → Int32 → Int32
  | 0, _, acc => acc
  | n + 1, j, acc => foL pl set n (j + 1) (acc + (if fiL pl set j j 0 (if ((set >>> (nI j &&& 31)) &&& 1) = 1 then 1 else 0) = 0 then 0 else 1))
def f7_fieldsOf (pl : Nat → Int32) (N : Nat) (set : Int32) : Int32 := foL pl set N 0 0

set_option maxHeartbeats 4000000 in
set_option maxRecDepth 100000 in
theorem kX7_fieldsOf (l : Launch) (D : va_G) (C : Nat → ClassId) (a : Nat → Nat) (Z : Nat → Nat → Int32) (Y : Nat → Nat → Int64) (set : Int32) (N : Nat) (hN : Z 12 0 = nI N) (hN12 : N ≤ 12) : Ri l D C yX7_fieldsOf cX7_fieldsOf 6 .int 0 [.ref (a 0), .int set] (wZ a C Z Y) (f7_fieldsOf (Z 0) N set) := by
  refine Met.ofW (cc := cX7_fieldsOf) (maxL := 6) (ret := (some .int)) (by decide) rfl ?_
  intro p e s m args below meth c s₁ B hml hv
  obtain ⟨rfl, hP, hK, hNw⟩ := hv
  have hx := B.exec
  have hb := B.bytes
  have hr := B.returns
  have hts := atoms_spec (ws := wm yX7_fieldsOf cX7_fieldsOf 6 (some .int)) B.pre
  have hown : s.vm.findClass RX7 = some m.cls := findClass_of_methodNamed B.named
  have hlocks := B.notSynchronized
  have hW : ∀ w ∈ WA, w.before _ s = true := fun w h => hts w (List.mem_cons_of_mem _ h)
  have hP : va_P D vwCl [((a 0), .inr (7, [.int (Z 12 0), .ref (a 1), .ref (a 2), .ref (a 3), .ref (a 4), .int (Z 12 1), .ref (a 5), .ref (a 6), .ref (a 7), .ref (a 8), .ref (a 9), .int (Z 12 2), .ref (a 10), .int (Z 12 3), .int (Z 12 4), .ref (a 11), .ref (a 12), .long (Y 5 0), .ref (a 13), .ref (a 14), .ref (a 15), .ref (a 16), .ref (a 17)])), ((a 1), eI C 48 (Z 0)), ((a 2), eI C 24 (Z 1)), ((a 3), eZ C 12 (Z 2)), ((a 4), eZ C 12 (Z 3)), ((a 5), eI C 60 (Z 4)), ((a 6), eI C 60 (Z 5)), ((a 7), eI C 60 (Z 6)), ((a 8), eZ C 60 (Z 7)), ((a 9), eZ C 244 (Z 8)), ((a 10), eI C 24 (Z 9)), ((a 11), eJ C 9 (Y 0)), ((a 12), eJ C 9 (Y 1)), ((a 13), eJ C 3 (Y 2)), ((a 14), eJ C 3 (Y 3)), ((a 15), eJ C 12 (Y 4)), ((a 16), eI C 6 (Z 10)), ((a 17), eI C 4 (Z 11))] s.heap := hP
  have hl := lv_entry ([.ref (a 0), .int set]) (n := 6) (Nat.le_of_ble_eq_true rfl)
  rw [lg_entry_eq]
  generalize (lg_sl ([.ref (a 0), .int set]) ++ List.replicate (6 - (lg_sl ([.ref (a 0), .int set])).length) Slot.unset).toArray = ls at hl ⊢
  have hl : lv_has ls 6 [(0, .ref (a 0)), (1, .int set)] := hl
  refine lv_iconst (v := 0) hx hb dX7_fieldsOf_0 (by decide) ?_
  refine lv_istore_n (lv' := [(2, .int 0), (0, .ref (a 0)), (1, .int set)]) hx hb dX7_fieldsOf_1 rfl hl (by decide) rfl (fun ls hl => ?_)
  refine lv_iconst (v := 0) hx hb dX7_fieldsOf_2 (by decide) ?_
  refine lv_istore_n (lv' := [(3, .int 0), (2, .int 0), (0, .ref (a 0)), (1, .int set)]) hx hb dX7_fieldsOf_3 rfl hl (by decide) rfl (fun ls hl => ?_)
  obtain ⟨n4, j, acc, hinv⟩ : ∃ (n4 : Nat) (j : Nat) (acc : Int32), j + n4 = N ∧ foL (Z 0) set n4 j acc = f7_fieldsOf (Z 0) N set ∧ lv_has ls 6 [(0, .ref (a 0)), (1, .int set), (2, .int acc), (3, .int (nI j))] := ⟨N, 0, 0, by omega, rfl, lv_sub hl [2, 3, 1, 0] rfl⟩
  clear hl
  induction n4 generalizing j acc ls with
  | zero =>
    obtain ⟨h4_0, h4_1, hl⟩ := hinv
    refine lv_iload_n hx hb dX7_fieldsOf_4 rfl (lv_at hl 3 rfl) ?_
    refine lv_aload_n hx hb dX7_fieldsOf_5 rfl (lv_at hl 0 rfl) ?_
    refine va_get (D := D) (ci := 7) (C := RX7) (T := TX7) (N := 23) hx hb hW inX7 hown hK hP 0 rfl rfl 0 (by decide) (hW _ (wa tw543 rfl)) (fun _ h9 => h9) rfl dX7_fieldsOf_6 ?_
    refine lv_icmp_ge (tgt := 128) hx hb dX7_fieldsOf_9 (by decide) (fun c_1 => ?_) (fun c_1 => ?_)
    · refine lv_iload_n hx hb dX7_fieldsOf_128 rfl (lv_at hl 2 rfl) ?_
      exact W.iret (v := acc) hx hb hr (fun t ht _ => ⟨_, rfl, h4_1, ht⟩) (fun q h => by cases h) dX7_fieldsOf_129
    · exact absurd (q_le hN rfl (by omega) (by omega)) c_1
  | succ n4 ih4 =>
    obtain ⟨h4_0, h4_1, hl⟩ := hinv
    refine lv_iload_n hx hb dX7_fieldsOf_4 rfl (lv_at hl 3 rfl) ?_
    refine lv_aload_n hx hb dX7_fieldsOf_5 rfl (lv_at hl 0 rfl) ?_
    refine va_get (D := D) (ci := 7) (C := RX7) (T := TX7) (N := 23) hx hb hW inX7 hown hK hP 0 rfl rfl 0 (by decide) (hW _ (wa tw543 rfl)) (fun _ h9 => h9) rfl dX7_fieldsOf_6 ?_
    refine lv_icmp_ge (tgt := 128) hx hb dX7_fieldsOf_9 (by decide) (fun c_2 => ?_) (fun c_2 => ?_)
    · exact absurd c_2 (q_nle hN rfl (by omega) (by omega))
    · refine lv_iload_n hx hb dX7_fieldsOf_12 rfl (lv_at hl 1 rfl) ?_
      refine lv_iload_n hx hb dX7_fieldsOf_13 rfl (lv_at hl 3 rfl) ?_
      refine lv_ishr hx hb dX7_fieldsOf_14 ?_
      refine lv_iconst (v := 1) hx hb dX7_fieldsOf_15 (by decide) ?_
      refine lv_iand hx hb dX7_fieldsOf_16 ?_
      refine lv_iconst (v := 1) hx hb dX7_fieldsOf_17 (by decide) ?_
      refine lv_icmp_ne (tgt := 25) hx hb dX7_fieldsOf_18 (by decide) (fun c_3 => ?_) (fun c_3 => ?_)
      · refine lv_iconst (v := 0) hx hb dX7_fieldsOf_25 (by decide) ?_
        refine lv_istore (lv' := [(4, .int 0), (0, .ref (a 0)), (1, .int set), (2, .int acc), (3, .int (nI j))]) hx hb dX7_fieldsOf_26 hl (by decide) rfl (fun ls hl => ?_)
        obtain ⟨f0, ef0⟩ : ∃ z : Int32, z = (if ((set >>> (nI j &&& 31)) &&& 1) = 1 then 1 else 0) := ⟨_, rfl⟩
        have ef1 : f0 = 0 := by rw [ef0, if_neg c_3]
        have hl : lv_has ls 6 [(4, .int 0), (0, .ref (a 0)), (1, .int set), (2, .int acc), (3, .int (nI j))] := hl
        rw [← ef1] at hl
        refine lv_iconst (v := 0) hx hb dX7_fieldsOf_28 (by decide) ?_
        refine lv_istore (lv' := [(5, .int 0), (4, .int f0), (0, .ref (a 0)), (1, .int set), (2, .int acc), (3, .int (nI j))]) hx hb dX7_fieldsOf_29 hl (by decide) rfl (fun ls hl => ?_)
        obtain ⟨n31, k, f, hinv⟩ : ∃ (n31 : Nat) (k : Nat) (f : Int32), k + n31 = j ∧ fiL (Z 0) set j n31 k f = fiL (Z 0) set j j 0 f0 ∧ lv_has ls 6 [(0, .ref (a 0)), (1, .int set), (2, .int acc), (3, .int (nI j)), (4, .int f), (5, .int (nI k))] := ⟨j, 0, f0, by omega, rfl, lv_sub hl [2, 3, 4, 5, 1, 0] rfl⟩
        clear hl
        induction n31 generalizing k f ls with
        | zero =>
          obtain ⟨h31_0, h31_1, hl⟩ := hinv
          refine lv_iload hx hb dX7_fieldsOf_31 (lv_at hl 5 rfl) ?_
          refine lv_iload_n hx hb dX7_fieldsOf_33 rfl (lv_at hl 3 rfl) ?_
          refine lv_icmp_ge (tgt := 109) hx hb dX7_fieldsOf_34 (by decide) (fun c_4 => ?_) (fun c_4 => ?_)
          · have e31 : f = fiL (Z 0) set j j 0 f0 := h31_1
            subst e31
            refine lv_iload_n hx hb dX7_fieldsOf_109 rfl (lv_at hl 2 rfl) ?_
            refine lv_iload hx hb dX7_fieldsOf_110 (lv_at hl 4 rfl) ?_
            refine lv_if_eq (tgt := 119) hx hb dX7_fieldsOf_112 (by decide) (fun c_5 => ?_) (fun c_5 => ?_)
            · refine lv_iconst (v := 0) hx hb dX7_fieldsOf_119 (by decide) ?_
              refine lv_iadd hx hb dX7_fieldsOf_120 ?_
              refine lv_istore_n (lv' := [(2, .int (acc + 0)), (0, .ref (a 0)), (1, .int set), (3, .int (nI j)), (4, .int (fiL (Z 0) set j j 0 f0)), (5, .int (nI k))]) hx hb dX7_fieldsOf_121 rfl hl (by decide) rfl (fun ls hl => ?_)
              refine lv_iinc (v := nI j + 1) (lv' := [(3, .int (nI j + 1)), (2, .int (acc + 0)), (0, .ref (a 0)), (1, .int set), (4, .int (fiL (Z 0) set j j 0 f0)), (5, .int (nI k))]) hx hb dX7_fieldsOf_122 hl (k := 3) rfl rfl (by decide) rfl (fun ls hl => ?_)
              refine lv_goto (tgt := 4) hx hb dX7_fieldsOf_125 (by decide) ?_
              rw [nI_1] at hl
              exact ih4 (j := j + 1) (acc := (acc + 0)) (ls := ls) ⟨by omega, by rw [← h4_1, foL]; exact congrArg (foL (Z 0) set n4 (j + 1)) (congrArg (acc + ·) (by rw [← ef0, if_pos c_5])), lv_sub hl [2, 3, 1, 0] rfl⟩
            · refine lv_iconst (v := 1) hx hb dX7_fieldsOf_115 (by decide) ?_
              refine lv_goto (tgt := 120) hx hb dX7_fieldsOf_116 (by decide) ?_
              refine lv_iadd hx hb dX7_fieldsOf_120 ?_
              refine lv_istore_n (lv' := [(2, .int (acc + 1)), (0, .ref (a 0)), (1, .int set), (3, .int (nI j)), (4, .int (fiL (Z 0) set j j 0 f0)), (5, .int (nI k))]) hx hb dX7_fieldsOf_121 rfl hl (by decide) rfl (fun ls hl => ?_)
              refine lv_iinc (v := nI j + 1) (lv' := [(3, .int (nI j + 1)), (2, .int (acc + 1)), (0, .ref (a 0)), (1, .int set), (4, .int (fiL (Z 0) set j j 0 f0)), (5, .int (nI k))]) hx hb dX7_fieldsOf_122 hl (k := 3) rfl rfl (by decide) rfl (fun ls hl => ?_)
              refine lv_goto (tgt := 4) hx hb dX7_fieldsOf_125 (by decide) ?_
              rw [nI_1] at hl
              exact ih4 (j := j + 1) (acc := (acc + 1)) (ls := ls) ⟨by omega, by rw [← h4_1, foL]; exact congrArg (foL (Z 0) set n4 (j + 1)) (congrArg (acc + ·) (by rw [← ef0, if_neg c_5])), lv_sub hl [2, 3, 1, 0] rfl⟩
          · exact absurd (q_le rfl rfl (by omega) (by omega)) c_4
        | succ n31 ih31 =>
          obtain ⟨h31_0, h31_1, hl⟩ := hinv
          refine lv_iload hx hb dX7_fieldsOf_31 (lv_at hl 5 rfl) ?_
          refine lv_iload_n hx hb dX7_fieldsOf_33 rfl (lv_at hl 3 rfl) ?_
          refine lv_icmp_ge (tgt := 109) hx hb dX7_fieldsOf_34 (by decide) (fun c_6 => ?_) (fun c_6 => ?_)
          · exact absurd c_6 (q_nle rfl rfl (by omega) (by omega))
          · refine lv_iload hx hb dX7_fieldsOf_37 (lv_at hl 4 rfl) ?_
            refine lv_if_eq (tgt := 100) hx hb dX7_fieldsOf_39 (by decide) (fun c_7 => ?_) (fun c_7 => ?_)
            · refine lv_iconst (v := 0) hx hb dX7_fieldsOf_100 (by decide) ?_
              refine lv_istore (lv' := [(4, .int 0), (0, .ref (a 0)), (1, .int set), (2, .int acc), (3, .int (nI j)), (5, .int (nI k))]) hx hb dX7_fieldsOf_101 hl (by decide) rfl (fun ls hl => ?_)
              refine lv_iinc (v := nI k + 1) (lv' := [(5, .int (nI k + 1)), (4, .int 0), (0, .ref (a 0)), (1, .int set), (2, .int acc), (3, .int (nI j))]) hx hb dX7_fieldsOf_103 hl (k := 5) rfl rfl (by decide) rfl (fun ls hl => ?_)
              refine lv_goto (tgt := 31) hx hb dX7_fieldsOf_106 (by decide) ?_
              rw [nI_1] at hl
              exact ih31 (k := k + 1) (f := 0) (ls := ls) ⟨by omega, by rw [← h31_1, fiL]; simp only [if_neg c_2, if_neg c_3, if_neg c_6, if_pos c_7], lv_sub hl [2, 3, 4, 5, 1, 0] rfl⟩
            · refine lv_iload_n hx hb dX7_fieldsOf_42 rfl (lv_at hl 1 rfl) ?_
              refine lv_iload hx hb dX7_fieldsOf_43 (lv_at hl 5 rfl) ?_
              refine lv_ishr hx hb dX7_fieldsOf_45 ?_
              refine lv_iconst (v := 1) hx hb dX7_fieldsOf_46 (by decide) ?_
              refine lv_iand hx hb dX7_fieldsOf_47 ?_
              refine lv_iconst (v := 1) hx hb dX7_fieldsOf_48 (by decide) ?_
              refine lv_icmp_ne (tgt := 96) hx hb dX7_fieldsOf_49 (by decide) (fun c_8 => ?_) (fun c_8 => ?_)
              · refine lv_iconst (v := 1) hx hb dX7_fieldsOf_96 (by decide) ?_
                refine lv_goto (tgt := 101) hx hb dX7_fieldsOf_97 (by decide) ?_
                refine lv_istore (lv' := [(4, .int 1), (0, .ref (a 0)), (1, .int set), (2, .int acc), (3, .int (nI j)), (5, .int (nI k))]) hx hb dX7_fieldsOf_101 hl (by decide) rfl (fun ls hl => ?_)
                refine lv_iinc (v := nI k + 1) (lv' := [(5, .int (nI k + 1)), (4, .int 1), (0, .ref (a 0)), (1, .int set), (2, .int acc), (3, .int (nI j))]) hx hb dX7_fieldsOf_103 hl (k := 5) rfl rfl (by decide) rfl (fun ls hl => ?_)
                refine lv_goto (tgt := 31) hx hb dX7_fieldsOf_106 (by decide) ?_
                rw [nI_1] at hl
                exact ih31 (k := k + 1) (f := 1) (ls := ls) ⟨by omega, by rw [← h31_1, fiL]; simp only [if_neg c_2, if_neg c_3, if_neg c_6, if_neg c_7, if_neg c_8], lv_sub hl [2, 3, 4, 5, 1, 0] rfl⟩
              · refine lv_aload_n hx hb dX7_fieldsOf_52 rfl (lv_at hl 0 rfl) ?_
                refine va_get (D := D) (ci := 7) (C := RX7) (T := TX7) (N := 23) hx hb hW inX7 hown hK hP 0 rfl rfl 1 (by decide) (hW _ (wa tw544 rfl)) (fun _ h9 => h9) rfl dX7_fieldsOf_53 ?_
                refine lv_iconst (v := 4) hx hb dX7_fieldsOf_56 (by decide) ?_
                refine lv_iload hx hb dX7_fieldsOf_57 (lv_at hl 5 rfl) ?_
                refine lv_imul hx hb dX7_fieldsOf_59 ?_
                refine xiald hx hb hK hP 1 rfl (4 * k) (q_mul (nI_lit 4) rfl) (by omega) (by decide) dX7_fieldsOf_60 ?_
                refine lv_aload_n hx hb dX7_fieldsOf_61 rfl (lv_at hl 0 rfl) ?_
                refine va_get (D := D) (ci := 7) (C := RX7) (T := TX7) (N := 23) hx hb hW inX7 hown hK hP 0 rfl rfl 1 (by decide) (hW _ (wa tw544 rfl)) (fun _ h9 => h9) rfl dX7_fieldsOf_62 ?_
                refine lv_iconst (v := 4) hx hb dX7_fieldsOf_65 (by decide) ?_
                refine lv_iload_n hx hb dX7_fieldsOf_66 rfl (lv_at hl 3 rfl) ?_
                refine lv_imul hx hb dX7_fieldsOf_67 ?_
                refine xiald hx hb hK hP 1 rfl (4 * j) (q_mul (nI_lit 4) rfl) (by omega) (by decide) dX7_fieldsOf_68 ?_
                refine lv_icmp_ne (tgt := 96) hx hb dX7_fieldsOf_69 (by decide) (fun c_9 => ?_) (fun c_9 => ?_)
                · refine lv_iconst (v := 1) hx hb dX7_fieldsOf_96 (by decide) ?_
                  refine lv_goto (tgt := 101) hx hb dX7_fieldsOf_97 (by decide) ?_
                  refine lv_istore (lv' := [(4, .int 1), (0, .ref (a 0)), (1, .int set), (2, .int acc), (3, .int (nI j)), (5, .int (nI k))]) hx hb dX7_fieldsOf_101 hl (by decide) rfl (fun ls hl => ?_)
                  refine lv_iinc (v := nI k + 1) (lv' := [(5, .int (nI k + 1)), (4, .int 1), (0, .ref (a 0)), (1, .int set), (2, .int acc), (3, .int (nI j))]) hx hb dX7_fieldsOf_103 hl (k := 5) rfl rfl (by decide) rfl (fun ls hl => ?_)
                  refine lv_goto (tgt := 31) hx hb dX7_fieldsOf_106 (by decide) ?_
                  rw [nI_1] at hl
                  exact ih31 (k := k + 1) (f := 1) (ls := ls) ⟨by omega, by rw [← h31_1, fiL]; simp only [if_neg c_2, if_neg c_3, if_neg c_6, if_neg c_7, if_pos c_8, if_neg c_9], lv_sub hl [2, 3, 4, 5, 1, 0] rfl⟩
                · refine lv_aload_n hx hb dX7_fieldsOf_72 rfl (lv_at hl 0 rfl) ?_
                  refine va_get (D := D) (ci := 7) (C := RX7) (T := TX7) (N := 23) hx hb hW inX7 hown hK hP 0 rfl rfl 1 (by decide) (hW _ (wa tw544 rfl)) (fun _ h9 => h9) rfl dX7_fieldsOf_73 ?_
                  refine lv_iconst (v := 4) hx hb dX7_fieldsOf_76 (by decide) ?_
                  refine lv_iload hx hb dX7_fieldsOf_77 (lv_at hl 5 rfl) ?_
                  refine lv_imul hx hb dX7_fieldsOf_79 ?_
                  refine lv_iconst (v := 1) hx hb dX7_fieldsOf_80 (by decide) ?_
                  refine lv_iadd hx hb dX7_fieldsOf_81 ?_
                  refine xiald hx hb hK hP 1 rfl ((4 * k) + 1) (q_add (q_mul (nI_lit 4) rfl) (nI_lit 1)) (by omega) (by decide) dX7_fieldsOf_82 ?_
                  refine lv_aload_n hx hb dX7_fieldsOf_83 rfl (lv_at hl 0 rfl) ?_
                  refine va_get (D := D) (ci := 7) (C := RX7) (T := TX7) (N := 23) hx hb hW inX7 hown hK hP 0 rfl rfl 1 (by decide) (hW _ (wa tw544 rfl)) (fun _ h9 => h9) rfl dX7_fieldsOf_84 ?_
                  refine lv_iconst (v := 4) hx hb dX7_fieldsOf_87 (by decide) ?_
                  refine lv_iload_n hx hb dX7_fieldsOf_88 rfl (lv_at hl 3 rfl) ?_
                  refine lv_imul hx hb dX7_fieldsOf_89 ?_
                  refine lv_iconst (v := 1) hx hb dX7_fieldsOf_90 (by decide) ?_
                  refine lv_iadd hx hb dX7_fieldsOf_91 ?_
                  refine xiald hx hb hK hP 1 rfl ((4 * j) + 1) (q_add (q_mul (nI_lit 4) rfl) (nI_lit 1)) (by omega) (by decide) dX7_fieldsOf_92 ?_
                  refine lv_icmp_eq (tgt := 100) hx hb dX7_fieldsOf_93 (by decide) (fun c_10 => ?_) (fun c_10 => ?_)
                  · refine lv_iconst (v := 0) hx hb dX7_fieldsOf_100 (by decide) ?_
                    refine lv_istore (lv' := [(4, .int 0), (0, .ref (a 0)), (1, .int set), (2, .int acc), (3, .int (nI j)), (5, .int (nI k))]) hx hb dX7_fieldsOf_101 hl (by decide) rfl (fun ls hl => ?_)
                    refine lv_iinc (v := nI k + 1) (lv' := [(5, .int (nI k + 1)), (4, .int 0), (0, .ref (a 0)), (1, .int set), (2, .int acc), (3, .int (nI j))]) hx hb dX7_fieldsOf_103 hl (k := 5) rfl rfl (by decide) rfl (fun ls hl => ?_)
                    refine lv_goto (tgt := 31) hx hb dX7_fieldsOf_106 (by decide) ?_
                    rw [nI_1] at hl
                    exact ih31 (k := k + 1) (f := 0) (ls := ls) ⟨by omega, by rw [← h31_1, fiL]; simp only [if_neg c_2, if_neg c_3, if_neg c_6, if_neg c_7, if_pos c_8, if_pos c_9, if_pos c_10], lv_sub hl [2, 3, 4, 5, 1, 0] rfl⟩
                  · refine lv_iconst (v := 1) hx hb dX7_fieldsOf_96 (by decide) ?_
                    refine lv_goto (tgt := 101) hx hb dX7_fieldsOf_97 (by decide) ?_
                    refine lv_istore (lv' := [(4, .int 1), (0, .ref (a 0)), (1, .int set), (2, .int acc), (3, .int (nI j)), (5, .int (nI k))]) hx hb dX7_fieldsOf_101 hl (by decide) rfl (fun ls hl => ?_)
                    refine lv_iinc (v := nI k + 1) (lv' := [(5, .int (nI k + 1)), (4, .int 1), (0, .ref (a 0)), (1, .int set), (2, .int acc), (3, .int (nI j))]) hx hb dX7_fieldsOf_103 hl (k := 5) rfl rfl (by decide) rfl (fun ls hl => ?_)
                    refine lv_goto (tgt := 31) hx hb dX7_fieldsOf_106 (by decide) ?_
                    rw [nI_1] at hl
                    exact ih31 (k := k + 1) (f := 1) (ls := ls) ⟨by omega, by rw [← h31_1, fiL]; simp only [if_neg c_2, if_neg c_3, if_neg c_6, if_neg c_7, if_pos c_8, if_pos c_9, if_neg c_10], lv_sub hl [2, 3, 4, 5, 1, 0] rfl⟩
      · refine lv_iconst (v := 1) hx hb dX7_fieldsOf_21 (by decide) ?_
        refine lv_goto (tgt := 26) hx hb dX7_fieldsOf_22 (by decide) ?_
        refine lv_istore (lv' := [(4, .int 1), (0, .ref (a 0)), (1, .int set), (2, .int acc), (3, .int (nI j))]) hx hb dX7_fieldsOf_26 hl (by decide) rfl (fun ls hl => ?_)
        obtain ⟨f0, ef0⟩ : ∃ z : Int32, z = (if ((set >>> (nI j &&& 31)) &&& 1) = 1 then 1 else 0) := ⟨_, rfl⟩
        have ef1 : f0 = 1 := by rw [ef0, if_pos c_3]
        have hl : lv_has ls 6 [(4, .int 1), (0, .ref (a 0)), (1, .int set), (2, .int acc), (3, .int (nI j))] := hl
        rw [← ef1] at hl
        refine lv_iconst (v := 0) hx hb dX7_fieldsOf_28 (by decide) ?_
        refine lv_istore (lv' := [(5, .int 0), (4, .int f0), (0, .ref (a 0)), (1, .int set), (2, .int acc), (3, .int (nI j))]) hx hb dX7_fieldsOf_29 hl (by decide) rfl (fun ls hl => ?_)
        obtain ⟨n31, k, f, hinv⟩ : ∃ (n31 : Nat) (k : Nat) (f : Int32), k + n31 = j ∧ fiL (Z 0) set j n31 k f = fiL (Z 0) set j j 0 f0 ∧ lv_has ls 6 [(0, .ref (a 0)), (1, .int set), (2, .int acc), (3, .int (nI j)), (4, .int f), (5, .int (nI k))] := ⟨j, 0, f0, by omega, rfl, lv_sub hl [2, 3, 4, 5, 1, 0] rfl⟩
        clear hl
        induction n31 generalizing k f ls with
        | zero =>
          obtain ⟨h31_0, h31_1, hl⟩ := hinv
          refine lv_iload hx hb dX7_fieldsOf_31 (lv_at hl 5 rfl) ?_
          refine lv_iload_n hx hb dX7_fieldsOf_33 rfl (lv_at hl 3 rfl) ?_
          refine lv_icmp_ge (tgt := 109) hx hb dX7_fieldsOf_34 (by decide) (fun c_11 => ?_) (fun c_11 => ?_)
          · have e31 : f = fiL (Z 0) set j j 0 f0 := h31_1
            subst e31
            refine lv_iload_n hx hb dX7_fieldsOf_109 rfl (lv_at hl 2 rfl) ?_
            refine lv_iload hx hb dX7_fieldsOf_110 (lv_at hl 4 rfl) ?_
            refine lv_if_eq (tgt := 119) hx hb dX7_fieldsOf_112 (by decide) (fun c_12 => ?_) (fun c_12 => ?_)
            · refine lv_iconst (v := 0) hx hb dX7_fieldsOf_119 (by decide) ?_
              refine lv_iadd hx hb dX7_fieldsOf_120 ?_
              refine lv_istore_n (lv' := [(2, .int (acc + 0)), (0, .ref (a 0)), (1, .int set), (3, .int (nI j)), (4, .int (fiL (Z 0) set j j 0 f0)), (5, .int (nI k))]) hx hb dX7_fieldsOf_121 rfl hl (by decide) rfl (fun ls hl => ?_)
              refine lv_iinc (v := nI j + 1) (lv' := [(3, .int (nI j + 1)), (2, .int (acc + 0)), (0, .ref (a 0)), (1, .int set), (4, .int (fiL (Z 0) set j j 0 f0)), (5, .int (nI k))]) hx hb dX7_fieldsOf_122 hl (k := 3) rfl rfl (by decide) rfl (fun ls hl => ?_)
              refine lv_goto (tgt := 4) hx hb dX7_fieldsOf_125 (by decide) ?_
              rw [nI_1] at hl
              exact ih4 (j := j + 1) (acc := (acc + 0)) (ls := ls) ⟨by omega, by rw [← h4_1, foL]; exact congrArg (foL (Z 0) set n4 (j + 1)) (congrArg (acc + ·) (by rw [← ef0, if_pos c_12])), lv_sub hl [2, 3, 1, 0] rfl⟩
            · refine lv_iconst (v := 1) hx hb dX7_fieldsOf_115 (by decide) ?_
              refine lv_goto (tgt := 120) hx hb dX7_fieldsOf_116 (by decide) ?_
              refine lv_iadd hx hb dX7_fieldsOf_120 ?_
              refine lv_istore_n (lv' := [(2, .int (acc + 1)), (0, .ref (a 0)), (1, .int set), (3, .int (nI j)), (4, .int (fiL (Z 0) set j j 0 f0)), (5, .int (nI k))]) hx hb dX7_fieldsOf_121 rfl hl (by decide) rfl (fun ls hl => ?_)
              refine lv_iinc (v := nI j + 1) (lv' := [(3, .int (nI j + 1)), (2, .int (acc + 1)), (0, .ref (a 0)), (1, .int set), (4, .int (fiL (Z 0) set j j 0 f0)), (5, .int (nI k))]) hx hb dX7_fieldsOf_122 hl (k := 3) rfl rfl (by decide) rfl (fun ls hl => ?_)
              refine lv_goto (tgt := 4) hx hb dX7_fieldsOf_125 (by decide) ?_
              rw [nI_1] at hl
              exact ih4 (j := j + 1) (acc := (acc + 1)) (ls := ls) ⟨by omega, by rw [← h4_1, foL]; exact congrArg (foL (Z 0) set n4 (j + 1)) (congrArg (acc + ·) (by rw [← ef0, if_neg c_12])), lv_sub hl [2, 3, 1, 0] rfl⟩
          · exact absurd (q_le rfl rfl (by omega) (by omega)) c_11
        | succ n31 ih31 =>
          obtain ⟨h31_0, h31_1, hl⟩ := hinv
          refine lv_iload hx hb dX7_fieldsOf_31 (lv_at hl 5 rfl) ?_
          refine lv_iload_n hx hb dX7_fieldsOf_33 rfl (lv_at hl 3 rfl) ?_
          refine lv_icmp_ge (tgt := 109) hx hb dX7_fieldsOf_34 (by decide) (fun c_13 => ?_) (fun c_13 => ?_)
          · exact absurd c_13 (q_nle rfl rfl (by omega) (by omega))
          · refine lv_iload hx hb dX7_fieldsOf_37 (lv_at hl 4 rfl) ?_
            refine lv_if_eq (tgt := 100) hx hb dX7_fieldsOf_39 (by decide) (fun c_14 => ?_) (fun c_14 => ?_)
            · refine lv_iconst (v := 0) hx hb dX7_fieldsOf_100 (by decide) ?_
              refine lv_istore (lv' := [(4, .int 0), (0, .ref (a 0)), (1, .int set), (2, .int acc), (3, .int (nI j)), (5, .int (nI k))]) hx hb dX7_fieldsOf_101 hl (by decide) rfl (fun ls hl => ?_)
              refine lv_iinc (v := nI k + 1) (lv' := [(5, .int (nI k + 1)), (4, .int 0), (0, .ref (a 0)), (1, .int set), (2, .int acc), (3, .int (nI j))]) hx hb dX7_fieldsOf_103 hl (k := 5) rfl rfl (by decide) rfl (fun ls hl => ?_)
              refine lv_goto (tgt := 31) hx hb dX7_fieldsOf_106 (by decide) ?_
              rw [nI_1] at hl
              exact ih31 (k := k + 1) (f := 0) (ls := ls) ⟨by omega, by rw [← h31_1, fiL]; simp only [if_neg c_2, if_pos c_3, if_neg c_13, if_pos c_14], lv_sub hl [2, 3, 4, 5, 1, 0] rfl⟩
            · refine lv_iload_n hx hb dX7_fieldsOf_42 rfl (lv_at hl 1 rfl) ?_
              refine lv_iload hx hb dX7_fieldsOf_43 (lv_at hl 5 rfl) ?_
              refine lv_ishr hx hb dX7_fieldsOf_45 ?_
              refine lv_iconst (v := 1) hx hb dX7_fieldsOf_46 (by decide) ?_
              refine lv_iand hx hb dX7_fieldsOf_47 ?_
              refine lv_iconst (v := 1) hx hb dX7_fieldsOf_48 (by decide) ?_
              refine lv_icmp_ne (tgt := 96) hx hb dX7_fieldsOf_49 (by decide) (fun c_15 => ?_) (fun c_15 => ?_)
              · refine lv_iconst (v := 1) hx hb dX7_fieldsOf_96 (by decide) ?_
                refine lv_goto (tgt := 101) hx hb dX7_fieldsOf_97 (by decide) ?_
                refine lv_istore (lv' := [(4, .int 1), (0, .ref (a 0)), (1, .int set), (2, .int acc), (3, .int (nI j)), (5, .int (nI k))]) hx hb dX7_fieldsOf_101 hl (by decide) rfl (fun ls hl => ?_)
                refine lv_iinc (v := nI k + 1) (lv' := [(5, .int (nI k + 1)), (4, .int 1), (0, .ref (a 0)), (1, .int set), (2, .int acc), (3, .int (nI j))]) hx hb dX7_fieldsOf_103 hl (k := 5) rfl rfl (by decide) rfl (fun ls hl => ?_)
                refine lv_goto (tgt := 31) hx hb dX7_fieldsOf_106 (by decide) ?_
                rw [nI_1] at hl
                exact ih31 (k := k + 1) (f := 1) (ls := ls) ⟨by omega, by rw [← h31_1, fiL]; simp only [if_neg c_2, if_pos c_3, if_neg c_13, if_neg c_14, if_neg c_15], lv_sub hl [2, 3, 4, 5, 1, 0] rfl⟩
              · refine lv_aload_n hx hb dX7_fieldsOf_52 rfl (lv_at hl 0 rfl) ?_
                refine va_get (D := D) (ci := 7) (C := RX7) (T := TX7) (N := 23) hx hb hW inX7 hown hK hP 0 rfl rfl 1 (by decide) (hW _ (wa tw544 rfl)) (fun _ h9 => h9) rfl dX7_fieldsOf_53 ?_
                refine lv_iconst (v := 4) hx hb dX7_fieldsOf_56 (by decide) ?_
                refine lv_iload hx hb dX7_fieldsOf_57 (lv_at hl 5 rfl) ?_
                refine lv_imul hx hb dX7_fieldsOf_59 ?_
                refine xiald hx hb hK hP 1 rfl (4 * k) (q_mul (nI_lit 4) rfl) (by omega) (by decide) dX7_fieldsOf_60 ?_
                refine lv_aload_n hx hb dX7_fieldsOf_61 rfl (lv_at hl 0 rfl) ?_
                refine va_get (D := D) (ci := 7) (C := RX7) (T := TX7) (N := 23) hx hb hW inX7 hown hK hP 0 rfl rfl 1 (by decide) (hW _ (wa tw544 rfl)) (fun _ h9 => h9) rfl dX7_fieldsOf_62 ?_
                refine lv_iconst (v := 4) hx hb dX7_fieldsOf_65 (by decide) ?_
                refine lv_iload_n hx hb dX7_fieldsOf_66 rfl (lv_at hl 3 rfl) ?_
                refine lv_imul hx hb dX7_fieldsOf_67 ?_
                refine xiald hx hb hK hP 1 rfl (4 * j) (q_mul (nI_lit 4) rfl) (by omega) (by decide) dX7_fieldsOf_68 ?_
                refine lv_icmp_ne (tgt := 96) hx hb dX7_fieldsOf_69 (by decide) (fun c_16 => ?_) (fun c_16 => ?_)
                · refine lv_iconst (v := 1) hx hb dX7_fieldsOf_96 (by decide) ?_
                  refine lv_goto (tgt := 101) hx hb dX7_fieldsOf_97 (by decide) ?_
                  refine lv_istore (lv' := [(4, .int 1), (0, .ref (a 0)), (1, .int set), (2, .int acc), (3, .int (nI j)), (5, .int (nI k))]) hx hb dX7_fieldsOf_101 hl (by decide) rfl (fun ls hl => ?_)
                  refine lv_iinc (v := nI k + 1) (lv' := [(5, .int (nI k + 1)), (4, .int 1), (0, .ref (a 0)), (1, .int set), (2, .int acc), (3, .int (nI j))]) hx hb dX7_fieldsOf_103 hl (k := 5) rfl rfl (by decide) rfl (fun ls hl => ?_)
                  refine lv_goto (tgt := 31) hx hb dX7_fieldsOf_106 (by decide) ?_
                  rw [nI_1] at hl
                  exact ih31 (k := k + 1) (f := 1) (ls := ls) ⟨by omega, by rw [← h31_1, fiL]; simp only [if_neg c_2, if_pos c_3, if_neg c_13, if_neg c_14, if_pos c_15, if_neg c_16], lv_sub hl [2, 3, 4, 5, 1, 0] rfl⟩
                · refine lv_aload_n hx hb dX7_fieldsOf_72 rfl (lv_at hl 0 rfl) ?_
                  refine va_get (D := D) (ci := 7) (C := RX7) (T := TX7) (N := 23) hx hb hW inX7 hown hK hP 0 rfl rfl 1 (by decide) (hW _ (wa tw544 rfl)) (fun _ h9 => h9) rfl dX7_fieldsOf_73 ?_
                  refine lv_iconst (v := 4) hx hb dX7_fieldsOf_76 (by decide) ?_
                  refine lv_iload hx hb dX7_fieldsOf_77 (lv_at hl 5 rfl) ?_
                  refine lv_imul hx hb dX7_fieldsOf_79 ?_
                  refine lv_iconst (v := 1) hx hb dX7_fieldsOf_80 (by decide) ?_
                  refine lv_iadd hx hb dX7_fieldsOf_81 ?_
                  refine xiald hx hb hK hP 1 rfl ((4 * k) + 1) (q_add (q_mul (nI_lit 4) rfl) (nI_lit 1)) (by omega) (by decide) dX7_fieldsOf_82 ?_
                  refine lv_aload_n hx hb dX7_fieldsOf_83 rfl (lv_at hl 0 rfl) ?_
                  refine va_get (D := D) (ci := 7) (C := RX7) (T := TX7) (N := 23) hx hb hW inX7 hown hK hP 0 rfl rfl 1 (by decide) (hW _ (wa tw544 rfl)) (fun _ h9 => h9) rfl dX7_fieldsOf_84 ?_
                  refine lv_iconst (v := 4) hx hb dX7_fieldsOf_87 (by decide) ?_
                  refine lv_iload_n hx hb dX7_fieldsOf_88 rfl (lv_at hl 3 rfl) ?_
                  refine lv_imul hx hb dX7_fieldsOf_89 ?_
                  refine lv_iconst (v := 1) hx hb dX7_fieldsOf_90 (by decide) ?_
                  refine lv_iadd hx hb dX7_fieldsOf_91 ?_
                  refine xiald hx hb hK hP 1 rfl ((4 * j) + 1) (q_add (q_mul (nI_lit 4) rfl) (nI_lit 1)) (by omega) (by decide) dX7_fieldsOf_92 ?_
                  refine lv_icmp_eq (tgt := 100) hx hb dX7_fieldsOf_93 (by decide) (fun c_17 => ?_) (fun c_17 => ?_)
                  · refine lv_iconst (v := 0) hx hb dX7_fieldsOf_100 (by decide) ?_
                    refine lv_istore (lv' := [(4, .int 0), (0, .ref (a 0)), (1, .int set), (2, .int acc), (3, .int (nI j)), (5, .int (nI k))]) hx hb dX7_fieldsOf_101 hl (by decide) rfl (fun ls hl => ?_)
                    refine lv_iinc (v := nI k + 1) (lv' := [(5, .int (nI k + 1)), (4, .int 0), (0, .ref (a 0)), (1, .int set), (2, .int acc), (3, .int (nI j))]) hx hb dX7_fieldsOf_103 hl (k := 5) rfl rfl (by decide) rfl (fun ls hl => ?_)
                    refine lv_goto (tgt := 31) hx hb dX7_fieldsOf_106 (by decide) ?_
                    rw [nI_1] at hl
                    exact ih31 (k := k + 1) (f := 0) (ls := ls) ⟨by omega, by rw [← h31_1, fiL]; simp only [if_neg c_2, if_pos c_3, if_neg c_13, if_neg c_14, if_pos c_15, if_pos c_16, if_pos c_17], lv_sub hl [2, 3, 4, 5, 1, 0] rfl⟩
                  · refine lv_iconst (v := 1) hx hb dX7_fieldsOf_96 (by decide) ?_
                    refine lv_goto (tgt := 101) hx hb dX7_fieldsOf_97 (by decide) ?_
                    refine lv_istore (lv' := [(4, .int 1), (0, .ref (a 0)), (1, .int set), (2, .int acc), (3, .int (nI j)), (5, .int (nI k))]) hx hb dX7_fieldsOf_101 hl (by decide) rfl (fun ls hl => ?_)
                    refine lv_iinc (v := nI k + 1) (lv' := [(5, .int (nI k + 1)), (4, .int 1), (0, .ref (a 0)), (1, .int set), (2, .int acc), (3, .int (nI j))]) hx hb dX7_fieldsOf_103 hl (k := 5) rfl rfl (by decide) rfl (fun ls hl => ?_)
                    refine lv_goto (tgt := 31) hx hb dX7_fieldsOf_106 (by decide) ?_
                    rw [nI_1] at hl
                    exact ih31 (k := k + 1) (f := 1) (ls := ls) ⟨by omega, by rw [← h31_1, fiL]; simp only [if_neg c_2, if_pos c_3, if_neg c_13, if_neg c_14, if_pos c_15, if_pos c_16, if_neg c_17], lv_sub hl [2, 3, 4, 5, 1, 0] rfl⟩

def f7_term (pl : Nat → Int32) (model : Int32) (k t : Nat) : Int64 := (if (nI t) = 0 then (1) else (if model = 1 then (((pl) ((((4 * k) + 0) + t) - 1)).toInt64) else (((pl) ((((4 * k) + 2) + t) - 1)).toInt64)))
set_option maxHeartbeats 4000000 in
set_option maxRecDepth 100000 in
theorem kX7_term (l : Launch) (D : va_G) (C : Nat → ClassId) (a : Nat → Nat) (Z : Nat → Nat → Int32) (Y : Nat → Nat → Int64) (model : Int32) (k t : Nat) (hk : k < 12) (ht : t < 3) : Rl l D C yX7_term cX7_term 4 0 [.ref (a 0), .int model, .int (nI k), .int (nI t)] (wZ a C Z Y) (f7_term (Z 0) model k t) := by
  refine Met.ofW (cc := cX7_term) (maxL := 4) (ret := (some .long)) (by decide) rfl ?_
  intro p e s m args below meth c s₁ B hml hv
  obtain ⟨rfl, hP, hK, hNw⟩ := hv
  have hx := B.exec
  have hb := B.bytes
  have hr := B.returns
  have hts := atoms_spec (ws := wm yX7_term cX7_term 4 (some .long)) B.pre
  have hown : s.vm.findClass RX7 = some m.cls := findClass_of_methodNamed B.named
  have hlocks := B.notSynchronized
  have hW : ∀ w ∈ WA, w.before _ s = true := fun w h => hts w (List.mem_cons_of_mem _ h)
  have hP : va_P D vwCl [((a 0), .inr (7, [.int (Z 12 0), .ref (a 1), .ref (a 2), .ref (a 3), .ref (a 4), .int (Z 12 1), .ref (a 5), .ref (a 6), .ref (a 7), .ref (a 8), .ref (a 9), .int (Z 12 2), .ref (a 10), .int (Z 12 3), .int (Z 12 4), .ref (a 11), .ref (a 12), .long (Y 5 0), .ref (a 13), .ref (a 14), .ref (a 15), .ref (a 16), .ref (a 17)])), ((a 1), eI C 48 (Z 0)), ((a 2), eI C 24 (Z 1)), ((a 3), eZ C 12 (Z 2)), ((a 4), eZ C 12 (Z 3)), ((a 5), eI C 60 (Z 4)), ((a 6), eI C 60 (Z 5)), ((a 7), eI C 60 (Z 6)), ((a 8), eZ C 60 (Z 7)), ((a 9), eZ C 244 (Z 8)), ((a 10), eI C 24 (Z 9)), ((a 11), eJ C 9 (Y 0)), ((a 12), eJ C 9 (Y 1)), ((a 13), eJ C 3 (Y 2)), ((a 14), eJ C 3 (Y 3)), ((a 15), eJ C 12 (Y 4)), ((a 16), eI C 6 (Z 10)), ((a 17), eI C 4 (Z 11))] s.heap := hP
  have hl := lv_entry ([.ref (a 0), .int model, .int (nI k), .int (nI t)]) (n := 4) (Nat.le_of_ble_eq_true rfl)
  rw [lg_entry_eq]
  generalize (lg_sl ([.ref (a 0), .int model, .int (nI k), .int (nI t)]) ++ List.replicate (4 - (lg_sl ([.ref (a 0), .int model, .int (nI k), .int (nI t)])).length) Slot.unset).toArray = ls at hl ⊢
  have hl : lv_has ls 4 [(0, .ref (a 0)), (1, .int model), (2, .int (nI k)), (3, .int (nI t))] := hl
  refine lv_iload_n hx hb dX7_term_0 rfl (lv_at hl 3 rfl) ?_
  refine lv_if_ne (tgt := 8) hx hb dX7_term_1 (by decide) (fun c_1 => ?_) (fun c_1 => ?_)
  · have ht0 : 0 < t := q_of_ne0 rfl c_1
    refine lv_aload_n hx hb dX7_term_8 rfl (lv_at hl 0 rfl) ?_
    refine va_get (D := D) (ci := 7) (C := RX7) (T := TX7) (N := 23) hx hb hW inX7 hown hK hP 0 rfl rfl 1 (by decide) (hW _ (wa tw544 rfl)) (fun _ h9 => h9) rfl dX7_term_9 ?_
    refine lv_iconst (v := 4) hx hb dX7_term_12 (by decide) ?_
    refine lv_iload_n hx hb dX7_term_13 rfl (lv_at hl 2 rfl) ?_
    refine lv_imul hx hb dX7_term_14 ?_
    refine lv_iload_n hx hb dX7_term_15 rfl (lv_at hl 1 rfl) ?_
    refine lv_iconst (v := 1) hx hb dX7_term_16 (by decide) ?_
    refine lv_icmp_ne (tgt := 24) hx hb dX7_term_17 (by decide) (fun c_2 => ?_) (fun c_2 => ?_)
    · refine lv_iconst (v := 2) hx hb dX7_term_24 (by decide) ?_
      refine lv_iadd hx hb dX7_term_25 ?_
      refine lv_iload_n hx hb dX7_term_26 rfl (lv_at hl 3 rfl) ?_
      refine lv_iadd hx hb dX7_term_27 ?_
      refine lv_iconst (v := 1) hx hb dX7_term_28 (by decide) ?_
      refine lv_isub hx hb dX7_term_29 ?_
      refine xiald hx hb hK hP 1 rfl ((((4 * k) + 2) + t) - 1) (q_sub (q_add (q_add (q_mul (nI_lit 4) rfl) (nI_lit 2)) rfl) (nI_lit 1) (by omega)) (by omega) (by decide) dX7_term_30 ?_
      refine lv_i2l (v := ((Z 0) ((((4 * k) + 2) + t) - 1)).toInt64) hx hb dX7_term_31 rfl ?_
      exact W.lret (v := ((Z 0) ((((4 * k) + 2) + t) - 1)).toInt64) hx hb hr (fun t ht _ => ⟨_, rfl, (by simp only [f7_term, if_neg c_1, if_neg c_2]), ht⟩) (fun q h => by cases h) dX7_term_32
    · refine lv_iconst (v := 0) hx hb dX7_term_20 (by decide) ?_
      refine lv_goto (tgt := 25) hx hb dX7_term_21 (by decide) ?_
      refine lv_iadd hx hb dX7_term_25 ?_
      refine lv_iload_n hx hb dX7_term_26 rfl (lv_at hl 3 rfl) ?_
      refine lv_iadd hx hb dX7_term_27 ?_
      refine lv_iconst (v := 1) hx hb dX7_term_28 (by decide) ?_
      refine lv_isub hx hb dX7_term_29 ?_
      refine xiald hx hb hK hP 1 rfl ((((4 * k) + 0) + t) - 1) (q_sub (q_add (q_add (q_mul (nI_lit 4) rfl) (nI_lit 0)) rfl) (nI_lit 1) (by omega)) (by omega) (by decide) dX7_term_30 ?_
      refine lv_i2l (v := ((Z 0) ((((4 * k) + 0) + t) - 1)).toInt64) hx hb dX7_term_31 rfl ?_
      exact W.lret (v := ((Z 0) ((((4 * k) + 0) + t) - 1)).toInt64) hx hb hr (fun t ht _ => ⟨_, rfl, (by simp only [f7_term, if_neg c_1, if_pos c_2]), ht⟩) (fun q h => by cases h) dX7_term_32
  · refine lv_lconst (v := 1) hx hb dX7_term_4 (by decide) ?_
    refine lv_goto (tgt := 32) hx hb dX7_term_5 (by decide) ?_
    exact W.lret (v := 1) hx hb hr (fun t ht _ => ⟨_, rfl, (by simp only [f7_term, if_pos c_1]), ht⟩) (fun q h => by cases h) dX7_term_32

def f7_minor (S : Nat → Int64) (r q : Nat) : Int64 := ((((S) ((3 * ((r + 1) % 3)) + ((q + 1) % 3))) * ((S) ((3 * ((r + 2) % 3)) + ((q + 2) % 3)))) - (((S) ((3 * ((r + 1) % 3)) + ((q + 2) % 3))) * ((S) ((3 * ((r + 2) % 3)) + ((q + 1) % 3)))))
set_option maxHeartbeats 4000000 in
set_option maxRecDepth 100000 in
theorem kX7_minor (l : Launch) (D : va_G) (C : Nat → ClassId) (a : Nat → Nat) (Z : Nat → Nat → Int32) (Y : Nat → Nat → Int64) (r q : Nat) (hr3 : r < 3) (hq3 : q < 3) : Rl l D C yX7_minor cX7_minor 7 0 [.ref (a 0), .int (nI r), .int (nI q)] (wZ a C Z Y) (f7_minor (Y 0) r q) := by
  refine Met.ofW (cc := cX7_minor) (maxL := 7) (ret := (some .long)) (by decide) rfl ?_
  intro p e s m args below meth c s₁ B hml hv
  obtain ⟨rfl, hP, hK, hNw⟩ := hv
  have hx := B.exec
  have hb := B.bytes
  have hr := B.returns
  have hts := atoms_spec (ws := wm yX7_minor cX7_minor 7 (some .long)) B.pre
  have hown : s.vm.findClass RX7 = some m.cls := findClass_of_methodNamed B.named
  have hlocks := B.notSynchronized
  have hW : ∀ w ∈ WA, w.before _ s = true := fun w h => hts w (List.mem_cons_of_mem _ h)
  have hP : va_P D vwCl [((a 0), .inr (7, [.int (Z 12 0), .ref (a 1), .ref (a 2), .ref (a 3), .ref (a 4), .int (Z 12 1), .ref (a 5), .ref (a 6), .ref (a 7), .ref (a 8), .ref (a 9), .int (Z 12 2), .ref (a 10), .int (Z 12 3), .int (Z 12 4), .ref (a 11), .ref (a 12), .long (Y 5 0), .ref (a 13), .ref (a 14), .ref (a 15), .ref (a 16), .ref (a 17)])), ((a 1), eI C 48 (Z 0)), ((a 2), eI C 24 (Z 1)), ((a 3), eZ C 12 (Z 2)), ((a 4), eZ C 12 (Z 3)), ((a 5), eI C 60 (Z 4)), ((a 6), eI C 60 (Z 5)), ((a 7), eI C 60 (Z 6)), ((a 8), eZ C 60 (Z 7)), ((a 9), eZ C 244 (Z 8)), ((a 10), eI C 24 (Z 9)), ((a 11), eJ C 9 (Y 0)), ((a 12), eJ C 9 (Y 1)), ((a 13), eJ C 3 (Y 2)), ((a 14), eJ C 3 (Y 3)), ((a 15), eJ C 12 (Y 4)), ((a 16), eI C 6 (Z 10)), ((a 17), eI C 4 (Z 11))] s.heap := hP
  have hl := lv_entry ([.ref (a 0), .int (nI r), .int (nI q)]) (n := 7) (Nat.le_of_ble_eq_true rfl)
  rw [lg_entry_eq]
  generalize (lg_sl ([.ref (a 0), .int (nI r), .int (nI q)]) ++ List.replicate (7 - (lg_sl ([.ref (a 0), .int (nI r), .int (nI q)])).length) Slot.unset).toArray = ls at hl ⊢
  have hl : lv_has ls 7 [(0, .ref (a 0)), (1, .int (nI r)), (2, .int (nI q))] := hl
  refine lv_iload_n hx hb dX7_minor_0 rfl (lv_at hl 1 rfl) ?_
  refine lv_iconst (v := 1) hx hb dX7_minor_1 (by decide) ?_
  refine lv_iadd hx hb dX7_minor_2 ?_
  refine lv_iconst (v := 3) hx hb dX7_minor_3 (by decide) ?_
  refine lv_irem hx hb dX7_minor_4 (by decide) ?_
  refine xtopi (y := nI ((r + 1) % 3)) (q_rem (q_add rfl (nI_lit 1)) (nI_lit 3) (by omega) (by omega) (by omega)) ?_
  refine lv_istore_n (lv' := [(3, .int (nI ((r + 1) % 3))), (0, .ref (a 0)), (1, .int (nI r)), (2, .int (nI q))]) hx hb dX7_minor_5 rfl hl (by decide) rfl (fun ls hl => ?_)
  refine lv_iload_n hx hb dX7_minor_6 rfl (lv_at hl 2 rfl) ?_
  refine lv_iconst (v := 2) hx hb dX7_minor_7 (by decide) ?_
  refine lv_iadd hx hb dX7_minor_8 ?_
  refine lv_iconst (v := 3) hx hb dX7_minor_9 (by decide) ?_
  refine lv_irem hx hb dX7_minor_10 (by decide) ?_
  refine xtopi (y := nI ((r + 2) % 3)) (q_rem (q_add rfl (nI_lit 2)) (nI_lit 3) (by omega) (by omega) (by omega)) ?_
  refine lv_istore (lv' := [(4, .int (nI ((r + 2) % 3))), (3, .int (nI ((r + 1) % 3))), (0, .ref (a 0)), (1, .int (nI r)), (2, .int (nI q))]) hx hb dX7_minor_11 hl (by decide) rfl (fun ls hl => ?_)
  refine lv_iload_n hx hb dX7_minor_13 rfl (lv_at hl 4 rfl) ?_
  refine lv_iconst (v := 1) hx hb dX7_minor_14 (by decide) ?_
  refine lv_iadd hx hb dX7_minor_15 ?_
  refine lv_iconst (v := 3) hx hb dX7_minor_16 (by decide) ?_
  refine lv_irem hx hb dX7_minor_17 (by decide) ?_
  refine xtopi (y := nI ((q + 1) % 3)) (q_rem (q_add rfl (nI_lit 1)) (nI_lit 3) (by omega) (by omega) (by omega)) ?_
  refine lv_istore (lv' := [(5, .int (nI ((q + 1) % 3))), (4, .int (nI ((r + 2) % 3))), (3, .int (nI ((r + 1) % 3))), (0, .ref (a 0)), (1, .int (nI r)), (2, .int (nI q))]) hx hb dX7_minor_18 hl (by decide) rfl (fun ls hl => ?_)
  refine lv_iload_n hx hb dX7_minor_20 rfl (lv_at hl 5 rfl) ?_
  refine lv_iconst (v := 2) hx hb dX7_minor_21 (by decide) ?_
  refine lv_iadd hx hb dX7_minor_22 ?_
  refine lv_iconst (v := 3) hx hb dX7_minor_23 (by decide) ?_
  refine lv_irem hx hb dX7_minor_24 (by decide) ?_
  refine xtopi (y := nI ((q + 2) % 3)) (q_rem (q_add rfl (nI_lit 2)) (nI_lit 3) (by omega) (by omega) (by omega)) ?_
  refine lv_istore (lv' := [(6, .int (nI ((q + 2) % 3))), (5, .int (nI ((q + 1) % 3))), (4, .int (nI ((r + 2) % 3))), (3, .int (nI ((r + 1) % 3))), (0, .ref (a 0)), (1, .int (nI r)), (2, .int (nI q))]) hx hb dX7_minor_25 hl (by decide) rfl (fun ls hl => ?_)
  refine lv_aload_n hx hb dX7_minor_27 rfl (lv_at hl 4 rfl) ?_
  refine va_get (D := D) (ci := 7) (C := RX7) (T := TX7) (N := 23) hx hb hW inX7 hown hK hP 0 rfl rfl 15 (by decide) (hW _ (wa tw558 rfl)) (fun _ h9 => h9) rfl dX7_minor_28 ?_
  refine lv_iconst (v := 3) hx hb dX7_minor_31 (by decide) ?_
  refine lv_iload_n hx hb dX7_minor_32 rfl (lv_at hl 3 rfl) ?_
  refine lv_imul hx hb dX7_minor_33 ?_
  refine lv_iload hx hb dX7_minor_34 (lv_at hl 1 rfl) ?_
  refine lv_iadd hx hb dX7_minor_36 ?_
  refine xlald hx hb hK hP 11 rfl ((3 * ((r + 1) % 3)) + ((q + 1) % 3)) (q_add (q_mul (nI_lit 3) rfl) rfl) (by omega) (by decide) dX7_minor_37 ?_
  refine lv_aload_n hx hb dX7_minor_38 rfl (lv_at hl 4 rfl) ?_
  refine va_get (D := D) (ci := 7) (C := RX7) (T := TX7) (N := 23) hx hb hW inX7 hown hK hP 0 rfl rfl 15 (by decide) (hW _ (wa tw558 rfl)) (fun _ h9 => h9) rfl dX7_minor_39 ?_
  refine lv_iconst (v := 3) hx hb dX7_minor_42 (by decide) ?_
  refine lv_iload hx hb dX7_minor_43 (lv_at hl 2 rfl) ?_
  refine lv_imul hx hb dX7_minor_45 ?_
  refine lv_iload hx hb dX7_minor_46 (lv_at hl 0 rfl) ?_
  refine lv_iadd hx hb dX7_minor_48 ?_
  refine xlald hx hb hK hP 11 rfl ((3 * ((r + 2) % 3)) + ((q + 2) % 3)) (q_add (q_mul (nI_lit 3) rfl) rfl) (by omega) (by decide) dX7_minor_49 ?_
  refine lv_lmul hx hb dX7_minor_50 ?_
  refine lv_aload_n hx hb dX7_minor_51 rfl (lv_at hl 4 rfl) ?_
  refine va_get (D := D) (ci := 7) (C := RX7) (T := TX7) (N := 23) hx hb hW inX7 hown hK hP 0 rfl rfl 15 (by decide) (hW _ (wa tw558 rfl)) (fun _ h9 => h9) rfl dX7_minor_52 ?_
  refine lv_iconst (v := 3) hx hb dX7_minor_55 (by decide) ?_
  refine lv_iload_n hx hb dX7_minor_56 rfl (lv_at hl 3 rfl) ?_
  refine lv_imul hx hb dX7_minor_57 ?_
  refine lv_iload hx hb dX7_minor_58 (lv_at hl 0 rfl) ?_
  refine lv_iadd hx hb dX7_minor_60 ?_
  refine xlald hx hb hK hP 11 rfl ((3 * ((r + 1) % 3)) + ((q + 2) % 3)) (q_add (q_mul (nI_lit 3) rfl) rfl) (by omega) (by decide) dX7_minor_61 ?_
  refine lv_aload_n hx hb dX7_minor_62 rfl (lv_at hl 4 rfl) ?_
  refine va_get (D := D) (ci := 7) (C := RX7) (T := TX7) (N := 23) hx hb hW inX7 hown hK hP 0 rfl rfl 15 (by decide) (hW _ (wa tw558 rfl)) (fun _ h9 => h9) rfl dX7_minor_63 ?_
  refine lv_iconst (v := 3) hx hb dX7_minor_66 (by decide) ?_
  refine lv_iload hx hb dX7_minor_67 (lv_at hl 2 rfl) ?_
  refine lv_imul hx hb dX7_minor_69 ?_
  refine lv_iload hx hb dX7_minor_70 (lv_at hl 1 rfl) ?_
  refine lv_iadd hx hb dX7_minor_72 ?_
  refine xlald hx hb hK hP 11 rfl ((3 * ((r + 2) % 3)) + ((q + 1) % 3)) (q_add (q_mul (nI_lit 3) rfl) rfl) (by omega) (by decide) dX7_minor_73 ?_
  refine lv_lmul hx hb dX7_minor_74 ?_
  refine lv_lsub hx hb dX7_minor_75 ?_
  exact W.lret (v := (((Y 0) ((3 * ((r + 1) % 3)) + ((q + 1) % 3))) * ((Y 0) ((3 * ((r + 2) % 3)) + ((q + 2) % 3)))) - (((Y 0) ((3 * ((r + 1) % 3)) + ((q + 2) % 3))) * ((Y 0) ((3 * ((r + 2) % 3)) + ((q + 1) % 3))))) hx hb hr (fun t ht _ => ⟨_, rfl, (by simp only [f7_minor]), ht⟩) (fun q h => by cases h) dX7_minor_76
end
section
def layA (tn : Int32) : Nat → Nat → (Nat → Int64) → Nat → Int64
  | 0, _, S => S
  | n + 1, k, S => layA tn n (k + 1) (vp_updL S k (if tn = 1 then (if nI (k % 4) = 0 then (if nI k ≤ 0 then 0 else 1) else 0) else 0))
def layK (pl : Nat → Int32) (model set : Int32) (nt j : Nat) : Nat → Nat → (Nat → Int64) → Nat → Int64
  | 0, _, S => S
  | n + 1, k, S => if ((set >>> (nI j &&& 31)) &&& 1) = 1 then layK pl model set nt j n (k + 1) (vp_updL S (3 * (k / nt) + k % nt) (S (3 * (k / nt) + k % nt) + f7_term pl model j (k / nt) * f7_term pl model j (k % nt))) else S
def layM (pl : Nat → Int32) (model set : Int32) (nt : Nat) : Nat → Nat → (Nat → Int64) → Nat → Int64
  | 0, _, S => S
  | n + 1, j, S => layM pl model set nt n (j + 1) (layK pl model set nt j (nt * nt) 0 S)
def layT (S : Nat → Int64) : Nat → Nat → (Nat → Int64) → Nat → Int64
  | 0, _, T => T
  | n + 1, k, T => layT S n (k + 1) (vp_updL T k (f7_minor S (k % 3) (k / 3)))
def layS (pl : Nat → Int32) (model set : Int32) (nt N : Nat) (S0 : Nat → Int64) : Nat → Int64 := layM pl model set nt N 0 (layA (f7_termsOf model) 9 0 S0)
def layV (S T0 : Nat → Int64) : Nat → Int64 := layT S 9 0 T0
def layD (S T : Nat → Int64) : Int64 := S 0 * T 0 + S 1 * T 3 + S 2 * T 6
def f7_lay (pl : Nat → Int32) (Y : Nat → Nat → Int64) (model set : Int32) (nt N : Nat) : Nat → Nat → Int64 :=
  uM (uM (uM Y 0 (layS pl model set nt N (Y 0))) 1 (layV (layS pl model set nt N (Y 0)) (Y 1))) 5 (vp_updL (Y 5) 0 (layD (layS pl model set nt N (Y 0)) (layV (layS pl model set nt N (Y 0)) (Y 1))))
def ntOf (model : Int32) : Nat := if model = 0 then 1 else 3
theorem ntOf_eq (model : Int32) : f7_termsOf model = nI (ntOf model) := by
  unfold f7_termsOf ntOf
  split <;> rfl
theorem ntOf_13 (model : Int32) : ntOf model = 1 ∨ ntOf model = 3 := by
  unfold ntOf
  split
  · exact Or.inl rfl
  · exact Or.inr rfl

set_option maxHeartbeats 4000000 in
set_option maxRecDepth 100000 in
theorem kX7_lay (l : Launch) (D : va_G) (C : Nat → ClassId) (a : Nat → Nat) (Z : Nat → Nat → Int32) (Y : Nat → Nat → Int64) (model set : Int32) (sz : Nat) (N : Nat) (hN : Z 12 0 = nI N) (hN12 : N ≤ 12) (nt : Nat) (hnt : f7_termsOf model = nI nt) (hnt3 : nt = 1 ∨ nt = 3) : Wv l D C yX7_lay cX7_lay 6 1 [.ref (a 0), .int model, .int set] (wZ a C Z Y) ((wZ a C Z (f7_lay (Z 0) Y model set nt N))) sz := by
  refine Met.ofW (cc := cX7_lay) (maxL := 6) (ret := none) (by decide) rfl ?_
  intro p e s m args below meth c s₁ B hml hv
  obtain ⟨rfl, hsz, hP, hK, hNw, hD0⟩ := hv
  have hx := B.exec
  have hb := B.bytes
  have hr := B.returns
  have hts := atoms_spec (ws := wm yX7_lay cX7_lay 6 none) B.pre
  have hown : s.vm.findClass RX7 = some m.cls := findClass_of_methodNamed B.named
  have hlocks := B.notSynchronized
  have hW : ∀ w ∈ WA, w.before _ s = true := fun w h => hts w (List.mem_cons_of_mem _ h)
  subst hsz
  have hD := hD0.self (sz := s.heap.size)
  generalize hAe : va_A (wZ a C Z Y) s.heap.size = A at hD ⊢
  have hA : ∀ q : Nat, s.heap.size ≤ q → A q := fun q h => by rw [← hAe]; exact Or.inr h
  have hS : va_S A s.heap s.heap [] := va_S.rf
  have hP : va_P D vwCl [((a 0), .inr (7, [.int (Z 12 0), .ref (a 1), .ref (a 2), .ref (a 3), .ref (a 4), .int (Z 12 1), .ref (a 5), .ref (a 6), .ref (a 7), .ref (a 8), .ref (a 9), .int (Z 12 2), .ref (a 10), .int (Z 12 3), .int (Z 12 4), .ref (a 11), .ref (a 12), .long (Y 5 0), .ref (a 13), .ref (a 14), .ref (a 15), .ref (a 16), .ref (a 17)])), ((a 1), eI C 48 (Z 0)), ((a 2), eI C 24 (Z 1)), ((a 3), eZ C 12 (Z 2)), ((a 4), eZ C 12 (Z 3)), ((a 5), eI C 60 (Z 4)), ((a 6), eI C 60 (Z 5)), ((a 7), eI C 60 (Z 6)), ((a 8), eZ C 60 (Z 7)), ((a 9), eZ C 244 (Z 8)), ((a 10), eI C 24 (Z 9)), ((a 11), eJ C 9 (Y 0)), ((a 12), eJ C 9 (Y 1)), ((a 13), eJ C 3 (Y 2)), ((a 14), eJ C 3 (Y 3)), ((a 15), eJ C 12 (Y 4)), ((a 16), eI C 6 (Z 10)), ((a 17), eI C 4 (Z 11))] s.heap := hP
  have hD : va_D A [((a 0), .inr (7, [.int (Z 12 0), .ref (a 1), .ref (a 2), .ref (a 3), .ref (a 4), .int (Z 12 1), .ref (a 5), .ref (a 6), .ref (a 7), .ref (a 8), .ref (a 9), .int (Z 12 2), .ref (a 10), .int (Z 12 3), .int (Z 12 4), .ref (a 11), .ref (a 12), .long (Y 5 0), .ref (a 13), .ref (a 14), .ref (a 15), .ref (a 16), .ref (a 17)])), ((a 1), eI C 48 (Z 0)), ((a 2), eI C 24 (Z 1)), ((a 3), eZ C 12 (Z 2)), ((a 4), eZ C 12 (Z 3)), ((a 5), eI C 60 (Z 4)), ((a 6), eI C 60 (Z 5)), ((a 7), eI C 60 (Z 6)), ((a 8), eZ C 60 (Z 7)), ((a 9), eZ C 244 (Z 8)), ((a 10), eI C 24 (Z 9)), ((a 11), eJ C 9 (Y 0)), ((a 12), eJ C 9 (Y 1)), ((a 13), eJ C 3 (Y 2)), ((a 14), eJ C 3 (Y 3)), ((a 15), eJ C 12 (Y 4)), ((a 16), eI C 6 (Z 10)), ((a 17), eI C 4 (Z 11))] := hD
  have hl := lv_entry ([.ref (a 0), .int model, .int set]) (n := 6) (Nat.le_of_ble_eq_true rfl)
  rw [lg_entry_eq]
  generalize (lg_sl ([.ref (a 0), .int model, .int set]) ++ List.replicate (6 - (lg_sl ([.ref (a 0), .int model, .int set])).length) Slot.unset).toArray = ls at hl ⊢
  have hl : lv_has ls 6 [(0, .ref (a 0)), (1, .int model), (2, .int set)] := hl
  refine lv_iload_n hx hb dX7_lay_0 rfl (lv_at hl 1 rfl) ?_
  refine xri (r := f7_termsOf model) (rS (As := [.int model]) (n := 1) (rest := []) ⟨hx, hb, hml, hown, hW⟩ (kX7_termsOf l model) (wa tw680 rfl) (wa tw678 rfl) (wa tw679 rfl) (wa tw8 rfl) (by decide +kernel) ⟨Nat.le_of_ble_eq_true rfl, Nat.le_of_ble_eq_true rfl⟩ pS0 hl.1 rfl (Nat.le_of_ble_eq_true rfl) dX7_lay_1 ⟨Nat.le_of_ble_eq_true rfl, Nat.le_of_ble_eq_true rfl⟩ rfl rfl rfl) ?_
  refine lv_istore_n (lv' := [(3, .int (f7_termsOf model)), (0, .ref (a 0)), (1, .int model), (2, .int set)]) hx hb dX7_lay_4 rfl hl (by decide) rfl (fun ls hl => ?_)
  refine lv_iconst (v := 0) hx hb dX7_lay_5 (by decide) ?_
  refine lv_istore (lv' := [(4, .int 0), (3, .int (f7_termsOf model)), (0, .ref (a 0)), (1, .int model), (2, .int set)]) hx hb dX7_lay_6 hl (by decide) rfl (fun ls hl => ?_)
  refine xgen hP hS (fun H locs hP hS => ?_)
  obtain ⟨n8, k, S1, hinv⟩ : ∃ (n8 : Nat) (k : Nat) (S1 : Nat → Int64), k + n8 = 9 ∧ layA (f7_termsOf model) n8 k S1 = layA (f7_termsOf model) 9 0 (Y 0) ∧ lv_has ls 6 [(0, .ref (a 0)), (1, .int model), (2, .int set), (3, .int (f7_termsOf model)), (4, .int (nI k))] ∧ va_P D vwCl [((a 0), .inr (7, [.int (Z 12 0), .ref (a 1), .ref (a 2), .ref (a 3), .ref (a 4), .int (Z 12 1), .ref (a 5), .ref (a 6), .ref (a 7), .ref (a 8), .ref (a 9), .int (Z 12 2), .ref (a 10), .int (Z 12 3), .int (Z 12 4), .ref (a 11), .ref (a 12), .long (Y 5 0), .ref (a 13), .ref (a 14), .ref (a 15), .ref (a 16), .ref (a 17)])), ((a 1), eI C 48 (Z 0)), ((a 2), eI C 24 (Z 1)), ((a 3), eZ C 12 (Z 2)), ((a 4), eZ C 12 (Z 3)), ((a 5), eI C 60 (Z 4)), ((a 6), eI C 60 (Z 5)), ((a 7), eI C 60 (Z 6)), ((a 8), eZ C 60 (Z 7)), ((a 9), eZ C 244 (Z 8)), ((a 10), eI C 24 (Z 9)), ((a 11), eJ C 9 S1), ((a 12), eJ C 9 (Y 1)), ((a 13), eJ C 3 (Y 2)), ((a 14), eJ C 3 (Y 3)), ((a 15), eJ C 12 (Y 4)), ((a 16), eI C 6 (Z 10)), ((a 17), eI C 4 (Z 11))] H ∧ va_D A [((a 0), .inr (7, [.int (Z 12 0), .ref (a 1), .ref (a 2), .ref (a 3), .ref (a 4), .int (Z 12 1), .ref (a 5), .ref (a 6), .ref (a 7), .ref (a 8), .ref (a 9), .int (Z 12 2), .ref (a 10), .int (Z 12 3), .int (Z 12 4), .ref (a 11), .ref (a 12), .long (Y 5 0), .ref (a 13), .ref (a 14), .ref (a 15), .ref (a 16), .ref (a 17)])), ((a 1), eI C 48 (Z 0)), ((a 2), eI C 24 (Z 1)), ((a 3), eZ C 12 (Z 2)), ((a 4), eZ C 12 (Z 3)), ((a 5), eI C 60 (Z 4)), ((a 6), eI C 60 (Z 5)), ((a 7), eI C 60 (Z 6)), ((a 8), eZ C 60 (Z 7)), ((a 9), eZ C 244 (Z 8)), ((a 10), eI C 24 (Z 9)), ((a 11), eJ C 9 S1), ((a 12), eJ C 9 (Y 1)), ((a 13), eJ C 3 (Y 2)), ((a 14), eJ C 3 (Y 3)), ((a 15), eJ C 12 (Y 4)), ((a 16), eI C 6 (Z 10)), ((a 17), eI C 4 (Z 11))] ∧ va_S A s.heap H locs := ⟨9, 0, (Y 0), rfl, rfl, lv_sub hl [2, 3, 4, 1, 0] rfl, hP, hD, hS⟩
  clear hl hP hD hS
  induction n8 generalizing k S1 ls H locs with
  | zero =>
    obtain ⟨h8_0, h8_1, hl, hP, hD, hS⟩ := hinv
    refine lv_iload hx hb dX7_lay_8 (lv_at hl 4 rfl) ?_
    refine lv_bipush (v := 9) hx hb dX7_lay_10 (by decide) ?_
    refine lv_icmp_ge (tgt := 50) hx hb dX7_lay_12 (by decide) (fun c_1 => ?_) (fun c_1 => ?_)
    · have e_S1 : S1 = layA (f7_termsOf model) 9 0 (Y 0) := h8_1
      subst e_S1
      refine lv_iconst (v := 0) hx hb dX7_lay_50 (by decide) ?_
      refine lv_istore (lv' := [(4, .int 0), (0, .ref (a 0)), (1, .int model), (2, .int set), (3, .int (f7_termsOf model))]) hx hb dX7_lay_51 hl (by decide) rfl (fun ls hl => ?_)
      refine xgen hP hS (fun H locs hP hS => ?_)
      obtain ⟨n53, j, S2, hinv⟩ : ∃ (n53 : Nat) (j : Nat) (S2 : Nat → Int64), j + n53 = N ∧ layM (Z 0) model set nt n53 j S2 = layS (Z 0) model set nt N (Y 0) ∧ lv_has ls 6 [(0, .ref (a 0)), (1, .int model), (2, .int set), (3, .int (f7_termsOf model)), (4, .int (nI j))] ∧ va_P D vwCl [((a 0), .inr (7, [.int (Z 12 0), .ref (a 1), .ref (a 2), .ref (a 3), .ref (a 4), .int (Z 12 1), .ref (a 5), .ref (a 6), .ref (a 7), .ref (a 8), .ref (a 9), .int (Z 12 2), .ref (a 10), .int (Z 12 3), .int (Z 12 4), .ref (a 11), .ref (a 12), .long (Y 5 0), .ref (a 13), .ref (a 14), .ref (a 15), .ref (a 16), .ref (a 17)])), ((a 1), eI C 48 (Z 0)), ((a 2), eI C 24 (Z 1)), ((a 3), eZ C 12 (Z 2)), ((a 4), eZ C 12 (Z 3)), ((a 5), eI C 60 (Z 4)), ((a 6), eI C 60 (Z 5)), ((a 7), eI C 60 (Z 6)), ((a 8), eZ C 60 (Z 7)), ((a 9), eZ C 244 (Z 8)), ((a 10), eI C 24 (Z 9)), ((a 11), eJ C 9 S2), ((a 12), eJ C 9 (Y 1)), ((a 13), eJ C 3 (Y 2)), ((a 14), eJ C 3 (Y 3)), ((a 15), eJ C 12 (Y 4)), ((a 16), eI C 6 (Z 10)), ((a 17), eI C 4 (Z 11))] H ∧ va_D A [((a 0), .inr (7, [.int (Z 12 0), .ref (a 1), .ref (a 2), .ref (a 3), .ref (a 4), .int (Z 12 1), .ref (a 5), .ref (a 6), .ref (a 7), .ref (a 8), .ref (a 9), .int (Z 12 2), .ref (a 10), .int (Z 12 3), .int (Z 12 4), .ref (a 11), .ref (a 12), .long (Y 5 0), .ref (a 13), .ref (a 14), .ref (a 15), .ref (a 16), .ref (a 17)])), ((a 1), eI C 48 (Z 0)), ((a 2), eI C 24 (Z 1)), ((a 3), eZ C 12 (Z 2)), ((a 4), eZ C 12 (Z 3)), ((a 5), eI C 60 (Z 4)), ((a 6), eI C 60 (Z 5)), ((a 7), eI C 60 (Z 6)), ((a 8), eZ C 60 (Z 7)), ((a 9), eZ C 244 (Z 8)), ((a 10), eI C 24 (Z 9)), ((a 11), eJ C 9 S2), ((a 12), eJ C 9 (Y 1)), ((a 13), eJ C 3 (Y 2)), ((a 14), eJ C 3 (Y 3)), ((a 15), eJ C 12 (Y 4)), ((a 16), eI C 6 (Z 10)), ((a 17), eI C 4 (Z 11))] ∧ va_S A s.heap H locs := ⟨N, 0, (layA (f7_termsOf model) 9 0 (Y 0)), by omega, rfl, lv_sub hl [1, 2, 3, 4, 0] rfl, hP, hD, hS⟩
      clear hl hP hD hS
      induction n53 generalizing j S2 ls H locs with
      | zero =>
        obtain ⟨h53_0, h53_1, hl, hP, hD, hS⟩ := hinv
        refine lv_iload hx hb dX7_lay_53 (lv_at hl 4 rfl) ?_
        refine lv_aload_n hx hb dX7_lay_55 rfl (lv_at hl 0 rfl) ?_
        refine va_get (D := D) (ci := 7) (C := RX7) (T := TX7) (N := 23) hx hb hW inX7 hown hK hP 0 rfl rfl 0 (by decide) (hW _ (wa tw543 rfl)) (fun _ h9 => h9) rfl dX7_lay_56 ?_
        refine lv_icmp_ge (tgt := 137) hx hb dX7_lay_59 (by decide) (fun c_2 => ?_) (fun c_2 => ?_)
        · have e_S2 : S2 = layS (Z 0) model set nt N (Y 0) := h53_1
          subst e_S2
          refine lv_iconst (v := 0) hx hb dX7_lay_137 (by decide) ?_
          refine lv_istore (lv' := [(4, .int 0), (0, .ref (a 0)), (1, .int model), (2, .int set), (3, .int (f7_termsOf model))]) hx hb dX7_lay_138 hl (by decide) rfl (fun ls hl => ?_)
          refine xgen hP hS (fun H locs hP hS => ?_)
          obtain ⟨n140, k, Tr, hinv⟩ : ∃ (n140 : Nat) (k : Nat) (Tr : Nat → Int64), k + n140 = 9 ∧ layT (layS (Z 0) model set nt N (Y 0)) n140 k Tr = layV (layS (Z 0) model set nt N (Y 0)) (Y 1) ∧ lv_has ls 6 [(0, .ref (a 0)), (1, .int model), (2, .int set), (3, .int (f7_termsOf model)), (4, .int (nI k))] ∧ va_P D vwCl [((a 0), .inr (7, [.int (Z 12 0), .ref (a 1), .ref (a 2), .ref (a 3), .ref (a 4), .int (Z 12 1), .ref (a 5), .ref (a 6), .ref (a 7), .ref (a 8), .ref (a 9), .int (Z 12 2), .ref (a 10), .int (Z 12 3), .int (Z 12 4), .ref (a 11), .ref (a 12), .long (Y 5 0), .ref (a 13), .ref (a 14), .ref (a 15), .ref (a 16), .ref (a 17)])), ((a 1), eI C 48 (Z 0)), ((a 2), eI C 24 (Z 1)), ((a 3), eZ C 12 (Z 2)), ((a 4), eZ C 12 (Z 3)), ((a 5), eI C 60 (Z 4)), ((a 6), eI C 60 (Z 5)), ((a 7), eI C 60 (Z 6)), ((a 8), eZ C 60 (Z 7)), ((a 9), eZ C 244 (Z 8)), ((a 10), eI C 24 (Z 9)), ((a 11), eJ C 9 (layS (Z 0) model set nt N (Y 0))), ((a 12), eJ C 9 Tr), ((a 13), eJ C 3 (Y 2)), ((a 14), eJ C 3 (Y 3)), ((a 15), eJ C 12 (Y 4)), ((a 16), eI C 6 (Z 10)), ((a 17), eI C 4 (Z 11))] H ∧ va_D A [((a 0), .inr (7, [.int (Z 12 0), .ref (a 1), .ref (a 2), .ref (a 3), .ref (a 4), .int (Z 12 1), .ref (a 5), .ref (a 6), .ref (a 7), .ref (a 8), .ref (a 9), .int (Z 12 2), .ref (a 10), .int (Z 12 3), .int (Z 12 4), .ref (a 11), .ref (a 12), .long (Y 5 0), .ref (a 13), .ref (a 14), .ref (a 15), .ref (a 16), .ref (a 17)])), ((a 1), eI C 48 (Z 0)), ((a 2), eI C 24 (Z 1)), ((a 3), eZ C 12 (Z 2)), ((a 4), eZ C 12 (Z 3)), ((a 5), eI C 60 (Z 4)), ((a 6), eI C 60 (Z 5)), ((a 7), eI C 60 (Z 6)), ((a 8), eZ C 60 (Z 7)), ((a 9), eZ C 244 (Z 8)), ((a 10), eI C 24 (Z 9)), ((a 11), eJ C 9 (layS (Z 0) model set nt N (Y 0))), ((a 12), eJ C 9 Tr), ((a 13), eJ C 3 (Y 2)), ((a 14), eJ C 3 (Y 3)), ((a 15), eJ C 12 (Y 4)), ((a 16), eI C 6 (Z 10)), ((a 17), eI C 4 (Z 11))] ∧ va_S A s.heap H locs := ⟨9, 0, (Y 1), rfl, rfl, lv_sub hl [1, 2, 3, 4, 0] rfl, hP, hD, hS⟩
          clear hl hP hD hS
          induction n140 generalizing k Tr ls H locs with
          | zero =>
            obtain ⟨h140_0, h140_1, hl, hP, hD, hS⟩ := hinv
            refine lv_iload hx hb dX7_lay_140 (lv_at hl 4 rfl) ?_
            refine lv_bipush (v := 9) hx hb dX7_lay_142 (by decide) ?_
            refine lv_icmp_ge (tgt := 172) hx hb dX7_lay_144 (by decide) (fun c_3 => ?_) (fun c_3 => ?_)
            · have e_Tr : Tr = layV (layS (Z 0) model set nt N (Y 0)) (Y 1) := h140_1
              subst e_Tr
              refine lv_aload_n hx hb dX7_lay_172 rfl (lv_at hl 0 rfl) ?_
              refine lv_aload_n hx hb dX7_lay_173 rfl (lv_at hl 0 rfl) ?_
              refine va_get (D := D) (ci := 7) (C := RX7) (T := TX7) (N := 23) hx hb hW inX7 hown hK hP 0 rfl rfl 15 (by decide) (hW _ (wa tw558 rfl)) (fun _ h9 => h9) rfl dX7_lay_174 ?_
              refine lv_iconst (v := 0) hx hb dX7_lay_177 (by decide) ?_
              refine xlald hx hb hK hP 11 rfl 0 (nI_lit 0) (by decide) (by decide) dX7_lay_178 ?_
              refine lv_aload_n hx hb dX7_lay_179 rfl (lv_at hl 0 rfl) ?_
              refine va_get (D := D) (ci := 7) (C := RX7) (T := TX7) (N := 23) hx hb hW inX7 hown hK hP 0 rfl rfl 16 (by decide) (hW _ (wa tw559 rfl)) (fun _ h9 => h9) rfl dX7_lay_180 ?_
              refine lv_iconst (v := 0) hx hb dX7_lay_183 (by decide) ?_
              refine xlald hx hb hK hP 12 rfl 0 (nI_lit 0) (by decide) (by decide) dX7_lay_184 ?_
              refine lv_lmul hx hb dX7_lay_185 ?_
              refine lv_aload_n hx hb dX7_lay_186 rfl (lv_at hl 0 rfl) ?_
              refine va_get (D := D) (ci := 7) (C := RX7) (T := TX7) (N := 23) hx hb hW inX7 hown hK hP 0 rfl rfl 15 (by decide) (hW _ (wa tw558 rfl)) (fun _ h9 => h9) rfl dX7_lay_187 ?_
              refine lv_iconst (v := 1) hx hb dX7_lay_190 (by decide) ?_
              refine xlald hx hb hK hP 11 rfl 1 (nI_lit 1) (by decide) (by decide) dX7_lay_191 ?_
              refine lv_aload_n hx hb dX7_lay_192 rfl (lv_at hl 0 rfl) ?_
              refine va_get (D := D) (ci := 7) (C := RX7) (T := TX7) (N := 23) hx hb hW inX7 hown hK hP 0 rfl rfl 16 (by decide) (hW _ (wa tw559 rfl)) (fun _ h9 => h9) rfl dX7_lay_193 ?_
              refine lv_iconst (v := 3) hx hb dX7_lay_196 (by decide) ?_
              refine xlald hx hb hK hP 12 rfl 3 (nI_lit 3) (by decide) (by decide) dX7_lay_197 ?_
              refine lv_lmul hx hb dX7_lay_198 ?_
              refine lv_ladd hx hb dX7_lay_199 ?_
              refine lv_aload_n hx hb dX7_lay_200 rfl (lv_at hl 0 rfl) ?_
              refine va_get (D := D) (ci := 7) (C := RX7) (T := TX7) (N := 23) hx hb hW inX7 hown hK hP 0 rfl rfl 15 (by decide) (hW _ (wa tw558 rfl)) (fun _ h9 => h9) rfl dX7_lay_201 ?_
              refine lv_iconst (v := 2) hx hb dX7_lay_204 (by decide) ?_
              refine xlald hx hb hK hP 11 rfl 2 (nI_lit 2) (by decide) (by decide) dX7_lay_205 ?_
              refine lv_aload_n hx hb dX7_lay_206 rfl (lv_at hl 0 rfl) ?_
              refine va_get (D := D) (ci := 7) (C := RX7) (T := TX7) (N := 23) hx hb hW inX7 hown hK hP 0 rfl rfl 16 (by decide) (hW _ (wa tw559 rfl)) (fun _ h9 => h9) rfl dX7_lay_207 ?_
              refine lv_bipush (v := 6) hx hb dX7_lay_210 (by decide) ?_
              refine xlald hx hb hK hP 12 rfl 6 (nI_lit 6) (by decide) (by decide) dX7_lay_212 ?_
              refine lv_lmul hx hb dX7_lay_213 ?_
              refine lv_ladd hx hb dX7_lay_214 ?_
              refine va_put (D := D) (v := .long (((((layS (Z 0) model set nt N (Y 0)) 0) * ((layV (layS (Z 0) model set nt N (Y 0)) (Y 1)) 0)) + (((layS (Z 0) model set nt N (Y 0)) 1) * ((layV (layS (Z 0) model set nt N (Y 0)) (Y 1)) 3))) + (((layS (Z 0) model set nt N (Y 0)) 2) * ((layV (layS (Z 0) model set nt N (Y 0)) (Y 1)) 6)))) (ty := .long) (ci := 7) (C := RX7) (T := TX7) (N := 23) hx hb hW inX7 tyX7 tyX7_ok nmX7 hown hK hP hD hS 0 rfl rfl 17 (by decide) (hW _ (wa tw560 rfl)) (fun _ h9 => h9) rfl (by decide +kernel) rfl rfl (Nat.le_of_ble_eq_true rfl) dX7_lay_215 (fun H locs hP hD hS => ?_)
              have hP : va_P D vwCl [((a 0), .inr (7, [.int (Z 12 0), .ref (a 1), .ref (a 2), .ref (a 3), .ref (a 4), .int (Z 12 1), .ref (a 5), .ref (a 6), .ref (a 7), .ref (a 8), .ref (a 9), .int (Z 12 2), .ref (a 10), .int (Z 12 3), .int (Z 12 4), .ref (a 11), .ref (a 12), .long (((((layS (Z 0) model set nt N (Y 0)) 0) * ((layV (layS (Z 0) model set nt N (Y 0)) (Y 1)) 0)) + (((layS (Z 0) model set nt N (Y 0)) 1) * ((layV (layS (Z 0) model set nt N (Y 0)) (Y 1)) 3))) + (((layS (Z 0) model set nt N (Y 0)) 2) * ((layV (layS (Z 0) model set nt N (Y 0)) (Y 1)) 6))), .ref (a 13), .ref (a 14), .ref (a 15), .ref (a 16), .ref (a 17)])), ((a 1), eI C 48 (Z 0)), ((a 2), eI C 24 (Z 1)), ((a 3), eZ C 12 (Z 2)), ((a 4), eZ C 12 (Z 3)), ((a 5), eI C 60 (Z 4)), ((a 6), eI C 60 (Z 5)), ((a 7), eI C 60 (Z 6)), ((a 8), eZ C 60 (Z 7)), ((a 9), eZ C 244 (Z 8)), ((a 10), eI C 24 (Z 9)), ((a 11), eJ C 9 (layS (Z 0) model set nt N (Y 0))), ((a 12), eJ C 9 (layV (layS (Z 0) model set nt N (Y 0)) (Y 1))), ((a 13), eJ C 3 (Y 2)), ((a 14), eJ C 3 (Y 3)), ((a 15), eJ C 12 (Y 4)), ((a 16), eI C 6 (Z 10)), ((a 17), eI C 4 (Z 11))] H := hP
              have hD : va_D A [((a 0), .inr (7, [.int (Z 12 0), .ref (a 1), .ref (a 2), .ref (a 3), .ref (a 4), .int (Z 12 1), .ref (a 5), .ref (a 6), .ref (a 7), .ref (a 8), .ref (a 9), .int (Z 12 2), .ref (a 10), .int (Z 12 3), .int (Z 12 4), .ref (a 11), .ref (a 12), .long (((((layS (Z 0) model set nt N (Y 0)) 0) * ((layV (layS (Z 0) model set nt N (Y 0)) (Y 1)) 0)) + (((layS (Z 0) model set nt N (Y 0)) 1) * ((layV (layS (Z 0) model set nt N (Y 0)) (Y 1)) 3))) + (((layS (Z 0) model set nt N (Y 0)) 2) * ((layV (layS (Z 0) model set nt N (Y 0)) (Y 1)) 6))), .ref (a 13), .ref (a 14), .ref (a 15), .ref (a 16), .ref (a 17)])), ((a 1), eI C 48 (Z 0)), ((a 2), eI C 24 (Z 1)), ((a 3), eZ C 12 (Z 2)), ((a 4), eZ C 12 (Z 3)), ((a 5), eI C 60 (Z 4)), ((a 6), eI C 60 (Z 5)), ((a 7), eI C 60 (Z 6)), ((a 8), eZ C 60 (Z 7)), ((a 9), eZ C 244 (Z 8)), ((a 10), eI C 24 (Z 9)), ((a 11), eJ C 9 (layS (Z 0) model set nt N (Y 0))), ((a 12), eJ C 9 (layV (layS (Z 0) model set nt N (Y 0)) (Y 1))), ((a 13), eJ C 3 (Y 2)), ((a 14), eJ C 3 (Y 3)), ((a 15), eJ C 12 (Y 4)), ((a 16), eI C 6 (Z 10)), ((a 17), eI C 4 (Z 11))] := hD
              have hP9 : va_P D vwCl ((wZ a C Z (f7_lay (Z 0) Y model set nt N))) _ := hP
              have hD9 : va_D A ((wZ a C Z (f7_lay (Z 0) Y model set nt N))) := hD
              exact W.vret hx hb hr (fun t ht _ => ⟨⟨(), rfl, trivial, ⟨by rw [ht]; exact hP9, by rw [hAe]; exact hD9⟩⟩, hS.F ht⟩) hS.2.2 dX7_lay_218
            · exact absurd (q_le (nI_lit 9) rfl (by rcases hnt3 with rfl | rfl <;> omega) (by rcases hnt3 with rfl | rfl <;> omega)) c_3
          | succ n140 ih140 =>
            obtain ⟨h140_0, h140_1, hl, hP, hD, hS⟩ := hinv
            refine lv_iload hx hb dX7_lay_140 (lv_at hl 4 rfl) ?_
            refine lv_bipush (v := 9) hx hb dX7_lay_142 (by decide) ?_
            refine lv_icmp_ge (tgt := 172) hx hb dX7_lay_144 (by decide) (fun c_4 => ?_) (fun c_4 => ?_)
            · exact absurd c_4 (q_nle (nI_lit 9) rfl (by rcases hnt3 with rfl | rfl <;> omega) (by rcases hnt3 with rfl | rfl <;> omega))
            · refine lv_aload_n hx hb dX7_lay_147 rfl (lv_at hl 0 rfl) ?_
              refine va_get (D := D) (ci := 7) (C := RX7) (T := TX7) (N := 23) hx hb hW inX7 hown hK hP 0 rfl rfl 16 (by decide) (hW _ (wa tw559 rfl)) (fun _ h9 => h9) rfl dX7_lay_148 ?_
              refine lv_iload hx hb dX7_lay_151 (lv_at hl 4 rfl) ?_
              refine lv_aload_n hx hb dX7_lay_153 rfl (lv_at hl 0 rfl) ?_
              refine lv_iload hx hb dX7_lay_154 (lv_at hl 4 rfl) ?_
              refine lv_iconst (v := 3) hx hb dX7_lay_156 (by decide) ?_
              refine lv_irem hx hb dX7_lay_157 (by decide) ?_
              refine xtopi (y := nI (k % 3)) (q_rem rfl (nI_lit 3) (by rcases hnt3 with rfl | rfl <;> omega) (by rcases hnt3 with rfl | rfl <;> omega) (by rcases hnt3 with rfl | rfl <;> omega)) ?_
              refine lv_iload hx hb dX7_lay_158 (lv_at hl 4 rfl) ?_
              refine lv_iconst (v := 3) hx hb dX7_lay_160 (by decide) ?_
              refine lv_idiv hx hb dX7_lay_161 (by decide) ?_
              refine xtopi (y := nI (k / 3)) (q_div rfl (nI_lit 3) (by rcases hnt3 with rfl | rfl <;> omega) (by rcases hnt3 with rfl | rfl <;> omega) (by rcases hnt3 with rfl | rfl <;> omega)) ?_
              refine xrl (r := f7_minor (layS (Z 0) model set nt N (Y 0)) (k % 3) (k / 3)) (rV (As := [.int (nI (k % 3)), .int (nI (k / 3))]) (n := 2) (rest := [.int (nI k), .ref (a 12)]) ⟨hx, hb, hml, hown, hW⟩ (kX7_minor l D C a Z (uM (uM Y 0 (layS (Z 0) model set nt N (Y 0))) 1 Tr) (k % 3) (k / 3) (by omega) (by omega)) (wa tw688 rfl) (wa tw685 rfl) (wa tw687 rfl) (was ts41 rfl) (wa tw8 rfl) (by decide +kernel) ⟨Nat.le_of_ble_eq_true rfl, Nat.le_of_ble_eq_true rfl⟩ (pVr hP hK hNw 0 rfl rfl) hl.1 rfl (Nat.le_of_ble_eq_true rfl) dX7_lay_162 ⟨Nat.le_of_ble_eq_true rfl, Nat.le_of_ble_eq_true rfl⟩ rfl rfl rfl) ?_
              refine xlast hx hb hK hP hD hS 12 rfl k rfl (by rcases hnt3 with rfl | rfl <;> omega) (by decide) dX7_lay_165 (fun H locs hP hD hS => ?_)
              have hP : va_P D vwCl [((a 0), .inr (7, [.int (Z 12 0), .ref (a 1), .ref (a 2), .ref (a 3), .ref (a 4), .int (Z 12 1), .ref (a 5), .ref (a 6), .ref (a 7), .ref (a 8), .ref (a 9), .int (Z 12 2), .ref (a 10), .int (Z 12 3), .int (Z 12 4), .ref (a 11), .ref (a 12), .long (Y 5 0), .ref (a 13), .ref (a 14), .ref (a 15), .ref (a 16), .ref (a 17)])), ((a 1), eI C 48 (Z 0)), ((a 2), eI C 24 (Z 1)), ((a 3), eZ C 12 (Z 2)), ((a 4), eZ C 12 (Z 3)), ((a 5), eI C 60 (Z 4)), ((a 6), eI C 60 (Z 5)), ((a 7), eI C 60 (Z 6)), ((a 8), eZ C 60 (Z 7)), ((a 9), eZ C 244 (Z 8)), ((a 10), eI C 24 (Z 9)), ((a 11), eJ C 9 (layS (Z 0) model set nt N (Y 0))), ((a 12), eJ C 9 (vp_updL Tr k (f7_minor (layS (Z 0) model set nt N (Y 0)) (k % 3) (k / 3)))), ((a 13), eJ C 3 (Y 2)), ((a 14), eJ C 3 (Y 3)), ((a 15), eJ C 12 (Y 4)), ((a 16), eI C 6 (Z 10)), ((a 17), eI C 4 (Z 11))] H := hP
              have hD : va_D A [((a 0), .inr (7, [.int (Z 12 0), .ref (a 1), .ref (a 2), .ref (a 3), .ref (a 4), .int (Z 12 1), .ref (a 5), .ref (a 6), .ref (a 7), .ref (a 8), .ref (a 9), .int (Z 12 2), .ref (a 10), .int (Z 12 3), .int (Z 12 4), .ref (a 11), .ref (a 12), .long (Y 5 0), .ref (a 13), .ref (a 14), .ref (a 15), .ref (a 16), .ref (a 17)])), ((a 1), eI C 48 (Z 0)), ((a 2), eI C 24 (Z 1)), ((a 3), eZ C 12 (Z 2)), ((a 4), eZ C 12 (Z 3)), ((a 5), eI C 60 (Z 4)), ((a 6), eI C 60 (Z 5)), ((a 7), eI C 60 (Z 6)), ((a 8), eZ C 60 (Z 7)), ((a 9), eZ C 244 (Z 8)), ((a 10), eI C 24 (Z 9)), ((a 11), eJ C 9 (layS (Z 0) model set nt N (Y 0))), ((a 12), eJ C 9 (vp_updL Tr k (f7_minor (layS (Z 0) model set nt N (Y 0)) (k % 3) (k / 3)))), ((a 13), eJ C 3 (Y 2)), ((a 14), eJ C 3 (Y 3)), ((a 15), eJ C 12 (Y 4)), ((a 16), eI C 6 (Z 10)), ((a 17), eI C 4 (Z 11))] := hD
              refine lv_iinc (v := nI k + 1) (lv' := [(4, .int (nI k + 1)), (0, .ref (a 0)), (1, .int model), (2, .int set), (3, .int (f7_termsOf model))]) hx hb dX7_lay_166 hl (k := 4) rfl rfl (by decide) rfl (fun ls hl => ?_)
              refine lv_goto (tgt := 140) hx hb dX7_lay_169 (by decide) ?_
              rw [nI_1] at hl
              exact ih140 (k := k + 1) (Tr := (vp_updL Tr k (f7_minor (layS (Z 0) model set nt N (Y 0)) (k % 3) (k / 3)))) (ls := ls) (H := H) (locs := locs) ⟨by omega, h140_1, lv_sub hl [1, 2, 3, 4, 0] rfl, hP, hD, hS⟩
        · exact absurd (q_le hN rfl (by rcases hnt3 with rfl | rfl <;> omega) (by rcases hnt3 with rfl | rfl <;> omega)) c_2
      | succ n53 ih53 =>
        obtain ⟨h53_0, h53_1, hl, hP, hD, hS⟩ := hinv
        refine lv_iload hx hb dX7_lay_53 (lv_at hl 4 rfl) ?_
        refine lv_aload_n hx hb dX7_lay_55 rfl (lv_at hl 0 rfl) ?_
        refine va_get (D := D) (ci := 7) (C := RX7) (T := TX7) (N := 23) hx hb hW inX7 hown hK hP 0 rfl rfl 0 (by decide) (hW _ (wa tw543 rfl)) (fun _ h9 => h9) rfl dX7_lay_56 ?_
        refine lv_icmp_ge (tgt := 137) hx hb dX7_lay_59 (by decide) (fun c_5 => ?_) (fun c_5 => ?_)
        · exact absurd c_5 (q_nle hN rfl (by rcases hnt3 with rfl | rfl <;> omega) (by rcases hnt3 with rfl | rfl <;> omega))
        · refine lv_iconst (v := 0) hx hb dX7_lay_62 (by decide) ?_
          refine lv_istore (lv' := [(5, .int 0), (0, .ref (a 0)), (1, .int model), (2, .int set), (3, .int (f7_termsOf model)), (4, .int (nI j))]) hx hb dX7_lay_63 hl (by decide) rfl (fun ls hl => ?_)
          refine xgen hP hS (fun H locs hP hS => ?_)
          obtain ⟨n65, k, S3, hinv⟩ : ∃ (n65 : Nat) (k : Nat) (S3 : Nat → Int64), k + n65 = nt * nt ∧ layK (Z 0) model set nt j n65 k S3 = layK (Z 0) model set nt j (nt * nt) 0 S2 ∧ lv_has ls 6 [(0, .ref (a 0)), (1, .int model), (2, .int set), (3, .int (f7_termsOf model)), (4, .int (nI j)), (5, .int (nI k))] ∧ va_P D vwCl [((a 0), .inr (7, [.int (Z 12 0), .ref (a 1), .ref (a 2), .ref (a 3), .ref (a 4), .int (Z 12 1), .ref (a 5), .ref (a 6), .ref (a 7), .ref (a 8), .ref (a 9), .int (Z 12 2), .ref (a 10), .int (Z 12 3), .int (Z 12 4), .ref (a 11), .ref (a 12), .long (Y 5 0), .ref (a 13), .ref (a 14), .ref (a 15), .ref (a 16), .ref (a 17)])), ((a 1), eI C 48 (Z 0)), ((a 2), eI C 24 (Z 1)), ((a 3), eZ C 12 (Z 2)), ((a 4), eZ C 12 (Z 3)), ((a 5), eI C 60 (Z 4)), ((a 6), eI C 60 (Z 5)), ((a 7), eI C 60 (Z 6)), ((a 8), eZ C 60 (Z 7)), ((a 9), eZ C 244 (Z 8)), ((a 10), eI C 24 (Z 9)), ((a 11), eJ C 9 S3), ((a 12), eJ C 9 (Y 1)), ((a 13), eJ C 3 (Y 2)), ((a 14), eJ C 3 (Y 3)), ((a 15), eJ C 12 (Y 4)), ((a 16), eI C 6 (Z 10)), ((a 17), eI C 4 (Z 11))] H ∧ va_D A [((a 0), .inr (7, [.int (Z 12 0), .ref (a 1), .ref (a 2), .ref (a 3), .ref (a 4), .int (Z 12 1), .ref (a 5), .ref (a 6), .ref (a 7), .ref (a 8), .ref (a 9), .int (Z 12 2), .ref (a 10), .int (Z 12 3), .int (Z 12 4), .ref (a 11), .ref (a 12), .long (Y 5 0), .ref (a 13), .ref (a 14), .ref (a 15), .ref (a 16), .ref (a 17)])), ((a 1), eI C 48 (Z 0)), ((a 2), eI C 24 (Z 1)), ((a 3), eZ C 12 (Z 2)), ((a 4), eZ C 12 (Z 3)), ((a 5), eI C 60 (Z 4)), ((a 6), eI C 60 (Z 5)), ((a 7), eI C 60 (Z 6)), ((a 8), eZ C 60 (Z 7)), ((a 9), eZ C 244 (Z 8)), ((a 10), eI C 24 (Z 9)), ((a 11), eJ C 9 S3), ((a 12), eJ C 9 (Y 1)), ((a 13), eJ C 3 (Y 2)), ((a 14), eJ C 3 (Y 3)), ((a 15), eJ C 12 (Y 4)), ((a 16), eI C 6 (Z 10)), ((a 17), eI C 4 (Z 11))] ∧ va_S A s.heap H locs := ⟨nt * nt, 0, S2, by omega, rfl, lv_sub hl [1, 2, 3, 4, 5, 0] rfl, hP, hD, hS⟩
          clear hl hP hD hS
          induction n65 generalizing k S3 ls H locs with
          | zero =>
            obtain ⟨h65_0, h65_1, hl, hP, hD, hS⟩ := hinv
            refine lv_iload hx hb dX7_lay_65 (lv_at hl 5 rfl) ?_
            refine lv_iload_n hx hb dX7_lay_67 rfl (lv_at hl 3 rfl) ?_
            refine lv_iload_n hx hb dX7_lay_68 rfl (lv_at hl 3 rfl) ?_
            refine lv_imul hx hb dX7_lay_69 ?_
            refine lv_icmp_ge (tgt := 131) hx hb dX7_lay_70 (by decide) (fun c_6 => ?_) (fun c_6 => ?_)
            · have e_S3 : S3 = layK (Z 0) model set nt j (nt * nt) 0 S2 := h65_1
              subst e_S3
              refine lv_iinc (v := nI j + 1) (lv' := [(4, .int (nI j + 1)), (0, .ref (a 0)), (1, .int model), (2, .int set), (3, .int (f7_termsOf model)), (5, .int (nI k))]) hx hb dX7_lay_131 hl (k := 4) rfl rfl (by decide) rfl (fun ls hl => ?_)
              refine lv_goto (tgt := 53) hx hb dX7_lay_134 (by decide) ?_
              rw [nI_1] at hl
              exact ih53 (j := j + 1) (S2 := (layK (Z 0) model set nt j (nt * nt) 0 S2)) (ls := ls) (H := H) (locs := locs) ⟨by omega, h53_1, lv_sub hl [1, 2, 3, 4, 0] rfl, hP, hD, hS⟩
            · exact absurd (q_le (q_mul hnt hnt) rfl (by rcases hnt3 with rfl | rfl <;> omega) (by rcases hnt3 with rfl | rfl <;> omega)) c_6
          | succ n65 ih65 =>
            obtain ⟨h65_0, h65_1, hl, hP, hD, hS⟩ := hinv
            refine lv_iload hx hb dX7_lay_65 (lv_at hl 5 rfl) ?_
            refine lv_iload_n hx hb dX7_lay_67 rfl (lv_at hl 3 rfl) ?_
            refine lv_iload_n hx hb dX7_lay_68 rfl (lv_at hl 3 rfl) ?_
            refine lv_imul hx hb dX7_lay_69 ?_
            refine lv_icmp_ge (tgt := 131) hx hb dX7_lay_70 (by decide) (fun c_7 => ?_) (fun c_7 => ?_)
            · exact absurd c_7 (q_nle (q_mul hnt hnt) rfl (by rcases hnt3 with rfl | rfl <;> omega) (by rcases hnt3 with rfl | rfl <;> omega))
            · refine lv_iload_n hx hb dX7_lay_73 rfl (lv_at hl 2 rfl) ?_
              refine lv_iload hx hb dX7_lay_74 (lv_at hl 4 rfl) ?_
              refine lv_ishr hx hb dX7_lay_76 ?_
              refine lv_iconst (v := 1) hx hb dX7_lay_77 (by decide) ?_
              refine lv_iand hx hb dX7_lay_78 ?_
              refine lv_iconst (v := 1) hx hb dX7_lay_79 (by decide) ?_
              refine lv_icmp_ne (tgt := 131) hx hb dX7_lay_80 (by decide) (fun c_8 => ?_) (fun c_8 => ?_)
              · have e_S3 : S3 = layK (Z 0) model set nt j (nt * nt) 0 S2 := by rw [← h65_1, layK, if_neg c_8]
                subst e_S3
                refine lv_iinc (v := nI j + 1) (lv' := [(4, .int (nI j + 1)), (0, .ref (a 0)), (1, .int model), (2, .int set), (3, .int (f7_termsOf model)), (5, .int (nI k))]) hx hb dX7_lay_131 hl (k := 4) rfl rfl (by decide) rfl (fun ls hl => ?_)
                refine lv_goto (tgt := 53) hx hb dX7_lay_134 (by decide) ?_
                rw [nI_1] at hl
                exact ih53 (j := j + 1) (S2 := (layK (Z 0) model set nt j (nt * nt) 0 S2)) (ls := ls) (H := H) (locs := locs) ⟨by omega, h53_1, lv_sub hl [1, 2, 3, 4, 0] rfl, hP, hD, hS⟩
              · refine lv_aload_n hx hb dX7_lay_83 rfl (lv_at hl 0 rfl) ?_
                refine va_get (D := D) (ci := 7) (C := RX7) (T := TX7) (N := 23) hx hb hW inX7 hown hK hP 0 rfl rfl 15 (by decide) (hW _ (wa tw558 rfl)) (fun _ h9 => h9) rfl dX7_lay_84 ?_
                refine lv_iconst (v := 3) hx hb dX7_lay_87 (by decide) ?_
                refine lv_iload hx hb dX7_lay_88 (lv_at hl 5 rfl) ?_
                refine lv_iload_n hx hb dX7_lay_90 rfl (lv_at hl 3 rfl) ?_
                refine lv_idiv hx hb dX7_lay_91 (q_ne0 hnt (by rcases hnt3 with rfl | rfl <;> omega) (by rcases hnt3 with rfl | rfl <;> omega)) ?_
                refine xtopi (y := nI (k / nt)) (q_div rfl hnt (by rcases hnt3 with rfl | rfl <;> omega) (by rcases hnt3 with rfl | rfl <;> omega) (by rcases hnt3 with rfl | rfl <;> omega)) ?_
                refine lv_imul hx hb dX7_lay_92 ?_
                refine lv_iload hx hb dX7_lay_93 (lv_at hl 5 rfl) ?_
                refine lv_iload_n hx hb dX7_lay_95 rfl (lv_at hl 3 rfl) ?_
                refine lv_irem hx hb dX7_lay_96 (q_ne0 hnt (by rcases hnt3 with rfl | rfl <;> omega) (by rcases hnt3 with rfl | rfl <;> omega)) ?_
                refine xtopi (y := nI (k % nt)) (q_rem rfl hnt (by rcases hnt3 with rfl | rfl <;> omega) (by rcases hnt3 with rfl | rfl <;> omega) (by rcases hnt3 with rfl | rfl <;> omega)) ?_
                refine lv_iadd hx hb dX7_lay_97 ?_
                refine lv_dup2_11 hx hb dX7_lay_98 rfl rfl ?_
                refine xlald hx hb hK hP 11 rfl ((3 * (k / nt)) + (k % nt)) (q_add (q_mul (nI_lit 3) rfl) rfl) (by rcases hnt3 with rfl | rfl <;> omega) (by decide) dX7_lay_99 ?_
                refine lv_aload_n hx hb dX7_lay_100 rfl (lv_at hl 0 rfl) ?_
                refine lv_iload_n hx hb dX7_lay_101 rfl (lv_at hl 1 rfl) ?_
                refine lv_iload hx hb dX7_lay_102 (lv_at hl 4 rfl) ?_
                refine lv_iload hx hb dX7_lay_104 (lv_at hl 5 rfl) ?_
                refine lv_iload_n hx hb dX7_lay_106 rfl (lv_at hl 3 rfl) ?_
                refine lv_idiv hx hb dX7_lay_107 (q_ne0 hnt (by rcases hnt3 with rfl | rfl <;> omega) (by rcases hnt3 with rfl | rfl <;> omega)) ?_
                refine xtopi (y := nI (k / nt)) (q_div rfl hnt (by rcases hnt3 with rfl | rfl <;> omega) (by rcases hnt3 with rfl | rfl <;> omega) (by rcases hnt3 with rfl | rfl <;> omega)) ?_
                refine xrl (r := f7_term (Z 0) model j (k / nt)) (rV (As := [.int model, .int (nI j), .int (nI (k / nt))]) (n := 3) (rest := [.long (S3 ((3 * (k / nt)) + (k % nt))), .int ((3 * (nI (k / nt))) + (nI (k % nt))), .ref (a 11)]) ⟨hx, hb, hml, hown, hW⟩ (kX7_term l D C a Z (uM Y 0 S3) model j (k / nt) (by rcases hnt3 with rfl | rfl <;> omega) (by rcases hnt3 with rfl | rfl <;> omega)) (wa tw684 rfl) (wa tw681 rfl) (wa tw683 rfl) (was ts40 rfl) (wa tw8 rfl) (by decide +kernel) ⟨Nat.le_of_ble_eq_true rfl, Nat.le_of_ble_eq_true rfl⟩ (pVr hP hK hNw 0 rfl rfl) hl.1 rfl (Nat.le_of_ble_eq_true rfl) dX7_lay_108 ⟨Nat.le_of_ble_eq_true rfl, Nat.le_of_ble_eq_true rfl⟩ rfl rfl rfl) ?_
                refine lv_aload_n hx hb dX7_lay_111 rfl (lv_at hl 0 rfl) ?_
                refine lv_iload_n hx hb dX7_lay_112 rfl (lv_at hl 1 rfl) ?_
                refine lv_iload hx hb dX7_lay_113 (lv_at hl 4 rfl) ?_
                refine lv_iload hx hb dX7_lay_115 (lv_at hl 5 rfl) ?_
                refine lv_iload_n hx hb dX7_lay_117 rfl (lv_at hl 3 rfl) ?_
                refine lv_irem hx hb dX7_lay_118 (q_ne0 hnt (by rcases hnt3 with rfl | rfl <;> omega) (by rcases hnt3 with rfl | rfl <;> omega)) ?_
                refine xtopi (y := nI (k % nt)) (q_rem rfl hnt (by rcases hnt3 with rfl | rfl <;> omega) (by rcases hnt3 with rfl | rfl <;> omega) (by rcases hnt3 with rfl | rfl <;> omega)) ?_
                refine xrl (r := f7_term (Z 0) model j (k % nt)) (rV (As := [.int model, .int (nI j), .int (nI (k % nt))]) (n := 3) (rest := [.long (f7_term (Z 0) model j (k / nt)), .long (S3 ((3 * (k / nt)) + (k % nt))), .int ((3 * (nI (k / nt))) + (nI (k % nt))), .ref (a 11)]) ⟨hx, hb, hml, hown, hW⟩ (kX7_term l D C a Z (uM Y 0 S3) model j (k % nt) (by rcases hnt3 with rfl | rfl <;> omega) (by rcases hnt3 with rfl | rfl <;> omega)) (wa tw684 rfl) (wa tw681 rfl) (wa tw683 rfl) (was ts40 rfl) (wa tw8 rfl) (by decide +kernel) ⟨Nat.le_of_ble_eq_true rfl, Nat.le_of_ble_eq_true rfl⟩ (pVr hP hK hNw 0 rfl rfl) hl.1 rfl (Nat.le_of_ble_eq_true rfl) dX7_lay_119 ⟨Nat.le_of_ble_eq_true rfl, Nat.le_of_ble_eq_true rfl⟩ rfl rfl rfl) ?_
                refine lv_lmul hx hb dX7_lay_122 ?_
                refine lv_ladd hx hb dX7_lay_123 ?_
                refine xlast hx hb hK hP hD hS 11 rfl ((3 * (k / nt)) + (k % nt)) (q_add (q_mul (nI_lit 3) rfl) rfl) (by rcases hnt3 with rfl | rfl <;> omega) (by decide) dX7_lay_124 (fun H locs hP hD hS => ?_)
                have hP : va_P D vwCl [((a 0), .inr (7, [.int (Z 12 0), .ref (a 1), .ref (a 2), .ref (a 3), .ref (a 4), .int (Z 12 1), .ref (a 5), .ref (a 6), .ref (a 7), .ref (a 8), .ref (a 9), .int (Z 12 2), .ref (a 10), .int (Z 12 3), .int (Z 12 4), .ref (a 11), .ref (a 12), .long (Y 5 0), .ref (a 13), .ref (a 14), .ref (a 15), .ref (a 16), .ref (a 17)])), ((a 1), eI C 48 (Z 0)), ((a 2), eI C 24 (Z 1)), ((a 3), eZ C 12 (Z 2)), ((a 4), eZ C 12 (Z 3)), ((a 5), eI C 60 (Z 4)), ((a 6), eI C 60 (Z 5)), ((a 7), eI C 60 (Z 6)), ((a 8), eZ C 60 (Z 7)), ((a 9), eZ C 244 (Z 8)), ((a 10), eI C 24 (Z 9)), ((a 11), eJ C 9 (vp_updL S3 ((3 * (k / nt)) + (k % nt)) ((S3 ((3 * (k / nt)) + (k % nt))) + ((f7_term (Z 0) model j (k / nt)) * (f7_term (Z 0) model j (k % nt)))))), ((a 12), eJ C 9 (Y 1)), ((a 13), eJ C 3 (Y 2)), ((a 14), eJ C 3 (Y 3)), ((a 15), eJ C 12 (Y 4)), ((a 16), eI C 6 (Z 10)), ((a 17), eI C 4 (Z 11))] H := hP
                have hD : va_D A [((a 0), .inr (7, [.int (Z 12 0), .ref (a 1), .ref (a 2), .ref (a 3), .ref (a 4), .int (Z 12 1), .ref (a 5), .ref (a 6), .ref (a 7), .ref (a 8), .ref (a 9), .int (Z 12 2), .ref (a 10), .int (Z 12 3), .int (Z 12 4), .ref (a 11), .ref (a 12), .long (Y 5 0), .ref (a 13), .ref (a 14), .ref (a 15), .ref (a 16), .ref (a 17)])), ((a 1), eI C 48 (Z 0)), ((a 2), eI C 24 (Z 1)), ((a 3), eZ C 12 (Z 2)), ((a 4), eZ C 12 (Z 3)), ((a 5), eI C 60 (Z 4)), ((a 6), eI C 60 (Z 5)), ((a 7), eI C 60 (Z 6)), ((a 8), eZ C 60 (Z 7)), ((a 9), eZ C 244 (Z 8)), ((a 10), eI C 24 (Z 9)), ((a 11), eJ C 9 (vp_updL S3 ((3 * (k / nt)) + (k % nt)) ((S3 ((3 * (k / nt)) + (k % nt))) + ((f7_term (Z 0) model j (k / nt)) * (f7_term (Z 0) model j (k % nt)))))), ((a 12), eJ C 9 (Y 1)), ((a 13), eJ C 3 (Y 2)), ((a 14), eJ C 3 (Y 3)), ((a 15), eJ C 12 (Y 4)), ((a 16), eI C 6 (Z 10)), ((a 17), eI C 4 (Z 11))] := hD
                refine lv_iinc (v := nI k + 1) (lv' := [(5, .int (nI k + 1)), (0, .ref (a 0)), (1, .int model), (2, .int set), (3, .int (f7_termsOf model)), (4, .int (nI j))]) hx hb dX7_lay_125 hl (k := 5) rfl rfl (by decide) rfl (fun ls hl => ?_)
                refine lv_goto (tgt := 65) hx hb dX7_lay_128 (by decide) ?_
                rw [nI_1] at hl
                exact ih65 (k := k + 1) (S3 := (vp_updL S3 ((3 * (k / nt)) + (k % nt)) ((S3 ((3 * (k / nt)) + (k % nt))) + ((f7_term (Z 0) model j (k / nt)) * (f7_term (Z 0) model j (k % nt)))))) (ls := ls) (H := H) (locs := locs) ⟨by omega, by rw [← h65_1, layK, if_pos c_8], lv_sub hl [1, 2, 3, 4, 5, 0] rfl, hP, hD, hS⟩
    · exact absurd (q_le (nI_lit 9) rfl (by rcases hnt3 with rfl | rfl <;> omega) (by rcases hnt3 with rfl | rfl <;> omega)) c_1
  | succ n8 ih8 =>
    obtain ⟨h8_0, h8_1, hl, hP, hD, hS⟩ := hinv
    refine lv_iload hx hb dX7_lay_8 (lv_at hl 4 rfl) ?_
    refine lv_bipush (v := 9) hx hb dX7_lay_10 (by decide) ?_
    refine lv_icmp_ge (tgt := 50) hx hb dX7_lay_12 (by decide) (fun c_9 => ?_) (fun c_9 => ?_)
    · exact absurd c_9 (q_nle (nI_lit 9) rfl (by rcases hnt3 with rfl | rfl <;> omega) (by rcases hnt3 with rfl | rfl <;> omega))
    · refine lv_aload_n hx hb dX7_lay_15 rfl (lv_at hl 0 rfl) ?_
      refine va_get (D := D) (ci := 7) (C := RX7) (T := TX7) (N := 23) hx hb hW inX7 hown hK hP 0 rfl rfl 15 (by decide) (hW _ (wa tw558 rfl)) (fun _ h9 => h9) rfl dX7_lay_16 ?_
      refine lv_iload hx hb dX7_lay_19 (lv_at hl 4 rfl) ?_
      refine lv_iload_n hx hb dX7_lay_21 rfl (lv_at hl 3 rfl) ?_
      refine lv_iconst (v := 1) hx hb dX7_lay_22 (by decide) ?_
      refine lv_icmp_ne (tgt := 42) hx hb dX7_lay_23 (by decide) (fun c_10 => ?_) (fun c_10 => ?_)
      · refine lv_lconst (v := 0) hx hb dX7_lay_42 (by decide) ?_
        refine xlast hx hb hK hP hD hS 11 rfl k rfl (by rcases hnt3 with rfl | rfl <;> omega) (by decide) dX7_lay_43 (fun H locs hP hD hS => ?_)
        have hP : va_P D vwCl [((a 0), .inr (7, [.int (Z 12 0), .ref (a 1), .ref (a 2), .ref (a 3), .ref (a 4), .int (Z 12 1), .ref (a 5), .ref (a 6), .ref (a 7), .ref (a 8), .ref (a 9), .int (Z 12 2), .ref (a 10), .int (Z 12 3), .int (Z 12 4), .ref (a 11), .ref (a 12), .long (Y 5 0), .ref (a 13), .ref (a 14), .ref (a 15), .ref (a 16), .ref (a 17)])), ((a 1), eI C 48 (Z 0)), ((a 2), eI C 24 (Z 1)), ((a 3), eZ C 12 (Z 2)), ((a 4), eZ C 12 (Z 3)), ((a 5), eI C 60 (Z 4)), ((a 6), eI C 60 (Z 5)), ((a 7), eI C 60 (Z 6)), ((a 8), eZ C 60 (Z 7)), ((a 9), eZ C 244 (Z 8)), ((a 10), eI C 24 (Z 9)), ((a 11), eJ C 9 (vp_updL S1 k 0)), ((a 12), eJ C 9 (Y 1)), ((a 13), eJ C 3 (Y 2)), ((a 14), eJ C 3 (Y 3)), ((a 15), eJ C 12 (Y 4)), ((a 16), eI C 6 (Z 10)), ((a 17), eI C 4 (Z 11))] H := hP
        have hD : va_D A [((a 0), .inr (7, [.int (Z 12 0), .ref (a 1), .ref (a 2), .ref (a 3), .ref (a 4), .int (Z 12 1), .ref (a 5), .ref (a 6), .ref (a 7), .ref (a 8), .ref (a 9), .int (Z 12 2), .ref (a 10), .int (Z 12 3), .int (Z 12 4), .ref (a 11), .ref (a 12), .long (Y 5 0), .ref (a 13), .ref (a 14), .ref (a 15), .ref (a 16), .ref (a 17)])), ((a 1), eI C 48 (Z 0)), ((a 2), eI C 24 (Z 1)), ((a 3), eZ C 12 (Z 2)), ((a 4), eZ C 12 (Z 3)), ((a 5), eI C 60 (Z 4)), ((a 6), eI C 60 (Z 5)), ((a 7), eI C 60 (Z 6)), ((a 8), eZ C 60 (Z 7)), ((a 9), eZ C 244 (Z 8)), ((a 10), eI C 24 (Z 9)), ((a 11), eJ C 9 (vp_updL S1 k 0)), ((a 12), eJ C 9 (Y 1)), ((a 13), eJ C 3 (Y 2)), ((a 14), eJ C 3 (Y 3)), ((a 15), eJ C 12 (Y 4)), ((a 16), eI C 6 (Z 10)), ((a 17), eI C 4 (Z 11))] := hD
        refine lv_iinc (v := nI k + 1) (lv' := [(4, .int (nI k + 1)), (0, .ref (a 0)), (1, .int model), (2, .int set), (3, .int (f7_termsOf model))]) hx hb dX7_lay_44 hl (k := 4) rfl rfl (by decide) rfl (fun ls hl => ?_)
        refine lv_goto (tgt := 8) hx hb dX7_lay_47 (by decide) ?_
        rw [nI_1] at hl
        exact ih8 (k := k + 1) (S1 := (vp_updL S1 k 0)) (ls := ls) (H := H) (locs := locs) ⟨by omega, by rw [← h8_1, layA]; simp only [if_neg c_10], lv_sub hl [1, 2, 3, 4, 0] rfl, hP, hD, hS⟩
      · refine lv_iload hx hb dX7_lay_26 (lv_at hl 4 rfl) ?_
        refine lv_iconst (v := 4) hx hb dX7_lay_28 (by decide) ?_
        refine lv_irem hx hb dX7_lay_29 (by decide) ?_
        refine xtopi (y := nI (k % 4)) (q_rem rfl (nI_lit 4) (by rcases hnt3 with rfl | rfl <;> omega) (by rcases hnt3 with rfl | rfl <;> omega) (by rcases hnt3 with rfl | rfl <;> omega)) ?_
        refine lv_if_ne (tgt := 42) hx hb dX7_lay_30 (by decide) (fun c_11 => ?_) (fun c_11 => ?_)
        · refine lv_lconst (v := 0) hx hb dX7_lay_42 (by decide) ?_
          refine xlast hx hb hK hP hD hS 11 rfl k rfl (by rcases hnt3 with rfl | rfl <;> omega) (by decide) dX7_lay_43 (fun H locs hP hD hS => ?_)
          have hP : va_P D vwCl [((a 0), .inr (7, [.int (Z 12 0), .ref (a 1), .ref (a 2), .ref (a 3), .ref (a 4), .int (Z 12 1), .ref (a 5), .ref (a 6), .ref (a 7), .ref (a 8), .ref (a 9), .int (Z 12 2), .ref (a 10), .int (Z 12 3), .int (Z 12 4), .ref (a 11), .ref (a 12), .long (Y 5 0), .ref (a 13), .ref (a 14), .ref (a 15), .ref (a 16), .ref (a 17)])), ((a 1), eI C 48 (Z 0)), ((a 2), eI C 24 (Z 1)), ((a 3), eZ C 12 (Z 2)), ((a 4), eZ C 12 (Z 3)), ((a 5), eI C 60 (Z 4)), ((a 6), eI C 60 (Z 5)), ((a 7), eI C 60 (Z 6)), ((a 8), eZ C 60 (Z 7)), ((a 9), eZ C 244 (Z 8)), ((a 10), eI C 24 (Z 9)), ((a 11), eJ C 9 (vp_updL S1 k 0)), ((a 12), eJ C 9 (Y 1)), ((a 13), eJ C 3 (Y 2)), ((a 14), eJ C 3 (Y 3)), ((a 15), eJ C 12 (Y 4)), ((a 16), eI C 6 (Z 10)), ((a 17), eI C 4 (Z 11))] H := hP
          have hD : va_D A [((a 0), .inr (7, [.int (Z 12 0), .ref (a 1), .ref (a 2), .ref (a 3), .ref (a 4), .int (Z 12 1), .ref (a 5), .ref (a 6), .ref (a 7), .ref (a 8), .ref (a 9), .int (Z 12 2), .ref (a 10), .int (Z 12 3), .int (Z 12 4), .ref (a 11), .ref (a 12), .long (Y 5 0), .ref (a 13), .ref (a 14), .ref (a 15), .ref (a 16), .ref (a 17)])), ((a 1), eI C 48 (Z 0)), ((a 2), eI C 24 (Z 1)), ((a 3), eZ C 12 (Z 2)), ((a 4), eZ C 12 (Z 3)), ((a 5), eI C 60 (Z 4)), ((a 6), eI C 60 (Z 5)), ((a 7), eI C 60 (Z 6)), ((a 8), eZ C 60 (Z 7)), ((a 9), eZ C 244 (Z 8)), ((a 10), eI C 24 (Z 9)), ((a 11), eJ C 9 (vp_updL S1 k 0)), ((a 12), eJ C 9 (Y 1)), ((a 13), eJ C 3 (Y 2)), ((a 14), eJ C 3 (Y 3)), ((a 15), eJ C 12 (Y 4)), ((a 16), eI C 6 (Z 10)), ((a 17), eI C 4 (Z 11))] := hD
          refine lv_iinc (v := nI k + 1) (lv' := [(4, .int (nI k + 1)), (0, .ref (a 0)), (1, .int model), (2, .int set), (3, .int (f7_termsOf model))]) hx hb dX7_lay_44 hl (k := 4) rfl rfl (by decide) rfl (fun ls hl => ?_)
          refine lv_goto (tgt := 8) hx hb dX7_lay_47 (by decide) ?_
          rw [nI_1] at hl
          exact ih8 (k := k + 1) (S1 := (vp_updL S1 k 0)) (ls := ls) (H := H) (locs := locs) ⟨by omega, by rw [← h8_1, layA]; simp only [if_pos c_10, if_neg c_11], lv_sub hl [1, 2, 3, 4, 0] rfl, hP, hD, hS⟩
        · refine lv_iload hx hb dX7_lay_33 (lv_at hl 4 rfl) ?_
          refine lv_if_le (tgt := 42) hx hb dX7_lay_35 (by decide) (fun c_12 => ?_) (fun c_12 => ?_)
          · refine lv_lconst (v := 0) hx hb dX7_lay_42 (by decide) ?_
            refine xlast hx hb hK hP hD hS 11 rfl k rfl (by rcases hnt3 with rfl | rfl <;> omega) (by decide) dX7_lay_43 (fun H locs hP hD hS => ?_)
            have hP : va_P D vwCl [((a 0), .inr (7, [.int (Z 12 0), .ref (a 1), .ref (a 2), .ref (a 3), .ref (a 4), .int (Z 12 1), .ref (a 5), .ref (a 6), .ref (a 7), .ref (a 8), .ref (a 9), .int (Z 12 2), .ref (a 10), .int (Z 12 3), .int (Z 12 4), .ref (a 11), .ref (a 12), .long (Y 5 0), .ref (a 13), .ref (a 14), .ref (a 15), .ref (a 16), .ref (a 17)])), ((a 1), eI C 48 (Z 0)), ((a 2), eI C 24 (Z 1)), ((a 3), eZ C 12 (Z 2)), ((a 4), eZ C 12 (Z 3)), ((a 5), eI C 60 (Z 4)), ((a 6), eI C 60 (Z 5)), ((a 7), eI C 60 (Z 6)), ((a 8), eZ C 60 (Z 7)), ((a 9), eZ C 244 (Z 8)), ((a 10), eI C 24 (Z 9)), ((a 11), eJ C 9 (vp_updL S1 k 0)), ((a 12), eJ C 9 (Y 1)), ((a 13), eJ C 3 (Y 2)), ((a 14), eJ C 3 (Y 3)), ((a 15), eJ C 12 (Y 4)), ((a 16), eI C 6 (Z 10)), ((a 17), eI C 4 (Z 11))] H := hP
            have hD : va_D A [((a 0), .inr (7, [.int (Z 12 0), .ref (a 1), .ref (a 2), .ref (a 3), .ref (a 4), .int (Z 12 1), .ref (a 5), .ref (a 6), .ref (a 7), .ref (a 8), .ref (a 9), .int (Z 12 2), .ref (a 10), .int (Z 12 3), .int (Z 12 4), .ref (a 11), .ref (a 12), .long (Y 5 0), .ref (a 13), .ref (a 14), .ref (a 15), .ref (a 16), .ref (a 17)])), ((a 1), eI C 48 (Z 0)), ((a 2), eI C 24 (Z 1)), ((a 3), eZ C 12 (Z 2)), ((a 4), eZ C 12 (Z 3)), ((a 5), eI C 60 (Z 4)), ((a 6), eI C 60 (Z 5)), ((a 7), eI C 60 (Z 6)), ((a 8), eZ C 60 (Z 7)), ((a 9), eZ C 244 (Z 8)), ((a 10), eI C 24 (Z 9)), ((a 11), eJ C 9 (vp_updL S1 k 0)), ((a 12), eJ C 9 (Y 1)), ((a 13), eJ C 3 (Y 2)), ((a 14), eJ C 3 (Y 3)), ((a 15), eJ C 12 (Y 4)), ((a 16), eI C 6 (Z 10)), ((a 17), eI C 4 (Z 11))] := hD
            refine lv_iinc (v := nI k + 1) (lv' := [(4, .int (nI k + 1)), (0, .ref (a 0)), (1, .int model), (2, .int set), (3, .int (f7_termsOf model))]) hx hb dX7_lay_44 hl (k := 4) rfl rfl (by decide) rfl (fun ls hl => ?_)
            refine lv_goto (tgt := 8) hx hb dX7_lay_47 (by decide) ?_
            rw [nI_1] at hl
            exact ih8 (k := k + 1) (S1 := (vp_updL S1 k 0)) (ls := ls) (H := H) (locs := locs) ⟨by omega, by rw [← h8_1, layA]; simp only [if_pos c_10, if_pos c_11, if_pos c_12], lv_sub hl [1, 2, 3, 4, 0] rfl, hP, hD, hS⟩
          · refine lv_lconst (v := 1) hx hb dX7_lay_38 (by decide) ?_
            refine lv_goto (tgt := 43) hx hb dX7_lay_39 (by decide) ?_
            refine xlast hx hb hK hP hD hS 11 rfl k rfl (by rcases hnt3 with rfl | rfl <;> omega) (by decide) dX7_lay_43 (fun H locs hP hD hS => ?_)
            have hP : va_P D vwCl [((a 0), .inr (7, [.int (Z 12 0), .ref (a 1), .ref (a 2), .ref (a 3), .ref (a 4), .int (Z 12 1), .ref (a 5), .ref (a 6), .ref (a 7), .ref (a 8), .ref (a 9), .int (Z 12 2), .ref (a 10), .int (Z 12 3), .int (Z 12 4), .ref (a 11), .ref (a 12), .long (Y 5 0), .ref (a 13), .ref (a 14), .ref (a 15), .ref (a 16), .ref (a 17)])), ((a 1), eI C 48 (Z 0)), ((a 2), eI C 24 (Z 1)), ((a 3), eZ C 12 (Z 2)), ((a 4), eZ C 12 (Z 3)), ((a 5), eI C 60 (Z 4)), ((a 6), eI C 60 (Z 5)), ((a 7), eI C 60 (Z 6)), ((a 8), eZ C 60 (Z 7)), ((a 9), eZ C 244 (Z 8)), ((a 10), eI C 24 (Z 9)), ((a 11), eJ C 9 (vp_updL S1 k 1)), ((a 12), eJ C 9 (Y 1)), ((a 13), eJ C 3 (Y 2)), ((a 14), eJ C 3 (Y 3)), ((a 15), eJ C 12 (Y 4)), ((a 16), eI C 6 (Z 10)), ((a 17), eI C 4 (Z 11))] H := hP
            have hD : va_D A [((a 0), .inr (7, [.int (Z 12 0), .ref (a 1), .ref (a 2), .ref (a 3), .ref (a 4), .int (Z 12 1), .ref (a 5), .ref (a 6), .ref (a 7), .ref (a 8), .ref (a 9), .int (Z 12 2), .ref (a 10), .int (Z 12 3), .int (Z 12 4), .ref (a 11), .ref (a 12), .long (Y 5 0), .ref (a 13), .ref (a 14), .ref (a 15), .ref (a 16), .ref (a 17)])), ((a 1), eI C 48 (Z 0)), ((a 2), eI C 24 (Z 1)), ((a 3), eZ C 12 (Z 2)), ((a 4), eZ C 12 (Z 3)), ((a 5), eI C 60 (Z 4)), ((a 6), eI C 60 (Z 5)), ((a 7), eI C 60 (Z 6)), ((a 8), eZ C 60 (Z 7)), ((a 9), eZ C 244 (Z 8)), ((a 10), eI C 24 (Z 9)), ((a 11), eJ C 9 (vp_updL S1 k 1)), ((a 12), eJ C 9 (Y 1)), ((a 13), eJ C 3 (Y 2)), ((a 14), eJ C 3 (Y 3)), ((a 15), eJ C 12 (Y 4)), ((a 16), eI C 6 (Z 10)), ((a 17), eI C 4 (Z 11))] := hD
            refine lv_iinc (v := nI k + 1) (lv' := [(4, .int (nI k + 1)), (0, .ref (a 0)), (1, .int model), (2, .int set), (3, .int (f7_termsOf model))]) hx hb dX7_lay_44 hl (k := 4) rfl rfl (by decide) rfl (fun ls hl => ?_)
            refine lv_goto (tgt := 8) hx hb dX7_lay_47 (by decide) ?_
            rw [nI_1] at hl
            exact ih8 (k := k + 1) (S1 := (vp_updL S1 k 1)) (ls := ls) (H := H) (locs := locs) ⟨by omega, by rw [← h8_1, layA]; simp only [if_pos c_10, if_pos c_11, if_neg c_12], lv_sub hl [1, 2, 3, 4, 0] rfl, hP, hD, hS⟩

def ffA : Nat → Nat → (Nat → Int64) → Nat → Int64
  | 0, _, S => S
  | n + 1, k, S => ffA n (k + 1) (vp_updL S k 0)
def ffK (pl rd : Nat → Int32) (model set : Int32) (w j : Nat) : Nat → Nat → (Nat → Int64) → Nat → Int64
  | 0, _, S => S
  | n + 1, t, S => if ((set >>> (nI j &&& 31)) &&& 1) = 1 then ffK pl rd model set w j n (t + 1) (vp_updL S t (S t + f7_term pl model j t * (rd (2 * j + w)).toInt64)) else S
def ffM (pl rd : Nat → Int32) (model set : Int32) (w nt : Nat) : Nat → Nat → (Nat → Int64) → Nat → Int64
  | 0, _, S => S
  | n + 1, j, S => ffM pl rd model set w nt n (j + 1) (ffK pl rd model set w j nt 0 S)
def ffF (T S : Nat → Int64) : Nat → Nat → (Nat → Int64) → Nat → Int64
  | 0, _, F => F
  | n + 1, t, F => ffF T S n (t + 1) (vp_updL F t (T (3 * t) * S 0 + T (3 * t + 1) * S 1 + T (3 * t + 2) * S 2))
def ffS (pl rd : Nat → Int32) (model set : Int32) (w nt N : Nat) (S0 : Nat → Int64) : Nat → Int64 := ffM pl rd model set w nt N 0 (ffA 3 0 S0)
def f7_findFit (pl rd : Nat → Int32) (Y : Nat → Nat → Int64) (model : Int32) (w : Nat) (set : Int32) (nt N : Nat) : Nat → Nat → Int64 :=
  uM (uM (f7_lay pl Y model set nt N) 2 (ffS pl rd model set w nt N (f7_lay pl Y model set nt N 2))) 3 (ffF (f7_lay pl Y model set nt N 1) (ffS pl rd model set w nt N (f7_lay pl Y model set nt N 2)) 3 0 (f7_lay pl Y model set nt N 3))

set_option maxHeartbeats 4000000 in
set_option maxRecDepth 100000 in
theorem kX7_findFit (l : Launch) (D : va_G) (C : Nat → ClassId) (a : Nat → Nat) (Z : Nat → Nat → Int32) (Y : Nat → Nat → Int64) (model : Int32) (w : Nat) (set : Int32) (sz : Nat) (N : Nat) (hN : Z 12 0 = nI N) (hN12 : N ≤ 12) (nt : Nat) (hnt : f7_termsOf model = nI nt) (hnt3 : nt = 1 ∨ nt = 3) (hw : w < 2) : Wv l D C yX7_findFit cX7_findFit 7 2 [.ref (a 0), .int model, .int (nI w), .int set] (wZ a C Z Y) ((wZ a C Z (f7_findFit (Z 0) (Z 1) Y model w set nt N))) sz := by
  refine Met.ofW (cc := cX7_findFit) (maxL := 7) (ret := none) (by decide) rfl ?_
  intro p e s m args below meth c s₁ B hml hv
  obtain ⟨rfl, hsz, hP, hK, hNw, hD0⟩ := hv
  have hx := B.exec
  have hb := B.bytes
  have hr := B.returns
  have hts := atoms_spec (ws := wm yX7_findFit cX7_findFit 7 none) B.pre
  have hown : s.vm.findClass RX7 = some m.cls := findClass_of_methodNamed B.named
  have hlocks := B.notSynchronized
  have hW : ∀ w ∈ WA, w.before _ s = true := fun w h => hts w (List.mem_cons_of_mem _ h)
  subst hsz
  have hD := hD0.self (sz := s.heap.size)
  generalize hAe : va_A (wZ a C Z Y) s.heap.size = A at hD ⊢
  have hA : ∀ q : Nat, s.heap.size ≤ q → A q := fun q h => by rw [← hAe]; exact Or.inr h
  have hS : va_S A s.heap s.heap [] := va_S.rf
  have hP : va_P D vwCl [((a 0), .inr (7, [.int (Z 12 0), .ref (a 1), .ref (a 2), .ref (a 3), .ref (a 4), .int (Z 12 1), .ref (a 5), .ref (a 6), .ref (a 7), .ref (a 8), .ref (a 9), .int (Z 12 2), .ref (a 10), .int (Z 12 3), .int (Z 12 4), .ref (a 11), .ref (a 12), .long (Y 5 0), .ref (a 13), .ref (a 14), .ref (a 15), .ref (a 16), .ref (a 17)])), ((a 1), eI C 48 (Z 0)), ((a 2), eI C 24 (Z 1)), ((a 3), eZ C 12 (Z 2)), ((a 4), eZ C 12 (Z 3)), ((a 5), eI C 60 (Z 4)), ((a 6), eI C 60 (Z 5)), ((a 7), eI C 60 (Z 6)), ((a 8), eZ C 60 (Z 7)), ((a 9), eZ C 244 (Z 8)), ((a 10), eI C 24 (Z 9)), ((a 11), eJ C 9 (Y 0)), ((a 12), eJ C 9 (Y 1)), ((a 13), eJ C 3 (Y 2)), ((a 14), eJ C 3 (Y 3)), ((a 15), eJ C 12 (Y 4)), ((a 16), eI C 6 (Z 10)), ((a 17), eI C 4 (Z 11))] s.heap := hP
  have hD : va_D A [((a 0), .inr (7, [.int (Z 12 0), .ref (a 1), .ref (a 2), .ref (a 3), .ref (a 4), .int (Z 12 1), .ref (a 5), .ref (a 6), .ref (a 7), .ref (a 8), .ref (a 9), .int (Z 12 2), .ref (a 10), .int (Z 12 3), .int (Z 12 4), .ref (a 11), .ref (a 12), .long (Y 5 0), .ref (a 13), .ref (a 14), .ref (a 15), .ref (a 16), .ref (a 17)])), ((a 1), eI C 48 (Z 0)), ((a 2), eI C 24 (Z 1)), ((a 3), eZ C 12 (Z 2)), ((a 4), eZ C 12 (Z 3)), ((a 5), eI C 60 (Z 4)), ((a 6), eI C 60 (Z 5)), ((a 7), eI C 60 (Z 6)), ((a 8), eZ C 60 (Z 7)), ((a 9), eZ C 244 (Z 8)), ((a 10), eI C 24 (Z 9)), ((a 11), eJ C 9 (Y 0)), ((a 12), eJ C 9 (Y 1)), ((a 13), eJ C 3 (Y 2)), ((a 14), eJ C 3 (Y 3)), ((a 15), eJ C 12 (Y 4)), ((a 16), eI C 6 (Z 10)), ((a 17), eI C 4 (Z 11))] := hD
  have hl := lv_entry ([.ref (a 0), .int model, .int (nI w), .int set]) (n := 7) (Nat.le_of_ble_eq_true rfl)
  rw [lg_entry_eq]
  generalize (lg_sl ([.ref (a 0), .int model, .int (nI w), .int set]) ++ List.replicate (7 - (lg_sl ([.ref (a 0), .int model, .int (nI w), .int set])).length) Slot.unset).toArray = ls at hl ⊢
  have hl : lv_has ls 7 [(0, .ref (a 0)), (1, .int model), (2, .int (nI w)), (3, .int set)] := hl
  refine lv_aload_n hx hb dX7_findFit_0 rfl (lv_at hl 0 rfl) ?_
  refine lv_iload_n hx hb dX7_findFit_1 rfl (lv_at hl 1 rfl) ?_
  refine lv_iload_n hx hb dX7_findFit_2 rfl (lv_at hl 3 rfl) ?_
  refine xwv (wr := []) (rV (As := [.int model, .int set]) (n := 2) (rest := []) ⟨hx, hb, hml, hown, hW⟩ (kX7_lay l D C a Z Y model set s.heap.size N hN hN12 nt hnt hnt3) (wa tw677 rfl) (wa tw674 rfl) (wa tw676 rfl) (was ts39 rfl) (wa tw8 rfl) (by decide +kernel) ⟨Nat.le_of_ble_eq_true rfl, Nat.le_of_ble_eq_true rfl⟩ (pVw hP hD hK hNw 0 rfl rfl) hl.1 rfl (Nat.le_of_ble_eq_true rfl) dX7_findFit_3 ⟨Nat.le_of_ble_eq_true rfl, Nat.le_of_ble_eq_true rfl⟩ rfl rfl rfl) hP hD hS hA [0, 1, 2, 3, 4, 5, 6, 7, 8, 9, 10, 11, 12, 13, 14, 15, 16, 17] [] rfl rfl (by decide) (by decide) (fun H locs hP hD hS => ?_)
  have hP : va_P D vwCl [((a 0), .inr (7, [.int (Z 12 0), .ref (a 1), .ref (a 2), .ref (a 3), .ref (a 4), .int (Z 12 1), .ref (a 5), .ref (a 6), .ref (a 7), .ref (a 8), .ref (a 9), .int (Z 12 2), .ref (a 10), .int (Z 12 3), .int (Z 12 4), .ref (a 11), .ref (a 12), .long ((f7_lay (Z 0) Y model set nt N) 5 0), .ref (a 13), .ref (a 14), .ref (a 15), .ref (a 16), .ref (a 17)])), ((a 1), eI C 48 (Z 0)), ((a 2), eI C 24 (Z 1)), ((a 3), eZ C 12 (Z 2)), ((a 4), eZ C 12 (Z 3)), ((a 5), eI C 60 (Z 4)), ((a 6), eI C 60 (Z 5)), ((a 7), eI C 60 (Z 6)), ((a 8), eZ C 60 (Z 7)), ((a 9), eZ C 244 (Z 8)), ((a 10), eI C 24 (Z 9)), ((a 11), eJ C 9 ((f7_lay (Z 0) Y model set nt N) 0)), ((a 12), eJ C 9 ((f7_lay (Z 0) Y model set nt N) 1)), ((a 13), eJ C 3 ((f7_lay (Z 0) Y model set nt N) 2)), ((a 14), eJ C 3 ((f7_lay (Z 0) Y model set nt N) 3)), ((a 15), eJ C 12 ((f7_lay (Z 0) Y model set nt N) 4)), ((a 16), eI C 6 (Z 10)), ((a 17), eI C 4 (Z 11))] H := hP
  have hD : va_D A [((a 0), .inr (7, [.int (Z 12 0), .ref (a 1), .ref (a 2), .ref (a 3), .ref (a 4), .int (Z 12 1), .ref (a 5), .ref (a 6), .ref (a 7), .ref (a 8), .ref (a 9), .int (Z 12 2), .ref (a 10), .int (Z 12 3), .int (Z 12 4), .ref (a 11), .ref (a 12), .long ((f7_lay (Z 0) Y model set nt N) 5 0), .ref (a 13), .ref (a 14), .ref (a 15), .ref (a 16), .ref (a 17)])), ((a 1), eI C 48 (Z 0)), ((a 2), eI C 24 (Z 1)), ((a 3), eZ C 12 (Z 2)), ((a 4), eZ C 12 (Z 3)), ((a 5), eI C 60 (Z 4)), ((a 6), eI C 60 (Z 5)), ((a 7), eI C 60 (Z 6)), ((a 8), eZ C 60 (Z 7)), ((a 9), eZ C 244 (Z 8)), ((a 10), eI C 24 (Z 9)), ((a 11), eJ C 9 ((f7_lay (Z 0) Y model set nt N) 0)), ((a 12), eJ C 9 ((f7_lay (Z 0) Y model set nt N) 1)), ((a 13), eJ C 3 ((f7_lay (Z 0) Y model set nt N) 2)), ((a 14), eJ C 3 ((f7_lay (Z 0) Y model set nt N) 3)), ((a 15), eJ C 12 ((f7_lay (Z 0) Y model set nt N) 4)), ((a 16), eI C 6 (Z 10)), ((a 17), eI C 4 (Z 11))] := hD
  refine lv_iload_n hx hb dX7_findFit_6 rfl (lv_at hl 1 rfl) ?_
  refine xri (r := f7_termsOf model) (rS (As := [.int model]) (n := 1) (rest := []) ⟨hx, hb, hml, hown, hW⟩ (kX7_termsOf l model) (wa tw680 rfl) (wa tw678 rfl) (wa tw679 rfl) (wa tw8 rfl) (by decide +kernel) ⟨Nat.le_of_ble_eq_true rfl, Nat.le_of_ble_eq_true rfl⟩ pS0 hl.1 rfl (Nat.le_of_ble_eq_true rfl) dX7_findFit_7 ⟨Nat.le_of_ble_eq_true rfl, Nat.le_of_ble_eq_true rfl⟩ rfl rfl rfl) ?_
  refine lv_istore (lv' := [(4, .int (f7_termsOf model)), (0, .ref (a 0)), (1, .int model), (2, .int (nI w)), (3, .int set)]) hx hb dX7_findFit_10 hl (by decide) rfl (fun ls hl => ?_)
  refine lv_iconst (v := 0) hx hb dX7_findFit_12 (by decide) ?_
  refine lv_istore (lv' := [(5, .int 0), (4, .int (f7_termsOf model)), (0, .ref (a 0)), (1, .int model), (2, .int (nI w)), (3, .int set)]) hx hb dX7_findFit_13 hl (by decide) rfl (fun ls hl => ?_)
  refine xgen hP hS (fun H locs hP hS => ?_)
  obtain ⟨n15, k, S1, hinv⟩ : ∃ (n15 : Nat) (k : Nat) (S1 : Nat → Int64), k + n15 = 3 ∧ ffA n15 k S1 = ffA 3 0 ((f7_lay (Z 0) Y model set nt N) 2) ∧ lv_has ls 7 [(0, .ref (a 0)), (1, .int model), (2, .int (nI w)), (3, .int set), (4, .int (f7_termsOf model)), (5, .int (nI k))] ∧ va_P D vwCl [((a 0), .inr (7, [.int (Z 12 0), .ref (a 1), .ref (a 2), .ref (a 3), .ref (a 4), .int (Z 12 1), .ref (a 5), .ref (a 6), .ref (a 7), .ref (a 8), .ref (a 9), .int (Z 12 2), .ref (a 10), .int (Z 12 3), .int (Z 12 4), .ref (a 11), .ref (a 12), .long ((f7_lay (Z 0) Y model set nt N) 5 0), .ref (a 13), .ref (a 14), .ref (a 15), .ref (a 16), .ref (a 17)])), ((a 1), eI C 48 (Z 0)), ((a 2), eI C 24 (Z 1)), ((a 3), eZ C 12 (Z 2)), ((a 4), eZ C 12 (Z 3)), ((a 5), eI C 60 (Z 4)), ((a 6), eI C 60 (Z 5)), ((a 7), eI C 60 (Z 6)), ((a 8), eZ C 60 (Z 7)), ((a 9), eZ C 244 (Z 8)), ((a 10), eI C 24 (Z 9)), ((a 11), eJ C 9 ((f7_lay (Z 0) Y model set nt N) 0)), ((a 12), eJ C 9 ((f7_lay (Z 0) Y model set nt N) 1)), ((a 13), eJ C 3 S1), ((a 14), eJ C 3 ((f7_lay (Z 0) Y model set nt N) 3)), ((a 15), eJ C 12 ((f7_lay (Z 0) Y model set nt N) 4)), ((a 16), eI C 6 (Z 10)), ((a 17), eI C 4 (Z 11))] H ∧ va_D A [((a 0), .inr (7, [.int (Z 12 0), .ref (a 1), .ref (a 2), .ref (a 3), .ref (a 4), .int (Z 12 1), .ref (a 5), .ref (a 6), .ref (a 7), .ref (a 8), .ref (a 9), .int (Z 12 2), .ref (a 10), .int (Z 12 3), .int (Z 12 4), .ref (a 11), .ref (a 12), .long ((f7_lay (Z 0) Y model set nt N) 5 0), .ref (a 13), .ref (a 14), .ref (a 15), .ref (a 16), .ref (a 17)])), ((a 1), eI C 48 (Z 0)), ((a 2), eI C 24 (Z 1)), ((a 3), eZ C 12 (Z 2)), ((a 4), eZ C 12 (Z 3)), ((a 5), eI C 60 (Z 4)), ((a 6), eI C 60 (Z 5)), ((a 7), eI C 60 (Z 6)), ((a 8), eZ C 60 (Z 7)), ((a 9), eZ C 244 (Z 8)), ((a 10), eI C 24 (Z 9)), ((a 11), eJ C 9 ((f7_lay (Z 0) Y model set nt N) 0)), ((a 12), eJ C 9 ((f7_lay (Z 0) Y model set nt N) 1)), ((a 13), eJ C 3 S1), ((a 14), eJ C 3 ((f7_lay (Z 0) Y model set nt N) 3)), ((a 15), eJ C 12 ((f7_lay (Z 0) Y model set nt N) 4)), ((a 16), eI C 6 (Z 10)), ((a 17), eI C 4 (Z 11))] ∧ va_S A s.heap H locs := ⟨3, 0, ((f7_lay (Z 0) Y model set nt N) 2), rfl, rfl, lv_sub hl [2, 3, 4, 5, 1, 0] rfl, hP, hD, hS⟩
  clear hl hP hD hS
  induction n15 generalizing k S1 ls H locs with
  | zero =>
    obtain ⟨h15_0, h15_1, hl, hP, hD, hS⟩ := hinv
    refine lv_iload hx hb dX7_findFit_15 (lv_at hl 5 rfl) ?_
    refine lv_iconst (v := 3) hx hb dX7_findFit_17 (by decide) ?_
    refine lv_icmp_ge (tgt := 35) hx hb dX7_findFit_18 (by decide) (fun c_1 => ?_) (fun c_1 => ?_)
    · have e_S1 : S1 = ffA 3 0 ((f7_lay (Z 0) Y model set nt N) 2) := h15_1
      subst e_S1
      refine lv_iconst (v := 0) hx hb dX7_findFit_35 (by decide) ?_
      refine lv_istore (lv' := [(5, .int 0), (0, .ref (a 0)), (1, .int model), (2, .int (nI w)), (3, .int set), (4, .int (f7_termsOf model))]) hx hb dX7_findFit_36 hl (by decide) rfl (fun ls hl => ?_)
      refine xgen hP hS (fun H locs hP hS => ?_)
      obtain ⟨n38, j, S2, hinv⟩ : ∃ (n38 : Nat) (j : Nat) (S2 : Nat → Int64), j + n38 = N ∧ ffM (Z 0) (Z 1) model set w nt n38 j S2 = ffS (Z 0) (Z 1) model set w nt N ((f7_lay (Z 0) Y model set nt N) 2) ∧ lv_has ls 7 [(0, .ref (a 0)), (1, .int model), (2, .int (nI w)), (3, .int set), (4, .int (f7_termsOf model)), (5, .int (nI j))] ∧ va_P D vwCl [((a 0), .inr (7, [.int (Z 12 0), .ref (a 1), .ref (a 2), .ref (a 3), .ref (a 4), .int (Z 12 1), .ref (a 5), .ref (a 6), .ref (a 7), .ref (a 8), .ref (a 9), .int (Z 12 2), .ref (a 10), .int (Z 12 3), .int (Z 12 4), .ref (a 11), .ref (a 12), .long ((f7_lay (Z 0) Y model set nt N) 5 0), .ref (a 13), .ref (a 14), .ref (a 15), .ref (a 16), .ref (a 17)])), ((a 1), eI C 48 (Z 0)), ((a 2), eI C 24 (Z 1)), ((a 3), eZ C 12 (Z 2)), ((a 4), eZ C 12 (Z 3)), ((a 5), eI C 60 (Z 4)), ((a 6), eI C 60 (Z 5)), ((a 7), eI C 60 (Z 6)), ((a 8), eZ C 60 (Z 7)), ((a 9), eZ C 244 (Z 8)), ((a 10), eI C 24 (Z 9)), ((a 11), eJ C 9 ((f7_lay (Z 0) Y model set nt N) 0)), ((a 12), eJ C 9 ((f7_lay (Z 0) Y model set nt N) 1)), ((a 13), eJ C 3 S2), ((a 14), eJ C 3 ((f7_lay (Z 0) Y model set nt N) 3)), ((a 15), eJ C 12 ((f7_lay (Z 0) Y model set nt N) 4)), ((a 16), eI C 6 (Z 10)), ((a 17), eI C 4 (Z 11))] H ∧ va_D A [((a 0), .inr (7, [.int (Z 12 0), .ref (a 1), .ref (a 2), .ref (a 3), .ref (a 4), .int (Z 12 1), .ref (a 5), .ref (a 6), .ref (a 7), .ref (a 8), .ref (a 9), .int (Z 12 2), .ref (a 10), .int (Z 12 3), .int (Z 12 4), .ref (a 11), .ref (a 12), .long ((f7_lay (Z 0) Y model set nt N) 5 0), .ref (a 13), .ref (a 14), .ref (a 15), .ref (a 16), .ref (a 17)])), ((a 1), eI C 48 (Z 0)), ((a 2), eI C 24 (Z 1)), ((a 3), eZ C 12 (Z 2)), ((a 4), eZ C 12 (Z 3)), ((a 5), eI C 60 (Z 4)), ((a 6), eI C 60 (Z 5)), ((a 7), eI C 60 (Z 6)), ((a 8), eZ C 60 (Z 7)), ((a 9), eZ C 244 (Z 8)), ((a 10), eI C 24 (Z 9)), ((a 11), eJ C 9 ((f7_lay (Z 0) Y model set nt N) 0)), ((a 12), eJ C 9 ((f7_lay (Z 0) Y model set nt N) 1)), ((a 13), eJ C 3 S2), ((a 14), eJ C 3 ((f7_lay (Z 0) Y model set nt N) 3)), ((a 15), eJ C 12 ((f7_lay (Z 0) Y model set nt N) 4)), ((a 16), eI C 6 (Z 10)), ((a 17), eI C 4 (Z 11))] ∧ va_S A s.heap H locs := ⟨N, 0, (ffA 3 0 ((f7_lay (Z 0) Y model set nt N) 2)), by omega, rfl, lv_sub hl [1, 2, 3, 4, 5, 0] rfl, hP, hD, hS⟩
      clear hl hP hD hS
      induction n38 generalizing j S2 ls H locs with
      | zero =>
        obtain ⟨h38_0, h38_1, hl, hP, hD, hS⟩ := hinv
        refine lv_iload hx hb dX7_findFit_38 (lv_at hl 5 rfl) ?_
        refine lv_aload_n hx hb dX7_findFit_40 rfl (lv_at hl 0 rfl) ?_
        refine va_get (D := D) (ci := 7) (C := RX7) (T := TX7) (N := 23) hx hb hW inX7 hown hK hP 0 rfl rfl 0 (by decide) (hW _ (wa tw543 rfl)) (fun _ h9 => h9) rfl dX7_findFit_41 ?_
        refine lv_icmp_ge (tgt := 111) hx hb dX7_findFit_44 (by decide) (fun c_2 => ?_) (fun c_2 => ?_)
        · have e_S2 : S2 = ffS (Z 0) (Z 1) model set w nt N ((f7_lay (Z 0) Y model set nt N) 2) := h38_1
          subst e_S2
          refine lv_iconst (v := 0) hx hb dX7_findFit_111 (by decide) ?_
          refine lv_istore (lv' := [(5, .int 0), (0, .ref (a 0)), (1, .int model), (2, .int (nI w)), (3, .int set), (4, .int (f7_termsOf model))]) hx hb dX7_findFit_112 hl (by decide) rfl (fun ls hl => ?_)
          refine xgen hP hS (fun H locs hP hS => ?_)
          obtain ⟨n114, t, Fr, hinv⟩ : ∃ (n114 : Nat) (t : Nat) (Fr : Nat → Int64), t + n114 = 3 ∧ ffF ((f7_lay (Z 0) Y model set nt N) 1) (ffS (Z 0) (Z 1) model set w nt N ((f7_lay (Z 0) Y model set nt N) 2)) n114 t Fr = ffF ((f7_lay (Z 0) Y model set nt N) 1) (ffS (Z 0) (Z 1) model set w nt N ((f7_lay (Z 0) Y model set nt N) 2)) 3 0 ((f7_lay (Z 0) Y model set nt N) 3) ∧ lv_has ls 7 [(0, .ref (a 0)), (1, .int model), (2, .int (nI w)), (3, .int set), (4, .int (f7_termsOf model)), (5, .int (nI t))] ∧ va_P D vwCl [((a 0), .inr (7, [.int (Z 12 0), .ref (a 1), .ref (a 2), .ref (a 3), .ref (a 4), .int (Z 12 1), .ref (a 5), .ref (a 6), .ref (a 7), .ref (a 8), .ref (a 9), .int (Z 12 2), .ref (a 10), .int (Z 12 3), .int (Z 12 4), .ref (a 11), .ref (a 12), .long ((f7_lay (Z 0) Y model set nt N) 5 0), .ref (a 13), .ref (a 14), .ref (a 15), .ref (a 16), .ref (a 17)])), ((a 1), eI C 48 (Z 0)), ((a 2), eI C 24 (Z 1)), ((a 3), eZ C 12 (Z 2)), ((a 4), eZ C 12 (Z 3)), ((a 5), eI C 60 (Z 4)), ((a 6), eI C 60 (Z 5)), ((a 7), eI C 60 (Z 6)), ((a 8), eZ C 60 (Z 7)), ((a 9), eZ C 244 (Z 8)), ((a 10), eI C 24 (Z 9)), ((a 11), eJ C 9 ((f7_lay (Z 0) Y model set nt N) 0)), ((a 12), eJ C 9 ((f7_lay (Z 0) Y model set nt N) 1)), ((a 13), eJ C 3 (ffS (Z 0) (Z 1) model set w nt N ((f7_lay (Z 0) Y model set nt N) 2))), ((a 14), eJ C 3 Fr), ((a 15), eJ C 12 ((f7_lay (Z 0) Y model set nt N) 4)), ((a 16), eI C 6 (Z 10)), ((a 17), eI C 4 (Z 11))] H ∧ va_D A [((a 0), .inr (7, [.int (Z 12 0), .ref (a 1), .ref (a 2), .ref (a 3), .ref (a 4), .int (Z 12 1), .ref (a 5), .ref (a 6), .ref (a 7), .ref (a 8), .ref (a 9), .int (Z 12 2), .ref (a 10), .int (Z 12 3), .int (Z 12 4), .ref (a 11), .ref (a 12), .long ((f7_lay (Z 0) Y model set nt N) 5 0), .ref (a 13), .ref (a 14), .ref (a 15), .ref (a 16), .ref (a 17)])), ((a 1), eI C 48 (Z 0)), ((a 2), eI C 24 (Z 1)), ((a 3), eZ C 12 (Z 2)), ((a 4), eZ C 12 (Z 3)), ((a 5), eI C 60 (Z 4)), ((a 6), eI C 60 (Z 5)), ((a 7), eI C 60 (Z 6)), ((a 8), eZ C 60 (Z 7)), ((a 9), eZ C 244 (Z 8)), ((a 10), eI C 24 (Z 9)), ((a 11), eJ C 9 ((f7_lay (Z 0) Y model set nt N) 0)), ((a 12), eJ C 9 ((f7_lay (Z 0) Y model set nt N) 1)), ((a 13), eJ C 3 (ffS (Z 0) (Z 1) model set w nt N ((f7_lay (Z 0) Y model set nt N) 2))), ((a 14), eJ C 3 Fr), ((a 15), eJ C 12 ((f7_lay (Z 0) Y model set nt N) 4)), ((a 16), eI C 6 (Z 10)), ((a 17), eI C 4 (Z 11))] ∧ va_S A s.heap H locs := ⟨3, 0, ((f7_lay (Z 0) Y model set nt N) 3), rfl, rfl, lv_sub hl [1, 2, 3, 4, 5, 0] rfl, hP, hD, hS⟩
          clear hl hP hD hS
          induction n114 generalizing t Fr ls H locs with
          | zero =>
            obtain ⟨h114_0, h114_1, hl, hP, hD, hS⟩ := hinv
            refine lv_iload hx hb dX7_findFit_114 (lv_at hl 5 rfl) ?_
            refine lv_iconst (v := 3) hx hb dX7_findFit_116 (by decide) ?_
            refine lv_icmp_ge (tgt := 187) hx hb dX7_findFit_117 (by decide) (fun c_3 => ?_) (fun c_3 => ?_)
            · have e_Fr : Fr = ffF ((f7_lay (Z 0) Y model set nt N) 1) (ffS (Z 0) (Z 1) model set w nt N ((f7_lay (Z 0) Y model set nt N) 2)) 3 0 ((f7_lay (Z 0) Y model set nt N) 3) := h114_1
              subst e_Fr
              have hP9 : va_P D vwCl ((wZ a C Z (f7_findFit (Z 0) (Z 1) Y model w set nt N))) _ := hP
              have hD9 : va_D A ((wZ a C Z (f7_findFit (Z 0) (Z 1) Y model w set nt N))) := hD
              exact W.vret hx hb hr (fun t ht _ => ⟨⟨(), rfl, trivial, ⟨by rw [ht]; exact hP9, by rw [hAe]; exact hD9⟩⟩, hS.F ht⟩) hS.2.2 dX7_findFit_187
            · exact absurd (q_le (nI_lit 3) rfl (by rcases hnt3 with rfl | rfl <;> omega) (by rcases hnt3 with rfl | rfl <;> omega)) c_3
          | succ n114 ih114 =>
            obtain ⟨h114_0, h114_1, hl, hP, hD, hS⟩ := hinv
            refine lv_iload hx hb dX7_findFit_114 (lv_at hl 5 rfl) ?_
            refine lv_iconst (v := 3) hx hb dX7_findFit_116 (by decide) ?_
            refine lv_icmp_ge (tgt := 187) hx hb dX7_findFit_117 (by decide) (fun c_4 => ?_) (fun c_4 => ?_)
            · exact absurd c_4 (q_nle (nI_lit 3) rfl (by rcases hnt3 with rfl | rfl <;> omega) (by rcases hnt3 with rfl | rfl <;> omega))
            · refine lv_aload_n hx hb dX7_findFit_120 rfl (lv_at hl 0 rfl) ?_
              refine va_get (D := D) (ci := 7) (C := RX7) (T := TX7) (N := 23) hx hb hW inX7 hown hK hP 0 rfl rfl 19 (by decide) (hW _ (wa tw562 rfl)) (fun _ h9 => h9) rfl dX7_findFit_121 ?_
              refine lv_iload hx hb dX7_findFit_124 (lv_at hl 5 rfl) ?_
              refine lv_aload_n hx hb dX7_findFit_126 rfl (lv_at hl 0 rfl) ?_
              refine va_get (D := D) (ci := 7) (C := RX7) (T := TX7) (N := 23) hx hb hW inX7 hown hK hP 0 rfl rfl 16 (by decide) (hW _ (wa tw559 rfl)) (fun _ h9 => h9) rfl dX7_findFit_127 ?_
              refine lv_iconst (v := 3) hx hb dX7_findFit_130 (by decide) ?_
              refine lv_iload hx hb dX7_findFit_131 (lv_at hl 5 rfl) ?_
              refine lv_imul hx hb dX7_findFit_133 ?_
              refine xlald hx hb hK hP 12 rfl (3 * t) (q_mul (nI_lit 3) rfl) (by rcases hnt3 with rfl | rfl <;> omega) (by decide) dX7_findFit_134 ?_
              refine lv_aload_n hx hb dX7_findFit_135 rfl (lv_at hl 0 rfl) ?_
              refine va_get (D := D) (ci := 7) (C := RX7) (T := TX7) (N := 23) hx hb hW inX7 hown hK hP 0 rfl rfl 18 (by decide) (hW _ (wa tw561 rfl)) (fun _ h9 => h9) rfl dX7_findFit_136 ?_
              refine lv_iconst (v := 0) hx hb dX7_findFit_139 (by decide) ?_
              refine xlald hx hb hK hP 13 rfl 0 (nI_lit 0) (by decide) (by decide) dX7_findFit_140 ?_
              refine lv_lmul hx hb dX7_findFit_141 ?_
              refine lv_aload_n hx hb dX7_findFit_142 rfl (lv_at hl 0 rfl) ?_
              refine va_get (D := D) (ci := 7) (C := RX7) (T := TX7) (N := 23) hx hb hW inX7 hown hK hP 0 rfl rfl 16 (by decide) (hW _ (wa tw559 rfl)) (fun _ h9 => h9) rfl dX7_findFit_143 ?_
              refine lv_iconst (v := 3) hx hb dX7_findFit_146 (by decide) ?_
              refine lv_iload hx hb dX7_findFit_147 (lv_at hl 5 rfl) ?_
              refine lv_imul hx hb dX7_findFit_149 ?_
              refine lv_iconst (v := 1) hx hb dX7_findFit_150 (by decide) ?_
              refine lv_iadd hx hb dX7_findFit_151 ?_
              refine xlald hx hb hK hP 12 rfl ((3 * t) + 1) (q_add (q_mul (nI_lit 3) rfl) (nI_lit 1)) (by rcases hnt3 with rfl | rfl <;> omega) (by decide) dX7_findFit_152 ?_
              refine lv_aload_n hx hb dX7_findFit_153 rfl (lv_at hl 0 rfl) ?_
              refine va_get (D := D) (ci := 7) (C := RX7) (T := TX7) (N := 23) hx hb hW inX7 hown hK hP 0 rfl rfl 18 (by decide) (hW _ (wa tw561 rfl)) (fun _ h9 => h9) rfl dX7_findFit_154 ?_
              refine lv_iconst (v := 1) hx hb dX7_findFit_157 (by decide) ?_
              refine xlald hx hb hK hP 13 rfl 1 (nI_lit 1) (by decide) (by decide) dX7_findFit_158 ?_
              refine lv_lmul hx hb dX7_findFit_159 ?_
              refine lv_ladd hx hb dX7_findFit_160 ?_
              refine lv_aload_n hx hb dX7_findFit_161 rfl (lv_at hl 0 rfl) ?_
              refine va_get (D := D) (ci := 7) (C := RX7) (T := TX7) (N := 23) hx hb hW inX7 hown hK hP 0 rfl rfl 16 (by decide) (hW _ (wa tw559 rfl)) (fun _ h9 => h9) rfl dX7_findFit_162 ?_
              refine lv_iconst (v := 3) hx hb dX7_findFit_165 (by decide) ?_
              refine lv_iload hx hb dX7_findFit_166 (lv_at hl 5 rfl) ?_
              refine lv_imul hx hb dX7_findFit_168 ?_
              refine lv_iconst (v := 2) hx hb dX7_findFit_169 (by decide) ?_
              refine lv_iadd hx hb dX7_findFit_170 ?_
              refine xlald hx hb hK hP 12 rfl ((3 * t) + 2) (q_add (q_mul (nI_lit 3) rfl) (nI_lit 2)) (by rcases hnt3 with rfl | rfl <;> omega) (by decide) dX7_findFit_171 ?_
              refine lv_aload_n hx hb dX7_findFit_172 rfl (lv_at hl 0 rfl) ?_
              refine va_get (D := D) (ci := 7) (C := RX7) (T := TX7) (N := 23) hx hb hW inX7 hown hK hP 0 rfl rfl 18 (by decide) (hW _ (wa tw561 rfl)) (fun _ h9 => h9) rfl dX7_findFit_173 ?_
              refine lv_iconst (v := 2) hx hb dX7_findFit_176 (by decide) ?_
              refine xlald hx hb hK hP 13 rfl 2 (nI_lit 2) (by decide) (by decide) dX7_findFit_177 ?_
              refine lv_lmul hx hb dX7_findFit_178 ?_
              refine lv_ladd hx hb dX7_findFit_179 ?_
              refine xlast hx hb hK hP hD hS 14 rfl t rfl (by rcases hnt3 with rfl | rfl <;> omega) (by decide) dX7_findFit_180 (fun H locs hP hD hS => ?_)
              have hP : va_P D vwCl [((a 0), .inr (7, [.int (Z 12 0), .ref (a 1), .ref (a 2), .ref (a 3), .ref (a 4), .int (Z 12 1), .ref (a 5), .ref (a 6), .ref (a 7), .ref (a 8), .ref (a 9), .int (Z 12 2), .ref (a 10), .int (Z 12 3), .int (Z 12 4), .ref (a 11), .ref (a 12), .long ((f7_lay (Z 0) Y model set nt N) 5 0), .ref (a 13), .ref (a 14), .ref (a 15), .ref (a 16), .ref (a 17)])), ((a 1), eI C 48 (Z 0)), ((a 2), eI C 24 (Z 1)), ((a 3), eZ C 12 (Z 2)), ((a 4), eZ C 12 (Z 3)), ((a 5), eI C 60 (Z 4)), ((a 6), eI C 60 (Z 5)), ((a 7), eI C 60 (Z 6)), ((a 8), eZ C 60 (Z 7)), ((a 9), eZ C 244 (Z 8)), ((a 10), eI C 24 (Z 9)), ((a 11), eJ C 9 ((f7_lay (Z 0) Y model set nt N) 0)), ((a 12), eJ C 9 ((f7_lay (Z 0) Y model set nt N) 1)), ((a 13), eJ C 3 (ffS (Z 0) (Z 1) model set w nt N ((f7_lay (Z 0) Y model set nt N) 2))), ((a 14), eJ C 3 (vp_updL Fr t ((((((f7_lay (Z 0) Y model set nt N) 1) (3 * t)) * ((ffS (Z 0) (Z 1) model set w nt N ((f7_lay (Z 0) Y model set nt N) 2)) 0)) + ((((f7_lay (Z 0) Y model set nt N) 1) ((3 * t) + 1)) * ((ffS (Z 0) (Z 1) model set w nt N ((f7_lay (Z 0) Y model set nt N) 2)) 1))) + ((((f7_lay (Z 0) Y model set nt N) 1) ((3 * t) + 2)) * ((ffS (Z 0) (Z 1) model set w nt N ((f7_lay (Z 0) Y model set nt N) 2)) 2))))), ((a 15), eJ C 12 ((f7_lay (Z 0) Y model set nt N) 4)), ((a 16), eI C 6 (Z 10)), ((a 17), eI C 4 (Z 11))] H := hP
              have hD : va_D A [((a 0), .inr (7, [.int (Z 12 0), .ref (a 1), .ref (a 2), .ref (a 3), .ref (a 4), .int (Z 12 1), .ref (a 5), .ref (a 6), .ref (a 7), .ref (a 8), .ref (a 9), .int (Z 12 2), .ref (a 10), .int (Z 12 3), .int (Z 12 4), .ref (a 11), .ref (a 12), .long ((f7_lay (Z 0) Y model set nt N) 5 0), .ref (a 13), .ref (a 14), .ref (a 15), .ref (a 16), .ref (a 17)])), ((a 1), eI C 48 (Z 0)), ((a 2), eI C 24 (Z 1)), ((a 3), eZ C 12 (Z 2)), ((a 4), eZ C 12 (Z 3)), ((a 5), eI C 60 (Z 4)), ((a 6), eI C 60 (Z 5)), ((a 7), eI C 60 (Z 6)), ((a 8), eZ C 60 (Z 7)), ((a 9), eZ C 244 (Z 8)), ((a 10), eI C 24 (Z 9)), ((a 11), eJ C 9 ((f7_lay (Z 0) Y model set nt N) 0)), ((a 12), eJ C 9 ((f7_lay (Z 0) Y model set nt N) 1)), ((a 13), eJ C 3 (ffS (Z 0) (Z 1) model set w nt N ((f7_lay (Z 0) Y model set nt N) 2))), ((a 14), eJ C 3 (vp_updL Fr t ((((((f7_lay (Z 0) Y model set nt N) 1) (3 * t)) * ((ffS (Z 0) (Z 1) model set w nt N ((f7_lay (Z 0) Y model set nt N) 2)) 0)) + ((((f7_lay (Z 0) Y model set nt N) 1) ((3 * t) + 1)) * ((ffS (Z 0) (Z 1) model set w nt N ((f7_lay (Z 0) Y model set nt N) 2)) 1))) + ((((f7_lay (Z 0) Y model set nt N) 1) ((3 * t) + 2)) * ((ffS (Z 0) (Z 1) model set w nt N ((f7_lay (Z 0) Y model set nt N) 2)) 2))))), ((a 15), eJ C 12 ((f7_lay (Z 0) Y model set nt N) 4)), ((a 16), eI C 6 (Z 10)), ((a 17), eI C 4 (Z 11))] := hD
              refine lv_iinc (v := nI t + 1) (lv' := [(5, .int (nI t + 1)), (0, .ref (a 0)), (1, .int model), (2, .int (nI w)), (3, .int set), (4, .int (f7_termsOf model))]) hx hb dX7_findFit_181 hl (k := 5) rfl rfl (by decide) rfl (fun ls hl => ?_)
              refine lv_goto (tgt := 114) hx hb dX7_findFit_184 (by decide) ?_
              rw [nI_1] at hl
              exact ih114 (t := t + 1) (Fr := (vp_updL Fr t ((((((f7_lay (Z 0) Y model set nt N) 1) (3 * t)) * ((ffS (Z 0) (Z 1) model set w nt N ((f7_lay (Z 0) Y model set nt N) 2)) 0)) + ((((f7_lay (Z 0) Y model set nt N) 1) ((3 * t) + 1)) * ((ffS (Z 0) (Z 1) model set w nt N ((f7_lay (Z 0) Y model set nt N) 2)) 1))) + ((((f7_lay (Z 0) Y model set nt N) 1) ((3 * t) + 2)) * ((ffS (Z 0) (Z 1) model set w nt N ((f7_lay (Z 0) Y model set nt N) 2)) 2))))) (ls := ls) (H := H) (locs := locs) ⟨by omega, h114_1, lv_sub hl [1, 2, 3, 4, 5, 0] rfl, hP, hD, hS⟩
        · exact absurd (q_le hN rfl (by rcases hnt3 with rfl | rfl <;> omega) (by rcases hnt3 with rfl | rfl <;> omega)) c_2
      | succ n38 ih38 =>
        obtain ⟨h38_0, h38_1, hl, hP, hD, hS⟩ := hinv
        refine lv_iload hx hb dX7_findFit_38 (lv_at hl 5 rfl) ?_
        refine lv_aload_n hx hb dX7_findFit_40 rfl (lv_at hl 0 rfl) ?_
        refine va_get (D := D) (ci := 7) (C := RX7) (T := TX7) (N := 23) hx hb hW inX7 hown hK hP 0 rfl rfl 0 (by decide) (hW _ (wa tw543 rfl)) (fun _ h9 => h9) rfl dX7_findFit_41 ?_
        refine lv_icmp_ge (tgt := 111) hx hb dX7_findFit_44 (by decide) (fun c_5 => ?_) (fun c_5 => ?_)
        · exact absurd c_5 (q_nle hN rfl (by rcases hnt3 with rfl | rfl <;> omega) (by rcases hnt3 with rfl | rfl <;> omega))
        · refine lv_iconst (v := 0) hx hb dX7_findFit_47 (by decide) ?_
          refine lv_istore (lv' := [(6, .int 0), (0, .ref (a 0)), (1, .int model), (2, .int (nI w)), (3, .int set), (4, .int (f7_termsOf model)), (5, .int (nI j))]) hx hb dX7_findFit_48 hl (by decide) rfl (fun ls hl => ?_)
          refine xgen hP hS (fun H locs hP hS => ?_)
          obtain ⟨n50, t, S3, hinv⟩ : ∃ (n50 : Nat) (t : Nat) (S3 : Nat → Int64), t + n50 = nt ∧ ffK (Z 0) (Z 1) model set w j n50 t S3 = ffK (Z 0) (Z 1) model set w j nt 0 S2 ∧ lv_has ls 7 [(0, .ref (a 0)), (1, .int model), (2, .int (nI w)), (3, .int set), (4, .int (f7_termsOf model)), (5, .int (nI j)), (6, .int (nI t))] ∧ va_P D vwCl [((a 0), .inr (7, [.int (Z 12 0), .ref (a 1), .ref (a 2), .ref (a 3), .ref (a 4), .int (Z 12 1), .ref (a 5), .ref (a 6), .ref (a 7), .ref (a 8), .ref (a 9), .int (Z 12 2), .ref (a 10), .int (Z 12 3), .int (Z 12 4), .ref (a 11), .ref (a 12), .long ((f7_lay (Z 0) Y model set nt N) 5 0), .ref (a 13), .ref (a 14), .ref (a 15), .ref (a 16), .ref (a 17)])), ((a 1), eI C 48 (Z 0)), ((a 2), eI C 24 (Z 1)), ((a 3), eZ C 12 (Z 2)), ((a 4), eZ C 12 (Z 3)), ((a 5), eI C 60 (Z 4)), ((a 6), eI C 60 (Z 5)), ((a 7), eI C 60 (Z 6)), ((a 8), eZ C 60 (Z 7)), ((a 9), eZ C 244 (Z 8)), ((a 10), eI C 24 (Z 9)), ((a 11), eJ C 9 ((f7_lay (Z 0) Y model set nt N) 0)), ((a 12), eJ C 9 ((f7_lay (Z 0) Y model set nt N) 1)), ((a 13), eJ C 3 S3), ((a 14), eJ C 3 ((f7_lay (Z 0) Y model set nt N) 3)), ((a 15), eJ C 12 ((f7_lay (Z 0) Y model set nt N) 4)), ((a 16), eI C 6 (Z 10)), ((a 17), eI C 4 (Z 11))] H ∧ va_D A [((a 0), .inr (7, [.int (Z 12 0), .ref (a 1), .ref (a 2), .ref (a 3), .ref (a 4), .int (Z 12 1), .ref (a 5), .ref (a 6), .ref (a 7), .ref (a 8), .ref (a 9), .int (Z 12 2), .ref (a 10), .int (Z 12 3), .int (Z 12 4), .ref (a 11), .ref (a 12), .long ((f7_lay (Z 0) Y model set nt N) 5 0), .ref (a 13), .ref (a 14), .ref (a 15), .ref (a 16), .ref (a 17)])), ((a 1), eI C 48 (Z 0)), ((a 2), eI C 24 (Z 1)), ((a 3), eZ C 12 (Z 2)), ((a 4), eZ C 12 (Z 3)), ((a 5), eI C 60 (Z 4)), ((a 6), eI C 60 (Z 5)), ((a 7), eI C 60 (Z 6)), ((a 8), eZ C 60 (Z 7)), ((a 9), eZ C 244 (Z 8)), ((a 10), eI C 24 (Z 9)), ((a 11), eJ C 9 ((f7_lay (Z 0) Y model set nt N) 0)), ((a 12), eJ C 9 ((f7_lay (Z 0) Y model set nt N) 1)), ((a 13), eJ C 3 S3), ((a 14), eJ C 3 ((f7_lay (Z 0) Y model set nt N) 3)), ((a 15), eJ C 12 ((f7_lay (Z 0) Y model set nt N) 4)), ((a 16), eI C 6 (Z 10)), ((a 17), eI C 4 (Z 11))] ∧ va_S A s.heap H locs := ⟨nt, 0, S2, by omega, rfl, lv_sub hl [1, 2, 3, 4, 5, 6, 0] rfl, hP, hD, hS⟩
          clear hl hP hD hS
          induction n50 generalizing t S3 ls H locs with
          | zero =>
            obtain ⟨h50_0, h50_1, hl, hP, hD, hS⟩ := hinv
            refine lv_iload hx hb dX7_findFit_50 (lv_at hl 6 rfl) ?_
            refine lv_iload hx hb dX7_findFit_52 (lv_at hl 4 rfl) ?_
            refine lv_icmp_ge (tgt := 105) hx hb dX7_findFit_54 (by decide) (fun c_6 => ?_) (fun c_6 => ?_)
            · have e_S3 : S3 = ffK (Z 0) (Z 1) model set w j nt 0 S2 := h50_1
              subst e_S3
              refine lv_iinc (v := nI j + 1) (lv' := [(5, .int (nI j + 1)), (0, .ref (a 0)), (1, .int model), (2, .int (nI w)), (3, .int set), (4, .int (f7_termsOf model)), (6, .int (nI t))]) hx hb dX7_findFit_105 hl (k := 5) rfl rfl (by decide) rfl (fun ls hl => ?_)
              refine lv_goto (tgt := 38) hx hb dX7_findFit_108 (by decide) ?_
              rw [nI_1] at hl
              exact ih38 (j := j + 1) (S2 := (ffK (Z 0) (Z 1) model set w j nt 0 S2)) (ls := ls) (H := H) (locs := locs) ⟨by omega, h38_1, lv_sub hl [1, 2, 3, 4, 5, 0] rfl, hP, hD, hS⟩
            · exact absurd (q_le hnt rfl (by rcases hnt3 with rfl | rfl <;> omega) (by rcases hnt3 with rfl | rfl <;> omega)) c_6
          | succ n50 ih50 =>
            obtain ⟨h50_0, h50_1, hl, hP, hD, hS⟩ := hinv
            refine lv_iload hx hb dX7_findFit_50 (lv_at hl 6 rfl) ?_
            refine lv_iload hx hb dX7_findFit_52 (lv_at hl 4 rfl) ?_
            refine lv_icmp_ge (tgt := 105) hx hb dX7_findFit_54 (by decide) (fun c_7 => ?_) (fun c_7 => ?_)
            · exact absurd c_7 (q_nle hnt rfl (by rcases hnt3 with rfl | rfl <;> omega) (by rcases hnt3 with rfl | rfl <;> omega))
            · refine lv_iload_n hx hb dX7_findFit_57 rfl (lv_at hl 3 rfl) ?_
              refine lv_iload hx hb dX7_findFit_58 (lv_at hl 5 rfl) ?_
              refine lv_ishr hx hb dX7_findFit_60 ?_
              refine lv_iconst (v := 1) hx hb dX7_findFit_61 (by decide) ?_
              refine lv_iand hx hb dX7_findFit_62 ?_
              refine lv_iconst (v := 1) hx hb dX7_findFit_63 (by decide) ?_
              refine lv_icmp_ne (tgt := 105) hx hb dX7_findFit_64 (by decide) (fun c_8 => ?_) (fun c_8 => ?_)
              · have e_S3 : S3 = ffK (Z 0) (Z 1) model set w j nt 0 S2 := by rw [← h50_1, ffK, if_neg c_8]
                subst e_S3
                refine lv_iinc (v := nI j + 1) (lv' := [(5, .int (nI j + 1)), (0, .ref (a 0)), (1, .int model), (2, .int (nI w)), (3, .int set), (4, .int (f7_termsOf model)), (6, .int (nI t))]) hx hb dX7_findFit_105 hl (k := 5) rfl rfl (by decide) rfl (fun ls hl => ?_)
                refine lv_goto (tgt := 38) hx hb dX7_findFit_108 (by decide) ?_
                rw [nI_1] at hl
                exact ih38 (j := j + 1) (S2 := (ffK (Z 0) (Z 1) model set w j nt 0 S2)) (ls := ls) (H := H) (locs := locs) ⟨by omega, h38_1, lv_sub hl [1, 2, 3, 4, 5, 0] rfl, hP, hD, hS⟩
              · refine lv_aload_n hx hb dX7_findFit_67 rfl (lv_at hl 0 rfl) ?_
                refine va_get (D := D) (ci := 7) (C := RX7) (T := TX7) (N := 23) hx hb hW inX7 hown hK hP 0 rfl rfl 18 (by decide) (hW _ (wa tw561 rfl)) (fun _ h9 => h9) rfl dX7_findFit_68 ?_
                refine lv_iload hx hb dX7_findFit_71 (lv_at hl 6 rfl) ?_
                refine lv_dup2_11 hx hb dX7_findFit_73 rfl rfl ?_
                refine xlald hx hb hK hP 13 rfl t rfl (by rcases hnt3 with rfl | rfl <;> omega) (by decide) dX7_findFit_74 ?_
                refine lv_aload_n hx hb dX7_findFit_75 rfl (lv_at hl 0 rfl) ?_
                refine lv_iload_n hx hb dX7_findFit_76 rfl (lv_at hl 1 rfl) ?_
                refine lv_iload hx hb dX7_findFit_77 (lv_at hl 5 rfl) ?_
                refine lv_iload hx hb dX7_findFit_79 (lv_at hl 6 rfl) ?_
                refine xrl (r := f7_term (Z 0) model j t) (rV (As := [.int model, .int (nI j), .int (nI t)]) (n := 3) (rest := [.long (S3 t), .int (nI t), .ref (a 13)]) ⟨hx, hb, hml, hown, hW⟩ (kX7_term l D C a Z (uM (f7_lay (Z 0) Y model set nt N) 2 S3) model j t (by rcases hnt3 with rfl | rfl <;> omega) (by rcases hnt3 with rfl | rfl <;> omega)) (wa tw684 rfl) (wa tw681 rfl) (wa tw683 rfl) (was ts40 rfl) (wa tw8 rfl) (by decide +kernel) ⟨Nat.le_of_ble_eq_true rfl, Nat.le_of_ble_eq_true rfl⟩ (pVr hP hK hNw 0 rfl rfl) hl.1 rfl (Nat.le_of_ble_eq_true rfl) dX7_findFit_81 ⟨Nat.le_of_ble_eq_true rfl, Nat.le_of_ble_eq_true rfl⟩ rfl rfl rfl) ?_
                refine lv_aload_n hx hb dX7_findFit_84 rfl (lv_at hl 0 rfl) ?_
                refine va_get (D := D) (ci := 7) (C := RX7) (T := TX7) (N := 23) hx hb hW inX7 hown hK hP 0 rfl rfl 2 (by decide) (hW _ (wa tw545 rfl)) (fun _ h9 => h9) rfl dX7_findFit_85 ?_
                refine lv_iconst (v := 2) hx hb dX7_findFit_88 (by decide) ?_
                refine lv_iload hx hb dX7_findFit_89 (lv_at hl 5 rfl) ?_
                refine lv_imul hx hb dX7_findFit_91 ?_
                refine lv_iload_n hx hb dX7_findFit_92 rfl (lv_at hl 2 rfl) ?_
                refine lv_iadd hx hb dX7_findFit_93 ?_
                refine xiald hx hb hK hP 2 rfl ((2 * j) + w) (q_add (q_mul (nI_lit 2) rfl) rfl) (by rcases hnt3 with rfl | rfl <;> omega) (by decide) dX7_findFit_94 ?_
                refine lv_i2l (v := ((Z 1) ((2 * j) + w)).toInt64) hx hb dX7_findFit_95 rfl ?_
                refine lv_lmul hx hb dX7_findFit_96 ?_
                refine lv_ladd hx hb dX7_findFit_97 ?_
                refine xlast hx hb hK hP hD hS 13 rfl t rfl (by rcases hnt3 with rfl | rfl <;> omega) (by decide) dX7_findFit_98 (fun H locs hP hD hS => ?_)
                have hP : va_P D vwCl [((a 0), .inr (7, [.int (Z 12 0), .ref (a 1), .ref (a 2), .ref (a 3), .ref (a 4), .int (Z 12 1), .ref (a 5), .ref (a 6), .ref (a 7), .ref (a 8), .ref (a 9), .int (Z 12 2), .ref (a 10), .int (Z 12 3), .int (Z 12 4), .ref (a 11), .ref (a 12), .long ((f7_lay (Z 0) Y model set nt N) 5 0), .ref (a 13), .ref (a 14), .ref (a 15), .ref (a 16), .ref (a 17)])), ((a 1), eI C 48 (Z 0)), ((a 2), eI C 24 (Z 1)), ((a 3), eZ C 12 (Z 2)), ((a 4), eZ C 12 (Z 3)), ((a 5), eI C 60 (Z 4)), ((a 6), eI C 60 (Z 5)), ((a 7), eI C 60 (Z 6)), ((a 8), eZ C 60 (Z 7)), ((a 9), eZ C 244 (Z 8)), ((a 10), eI C 24 (Z 9)), ((a 11), eJ C 9 ((f7_lay (Z 0) Y model set nt N) 0)), ((a 12), eJ C 9 ((f7_lay (Z 0) Y model set nt N) 1)), ((a 13), eJ C 3 (vp_updL S3 t ((S3 t) + ((f7_term (Z 0) model j t) * (((Z 1) ((2 * j) + w)).toInt64))))), ((a 14), eJ C 3 ((f7_lay (Z 0) Y model set nt N) 3)), ((a 15), eJ C 12 ((f7_lay (Z 0) Y model set nt N) 4)), ((a 16), eI C 6 (Z 10)), ((a 17), eI C 4 (Z 11))] H := hP
                have hD : va_D A [((a 0), .inr (7, [.int (Z 12 0), .ref (a 1), .ref (a 2), .ref (a 3), .ref (a 4), .int (Z 12 1), .ref (a 5), .ref (a 6), .ref (a 7), .ref (a 8), .ref (a 9), .int (Z 12 2), .ref (a 10), .int (Z 12 3), .int (Z 12 4), .ref (a 11), .ref (a 12), .long ((f7_lay (Z 0) Y model set nt N) 5 0), .ref (a 13), .ref (a 14), .ref (a 15), .ref (a 16), .ref (a 17)])), ((a 1), eI C 48 (Z 0)), ((a 2), eI C 24 (Z 1)), ((a 3), eZ C 12 (Z 2)), ((a 4), eZ C 12 (Z 3)), ((a 5), eI C 60 (Z 4)), ((a 6), eI C 60 (Z 5)), ((a 7), eI C 60 (Z 6)), ((a 8), eZ C 60 (Z 7)), ((a 9), eZ C 244 (Z 8)), ((a 10), eI C 24 (Z 9)), ((a 11), eJ C 9 ((f7_lay (Z 0) Y model set nt N) 0)), ((a 12), eJ C 9 ((f7_lay (Z 0) Y model set nt N) 1)), ((a 13), eJ C 3 (vp_updL S3 t ((S3 t) + ((f7_term (Z 0) model j t) * (((Z 1) ((2 * j) + w)).toInt64))))), ((a 14), eJ C 3 ((f7_lay (Z 0) Y model set nt N) 3)), ((a 15), eJ C 12 ((f7_lay (Z 0) Y model set nt N) 4)), ((a 16), eI C 6 (Z 10)), ((a 17), eI C 4 (Z 11))] := hD
                refine lv_iinc (v := nI t + 1) (lv' := [(6, .int (nI t + 1)), (0, .ref (a 0)), (1, .int model), (2, .int (nI w)), (3, .int set), (4, .int (f7_termsOf model)), (5, .int (nI j))]) hx hb dX7_findFit_99 hl (k := 6) rfl rfl (by decide) rfl (fun ls hl => ?_)
                refine lv_goto (tgt := 50) hx hb dX7_findFit_102 (by decide) ?_
                rw [nI_1] at hl
                exact ih50 (t := t + 1) (S3 := (vp_updL S3 t ((S3 t) + ((f7_term (Z 0) model j t) * (((Z 1) ((2 * j) + w)).toInt64))))) (ls := ls) (H := H) (locs := locs) ⟨by omega, by rw [← h50_1, ffK, if_pos c_8], lv_sub hl [1, 2, 3, 4, 5, 6, 0] rfl, hP, hD, hS⟩
    · exact absurd (q_le (nI_lit 3) rfl (by rcases hnt3 with rfl | rfl <;> omega) (by rcases hnt3 with rfl | rfl <;> omega)) c_1
  | succ n15 ih15 =>
    obtain ⟨h15_0, h15_1, hl, hP, hD, hS⟩ := hinv
    refine lv_iload hx hb dX7_findFit_15 (lv_at hl 5 rfl) ?_
    refine lv_iconst (v := 3) hx hb dX7_findFit_17 (by decide) ?_
    refine lv_icmp_ge (tgt := 35) hx hb dX7_findFit_18 (by decide) (fun c_9 => ?_) (fun c_9 => ?_)
    · exact absurd c_9 (q_nle (nI_lit 3) rfl (by rcases hnt3 with rfl | rfl <;> omega) (by rcases hnt3 with rfl | rfl <;> omega))
    · refine lv_aload_n hx hb dX7_findFit_21 rfl (lv_at hl 0 rfl) ?_
      refine va_get (D := D) (ci := 7) (C := RX7) (T := TX7) (N := 23) hx hb hW inX7 hown hK hP 0 rfl rfl 18 (by decide) (hW _ (wa tw561 rfl)) (fun _ h9 => h9) rfl dX7_findFit_22 ?_
      refine lv_iload hx hb dX7_findFit_25 (lv_at hl 5 rfl) ?_
      refine lv_lconst (v := 0) hx hb dX7_findFit_27 (by decide) ?_
      refine xlast hx hb hK hP hD hS 13 rfl k rfl (by rcases hnt3 with rfl | rfl <;> omega) (by decide) dX7_findFit_28 (fun H locs hP hD hS => ?_)
      have hP : va_P D vwCl [((a 0), .inr (7, [.int (Z 12 0), .ref (a 1), .ref (a 2), .ref (a 3), .ref (a 4), .int (Z 12 1), .ref (a 5), .ref (a 6), .ref (a 7), .ref (a 8), .ref (a 9), .int (Z 12 2), .ref (a 10), .int (Z 12 3), .int (Z 12 4), .ref (a 11), .ref (a 12), .long ((f7_lay (Z 0) Y model set nt N) 5 0), .ref (a 13), .ref (a 14), .ref (a 15), .ref (a 16), .ref (a 17)])), ((a 1), eI C 48 (Z 0)), ((a 2), eI C 24 (Z 1)), ((a 3), eZ C 12 (Z 2)), ((a 4), eZ C 12 (Z 3)), ((a 5), eI C 60 (Z 4)), ((a 6), eI C 60 (Z 5)), ((a 7), eI C 60 (Z 6)), ((a 8), eZ C 60 (Z 7)), ((a 9), eZ C 244 (Z 8)), ((a 10), eI C 24 (Z 9)), ((a 11), eJ C 9 ((f7_lay (Z 0) Y model set nt N) 0)), ((a 12), eJ C 9 ((f7_lay (Z 0) Y model set nt N) 1)), ((a 13), eJ C 3 (vp_updL S1 k 0)), ((a 14), eJ C 3 ((f7_lay (Z 0) Y model set nt N) 3)), ((a 15), eJ C 12 ((f7_lay (Z 0) Y model set nt N) 4)), ((a 16), eI C 6 (Z 10)), ((a 17), eI C 4 (Z 11))] H := hP
      have hD : va_D A [((a 0), .inr (7, [.int (Z 12 0), .ref (a 1), .ref (a 2), .ref (a 3), .ref (a 4), .int (Z 12 1), .ref (a 5), .ref (a 6), .ref (a 7), .ref (a 8), .ref (a 9), .int (Z 12 2), .ref (a 10), .int (Z 12 3), .int (Z 12 4), .ref (a 11), .ref (a 12), .long ((f7_lay (Z 0) Y model set nt N) 5 0), .ref (a 13), .ref (a 14), .ref (a 15), .ref (a 16), .ref (a 17)])), ((a 1), eI C 48 (Z 0)), ((a 2), eI C 24 (Z 1)), ((a 3), eZ C 12 (Z 2)), ((a 4), eZ C 12 (Z 3)), ((a 5), eI C 60 (Z 4)), ((a 6), eI C 60 (Z 5)), ((a 7), eI C 60 (Z 6)), ((a 8), eZ C 60 (Z 7)), ((a 9), eZ C 244 (Z 8)), ((a 10), eI C 24 (Z 9)), ((a 11), eJ C 9 ((f7_lay (Z 0) Y model set nt N) 0)), ((a 12), eJ C 9 ((f7_lay (Z 0) Y model set nt N) 1)), ((a 13), eJ C 3 (vp_updL S1 k 0)), ((a 14), eJ C 3 ((f7_lay (Z 0) Y model set nt N) 3)), ((a 15), eJ C 12 ((f7_lay (Z 0) Y model set nt N) 4)), ((a 16), eI C 6 (Z 10)), ((a 17), eI C 4 (Z 11))] := hD
      refine lv_iinc (v := nI k + 1) (lv' := [(5, .int (nI k + 1)), (0, .ref (a 0)), (1, .int model), (2, .int (nI w)), (3, .int set), (4, .int (f7_termsOf model))]) hx hb dX7_findFit_29 hl (k := 5) rfl rfl (by decide) rfl (fun ls hl => ?_)
      refine lv_goto (tgt := 15) hx hb dX7_findFit_32 (by decide) ?_
      rw [nI_1] at hl
      exact ih15 (k := k + 1) (S1 := (vp_updL S1 k 0)) (ls := ls) (H := H) (locs := locs) ⟨by omega, h15_1, lv_sub hl [1, 2, 3, 4, 5, 0] rfl, hP, hD, hS⟩

def restL (fac : Nat → Int64) (pl : Nat → Int32) (model : Int32) (k : Nat) : Nat → Nat → Int64 → Int64
  | 0, _, x => x
  | n + 1, t, x => restL fac pl model k n (t + 1) (x - fac t * f7_term pl model k t)
def f7_restOf (pl rd : Nat → Int32) (fac : Nat → Int64) (det : Int64) (model : Int32) (w k nt : Nat) : Int64 := restL fac pl model k nt 0 ((rd (2 * k + w)).toInt64 * det)

set_option maxHeartbeats 4000000 in
set_option maxRecDepth 100000 in
theorem kX7_restOf (l : Launch) (D : va_G) (C : Nat → ClassId) (a : Nat → Nat) (Z : Nat → Nat → Int32) (Y : Nat → Nat → Int64) (model : Int32) (w k : Nat) (nt : Nat) (hnt : f7_termsOf model = nI nt) (hnt3 : nt = 1 ∨ nt = 3) (hw : w < 2) (hk : k < 12) : Rl l D C yX7_restOf cX7_restOf 7 1 [.ref (a 0), .int model, .int (nI w), .int (nI k)] (wZ a C Z Y) (f7_restOf (Z 0) (Z 1) (Y 3) (Y 5 0) model w k nt) := by
  refine Met.ofW (cc := cX7_restOf) (maxL := 7) (ret := (some .long)) (by decide) rfl ?_
  intro p e s m args below meth c s₁ B hml hv
  obtain ⟨rfl, hP, hK, hNw⟩ := hv
  have hx := B.exec
  have hb := B.bytes
  have hr := B.returns
  have hts := atoms_spec (ws := wm yX7_restOf cX7_restOf 7 (some .long)) B.pre
  have hown : s.vm.findClass RX7 = some m.cls := findClass_of_methodNamed B.named
  have hlocks := B.notSynchronized
  have hW : ∀ w ∈ WA, w.before _ s = true := fun w h => hts w (List.mem_cons_of_mem _ h)
  have hP : va_P D vwCl [((a 0), .inr (7, [.int (Z 12 0), .ref (a 1), .ref (a 2), .ref (a 3), .ref (a 4), .int (Z 12 1), .ref (a 5), .ref (a 6), .ref (a 7), .ref (a 8), .ref (a 9), .int (Z 12 2), .ref (a 10), .int (Z 12 3), .int (Z 12 4), .ref (a 11), .ref (a 12), .long (Y 5 0), .ref (a 13), .ref (a 14), .ref (a 15), .ref (a 16), .ref (a 17)])), ((a 1), eI C 48 (Z 0)), ((a 2), eI C 24 (Z 1)), ((a 3), eZ C 12 (Z 2)), ((a 4), eZ C 12 (Z 3)), ((a 5), eI C 60 (Z 4)), ((a 6), eI C 60 (Z 5)), ((a 7), eI C 60 (Z 6)), ((a 8), eZ C 60 (Z 7)), ((a 9), eZ C 244 (Z 8)), ((a 10), eI C 24 (Z 9)), ((a 11), eJ C 9 (Y 0)), ((a 12), eJ C 9 (Y 1)), ((a 13), eJ C 3 (Y 2)), ((a 14), eJ C 3 (Y 3)), ((a 15), eJ C 12 (Y 4)), ((a 16), eI C 6 (Z 10)), ((a 17), eI C 4 (Z 11))] s.heap := hP
  have hl := lv_entry ([.ref (a 0), .int model, .int (nI w), .int (nI k)]) (n := 7) (Nat.le_of_ble_eq_true rfl)
  rw [lg_entry_eq]
  generalize (lg_sl ([.ref (a 0), .int model, .int (nI w), .int (nI k)]) ++ List.replicate (7 - (lg_sl ([.ref (a 0), .int model, .int (nI w), .int (nI k)])).length) Slot.unset).toArray = ls at hl ⊢
  have hl : lv_has ls 7 [(0, .ref (a 0)), (1, .int model), (2, .int (nI w)), (3, .int (nI k))] := hl
  refine lv_aload_n hx hb dX7_restOf_0 rfl (lv_at hl 0 rfl) ?_
  refine va_get (D := D) (ci := 7) (C := RX7) (T := TX7) (N := 23) hx hb hW inX7 hown hK hP 0 rfl rfl 2 (by decide) (hW _ (wa tw545 rfl)) (fun _ h9 => h9) rfl dX7_restOf_1 ?_
  refine lv_iconst (v := 2) hx hb dX7_restOf_4 (by decide) ?_
  refine lv_iload_n hx hb dX7_restOf_5 rfl (lv_at hl 3 rfl) ?_
  refine lv_imul hx hb dX7_restOf_6 ?_
  refine lv_iload_n hx hb dX7_restOf_7 rfl (lv_at hl 2 rfl) ?_
  refine lv_iadd hx hb dX7_restOf_8 ?_
  refine xiald hx hb hK hP 2 rfl ((2 * k) + w) (q_add (q_mul (nI_lit 2) rfl) rfl) (by rcases hnt3 with rfl | rfl <;> omega) (by decide) dX7_restOf_9 ?_
  refine lv_i2l (v := ((Z 1) ((2 * k) + w)).toInt64) hx hb dX7_restOf_10 rfl ?_
  refine lv_aload_n hx hb dX7_restOf_11 rfl (lv_at hl 0 rfl) ?_
  refine va_get (D := D) (ci := 7) (C := RX7) (T := TX7) (N := 23) hx hb hW inX7 hown hK hP 0 rfl rfl 17 (by decide) (hW _ (wa tw560 rfl)) (fun _ h9 => h9) rfl dX7_restOf_12 ?_
  refine lv_lmul hx hb dX7_restOf_15 ?_
  refine lv_lstore (lv' := [(4, .long ((((Z 1) ((2 * k) + w)).toInt64) * (Y 5 0))), (0, .ref (a 0)), (1, .int model), (2, .int (nI w)), (3, .int (nI k))]) hx hb dX7_restOf_16 hl (by decide) rfl (fun ls hl => ?_)
  refine lv_iconst (v := 0) hx hb dX7_restOf_18 (by decide) ?_
  refine lv_istore (lv' := [(6, .int 0), (4, .long ((((Z 1) ((2 * k) + w)).toInt64) * (Y 5 0))), (0, .ref (a 0)), (1, .int model), (2, .int (nI w)), (3, .int (nI k))]) hx hb dX7_restOf_19 hl (by decide) rfl (fun ls hl => ?_)
  obtain ⟨n21, t, x, hinv⟩ : ∃ (n21 : Nat) (t : Nat) (x : Int64), t + n21 = nt ∧ restL (Y 3) (Z 0) model k n21 t x = f7_restOf (Z 0) (Z 1) (Y 3) (Y 5 0) model w k nt ∧ lv_has ls 7 [(0, .ref (a 0)), (1, .int model), (2, .int (nI w)), (3, .int (nI k)), (4, .long x), (6, .int (nI t))] := ⟨nt, 0, ((Z 1 (2 * k + w)).toInt64 * Y 5 0), by omega, rfl, lv_sub hl [2, 3, 4, 5, 1, 0] rfl⟩
  clear hl
  induction n21 generalizing t x ls with
  | zero =>
    obtain ⟨h21_0, h21_1, hl⟩ := hinv
    refine lv_iload hx hb dX7_restOf_21 (lv_at hl 5 rfl) ?_
    refine lv_iload_n hx hb dX7_restOf_23 rfl (lv_at hl 1 rfl) ?_
    refine xri (r := f7_termsOf model) (rS (As := [.int model]) (n := 1) (rest := [.int (nI t)]) ⟨hx, hb, hml, hown, hW⟩ (kX7_termsOf l model) (wa tw680 rfl) (wa tw678 rfl) (wa tw679 rfl) (wa tw8 rfl) (by decide +kernel) ⟨Nat.le_of_ble_eq_true rfl, Nat.le_of_ble_eq_true rfl⟩ pS0 hl.1 rfl (Nat.le_of_ble_eq_true rfl) dX7_restOf_24 ⟨Nat.le_of_ble_eq_true rfl, Nat.le_of_ble_eq_true rfl⟩ rfl rfl rfl) ?_
    refine lv_icmp_ge (tgt := 57) hx hb dX7_restOf_27 (by decide) (fun c_1 => ?_) (fun c_1 => ?_)
    · refine lv_lload hx hb dX7_restOf_57 (lv_at hl 4 rfl) ?_
      exact W.lret (v := x) hx hb hr (fun t ht _ => ⟨_, rfl, h21_1, ht⟩) (fun q h => by cases h) dX7_restOf_59
    · exact absurd (q_le hnt rfl (by rcases hnt3 with rfl | rfl <;> omega) (by rcases hnt3 with rfl | rfl <;> omega)) c_1
  | succ n21 ih21 =>
    obtain ⟨h21_0, h21_1, hl⟩ := hinv
    refine lv_iload hx hb dX7_restOf_21 (lv_at hl 5 rfl) ?_
    refine lv_iload_n hx hb dX7_restOf_23 rfl (lv_at hl 1 rfl) ?_
    refine xri (r := f7_termsOf model) (rS (As := [.int model]) (n := 1) (rest := [.int (nI t)]) ⟨hx, hb, hml, hown, hW⟩ (kX7_termsOf l model) (wa tw680 rfl) (wa tw678 rfl) (wa tw679 rfl) (wa tw8 rfl) (by decide +kernel) ⟨Nat.le_of_ble_eq_true rfl, Nat.le_of_ble_eq_true rfl⟩ pS0 hl.1 rfl (Nat.le_of_ble_eq_true rfl) dX7_restOf_24 ⟨Nat.le_of_ble_eq_true rfl, Nat.le_of_ble_eq_true rfl⟩ rfl rfl rfl) ?_
    refine lv_icmp_ge (tgt := 57) hx hb dX7_restOf_27 (by decide) (fun c_2 => ?_) (fun c_2 => ?_)
    · exact absurd c_2 (q_nle hnt rfl (by rcases hnt3 with rfl | rfl <;> omega) (by rcases hnt3 with rfl | rfl <;> omega))
    · refine lv_lload hx hb dX7_restOf_30 (lv_at hl 4 rfl) ?_
      refine lv_aload_n hx hb dX7_restOf_32 rfl (lv_at hl 0 rfl) ?_
      refine va_get (D := D) (ci := 7) (C := RX7) (T := TX7) (N := 23) hx hb hW inX7 hown hK hP 0 rfl rfl 19 (by decide) (hW _ (wa tw562 rfl)) (fun _ h9 => h9) rfl dX7_restOf_33 ?_
      refine lv_iload hx hb dX7_restOf_36 (lv_at hl 5 rfl) ?_
      refine xlald hx hb hK hP 14 rfl t rfl (by rcases hnt3 with rfl | rfl <;> omega) (by decide) dX7_restOf_38 ?_
      refine lv_aload_n hx hb dX7_restOf_39 rfl (lv_at hl 0 rfl) ?_
      refine lv_iload_n hx hb dX7_restOf_40 rfl (lv_at hl 1 rfl) ?_
      refine lv_iload_n hx hb dX7_restOf_41 rfl (lv_at hl 3 rfl) ?_
      refine lv_iload hx hb dX7_restOf_42 (lv_at hl 5 rfl) ?_
      refine xrl (r := f7_term (Z 0) model k t) (rV (As := [.int model, .int (nI k), .int (nI t)]) (n := 3) (rest := [.long ((Y 3) t), .long x]) ⟨hx, hb, hml, hown, hW⟩ (kX7_term l D C a Z Y model k t (by rcases hnt3 with rfl | rfl <;> omega) (by rcases hnt3 with rfl | rfl <;> omega)) (wa tw684 rfl) (wa tw681 rfl) (wa tw683 rfl) (was ts40 rfl) (wa tw8 rfl) (by decide +kernel) ⟨Nat.le_of_ble_eq_true rfl, Nat.le_of_ble_eq_true rfl⟩ (pVr hP hK hNw 0 rfl rfl) hl.1 rfl (Nat.le_of_ble_eq_true rfl) dX7_restOf_44 ⟨Nat.le_of_ble_eq_true rfl, Nat.le_of_ble_eq_true rfl⟩ rfl rfl rfl) ?_
      refine lv_lmul hx hb dX7_restOf_47 ?_
      refine lv_lsub hx hb dX7_restOf_48 ?_
      refine lv_lstore (lv' := [(4, .long (x - (((Y 3) t) * (f7_term (Z 0) model k t)))), (0, .ref (a 0)), (1, .int model), (2, .int (nI w)), (3, .int (nI k)), (6, .int (nI t))]) hx hb dX7_restOf_49 hl (by decide) rfl (fun ls hl => ?_)
      refine lv_iinc (v := nI t + 1) (lv' := [(6, .int (nI t + 1)), (4, .long (x - (((Y 3) t) * (f7_term (Z 0) model k t)))), (0, .ref (a 0)), (1, .int model), (2, .int (nI w)), (3, .int (nI k))]) hx hb dX7_restOf_51 hl (k := 5) rfl rfl (by decide) rfl (fun ls hl => ?_)
      refine lv_goto (tgt := 21) hx hb dX7_restOf_54 (by decide) ?_
      rw [nI_1] at hl
      exact ih21 (t := t + 1) (x := (x - (((Y 3) t) * (f7_term (Z 0) model k t)))) (ls := ls) ⟨by omega, h21_1, lv_sub hl [2, 3, 4, 5, 1, 0] rfl⟩
end
