section
-- ===== PART A: goes FIRST, ahead of the names: the tables' words, and 'selects' of the private methods out of them =====
/-- a private method of a class that the tables say can be made, by its rows of tables_1 -/
def lw_okq (q : MethodName × Nat) : Prop := (q.1.cls ≠ "java/lang/invoke/MethodHandle" ∧ q.1.cls ≠ "java/lang/invoke/VarHandle") ∧ Cond.instantiable q.1.cls q.2 ∈ tables_1 ∧ Cond.privateMethod q.1 ∈ tables_1 ∧ Cond.instanceMethod q.1 ∈ tables_1
theorem lw_p0 : lw_okq (⟨"PhaseCells", "settle", "(I)I"⟩, 9) := ⟨⟨by decide +kernel, by decide +kernel⟩, List.mem_of_getElem? (i := 15) (by decide +kernel), List.mem_of_getElem? (i := 176) (by decide +kernel), List.mem_of_getElem? (i := 177) (by decide +kernel)⟩
theorem lw_p1 : lw_okq (⟨"PhaseCells", "refuse", "(I)I"⟩, 9) := ⟨⟨by decide +kernel, by decide +kernel⟩, List.mem_of_getElem? (i := 15) (by decide +kernel), List.mem_of_getElem? (i := 180) (by decide +kernel), List.mem_of_getElem? (i := 181) (by decide +kernel)⟩
theorem lw_p2 : lw_okq (⟨"PhaseCells", "keepBefore", "()V"⟩, 9) := ⟨⟨by decide +kernel, by decide +kernel⟩, List.mem_of_getElem? (i := 15) (by decide +kernel), List.mem_of_getElem? (i := 184) (by decide +kernel), List.mem_of_getElem? (i := 185) (by decide +kernel)⟩
theorem lw_p3 : lw_okq (⟨"PhaseCells$State", "layEchoOfRate", "(IIII)V"⟩, 5) := ⟨⟨by decide +kernel, by decide +kernel⟩, List.mem_of_getElem? (i := 29) (by decide +kernel), List.mem_of_getElem? (i := 235) (by decide +kernel), List.mem_of_getElem? (i := 236) (by decide +kernel)⟩
theorem lw_p4 : lw_okq (⟨"PhaseCells$State", "addSignal", "(III)V"⟩, 5) := ⟨⟨by decide +kernel, by decide +kernel⟩, List.mem_of_getElem? (i := 29) (by decide +kernel), List.mem_of_getElem? (i := 240) (by decide +kernel), List.mem_of_getElem? (i := 241) (by decide +kernel)⟩
theorem lw_p5 : lw_okq (⟨"PhaseCells$State", "brighten", "(II)V"⟩, 5) := ⟨⟨by decide +kernel, by decide +kernel⟩, List.mem_of_getElem? (i := 29) (by decide +kernel), List.mem_of_getElem? (i := 247) (by decide +kernel), List.mem_of_getElem? (i := 248) (by decide +kernel)⟩
theorem lw_p6 : lw_okq (⟨"PhaseCells$Sight", "reckon", "(I)I"⟩, 8) := ⟨⟨by decide +kernel, by decide +kernel⟩, List.mem_of_getElem? (i := 23) (by decide +kernel), List.mem_of_getElem? (i := 333) (by decide +kernel), List.mem_of_getElem? (i := 334) (by decide +kernel)⟩
theorem lw_p7 : lw_okq (⟨"PhaseCells$Sight", "search", "(I)Z"⟩, 8) := ⟨⟨by decide +kernel, by decide +kernel⟩, List.mem_of_getElem? (i := 23) (by decide +kernel), List.mem_of_getElem? (i := 342) (by decide +kernel), List.mem_of_getElem? (i := 343) (by decide +kernel)⟩
theorem lw_p8 : lw_okq (⟨"PhaseCells$Sight", "widestGap", "(II)I"⟩, 8) := ⟨⟨by decide +kernel, by decide +kernel⟩, List.mem_of_getElem? (i := 23) (by decide +kernel), List.mem_of_getElem? (i := 347) (by decide +kernel), List.mem_of_getElem? (i := 348) (by decide +kernel)⟩
theorem lw_p9 : lw_okq (⟨"PhaseCells$Sight", "misfit", "(II)I"⟩, 8) := ⟨⟨by decide +kernel, by decide +kernel⟩, List.mem_of_getElem? (i := 23) (by decide +kernel), List.mem_of_getElem? (i := 357) (by decide +kernel), List.mem_of_getElem? (i := 358) (by decide +kernel)⟩
theorem lw_p10 : lw_okq (⟨"PhaseCells$Sight", "reckonPairs", "(I)I"⟩, 8) := ⟨⟨by decide +kernel, by decide +kernel⟩, List.mem_of_getElem? (i := 23) (by decide +kernel), List.mem_of_getElem? (i := 364) (by decide +kernel), List.mem_of_getElem? (i := 365) (by decide +kernel)⟩
theorem lw_p11 : lw_okq (⟨"PhaseCells$OrderText", "takes", "(I)Z"⟩, 8) := ⟨⟨by decide +kernel, by decide +kernel⟩, List.mem_of_getElem? (i := 99) (by decide +kernel), List.mem_of_getElem? (i := 481) (by decide +kernel), List.mem_of_getElem? (i := 482) (by decide +kernel)⟩
theorem lw_p12 : lw_okq (⟨"PhaseCells$OrderText", "takesFigure", "(I)Z"⟩, 8) := ⟨⟨by decide +kernel, by decide +kernel⟩, List.mem_of_getElem? (i := 99) (by decide +kernel), List.mem_of_getElem? (i := 485) (by decide +kernel), List.mem_of_getElem? (i := 486) (by decide +kernel)⟩
theorem lw_p13 : lw_okq (⟨"PhaseCells$OrderText", "endNumber", "()V"⟩, 8) := ⟨⟨by decide +kernel, by decide +kernel⟩, List.mem_of_getElem? (i := 99) (by decide +kernel), List.mem_of_getElem? (i := 489) (by decide +kernel), List.mem_of_getElem? (i := 490) (by decide +kernel)⟩
theorem lw_p14 : lw_okq (⟨"PhaseCells$OrderText", "keep", "(I)V"⟩, 8) := ⟨⟨by decide +kernel, by decide +kernel⟩, List.mem_of_getElem? (i := 99) (by decide +kernel), List.mem_of_getElem? (i := 493) (by decide +kernel), List.mem_of_getElem? (i := 494) (by decide +kernel)⟩
theorem lw_p15 : lw_okq (⟨"PhaseCells", "perform", "(I)I"⟩, 9) := ⟨⟨by decide +kernel, by decide +kernel⟩, List.mem_of_getElem? (i := 15) (by decide +kernel), List.mem_of_getElem? (i := 501) (by decide +kernel), List.mem_of_getElem? (i := 502) (by decide +kernel)⟩
def lw_privs_1 : List (MethodName × Nat) := [(⟨"PhaseCells", "settle", "(I)I"⟩, 9), (⟨"PhaseCells", "refuse", "(I)I"⟩, 9), (⟨"PhaseCells", "keepBefore", "()V"⟩, 9), (⟨"PhaseCells$State", "layEchoOfRate", "(IIII)V"⟩, 5), (⟨"PhaseCells$State", "addSignal", "(III)V"⟩, 5), (⟨"PhaseCells$State", "brighten", "(II)V"⟩, 5), (⟨"PhaseCells$Sight", "reckon", "(I)I"⟩, 8), (⟨"PhaseCells$Sight", "search", "(I)Z"⟩, 8), (⟨"PhaseCells$Sight", "widestGap", "(II)I"⟩, 8), (⟨"PhaseCells$Sight", "misfit", "(II)I"⟩, 8), (⟨"PhaseCells$Sight", "reckonPairs", "(I)I"⟩, 8), (⟨"PhaseCells$OrderText", "takes", "(I)Z"⟩, 8), (⟨"PhaseCells$OrderText", "takesFigure", "(I)Z"⟩, 8), (⟨"PhaseCells$OrderText", "endNumber", "()V"⟩, 8), (⟨"PhaseCells$OrderText", "keep", "(I)V"⟩, 8), (⟨"PhaseCells", "perform", "(I)I"⟩, 9)]
theorem lw_r1 : ∀ q ∈ lw_privs_1, lw_okq q := List.forall_mem_cons.mpr ⟨lw_p0, List.forall_mem_cons.mpr ⟨lw_p1, List.forall_mem_cons.mpr ⟨lw_p2, List.forall_mem_cons.mpr ⟨lw_p3, List.forall_mem_cons.mpr ⟨lw_p4, List.forall_mem_cons.mpr ⟨lw_p5, List.forall_mem_cons.mpr ⟨lw_p6, List.forall_mem_cons.mpr ⟨lw_p7, List.forall_mem_cons.mpr ⟨lw_p8, List.forall_mem_cons.mpr ⟨lw_p9, List.forall_mem_cons.mpr ⟨lw_p10, List.forall_mem_cons.mpr ⟨lw_p11, List.forall_mem_cons.mpr ⟨lw_p12, List.forall_mem_cons.mpr ⟨lw_p13, List.forall_mem_cons.mpr ⟨lw_p14, List.forall_mem_cons.mpr ⟨lw_p15, fun _ h => absurd h List.not_mem_nil⟩⟩⟩⟩⟩⟩⟩⟩⟩⟩⟩⟩⟩⟩⟩⟩
theorem lw_p16 : lw_okq (⟨"PhaseCells", "tally", "(I)I"⟩, 9) := ⟨⟨by decide +kernel, by decide +kernel⟩, List.mem_of_getElem? (i := 15) (by decide +kernel), List.mem_of_getElem? (i := 518) (by decide +kernel), List.mem_of_getElem? (i := 519) (by decide +kernel)⟩
theorem lw_p17 : lw_okq (⟨"PhaseCells", "digestCell", "(JIII)J"⟩, 9) := ⟨⟨by decide +kernel, by decide +kernel⟩, List.mem_of_getElem? (i := 15) (by decide +kernel), List.mem_of_getElem? (i := 528) (by decide +kernel), List.mem_of_getElem? (i := 529) (by decide +kernel)⟩
theorem lw_p18 : lw_okq (⟨"PhaseCellsModel", "no", "()I"⟩, 27) := ⟨⟨by decide +kernel, by decide +kernel⟩, List.mem_of_getElem? (i := 532) (by decide +kernel), List.mem_of_getElem? (i := 624) (by decide +kernel), List.mem_of_getElem? (i := 625) (by decide +kernel)⟩
theorem lw_p19 : lw_okq (⟨"PhaseCellsModel", "laysAside", "()V"⟩, 27) := ⟨⟨by decide +kernel, by decide +kernel⟩, List.mem_of_getElem? (i := 532) (by decide +kernel), List.mem_of_getElem? (i := 632) (by decide +kernel), List.mem_of_getElem? (i := 633) (by decide +kernel)⟩
theorem lw_p20 : lw_okq (⟨"PhaseCellsModel", "putGrid", "(II)I"⟩, 27) := ⟨⟨by decide +kernel, by decide +kernel⟩, List.mem_of_getElem? (i := 532) (by decide +kernel), List.mem_of_getElem? (i := 636) (by decide +kernel), List.mem_of_getElem? (i := 637) (by decide +kernel)⟩
theorem lw_p21 : lw_okq (⟨"PhaseCellsModel", "finished", "(I)I"⟩, 27) := ⟨⟨by decide +kernel, by decide +kernel⟩, List.mem_of_getElem? (i := 532) (by decide +kernel), List.mem_of_getElem? (i := 643) (by decide +kernel), List.mem_of_getElem? (i := 644) (by decide +kernel)⟩
theorem lw_p22 : lw_okq (⟨"PhaseCellsModel", "bad", "()I"⟩, 27) := ⟨⟨by decide +kernel, by decide +kernel⟩, List.mem_of_getElem? (i := 532) (by decide +kernel), List.mem_of_getElem? (i := 647) (by decide +kernel), List.mem_of_getElem? (i := 648) (by decide +kernel)⟩
theorem lw_p23 : lw_okq (⟨"PhaseCellsModel", "remembers", "()V"⟩, 27) := ⟨⟨by decide +kernel, by decide +kernel⟩, List.mem_of_getElem? (i := 532) (by decide +kernel), List.mem_of_getElem? (i := 651) (by decide +kernel), List.mem_of_getElem? (i := 652) (by decide +kernel)⟩
theorem lw_p24 : lw_okq (⟨"PhaseCellsModel", "putWave", "(II)I"⟩, 27) := ⟨⟨by decide +kernel, by decide +kernel⟩, List.mem_of_getElem? (i := 532) (by decide +kernel), List.mem_of_getElem? (i := 659) (by decide +kernel), List.mem_of_getElem? (i := 660) (by decide +kernel)⟩
theorem lw_p25 : lw_okq (⟨"PhaseCellsModel", "putSetting", "(II)I"⟩, 27) := ⟨⟨by decide +kernel, by decide +kernel⟩, List.mem_of_getElem? (i := 532) (by decide +kernel), List.mem_of_getElem? (i := 667) (by decide +kernel), List.mem_of_getElem? (i := 668) (by decide +kernel)⟩
theorem lw_p26 : lw_okq (⟨"PhaseCellsModel", "isCell", "(III)Z"⟩, 27) := ⟨⟨by decide +kernel, by decide +kernel⟩, List.mem_of_getElem? (i := 532) (by decide +kernel), List.mem_of_getElem? (i := 678) (by decide +kernel), List.mem_of_getElem? (i := 679) (by decide +kernel)⟩
theorem lw_p27 : lw_okq (⟨"PhaseCellsModel", "putSample", "(II)I"⟩, 27) := ⟨⟨by decide +kernel, by decide +kernel⟩, List.mem_of_getElem? (i := 532) (by decide +kernel), List.mem_of_getElem? (i := 685) (by decide +kernel), List.mem_of_getElem? (i := 686) (by decide +kernel)⟩
theorem lw_p28 : lw_okq (⟨"PhaseCellsModel", "putEcho", "(IIIII)I"⟩, 27) := ⟨⟨by decide +kernel, by decide +kernel⟩, List.mem_of_getElem? (i := 532) (by decide +kernel), List.mem_of_getElem? (i := 693) (by decide +kernel), List.mem_of_getElem? (i := 694) (by decide +kernel)⟩
theorem lw_p29 : lw_okq (⟨"PhaseCellsModel", "raised", "(II)I"⟩, 27) := ⟨⟨by decide +kernel, by decide +kernel⟩, List.mem_of_getElem? (i := 532) (by decide +kernel), List.mem_of_getElem? (i := 702) (by decide +kernel), List.mem_of_getElem? (i := 703) (by decide +kernel)⟩
theorem lw_p30 : lw_okq (⟨"PhaseCellsModel", "fullOnes", "(I)I"⟩, 27) := ⟨⟨by decide +kernel, by decide +kernel⟩, List.mem_of_getElem? (i := 532) (by decide +kernel), List.mem_of_getElem? (i := 706) (by decide +kernel), List.mem_of_getElem? (i := 707) (by decide +kernel)⟩
theorem lw_p31 : lw_okq (⟨"PhaseCellsModel", "putShine", "(IIII)I"⟩, 27) := ⟨⟨by decide +kernel, by decide +kernel⟩, List.mem_of_getElem? (i := 532) (by decide +kernel), List.mem_of_getElem? (i := 714) (by decide +kernel), List.mem_of_getElem? (i := 715) (by decide +kernel)⟩
def lw_privs_2 : List (MethodName × Nat) := [(⟨"PhaseCells", "tally", "(I)I"⟩, 9), (⟨"PhaseCells", "digestCell", "(JIII)J"⟩, 9), (⟨"PhaseCellsModel", "no", "()I"⟩, 27), (⟨"PhaseCellsModel", "laysAside", "()V"⟩, 27), (⟨"PhaseCellsModel", "putGrid", "(II)I"⟩, 27), (⟨"PhaseCellsModel", "finished", "(I)I"⟩, 27), (⟨"PhaseCellsModel", "bad", "()I"⟩, 27), (⟨"PhaseCellsModel", "remembers", "()V"⟩, 27), (⟨"PhaseCellsModel", "putWave", "(II)I"⟩, 27), (⟨"PhaseCellsModel", "putSetting", "(II)I"⟩, 27), (⟨"PhaseCellsModel", "isCell", "(III)Z"⟩, 27), (⟨"PhaseCellsModel", "putSample", "(II)I"⟩, 27), (⟨"PhaseCellsModel", "putEcho", "(IIIII)I"⟩, 27), (⟨"PhaseCellsModel", "raised", "(II)I"⟩, 27), (⟨"PhaseCellsModel", "fullOnes", "(I)I"⟩, 27), (⟨"PhaseCellsModel", "putShine", "(IIII)I"⟩, 27)]
theorem lw_r2 : ∀ q ∈ lw_privs_2, lw_okq q := List.forall_mem_cons.mpr ⟨lw_p16, List.forall_mem_cons.mpr ⟨lw_p17, List.forall_mem_cons.mpr ⟨lw_p18, List.forall_mem_cons.mpr ⟨lw_p19, List.forall_mem_cons.mpr ⟨lw_p20, List.forall_mem_cons.mpr ⟨lw_p21, List.forall_mem_cons.mpr ⟨lw_p22, List.forall_mem_cons.mpr ⟨lw_p23, List.forall_mem_cons.mpr ⟨lw_p24, List.forall_mem_cons.mpr ⟨lw_p25, List.forall_mem_cons.mpr ⟨lw_p26, List.forall_mem_cons.mpr ⟨lw_p27, List.forall_mem_cons.mpr ⟨lw_p28, List.forall_mem_cons.mpr ⟨lw_p29, List.forall_mem_cons.mpr ⟨lw_p30, List.forall_mem_cons.mpr ⟨lw_p31, fun _ h => absurd h List.not_mem_nil⟩⟩⟩⟩⟩⟩⟩⟩⟩⟩⟩⟩⟩⟩⟩⟩
theorem lw_p32 : lw_okq (⟨"PhaseCellsModel", "putClear", "(III)I"⟩, 27) := ⟨⟨by decide +kernel, by decide +kernel⟩, List.mem_of_getElem? (i := 532) (by decide +kernel), List.mem_of_getElem? (i := 722) (by decide +kernel), List.mem_of_getElem? (i := 723) (by decide +kernel)⟩
theorem lw_p33 : lw_okq (⟨"PhaseCellsModel", "isRate", "(IIII)Z"⟩, 27) := ⟨⟨by decide +kernel, by decide +kernel⟩, List.mem_of_getElem? (i := 532) (by decide +kernel), List.mem_of_getElem? (i := 730) (by decide +kernel), List.mem_of_getElem? (i := 731) (by decide +kernel)⟩
theorem lw_p34 : lw_okq (⟨"PhaseCellsModel", "acrossOf", "(I)I"⟩, 27) := ⟨⟨by decide +kernel, by decide +kernel⟩, List.mem_of_getElem? (i := 532) (by decide +kernel), List.mem_of_getElem? (i := 738) (by decide +kernel), List.mem_of_getElem? (i := 739) (by decide +kernel)⟩
theorem lw_p35 : lw_okq (⟨"PhaseCellsModel", "downOf", "(I)I"⟩, 27) := ⟨⟨by decide +kernel, by decide +kernel⟩, List.mem_of_getElem? (i := 532) (by decide +kernel), List.mem_of_getElem? (i := 742) (by decide +kernel), List.mem_of_getElem? (i := 743) (by decide +kernel)⟩
theorem lw_p36 : lw_okq (⟨"PhaseCellsModel", "sumOf", "(I)I"⟩, 27) := ⟨⟨by decide +kernel, by decide +kernel⟩, List.mem_of_getElem? (i := 532) (by decide +kernel), List.mem_of_getElem? (i := 746) (by decide +kernel), List.mem_of_getElem? (i := 747) (by decide +kernel)⟩
theorem lw_p37 : lw_okq (⟨"PhaseCellsModel", "residueOf", "(II)I"⟩, 27) := ⟨⟨by decide +kernel, by decide +kernel⟩, List.mem_of_getElem? (i := 532) (by decide +kernel), List.mem_of_getElem? (i := 753) (by decide +kernel), List.mem_of_getElem? (i := 754) (by decide +kernel)⟩
theorem lw_p38 : lw_okq (⟨"PhaseCellsModel", "phaseOf", "(I)F"⟩, 27) := ⟨⟨by decide +kernel, by decide +kernel⟩, List.mem_of_getElem? (i := 532) (by decide +kernel), List.mem_of_getElem? (i := 757) (by decide +kernel), List.mem_of_getElem? (i := 758) (by decide +kernel)⟩
theorem lw_p39 : lw_okq (⟨"PhaseCellsModel", "strengthOf", "(I)F"⟩, 27) := ⟨⟨by decide +kernel, by decide +kernel⟩, List.mem_of_getElem? (i := 532) (by decide +kernel), List.mem_of_getElem? (i := 767) (by decide +kernel), List.mem_of_getElem? (i := 768) (by decide +kernel)⟩
theorem lw_p40 : lw_okq (⟨"PhaseCellsModel", "looksAt", "(I)V"⟩, 27) := ⟨⟨by decide +kernel, by decide +kernel⟩, List.mem_of_getElem? (i := 532) (by decide +kernel), List.mem_of_getElem? (i := 792) (by decide +kernel), List.mem_of_getElem? (i := 793) (by decide +kernel)⟩
theorem lw_p41 : lw_okq (⟨"PhaseCellsModel", "isBright", "(I)Z"⟩, 27) := ⟨⟨by decide +kernel, by decide +kernel⟩, List.mem_of_getElem? (i := 532) (by decide +kernel), List.mem_of_getElem? (i := 796) (by decide +kernel), List.mem_of_getElem? (i := 797) (by decide +kernel)⟩
theorem lw_p42 : lw_okq (⟨"PhaseCellsModel", "isDark", "(I)Z"⟩, 27) := ⟨⟨by decide +kernel, by decide +kernel⟩, List.mem_of_getElem? (i := 532) (by decide +kernel), List.mem_of_getElem? (i := 800) (by decide +kernel), List.mem_of_getElem? (i := 801) (by decide +kernel)⟩
theorem lw_p43 : lw_okq (⟨"PhaseCellsModel", "bestOf", "(I)I"⟩, 27) := ⟨⟨by decide +kernel, by decide +kernel⟩, List.mem_of_getElem? (i := 532) (by decide +kernel), List.mem_of_getElem? (i := 804) (by decide +kernel), List.mem_of_getElem? (i := 805) (by decide +kernel)⟩
theorem lw_p44 : lw_okq (⟨"PhaseCellsModel", "widens", "(I)V"⟩, 27) := ⟨⟨by decide +kernel, by decide +kernel⟩, List.mem_of_getElem? (i := 532) (by decide +kernel), List.mem_of_getElem? (i := 808) (by decide +kernel), List.mem_of_getElem? (i := 809) (by decide +kernel)⟩
theorem lw_p45 : lw_okq (⟨"PhaseCellsModel", "filledOf", "(III)I"⟩, 27) := ⟨⟨by decide +kernel, by decide +kernel⟩, List.mem_of_getElem? (i := 532) (by decide +kernel), List.mem_of_getElem? (i := 820) (by decide +kernel), List.mem_of_getElem? (i := 821) (by decide +kernel)⟩
theorem lw_p46 : lw_okq (⟨"PhaseCellsModel", "glowOf", "(I)F"⟩, 27) := ⟨⟨by decide +kernel, by decide +kernel⟩, List.mem_of_getElem? (i := 532) (by decide +kernel), List.mem_of_getElem? (i := 824) (by decide +kernel), List.mem_of_getElem? (i := 825) (by decide +kernel)⟩
theorem lw_p47 : lw_okq (⟨"PhaseCellsModel", "weighs", "(IIIF)V"⟩, 27) := ⟨⟨by decide +kernel, by decide +kernel⟩, List.mem_of_getElem? (i := 532) (by decide +kernel), List.mem_of_getElem? (i := 828) (by decide +kernel), List.mem_of_getElem? (i := 829) (by decide +kernel)⟩
def lw_privs_3 : List (MethodName × Nat) := [(⟨"PhaseCellsModel", "putClear", "(III)I"⟩, 27), (⟨"PhaseCellsModel", "isRate", "(IIII)Z"⟩, 27), (⟨"PhaseCellsModel", "acrossOf", "(I)I"⟩, 27), (⟨"PhaseCellsModel", "downOf", "(I)I"⟩, 27), (⟨"PhaseCellsModel", "sumOf", "(I)I"⟩, 27), (⟨"PhaseCellsModel", "residueOf", "(II)I"⟩, 27), (⟨"PhaseCellsModel", "phaseOf", "(I)F"⟩, 27), (⟨"PhaseCellsModel", "strengthOf", "(I)F"⟩, 27), (⟨"PhaseCellsModel", "looksAt", "(I)V"⟩, 27), (⟨"PhaseCellsModel", "isBright", "(I)Z"⟩, 27), (⟨"PhaseCellsModel", "isDark", "(I)Z"⟩, 27), (⟨"PhaseCellsModel", "bestOf", "(I)I"⟩, 27), (⟨"PhaseCellsModel", "widens", "(I)V"⟩, 27), (⟨"PhaseCellsModel", "filledOf", "(III)I"⟩, 27), (⟨"PhaseCellsModel", "glowOf", "(I)F"⟩, 27), (⟨"PhaseCellsModel", "weighs", "(IIIF)V"⟩, 27)]
theorem lw_r3 : ∀ q ∈ lw_privs_3, lw_okq q := List.forall_mem_cons.mpr ⟨lw_p32, List.forall_mem_cons.mpr ⟨lw_p33, List.forall_mem_cons.mpr ⟨lw_p34, List.forall_mem_cons.mpr ⟨lw_p35, List.forall_mem_cons.mpr ⟨lw_p36, List.forall_mem_cons.mpr ⟨lw_p37, List.forall_mem_cons.mpr ⟨lw_p38, List.forall_mem_cons.mpr ⟨lw_p39, List.forall_mem_cons.mpr ⟨lw_p40, List.forall_mem_cons.mpr ⟨lw_p41, List.forall_mem_cons.mpr ⟨lw_p42, List.forall_mem_cons.mpr ⟨lw_p43, List.forall_mem_cons.mpr ⟨lw_p44, List.forall_mem_cons.mpr ⟨lw_p45, List.forall_mem_cons.mpr ⟨lw_p46, List.forall_mem_cons.mpr ⟨lw_p47, fun _ h => absurd h List.not_mem_nil⟩⟩⟩⟩⟩⟩⟩⟩⟩⟩⟩⟩⟩⟩⟩⟩
theorem lw_p48 : lw_okq (⟨"PhaseCellsModel", "motionOf", "(II)I"⟩, 27) := ⟨⟨by decide +kernel, by decide +kernel⟩, List.mem_of_getElem? (i := 532) (by decide +kernel), List.mem_of_getElem? (i := 840) (by decide +kernel), List.mem_of_getElem? (i := 841) (by decide +kernel)⟩
theorem lw_p49 : lw_okq (⟨"PhaseCellsModel", "looksAtAll", "(I)V"⟩, 27) := ⟨⟨by decide +kernel, by decide +kernel⟩, List.mem_of_getElem? (i := 532) (by decide +kernel), List.mem_of_getElem? (i := 848) (by decide +kernel), List.mem_of_getElem? (i := 849) (by decide +kernel)⟩
theorem lw_p50 : lw_okq (⟨"PhaseCellsModel", "meanOf", "(I)J"⟩, 27) := ⟨⟨by decide +kernel, by decide +kernel⟩, List.mem_of_getElem? (i := 532) (by decide +kernel), List.mem_of_getElem? (i := 860) (by decide +kernel), List.mem_of_getElem? (i := 861) (by decide +kernel)⟩
theorem lw_p51 : lw_okq (⟨"PhaseCellsModel", "isRead", "()Z"⟩, 27) := ⟨⟨by decide +kernel, by decide +kernel⟩, List.mem_of_getElem? (i := 532) (by decide +kernel), List.mem_of_getElem? (i := 890) (by decide +kernel), List.mem_of_getElem? (i := 891) (by decide +kernel)⟩
theorem lw_p52 : lw_okq (⟨"PhaseCellsModel", "blanks", "()V"⟩, 27) := ⟨⟨by decide +kernel, by decide +kernel⟩, List.mem_of_getElem? (i := 532) (by decide +kernel), List.mem_of_getElem? (i := 894) (by decide +kernel), List.mem_of_getElem? (i := 895) (by decide +kernel)⟩
theorem lw_p53 : lw_okq (⟨"PhaseCellsModel", "isAt", "(II)Z"⟩, 27) := ⟨⟨by decide +kernel, by decide +kernel⟩, List.mem_of_getElem? (i := 532) (by decide +kernel), List.mem_of_getElem? (i := 898) (by decide +kernel), List.mem_of_getElem? (i := 899) (by decide +kernel)⟩
theorem lw_p54 : lw_okq (⟨"PhaseCellsModel", "takesOrder", "()Z"⟩, 27) := ⟨⟨by decide +kernel, by decide +kernel⟩, List.mem_of_getElem? (i := 532) (by decide +kernel), List.mem_of_getElem? (i := 902) (by decide +kernel), List.mem_of_getElem? (i := 903) (by decide +kernel)⟩
theorem lw_p55 : lw_okq (⟨"PhaseCellsModel", "fails", "(I)Z"⟩, 27) := ⟨⟨by decide +kernel, by decide +kernel⟩, List.mem_of_getElem? (i := 532) (by decide +kernel), List.mem_of_getElem? (i := 909) (by decide +kernel), List.mem_of_getElem? (i := 910) (by decide +kernel)⟩
theorem lw_p56 : lw_okq (⟨"PhaseCellsModel", "takesNumber", "(I)Z"⟩, 27) := ⟨⟨by decide +kernel, by decide +kernel⟩, List.mem_of_getElem? (i := 532) (by decide +kernel), List.mem_of_getElem? (i := 913) (by decide +kernel), List.mem_of_getElem? (i := 914) (by decide +kernel)⟩
theorem lw_p57 : lw_okq (⟨"PhaseCellsModel", "doneOne", "(I)I"⟩, 27) := ⟨⟨by decide +kernel, by decide +kernel⟩, List.mem_of_getElem? (i := 532) (by decide +kernel), List.mem_of_getElem? (i := 917) (by decide +kernel), List.mem_of_getElem? (i := 918) (by decide +kernel)⟩
theorem lw_p58 : lw_okq (⟨"PhaseCellsModel", "refusedOf", "(I)I"⟩, 27) := ⟨⟨by decide +kernel, by decide +kernel⟩, List.mem_of_getElem? (i := 532) (by decide +kernel), List.mem_of_getElem? (i := 925) (by decide +kernel), List.mem_of_getElem? (i := 926) (by decide +kernel)⟩
theorem lw_p59 : lw_okq (⟨"PhaseCellsModel", "mix", "(J)V"⟩, 27) := ⟨⟨by decide +kernel, by decide +kernel⟩, List.mem_of_getElem? (i := 532) (by decide +kernel), List.mem_of_getElem? (i := 934) (by decide +kernel), List.mem_of_getElem? (i := 935) (by decide +kernel)⟩
theorem lw_p60 : lw_okq (⟨"PhaseCellsModel", "mixCells", "(I)V"⟩, 27) := ⟨⟨by decide +kernel, by decide +kernel⟩, List.mem_of_getElem? (i := 532) (by decide +kernel), List.mem_of_getElem? (i := 939) (by decide +kernel), List.mem_of_getElem? (i := 940) (by decide +kernel)⟩
def lw_privs_4 : List (MethodName × Nat) := [(⟨"PhaseCellsModel", "motionOf", "(II)I"⟩, 27), (⟨"PhaseCellsModel", "looksAtAll", "(I)V"⟩, 27), (⟨"PhaseCellsModel", "meanOf", "(I)J"⟩, 27), (⟨"PhaseCellsModel", "isRead", "()Z"⟩, 27), (⟨"PhaseCellsModel", "blanks", "()V"⟩, 27), (⟨"PhaseCellsModel", "isAt", "(II)Z"⟩, 27), (⟨"PhaseCellsModel", "takesOrder", "()Z"⟩, 27), (⟨"PhaseCellsModel", "fails", "(I)Z"⟩, 27), (⟨"PhaseCellsModel", "takesNumber", "(I)Z"⟩, 27), (⟨"PhaseCellsModel", "doneOne", "(I)I"⟩, 27), (⟨"PhaseCellsModel", "refusedOf", "(I)I"⟩, 27), (⟨"PhaseCellsModel", "mix", "(J)V"⟩, 27), (⟨"PhaseCellsModel", "mixCells", "(I)V"⟩, 27)]
theorem lw_r4 : ∀ q ∈ lw_privs_4, lw_okq q := List.forall_mem_cons.mpr ⟨lw_p48, List.forall_mem_cons.mpr ⟨lw_p49, List.forall_mem_cons.mpr ⟨lw_p50, List.forall_mem_cons.mpr ⟨lw_p51, List.forall_mem_cons.mpr ⟨lw_p52, List.forall_mem_cons.mpr ⟨lw_p53, List.forall_mem_cons.mpr ⟨lw_p54, List.forall_mem_cons.mpr ⟨lw_p55, List.forall_mem_cons.mpr ⟨lw_p56, List.forall_mem_cons.mpr ⟨lw_p57, List.forall_mem_cons.mpr ⟨lw_p58, List.forall_mem_cons.mpr ⟨lw_p59, List.forall_mem_cons.mpr ⟨lw_p60, fun _ h => absurd h List.not_mem_nil⟩⟩⟩⟩⟩⟩⟩⟩⟩⟩⟩⟩⟩
def lw_privs : List (MethodName × Nat) := lw_privs_1 ++ (lw_privs_2 ++ (lw_privs_3 ++ (lw_privs_4)))
def lw_tbl : List Cond := k2_sels lw_privs ++ tables_1
theorem lw_privs_ok : ∀ q ∈ lw_privs, lw_okq q := by
  show ∀ q ∈ lw_privs_1 ++ (lw_privs_2 ++ (lw_privs_3 ++ (lw_privs_4))), lw_okq q
  exact List.forall_mem_append.mpr ⟨lw_r1, List.forall_mem_append.mpr ⟨lw_r2, List.forall_mem_append.mpr ⟨lw_r3, lw_r4⟩⟩⟩
/-- the streams that the claim lets the run draw from -/
abbrev lw_cs : List Choice := [Jvm.Choice.named "NaN.bits"]
theorem lw_bits : nanBits ∈ lw_cs := by first | decide | exact List.mem_cons_self | simp [lw_cs, nanBits]
end
section
def RX0 : String := "PhaseCells$Bits"
def TX0 : u_T := fun k => match k with
  | _ => ("", "", "", false)
def tyX0 : Nat → FieldType := fun k => match k with
  | _ => .int
abbrev wsX00 : List Cond := u_ws RX0 TX0 0
theorem nmX0 : ∀ a, a < 0 → ∀ b, b < 0 → a ≠ b → (TX0 a).2.1 ≠ (TX0 b).2.1 := by decide +kernel
theorem tyX0_ok : ∀ k, k < 0 → parseFieldDescriptor (TX0 k).2.2.1 = some (tyX0 k) := by decide +kernel
abbrev cX0_ofFloat : ByteArray := prog_2_method_2_code
def yX0_ofFloat : MethodName := ⟨RX0, "ofFloat", "(F)I"⟩
abbrev cX0_ofDouble : ByteArray := prog_2_method_3_code
def yX0_ofDouble : MethodName := ⟨RX0, "ofDouble", "(D)J"⟩
def RX1 : String := "PhaseCells$OrderText"
def TX1 : u_T := fun k => match k with
  | 0 => ("PhaseCells$OrderText", "bytes", "[I", true)
  | 1 => ("PhaseCells$OrderText", "length", "I", false)
  | 2 => ("PhaseCells$OrderText", "items", "[I", true)
  | 3 => ("PhaseCells$OrderText", "itemCount", "I", false)
  | 4 => ("PhaseCells$OrderText", "orders", "I", false)
  | 5 => ("PhaseCells$OrderText", "due", "I", false)
  | 6 => ("PhaseCells$OrderText", "figures", "I", false)
  | _ => ("PhaseCells$OrderText", "number", "I", false)
def tyX1 : Nat → FieldType := fun k => match k with
  | 0 => .array .int
  | 1 => .int
  | 2 => .array .int
  | 3 => .int
  | 4 => .int
  | 5 => .int
  | 6 => .int
  | _ => .int
abbrev wsX10 : List Cond := u_ws RX1 TX1 8
theorem nmX1 : ∀ a, a < 8 → ∀ b, b < 8 → a ≠ b → (TX1 a).2.1 ≠ (TX1 b).2.1 := by decide +kernel
theorem tyX1_ok : ∀ k, k < 8 → parseFieldDescriptor (TX1 k).2.2.1 = some (tyX1 k) := by decide +kernel
abbrev cX1_init : ByteArray := prog_3_method_1_code
def yX1_init : MethodName := ⟨RX1, "<init>", "()V"⟩
abbrev cX1_append : ByteArray := prog_3_method_2_code
def yX1_append : MethodName := ⟨RX1, "append", "(I)Z"⟩
abbrev cX1_readAll : ByteArray := prog_3_method_3_code
def yX1_readAll : MethodName := ⟨RX1, "readAll", "()I"⟩
abbrev cX1_item : ByteArray := prog_3_method_4_code
def yX1_item : MethodName := ⟨RX1, "item", "(I)I"⟩
abbrev cX1_takes : ByteArray := prog_3_method_5_code
def yX1_takes : MethodName := ⟨RX1, "takes", "(I)Z"⟩
abbrev cX1_takesFigure : ByteArray := prog_3_method_6_code
def yX1_takesFigure : MethodName := ⟨RX1, "takesFigure", "(I)Z"⟩
abbrev cX1_endNumber : ByteArray := prog_3_method_7_code
def yX1_endNumber : MethodName := ⟨RX1, "endNumber", "()V"⟩
abbrev cX1_keep : ByteArray := prog_3_method_8_code
def yX1_keep : MethodName := ⟨RX1, "keep", "(I)V"⟩
abbrev cX1_numbersOf : ByteArray := prog_3_method_9_code
def yX1_numbersOf : MethodName := ⟨RX1, "numbersOf", "(I)I"⟩
def RX2 : String := "PhaseCells$Sight"
def TX2 : u_T := fun k => match k with
  | 0 => ("PhaseCells$Sight", "state", "LPhaseCells$State;", true)
  | 1 => ("PhaseCells$Sight", "known", "[I", true)
  | 2 => ("PhaseCells$Sight", "nearer", "[I", true)
  | 3 => ("PhaseCells$Sight", "further", "[I", true)
  | 4 => ("PhaseCells$Sight", "residues", "[I", true)
  | 5 => ("PhaseCells$Sight", "firstFit", "I", false)
  | 6 => ("PhaseCells$Sight", "lastFit", "I", false)
  | _ => ("PhaseCells$Sight", "best", "I", false)
def tyX2 : Nat → FieldType := fun k => match k with
  | 0 => .object "PhaseCells$State"
  | 1 => .array .int
  | 2 => .array .int
  | 3 => .array .int
  | 4 => .array .int
  | 5 => .int
  | 6 => .int
  | _ => .int
abbrev wsX20 : List Cond := u_ws RX2 TX2 8
theorem nmX2 : ∀ a, a < 8 → ∀ b, b < 8 → a ≠ b → (TX2 a).2.1 ≠ (TX2 b).2.1 := by decide +kernel
theorem tyX2_ok : ∀ k, k < 8 → parseFieldDescriptor (TX2 k).2.2.1 = some (tyX2 k) := by decide +kernel
abbrev cX2_init : ByteArray := prog_4_method_1_code
def yX2_init : MethodName := ⟨RX2, "<init>", "()V"⟩
abbrev cX2_forget : ByteArray := prog_4_method_2_code
def yX2_forget : MethodName := ⟨RX2, "forget", "()V"⟩
abbrev cX2_markOf : ByteArray := prog_4_method_3_code
def yX2_markOf : MethodName := ⟨RX2, "markOf", "(I)I"⟩
abbrev cX2_distanceOf : ByteArray := prog_4_method_4_code
def yX2_distanceOf : MethodName := ⟨RX2, "distanceOf", "(I)I"⟩
abbrev cX2_nearOf : ByteArray := prog_4_method_5_code
def yX2_nearOf : MethodName := ⟨RX2, "nearOf", "(I)I"⟩
abbrev cX2_beyondOf : ByteArray := prog_4_method_6_code
def yX2_beyondOf : MethodName := ⟨RX2, "beyondOf", "(I)I"⟩
abbrev cX2_reckon : ByteArray := prog_4_method_7_code
def yX2_reckon : MethodName := ⟨RX2, "reckon", "(I)I"⟩
abbrev cX2_reckonPairs : ByteArray := prog_4_method_8_code
def yX2_reckonPairs : MethodName := ⟨RX2, "reckonPairs", "(I)I"⟩
abbrev cX2_search : ByteArray := prog_4_method_9_code
def yX2_search : MethodName := ⟨RX2, "search", "(I)Z"⟩
abbrev cX2_widestGap : ByteArray := prog_4_method_10_code
def yX2_widestGap : MethodName := ⟨RX2, "widestGap", "(II)I"⟩
abbrev cX2_misfit : ByteArray := prog_4_method_11_code
def yX2_misfit : MethodName := ⟨RX2, "misfit", "(II)I"⟩
abbrev cX2_filled : ByteArray := prog_4_method_12_code
def yX2_filled : MethodName := ⟨RX2, "filled", "(III)I"⟩
abbrev cX2_shift : ByteArray := prog_4_method_13_code
def yX2_shift : MethodName := ⟨RX2, "shift", "(II)I"⟩
abbrev cX2_meanBits : ByteArray := prog_4_method_14_code
def yX2_meanBits : MethodName := ⟨RX2, "meanBits", "(I)J"⟩
def RX3 : String := "PhaseCells$Signal"
def TX3 : u_T := fun k => match k with
  | _ => ("", "", "", false)
def tyX3 : Nat → FieldType := fun k => match k with
  | _ => .int
abbrev wsX30 : List Cond := u_ws RX3 TX3 0
theorem nmX3 : ∀ a, a < 0 → ∀ b, b < 0 → a ≠ b → (TX3 a).2.1 ≠ (TX3 b).2.1 := by decide +kernel
theorem tyX3_ok : ∀ k, k < 0 → parseFieldDescriptor (TX3 k).2.2.1 = some (tyX3 k) := by decide +kernel
abbrev cX3_size : ByteArray := prog_5_method_2_code
def yX3_size : MethodName := ⟨RX3, "size", "(II)I"⟩
abbrev cX3_strength : ByteArray := prog_5_method_3_code
def yX3_strength : MethodName := ⟨RX3, "strength", "(II)F"⟩
abbrev cX3_phase : ByteArray := prog_5_method_4_code
def yX3_phase : MethodName := ⟨RX3, "phase", "(II)F"⟩
abbrev cX3_residue : ByteArray := prog_5_method_5_code
def yX3_residue : MethodName := ⟨RX3, "residue", "(III)I"⟩
abbrev cX3_awayFrom : ByteArray := prog_5_method_6_code
def yX3_awayFrom : MethodName := ⟨RX3, "awayFrom", "(III)I"⟩
abbrev cX3_gap : ByteArray := prog_5_method_7_code
def yX3_gap : MethodName := ⟨RX3, "gap", "(IIII)I"⟩
def RX4 : String := "PhaseCells$State"
def TX4 : u_T := fun k => match k with
  | 0 => ("PhaseCells$State", "width", "I", false)
  | 1 => ("PhaseCells$State", "height", "I", false)
  | 2 => ("PhaseCells$State", "waves", "[I", true)
  | 3 => ("PhaseCells$State", "settings", "[I", true)
  | _ => ("PhaseCells$State", "samples", "[I", true)
def tyX4 : Nat → FieldType := fun k => match k with
  | 0 => .int
  | 1 => .int
  | 2 => .array .int
  | 3 => .array .int
  | _ => .array .int
abbrev wsX40 : List Cond := u_ws RX4 TX4 5
theorem nmX4 : ∀ a, a < 5 → ∀ b, b < 5 → a ≠ b → (TX4 a).2.1 ≠ (TX4 b).2.1 := by decide +kernel
theorem tyX4_ok : ∀ k, k < 5 → parseFieldDescriptor (TX4 k).2.2.1 = some (tyX4 k) := by decide +kernel
abbrev cX4_init : ByteArray := prog_6_method_1_code
def yX4_init : MethodName := ⟨RX4, "<init>", "()V"⟩
abbrev cX4_copyFrom : ByteArray := prog_6_method_2_code
def yX4_copyFrom : MethodName := ⟨RX4, "copyFrom", "(LPhaseCells$State;)V"⟩
abbrev cX4_place : ByteArray := prog_6_method_3_code
def yX4_place : MethodName := ⟨RX4, "place", "(III)I"⟩
abbrev cX4_setting : ByteArray := prog_6_method_4_code
def yX4_setting : MethodName := ⟨RX4, "setting", "(I)I"⟩
abbrev cX4_layGrid : ByteArray := prog_6_method_5_code
def yX4_layGrid : MethodName := ⟨RX4, "layGrid", "(II)I"⟩
abbrev cX4_putWave : ByteArray := prog_6_method_6_code
def yX4_putWave : MethodName := ⟨RX4, "putWave", "(II)I"⟩
abbrev cX4_putSetting : ByteArray := prog_6_method_7_code
def yX4_putSetting : MethodName := ⟨RX4, "putSetting", "(II)I"⟩
abbrev cX4_putSample : ByteArray := prog_6_method_8_code
def yX4_putSample : MethodName := ⟨RX4, "putSample", "(IIII)I"⟩
abbrev cX4_layEcho : ByteArray := prog_6_method_9_code
def yX4_layEcho : MethodName := ⟨RX4, "layEcho", "(III)I"⟩
abbrev cX4_layEchoOfRate : ByteArray := prog_6_method_10_code
def yX4_layEchoOfRate : MethodName := ⟨RX4, "layEchoOfRate", "(IIII)V"⟩
abbrev cX4_addSignal : ByteArray := prog_6_method_11_code
def yX4_addSignal : MethodName := ⟨RX4, "addSignal", "(III)V"⟩
abbrev cX4_brighten : ByteArray := prog_6_method_12_code
def yX4_brighten : MethodName := ⟨RX4, "brighten", "(II)V"⟩
abbrev cX4_addLight : ByteArray := prog_6_method_13_code
def yX4_addLight : MethodName := ⟨RX4, "addLight", "(II)I"⟩
abbrev cX4_countFrom : ByteArray := prog_6_method_14_code
def yX4_countFrom : MethodName := ⟨RX4, "countFrom", "(II)I"⟩
abbrev cX4_darken : ByteArray := prog_6_method_15_code
def yX4_darken : MethodName := ⟨RX4, "darken", "(I)I"⟩
abbrev cX4_sampleAt : ByteArray := prog_6_method_16_code
def yX4_sampleAt : MethodName := ⟨RX4, "sampleAt", "(III)I"⟩
abbrev cX4_across : ByteArray := prog_6_method_17_code
def yX4_across : MethodName := ⟨RX4, "across", "(II)I"⟩
abbrev cX4_along : ByteArray := prog_6_method_18_code
def yX4_along : MethodName := ⟨RX4, "along", "(II)I"⟩
abbrev cX4_strengthOf : ByteArray := prog_6_method_19_code
def yX4_strengthOf : MethodName := ⟨RX4, "strengthOf", "(II)F"⟩
abbrev cX4_brightness : ByteArray := prog_6_method_20_code
def yX4_brightness : MethodName := ⟨RX4, "brightness", "(I)F"⟩
abbrev cX4_isCell : ByteArray := prog_6_method_21_code
def yX4_isCell : MethodName := ⟨RX4, "isCell", "(I)Z"⟩
def RX5 : String := "PhaseCells"
def TX5 : u_T := fun k => match k with
  | 0 => ("PhaseCells", "sight", "LPhaseCells$Sight;", true)
  | 1 => ("PhaseCells", "now", "LPhaseCells$State;", true)
  | 2 => ("PhaseCells", "before", "LPhaseCells$State;", true)
  | 3 => ("PhaseCells", "states", "[LPhaseCells$State;", true)
  | 4 => ("PhaseCells", "stateCount", "I", false)
  | 5 => ("PhaseCells", "text", "LPhaseCells$OrderText;", true)
  | 6 => ("PhaseCells", "refusedBad", "I", false)
  | 7 => ("PhaseCells", "refusedNo", "I", false)
  | _ => ("PhaseCells", "refusedFull", "I", false)
def tyX5 : Nat → FieldType := fun k => match k with
  | 0 => .object "PhaseCells$Sight"
  | 1 => .object "PhaseCells$State"
  | 2 => .object "PhaseCells$State"
  | 3 => .array (.object "PhaseCells$State")
  | 4 => .int
  | 5 => .object "PhaseCells$OrderText"
  | 6 => .int
  | 7 => .int
  | _ => .int
abbrev wsX50 : List Cond := u_ws RX5 TX5 9
theorem nmX5 : ∀ a, a < 9 → ∀ b, b < 9 → a ≠ b → (TX5 a).2.1 ≠ (TX5 b).2.1 := by decide +kernel
theorem tyX5_ok : ∀ k, k < 9 → parseFieldDescriptor (TX5 k).2.2.1 = some (tyX5 k) := by decide +kernel
abbrev cX5_init : ByteArray := prog_1_method_1_code
def yX5_init : MethodName := ⟨RX5, "<init>", "()V"⟩
abbrev cX5_grid : ByteArray := prog_1_method_2_code
def yX5_grid : MethodName := ⟨RX5, "grid", "(II)I"⟩
abbrev cX5_wave : ByteArray := prog_1_method_3_code
def yX5_wave : MethodName := ⟨RX5, "wave", "(II)I"⟩
abbrev cX5_sets : ByteArray := prog_1_method_4_code
def yX5_sets : MethodName := ⟨RX5, "sets", "(II)I"⟩
abbrev cX5_sample : ByteArray := prog_1_method_5_code
def yX5_sample : MethodName := ⟨RX5, "sample", "(IIIIII)I"⟩
abbrev cX5_echo : ByteArray := prog_1_method_6_code
def yX5_echo : MethodName := ⟨RX5, "echo", "(IIIII)I"⟩
abbrev cX5_shines : ByteArray := prog_1_method_7_code
def yX5_shines : MethodName := ⟨RX5, "shines", "(IIII)I"⟩
abbrev cX5_clears : ByteArray := prog_1_method_8_code
def yX5_clears : MethodName := ⟨RX5, "clears", "(III)I"⟩
abbrev cX5_raw : ByteArray := prog_1_method_9_code
def yX5_raw : MethodName := ⟨RX5, "raw", "(IIIII)I"⟩
abbrev cX5_of : ByteArray := prog_1_method_10_code
def yX5_of : MethodName := ⟨RX5, "of", "(IIIII)I"⟩
abbrev cX5_bits : ByteArray := prog_1_method_11_code
def yX5_bits : MethodName := ⟨RX5, "bits", "(IIIII)I"⟩
abbrev cX5_wraps : ByteArray := prog_1_method_12_code
def yX5_wraps : MethodName := ⟨RX5, "wraps", "(IIII)I"⟩
abbrev cX5_away : ByteArray := prog_1_method_13_code
def yX5_away : MethodName := ⟨RX5, "away", "(IIIII)I"⟩
abbrev cX5_mark : ByteArray := prog_1_method_14_code
def yX5_mark : MethodName := ⟨RX5, "mark", "(III)I"⟩
abbrev cX5_cell : ByteArray := prog_1_method_15_code
def yX5_cell : MethodName := ⟨RX5, "cell", "(IIII)I"⟩
abbrev cX5_glow : ByteArray := prog_1_method_16_code
def yX5_glow : MethodName := ⟨RX5, "glow", "(III)I"⟩
abbrev cX5_motion : ByteArray := prog_1_method_17_code
def yX5_motion : MethodName := ⟨RX5, "motion", "(II)I"⟩
abbrev cX5_marks : ByteArray := prog_1_method_18_code
def yX5_marks : MethodName := ⟨RX5, "marks", "(II)I"⟩
abbrev cX5_moved : ByteArray := prog_1_method_19_code
def yX5_moved : MethodName := ⟨RX5, "moved", "()I"⟩
abbrev cX5_mean : ByteArray := prog_1_method_20_code
def yX5_mean : MethodName := ⟨RX5, "mean", "(I)J"⟩
abbrev cX5_told : ByteArray := prog_1_method_21_code
def yX5_told : MethodName := ⟨RX5, "told", "(I)I"⟩
abbrev cX5_type : ByteArray := prog_1_method_22_code
def yX5_type : MethodName := ⟨RX5, "type", "(I)I"⟩
abbrev cX5_clear : ByteArray := prog_1_method_23_code
def yX5_clear : MethodName := ⟨RX5, "clear", "()I"⟩
abbrev cX5_does : ByteArray := prog_1_method_24_code
def yX5_does : MethodName := ⟨RX5, "does", "()I"⟩
abbrev cX5_back : ByteArray := prog_1_method_25_code
def yX5_back : MethodName := ⟨RX5, "back", "()I"⟩
abbrev cX5_refused : ByteArray := prog_1_method_26_code
def yX5_refused : MethodName := ⟨RX5, "refused", "(I)I"⟩
abbrev cX5_digest : ByteArray := prog_1_method_27_code
def yX5_digest : MethodName := ⟨RX5, "digest", "()J"⟩
abbrev cX5_digestCell : ByteArray := prog_1_method_28_code
def yX5_digestCell : MethodName := ⟨RX5, "digestCell", "(JIII)J"⟩
abbrev cX5_tally : ByteArray := prog_1_method_29_code
def yX5_tally : MethodName := ⟨RX5, "tally", "(I)I"⟩
abbrev cX5_refuse : ByteArray := prog_1_method_30_code
def yX5_refuse : MethodName := ⟨RX5, "refuse", "(I)I"⟩
abbrev cX5_settle : ByteArray := prog_1_method_31_code
def yX5_settle : MethodName := ⟨RX5, "settle", "(I)I"⟩
abbrev cX5_keepBefore : ByteArray := prog_1_method_32_code
def yX5_keepBefore : MethodName := ⟨RX5, "keepBefore", "()V"⟩
abbrev cX5_perform : ByteArray := prog_1_method_33_code
def yX5_perform : MethodName := ⟨RX5, "perform", "(I)I"⟩
abbrev cX5_within : ByteArray := prog_1_method_34_code
def yX5_within : MethodName := ⟨RX5, "within", "(III)Z"⟩
def RX6 : String := "PhaseCellsModel"
def TX6 : u_T := fun k => match k with
  | 0 => ("PhaseCellsModel", "now", "[I", true)
  | 1 => ("PhaseCellsModel", "aside", "[I", true)
  | 2 => ("PhaseCellsModel", "past", "[I", true)
  | 3 => ("PhaseCellsModel", "states", "I", false)
  | 4 => ("PhaseCellsModel", "refusals", "[I", true)
  | 5 => ("PhaseCellsModel", "text", "[I", true)
  | 6 => ("PhaseCellsModel", "bytes", "I", false)
  | 7 => ("PhaseCellsModel", "mark", "I", false)
  | 8 => ("PhaseCellsModel", "distance", "I", false)
  | 9 => ("PhaseCellsModel", "near", "I", false)
  | 10 => ("PhaseCellsModel", "beyond", "I", false)
  | 11 => ("PhaseCellsModel", "residue", "[I", true)
  | 12 => ("PhaseCellsModel", "least", "I", false)
  | 13 => ("PhaseCellsModel", "greatest", "I", false)
  | 14 => ("PhaseCellsModel", "allMarks", "[I", true)
  | 15 => ("PhaseCellsModel", "allDistances", "[I", true)
  | 16 => ("PhaseCellsModel", "allNear", "[I", true)
  | 17 => ("PhaseCellsModel", "allBeyond", "[I", true)
  | 18 => ("PhaseCellsModel", "sumWeights", "F", false)
  | 19 => ("PhaseCellsModel", "sumDistances", "F", false)
  | 20 => ("PhaseCellsModel", "isFilled", "Z", false)
  | 21 => ("PhaseCellsModel", "letters", "[I", true)
  | 22 => ("PhaseCellsModel", "numbers", "[I", true)
  | 23 => ("PhaseCellsModel", "orders", "I", false)
  | 24 => ("PhaseCellsModel", "spot", "I", false)
  | 25 => ("PhaseCellsModel", "wrongAt", "I", false)
  | _ => ("PhaseCellsModel", "hash", "J", false)
def tyX6 : Nat → FieldType := fun k => match k with
  | 0 => .array .int
  | 1 => .array .int
  | 2 => .array .int
  | 3 => .int
  | 4 => .array .int
  | 5 => .array .int
  | 6 => .int
  | 7 => .int
  | 8 => .int
  | 9 => .int
  | 10 => .int
  | 11 => .array .int
  | 12 => .int
  | 13 => .int
  | 14 => .array .int
  | 15 => .array .int
  | 16 => .array .int
  | 17 => .array .int
  | 18 => .float
  | 19 => .float
  | 20 => .boolean
  | 21 => .array .int
  | 22 => .array .int
  | 23 => .int
  | 24 => .int
  | 25 => .int
  | _ => .long
abbrev wsX60 : List Cond := u_ws RX6 TX6 27
theorem nmX6 : ∀ a, a < 27 → ∀ b, b < 27 → a ≠ b → (TX6 a).2.1 ≠ (TX6 b).2.1 := by decide +kernel
theorem tyX6_ok : ∀ k, k < 27 → parseFieldDescriptor (TX6 k).2.2.1 = some (tyX6 k) := by decide +kernel
abbrev cX6_init : ByteArray := prog_8_method_1_code
def yX6_init : MethodName := ⟨RX6, "<init>", "()V"⟩
abbrev cX6_in : ByteArray := prog_8_method_3_code
def yX6_in : MethodName := ⟨RX6, "in", "(III)Z"⟩
abbrev cX6_bad : ByteArray := prog_8_method_4_code
def yX6_bad : MethodName := ⟨RX6, "bad", "()I"⟩
abbrev cX6_no : ByteArray := prog_8_method_5_code
def yX6_no : MethodName := ⟨RX6, "no", "()I"⟩
abbrev cX6_laysAside : ByteArray := prog_8_method_6_code
def yX6_laysAside : MethodName := ⟨RX6, "laysAside", "()V"⟩
abbrev cX6_remembers : ByteArray := prog_8_method_7_code
def yX6_remembers : MethodName := ⟨RX6, "remembers", "()V"⟩
abbrev cX6_back : ByteArray := prog_8_method_8_code
def yX6_back : MethodName := ⟨RX6, "back", "()I"⟩
abbrev cX6_finished : ByteArray := prog_8_method_9_code
def yX6_finished : MethodName := ⟨RX6, "finished", "(I)I"⟩
abbrev cX6_isCell : ByteArray := prog_8_method_10_code
def yX6_isCell : MethodName := ⟨RX6, "isCell", "(III)Z"⟩
abbrev cX6_cellPlace : ByteArray := prog_8_method_11_code
def yX6_cellPlace : MethodName := ⟨RX6, "cellPlace", "(III)I"⟩
abbrev cX6_raised : ByteArray := prog_8_method_12_code
def yX6_raised : MethodName := ⟨RX6, "raised", "(II)I"⟩
abbrev cX6_fullOnes : ByteArray := prog_8_method_13_code
def yX6_fullOnes : MethodName := ⟨RX6, "fullOnes", "(I)I"⟩
abbrev cX6_putGrid : ByteArray := prog_8_method_14_code
def yX6_putGrid : MethodName := ⟨RX6, "putGrid", "(II)I"⟩
abbrev cX6_putWave : ByteArray := prog_8_method_15_code
def yX6_putWave : MethodName := ⟨RX6, "putWave", "(II)I"⟩
abbrev cX6_maySet : ByteArray := prog_8_method_16_code
def yX6_maySet : MethodName := ⟨RX6, "maySet", "(II)Z"⟩
abbrev cX6_putSetting : ByteArray := prog_8_method_17_code
def yX6_putSetting : MethodName := ⟨RX6, "putSetting", "(II)I"⟩
abbrev cX6_putSample : ByteArray := prog_8_method_18_code
def yX6_putSample : MethodName := ⟨RX6, "putSample", "(II)I"⟩
abbrev cX6_echoParts : ByteArray := prog_8_method_19_code
def yX6_echoParts : MethodName := ⟨RX6, "echoParts", "(IF)I"⟩
abbrev cX6_putEcho : ByteArray := prog_8_method_20_code
def yX6_putEcho : MethodName := ⟨RX6, "putEcho", "(IIIII)I"⟩
abbrev cX6_putShine : ByteArray := prog_8_method_21_code
def yX6_putShine : MethodName := ⟨RX6, "putShine", "(IIII)I"⟩
abbrev cX6_putClear : ByteArray := prog_8_method_22_code
def yX6_putClear : MethodName := ⟨RX6, "putClear", "(III)I"⟩
abbrev cX6_grid : ByteArray := prog_8_method_23_code
def yX6_grid : MethodName := ⟨RX6, "grid", "(II)I"⟩
abbrev cX6_wave : ByteArray := prog_8_method_24_code
def yX6_wave : MethodName := ⟨RX6, "wave", "(II)I"⟩
abbrev cX6_sets : ByteArray := prog_8_method_25_code
def yX6_sets : MethodName := ⟨RX6, "sets", "(II)I"⟩
abbrev cX6_sample : ByteArray := prog_8_method_26_code
def yX6_sample : MethodName := ⟨RX6, "sample", "(IIIIII)I"⟩
abbrev cX6_echo : ByteArray := prog_8_method_27_code
def yX6_echo : MethodName := ⟨RX6, "echo", "(IIIII)I"⟩
abbrev cX6_shines : ByteArray := prog_8_method_28_code
def yX6_shines : MethodName := ⟨RX6, "shines", "(IIII)I"⟩
abbrev cX6_clears : ByteArray := prog_8_method_29_code
def yX6_clears : MethodName := ⟨RX6, "clears", "(III)I"⟩
abbrev cX6_acrossOf : ByteArray := prog_8_method_30_code
def yX6_acrossOf : MethodName := ⟨RX6, "acrossOf", "(I)I"⟩
abbrev cX6_downOf : ByteArray := prog_8_method_31_code
def yX6_downOf : MethodName := ⟨RX6, "downOf", "(I)I"⟩
abbrev cX6_size : ByteArray := prog_8_method_32_code
def yX6_size : MethodName := ⟨RX6, "size", "(I)I"⟩
abbrev cX6_sumOf : ByteArray := prog_8_method_33_code
def yX6_sumOf : MethodName := ⟨RX6, "sumOf", "(I)I"⟩
abbrev cX6_strengthOf : ByteArray := prog_8_method_34_code
def yX6_strengthOf : MethodName := ⟨RX6, "strengthOf", "(I)F"⟩
abbrev cX6_phaseOf : ByteArray := prog_8_method_35_code
def yX6_phaseOf : MethodName := ⟨RX6, "phaseOf", "(I)F"⟩
abbrev cX6_residueOf : ByteArray := prog_8_method_36_code
def yX6_residueOf : MethodName := ⟨RX6, "residueOf", "(II)I"⟩
abbrev cX6_awayOf : ByteArray := prog_8_method_37_code
def yX6_awayOf : MethodName := ⟨RX6, "awayOf", "(III)I"⟩
abbrev cX6_isRate : ByteArray := prog_8_method_38_code
def yX6_isRate : MethodName := ⟨RX6, "isRate", "(IIII)Z"⟩
abbrev cX6_raw : ByteArray := prog_8_method_39_code
def yX6_raw : MethodName := ⟨RX6, "raw", "(IIIII)I"⟩
abbrev cX6_of : ByteArray := prog_8_method_40_code
def yX6_of : MethodName := ⟨RX6, "of", "(IIIII)I"⟩
abbrev cX6_bits : ByteArray := prog_8_method_41_code
def yX6_bits : MethodName := ⟨RX6, "bits", "(IIIII)I"⟩
abbrev cX6_away : ByteArray := prog_8_method_42_code
def yX6_away : MethodName := ⟨RX6, "away", "(IIIII)I"⟩
abbrev cX6_isBright : ByteArray := prog_8_method_43_code
def yX6_isBright : MethodName := ⟨RX6, "isBright", "(I)Z"⟩
abbrev cX6_isDark : ByteArray := prog_8_method_44_code
def yX6_isDark : MethodName := ⟨RX6, "isDark", "(I)Z"⟩
abbrev cX6_bestOf : ByteArray := prog_8_method_45_code
def yX6_bestOf : MethodName := ⟨RX6, "bestOf", "(I)I"⟩
abbrev cX6_widens : ByteArray := prog_8_method_46_code
def yX6_widens : MethodName := ⟨RX6, "widens", "(I)V"⟩
abbrev cX6_looksAt : ByteArray := prog_8_method_47_code
def yX6_looksAt : MethodName := ⟨RX6, "looksAt", "(I)V"⟩
abbrev cX6_looksAtAll : ByteArray := prog_8_method_48_code
def yX6_looksAtAll : MethodName := ⟨RX6, "looksAtAll", "(I)V"⟩
abbrev cX6_wraps : ByteArray := prog_8_method_49_code
def yX6_wraps : MethodName := ⟨RX6, "wraps", "(IIII)I"⟩
abbrev cX6_mark : ByteArray := prog_8_method_50_code
def yX6_mark : MethodName := ⟨RX6, "mark", "(III)I"⟩
abbrev cX6_glowOf : ByteArray := prog_8_method_51_code
def yX6_glowOf : MethodName := ⟨RX6, "glowOf", "(I)F"⟩
abbrev cX6_weighs : ByteArray := prog_8_method_52_code
def yX6_weighs : MethodName := ⟨RX6, "weighs", "(IIIF)V"⟩
abbrev cX6_filledOf : ByteArray := prog_8_method_53_code
def yX6_filledOf : MethodName := ⟨RX6, "filledOf", "(III)I"⟩
abbrev cX6_cell : ByteArray := prog_8_method_54_code
def yX6_cell : MethodName := ⟨RX6, "cell", "(IIII)I"⟩
abbrev cX6_glow : ByteArray := prog_8_method_55_code
def yX6_glow : MethodName := ⟨RX6, "glow", "(III)I"⟩
abbrev cX6_motionOf : ByteArray := prog_8_method_56_code
def yX6_motionOf : MethodName := ⟨RX6, "motionOf", "(II)I"⟩
abbrev cX6_motion : ByteArray := prog_8_method_57_code
def yX6_motion : MethodName := ⟨RX6, "motion", "(II)I"⟩
abbrev cX6_marks : ByteArray := prog_8_method_58_code
def yX6_marks : MethodName := ⟨RX6, "marks", "(II)I"⟩
abbrev cX6_moved : ByteArray := prog_8_method_59_code
def yX6_moved : MethodName := ⟨RX6, "moved", "()I"⟩
abbrev cX6_meanOf : ByteArray := prog_8_method_60_code
def yX6_meanOf : MethodName := ⟨RX6, "meanOf", "(I)J"⟩
abbrev cX6_mean : ByteArray := prog_8_method_61_code
def yX6_mean : MethodName := ⟨RX6, "mean", "(I)J"⟩
abbrev cX6_told : ByteArray := prog_8_method_62_code
def yX6_told : MethodName := ⟨RX6, "told", "(I)I"⟩
abbrev cX6_type : ByteArray := prog_8_method_63_code
def yX6_type : MethodName := ⟨RX6, "type", "(I)I"⟩
abbrev cX6_clear : ByteArray := prog_8_method_64_code
def yX6_clear : MethodName := ⟨RX6, "clear", "()I"⟩
abbrev cX6_isAt : ByteArray := prog_8_method_65_code
def yX6_isAt : MethodName := ⟨RX6, "isAt", "(II)Z"⟩
abbrev cX6_blanks : ByteArray := prog_8_method_66_code
def yX6_blanks : MethodName := ⟨RX6, "blanks", "()V"⟩
abbrev cX6_fails : ByteArray := prog_8_method_67_code
def yX6_fails : MethodName := ⟨RX6, "fails", "(I)Z"⟩
abbrev cX6_manyOf : ByteArray := prog_8_method_68_code
def yX6_manyOf : MethodName := ⟨RX6, "manyOf", "(I)I"⟩
abbrev cX6_takesNumber : ByteArray := prog_8_method_69_code
def yX6_takesNumber : MethodName := ⟨RX6, "takesNumber", "(I)Z"⟩
abbrev cX6_takesOrder : ByteArray := prog_8_method_70_code
def yX6_takesOrder : MethodName := ⟨RX6, "takesOrder", "()Z"⟩
abbrev cX6_isRead : ByteArray := prog_8_method_71_code
def yX6_isRead : MethodName := ⟨RX6, "isRead", "()Z"⟩
abbrev cX6_doneOne : ByteArray := prog_8_method_72_code
def yX6_doneOne : MethodName := ⟨RX6, "doneOne", "(I)I"⟩
abbrev cX6_does : ByteArray := prog_8_method_73_code
def yX6_does : MethodName := ⟨RX6, "does", "()I"⟩
abbrev cX6_refusedOf : ByteArray := prog_8_method_74_code
def yX6_refusedOf : MethodName := ⟨RX6, "refusedOf", "(I)I"⟩
abbrev cX6_refused : ByteArray := prog_8_method_75_code
def yX6_refused : MethodName := ⟨RX6, "refused", "(I)I"⟩
abbrev cX6_mix : ByteArray := prog_8_method_76_code
def yX6_mix : MethodName := ⟨RX6, "mix", "(J)V"⟩
abbrev cX6_mixCells : ByteArray := prog_8_method_77_code
def yX6_mixCells : MethodName := ⟨RX6, "mixCells", "(I)V"⟩
abbrev cX6_digest : ByteArray := prog_8_method_78_code
def yX6_digest : MethodName := ⟨RX6, "digest", "()J"⟩
def RJx145de : String := "java/io/Serializable"
def TJx145de : u_T := fun k => match k with
  | _ => ("", "", "", false)
def tyJx145de : Nat → FieldType := fun k => match k with
  | _ => .int
abbrev wsJx145de0 : List Cond := u_ws RJx145de TJx145de 0
theorem nmJx145de : ∀ a, a < 0 → ∀ b, b < 0 → a ≠ b → (TJx145de a).2.1 ≠ (TJx145de b).2.1 := by decide +kernel
theorem tyJx145de_ok : ∀ k, k < 0 → parseFieldDescriptor (TJx145de k).2.2.1 = some (tyJx145de k) := by decide +kernel
def RJxb160c : String := "java/lang/Comparable"
def TJxb160c : u_T := fun k => match k with
  | _ => ("", "", "", false)
def tyJxb160c : Nat → FieldType := fun k => match k with
  | _ => .int
abbrev wsJxb160c0 : List Cond := u_ws RJxb160c TJxb160c 0
theorem nmJxb160c : ∀ a, a < 0 → ∀ b, b < 0 → a ≠ b → (TJxb160c a).2.1 ≠ (TJxb160c b).2.1 := by decide +kernel
theorem tyJxb160c_ok : ∀ k, k < 0 → parseFieldDescriptor (TJxb160c k).2.2.1 = some (tyJxb160c k) := by decide +kernel
def RJxe99ae : String := "java/lang/Double"
def TJxe99ae : u_T := fun k => match k with
  | _ => ("", "", "", false)
def tyJxe99ae : Nat → FieldType := fun k => match k with
  | _ => .int
abbrev wsJxe99ae0 : List Cond := u_ws RJxe99ae TJxe99ae 0
theorem nmJxe99ae : ∀ a, a < 0 → ∀ b, b < 0 → a ≠ b → (TJxe99ae a).2.1 ≠ (TJxe99ae b).2.1 := by decide +kernel
theorem tyJxe99ae_ok : ∀ k, k < 0 → parseFieldDescriptor (TJxe99ae k).2.2.1 = some (tyJxe99ae k) := by decide +kernel
abbrev cJxe99ae_isNaN_b9ae7 : ByteArray := prog_9_method_6_code
def yJxe99ae_isNaN_b9ae7 : MethodName := ⟨RJxe99ae, "isNaN", "(D)Z"⟩
abbrev cJxe99ae_doubleToLongBits_ccdee : ByteArray := prog_9_method_23_code
def yJxe99ae_doubleToLongBits_ccdee : MethodName := ⟨RJxe99ae, "doubleToLongBits", "(D)J"⟩
def RJxf58ca : String := "java/lang/Float"
def TJxf58ca : u_T := fun k => match k with
  | _ => ("", "", "", false)
def tyJxf58ca : Nat → FieldType := fun k => match k with
  | _ => .int
abbrev wsJxf58ca0 : List Cond := u_ws RJxf58ca TJxf58ca 0
theorem nmJxf58ca : ∀ a, a < 0 → ∀ b, b < 0 → a ≠ b → (TJxf58ca a).2.1 ≠ (TJxf58ca b).2.1 := by decide +kernel
theorem tyJxf58ca_ok : ∀ k, k < 0 → parseFieldDescriptor (TJxf58ca k).2.2.1 = some (tyJxf58ca k) := by decide +kernel
abbrev cJxf58ca_isNaN_12338 : ByteArray := prog_10_method_6_code
def yJxf58ca_isNaN_12338 : MethodName := ⟨RJxf58ca, "isNaN", "(F)Z"⟩
abbrev cJxf58ca_floatToIntBits_5c35a : ByteArray := prog_10_method_24_code
def yJxf58ca_floatToIntBits_5c35a : MethodName := ⟨RJxf58ca, "floatToIntBits", "(F)I"⟩
def RJ9 : String := "java/lang/Math"
def TJ9 : u_T := fun k => match k with
  | _ => ("", "", "", false)
def tyJ9 : Nat → FieldType := fun k => match k with
  | _ => .int
abbrev wsJ90 : List Cond := u_ws RJ9 TJ9 0
theorem nmJ9 : ∀ a, a < 0 → ∀ b, b < 0 → a ≠ b → (TJ9 a).2.1 ≠ (TJ9 b).2.1 := by decide +kernel
theorem tyJ9_ok : ∀ k, k < 0 → parseFieldDescriptor (TJ9 k).2.2.1 = some (tyJ9 k) := by decide +kernel
abbrev cJ9_abs_0f7a4 : ByteArray := prog_11_method_59_code
def yJ9_abs_0f7a4 : MethodName := ⟨RJ9, "abs", "(I)I"⟩
abbrev cJ9_max_7cf53 : ByteArray := prog_11_method_65_code
def yJ9_max_7cf53 : MethodName := ⟨RJ9, "max", "(II)I"⟩
abbrev cJ9_min_7cf53 : ByteArray := prog_11_method_69_code
def yJ9_min_7cf53 : MethodName := ⟨RJ9, "min", "(II)I"⟩
def RJxd2413 : String := "java/lang/Number"
def TJxd2413 : u_T := fun k => match k with
  | _ => ("", "", "", false)
def tyJxd2413 : Nat → FieldType := fun k => match k with
  | _ => .int
abbrev wsJxd24130 : List Cond := u_ws RJxd2413 TJxd2413 0
theorem nmJxd2413 : ∀ a, a < 0 → ∀ b, b < 0 → a ≠ b → (TJxd2413 a).2.1 ≠ (TJxd2413 b).2.1 := by decide +kernel
theorem tyJxd2413_ok : ∀ k, k < 0 → parseFieldDescriptor (TJxd2413 k).2.2.1 = some (tyJxd2413 k) := by decide +kernel
def RJ10 : String := "java/lang/System"
def TJ10 : u_T := fun k => match k with
  | _ => ("", "", "", false)
def tyJ10 : Nat → FieldType := fun k => match k with
  | _ => .int
abbrev wsJ100 : List Cond := u_ws RJ10 TJ10 0
theorem nmJ10 : ∀ a, a < 0 → ∀ b, b < 0 → a ≠ b → (TJ10 a).2.1 ≠ (TJ10 b).2.1 := by decide +kernel
theorem tyJ10_ok : ∀ k, k < 0 → parseFieldDescriptor (TJ10 k).2.2.1 = some (tyJ10 k) := by decide +kernel
def RJxfd54e : String := "java/lang/constant/Constable"
def TJxfd54e : u_T := fun k => match k with
  | _ => ("", "", "", false)
def tyJxfd54e : Nat → FieldType := fun k => match k with
  | _ => .int
abbrev wsJxfd54e0 : List Cond := u_ws RJxfd54e TJxfd54e 0
theorem nmJxfd54e : ∀ a, a < 0 → ∀ b, b < 0 → a ≠ b → (TJxfd54e a).2.1 ≠ (TJxfd54e b).2.1 := by decide +kernel
theorem tyJxfd54e_ok : ∀ k, k < 0 → parseFieldDescriptor (TJxfd54e k).2.2.1 = some (tyJxfd54e k) := by decide +kernel
def RJx3cf43 : String := "java/lang/constant/ConstantDesc"
def TJx3cf43 : u_T := fun k => match k with
  | _ => ("", "", "", false)
def tyJx3cf43 : Nat → FieldType := fun k => match k with
  | _ => .int
abbrev wsJx3cf430 : List Cond := u_ws RJx3cf43 TJx3cf43 0
theorem nmJx3cf43 : ∀ a, a < 0 → ∀ b, b < 0 → a ≠ b → (TJx3cf43 a).2.1 ≠ (TJx3cf43 b).2.1 := by decide +kernel
theorem tyJx3cf43_ok : ∀ k, k < 0 → parseFieldDescriptor (TJx3cf43 k).2.2.1 = some (tyJx3cf43 k) := by decide +kernel
def RJ7 : String := "java/util/Arrays"
def TJ7 : u_T := fun k => match k with
  | _ => ("", "", "", false)
def tyJ7 : Nat → FieldType := fun k => match k with
  | _ => .int
abbrev wsJ70 : List Cond := u_ws RJ7 TJ7 0
theorem nmJ7 : ∀ a, a < 0 → ∀ b, b < 0 → a ≠ b → (TJ7 a).2.1 ≠ (TJ7 b).2.1 := by decide +kernel
theorem tyJ7_ok : ∀ k, k < 0 → parseFieldDescriptor (TJ7 k).2.2.1 = some (tyJ7 k) := by decide +kernel
abbrev cJ7_fill_53178 : ByteArray := prog_14_method_103_code
def yJ7_fill_53178 : MethodName := ⟨RJ7, "fill", "([II)V"⟩
def RL : String := "PhaseCellsLaw"
abbrev cL_law : ByteArray := code
end
section
theorem dJxe99ae_isNaN_b9ae7_0 : decode cJxe99ae_isNaN_b9ae7 0 = .ok (.dload_n 0, 1) := by decide +kernel
theorem dJxe99ae_isNaN_b9ae7_1 : decode cJxe99ae_isNaN_b9ae7 1 = .ok (.dload_n 0, 1) := by decide +kernel
theorem dJxe99ae_isNaN_b9ae7_2 : decode cJxe99ae_isNaN_b9ae7 2 = .ok (.dcmp .l, 1) := by decide +kernel
theorem dJxe99ae_isNaN_b9ae7_3 : decode cJxe99ae_isNaN_b9ae7 3 = .ok (.ifCond .eq 7, 3) := by decide +kernel
theorem dJxe99ae_isNaN_b9ae7_6 : decode cJxe99ae_isNaN_b9ae7 6 = .ok (.iconst 1, 1) := by decide +kernel
theorem dJxe99ae_isNaN_b9ae7_7 : decode cJxe99ae_isNaN_b9ae7 7 = .ok (.goto 4, 3) := by decide +kernel
theorem dJxe99ae_isNaN_b9ae7_10 : decode cJxe99ae_isNaN_b9ae7 10 = .ok (.iconst 0, 1) := by decide +kernel
theorem dJxe99ae_isNaN_b9ae7_11 : decode cJxe99ae_isNaN_b9ae7 11 = .ok (.ireturn, 1) := by decide +kernel
theorem dJxe99ae_doubleToLongBits_ccdee_0 : decode cJxe99ae_doubleToLongBits_ccdee 0 = .ok (.dload_n 0, 1) := by decide +kernel
theorem dJxe99ae_doubleToLongBits_ccdee_1 : decode cJxe99ae_doubleToLongBits_ccdee 1 = .ok (.invokestatic 122, 3) := by decide +kernel
theorem dJxe99ae_doubleToLongBits_ccdee_4 : decode cJxe99ae_doubleToLongBits_ccdee 4 = .ok (.ifCond .ne 8, 3) := by decide +kernel
theorem dJxe99ae_doubleToLongBits_ccdee_7 : decode cJxe99ae_doubleToLongBits_ccdee 7 = .ok (.dload_n 0, 1) := by decide +kernel
theorem dJxe99ae_doubleToLongBits_ccdee_8 : decode cJxe99ae_doubleToLongBits_ccdee 8 = .ok (.invokestatic 134, 3) := by decide +kernel
theorem dJxe99ae_doubleToLongBits_ccdee_11 : decode cJxe99ae_doubleToLongBits_ccdee 11 = .ok (.lreturn, 1) := by decide +kernel
theorem dJxe99ae_doubleToLongBits_ccdee_12 : decode cJxe99ae_doubleToLongBits_ccdee 12 = .ok (.ldc2_w 137, 3) := by decide +kernel
theorem dJxe99ae_doubleToLongBits_ccdee_15 : decode cJxe99ae_doubleToLongBits_ccdee 15 = .ok (.lreturn, 1) := by decide +kernel
theorem dJxf58ca_isNaN_12338_0 : decode cJxf58ca_isNaN_12338 0 = .ok (.fload_n 0, 1) := by decide +kernel
theorem dJxf58ca_isNaN_12338_1 : decode cJxf58ca_isNaN_12338 1 = .ok (.fload_n 0, 1) := by decide +kernel
theorem dJxf58ca_isNaN_12338_2 : decode cJxf58ca_isNaN_12338 2 = .ok (.fcmp .l, 1) := by decide +kernel
theorem dJxf58ca_isNaN_12338_3 : decode cJxf58ca_isNaN_12338 3 = .ok (.ifCond .eq 7, 3) := by decide +kernel
theorem dJxf58ca_isNaN_12338_6 : decode cJxf58ca_isNaN_12338 6 = .ok (.iconst 1, 1) := by decide +kernel
theorem dJxf58ca_isNaN_12338_7 : decode cJxf58ca_isNaN_12338 7 = .ok (.goto 4, 3) := by decide +kernel
theorem dJxf58ca_isNaN_12338_10 : decode cJxf58ca_isNaN_12338 10 = .ok (.iconst 0, 1) := by decide +kernel
theorem dJxf58ca_isNaN_12338_11 : decode cJxf58ca_isNaN_12338 11 = .ok (.ireturn, 1) := by decide +kernel
theorem dJxf58ca_floatToIntBits_5c35a_0 : decode cJxf58ca_floatToIntBits_5c35a 0 = .ok (.fload_n 0, 1) := by decide +kernel
theorem dJxf58ca_floatToIntBits_5c35a_1 : decode cJxf58ca_floatToIntBits_5c35a 1 = .ok (.invokestatic 59, 3) := by decide +kernel
theorem dJxf58ca_floatToIntBits_5c35a_4 : decode cJxf58ca_floatToIntBits_5c35a 4 = .ok (.ifCond .ne 8, 3) := by decide +kernel
theorem dJxf58ca_floatToIntBits_5c35a_7 : decode cJxf58ca_floatToIntBits_5c35a 7 = .ok (.fload_n 0, 1) := by decide +kernel
theorem dJxf58ca_floatToIntBits_5c35a_8 : decode cJxf58ca_floatToIntBits_5c35a 8 = .ok (.invokestatic 74, 3) := by decide +kernel
theorem dJxf58ca_floatToIntBits_5c35a_11 : decode cJxf58ca_floatToIntBits_5c35a 11 = .ok (.ireturn, 1) := by decide +kernel
theorem dJxf58ca_floatToIntBits_5c35a_12 : decode cJxf58ca_floatToIntBits_5c35a 12 = .ok (.ldc 77, 2) := by decide +kernel
theorem dJxf58ca_floatToIntBits_5c35a_14 : decode cJxf58ca_floatToIntBits_5c35a 14 = .ok (.ireturn, 1) := by decide +kernel
theorem dJ9_abs_0f7a4_0 : decode cJ9_abs_0f7a4 0 = .ok (.iload_n 0, 1) := by decide +kernel
theorem dJ9_abs_0f7a4_1 : decode cJ9_abs_0f7a4 1 = .ok (.ifCond .ge 8, 3) := by decide +kernel
theorem dJ9_abs_0f7a4_4 : decode cJ9_abs_0f7a4 4 = .ok (.iload_n 0, 1) := by decide +kernel
theorem dJ9_abs_0f7a4_5 : decode cJ9_abs_0f7a4 5 = .ok (.ineg, 1) := by decide +kernel
theorem dJ9_abs_0f7a4_6 : decode cJ9_abs_0f7a4 6 = .ok (.goto 4, 3) := by decide +kernel
theorem dJ9_abs_0f7a4_9 : decode cJ9_abs_0f7a4 9 = .ok (.iload_n 0, 1) := by decide +kernel
theorem dJ9_abs_0f7a4_10 : decode cJ9_abs_0f7a4 10 = .ok (.ireturn, 1) := by decide +kernel
theorem dJ9_max_7cf53_0 : decode cJ9_max_7cf53 0 = .ok (.iload_n 0, 1) := by decide +kernel
theorem dJ9_max_7cf53_1 : decode cJ9_max_7cf53 1 = .ok (.iload_n 1, 1) := by decide +kernel
theorem dJ9_max_7cf53_2 : decode cJ9_max_7cf53 2 = .ok (.if_icmp .lt 7, 3) := by decide +kernel
theorem dJ9_max_7cf53_5 : decode cJ9_max_7cf53 5 = .ok (.iload_n 0, 1) := by decide +kernel
theorem dJ9_max_7cf53_6 : decode cJ9_max_7cf53 6 = .ok (.goto 4, 3) := by decide +kernel
theorem dJ9_max_7cf53_9 : decode cJ9_max_7cf53 9 = .ok (.iload_n 1, 1) := by decide +kernel
theorem dJ9_max_7cf53_10 : decode cJ9_max_7cf53 10 = .ok (.ireturn, 1) := by decide +kernel
theorem dJ9_min_7cf53_0 : decode cJ9_min_7cf53 0 = .ok (.iload_n 0, 1) := by decide +kernel
theorem dJ9_min_7cf53_1 : decode cJ9_min_7cf53 1 = .ok (.iload_n 1, 1) := by decide +kernel
theorem dJ9_min_7cf53_2 : decode cJ9_min_7cf53 2 = .ok (.if_icmp .gt 7, 3) := by decide +kernel
theorem dJ9_min_7cf53_5 : decode cJ9_min_7cf53 5 = .ok (.iload_n 0, 1) := by decide +kernel
theorem dJ9_min_7cf53_6 : decode cJ9_min_7cf53 6 = .ok (.goto 4, 3) := by decide +kernel
theorem dJ9_min_7cf53_9 : decode cJ9_min_7cf53 9 = .ok (.iload_n 1, 1) := by decide +kernel
theorem dJ9_min_7cf53_10 : decode cJ9_min_7cf53 10 = .ok (.ireturn, 1) := by decide +kernel
theorem dJ7_fill_53178_0 : decode cJ7_fill_53178 0 = .ok (.iconst 0, 1) := by decide +kernel
theorem dJ7_fill_53178_1 : decode cJ7_fill_53178 1 = .ok (.istore_n 2, 1) := by decide +kernel
theorem dJ7_fill_53178_2 : decode cJ7_fill_53178 2 = .ok (.aload_n 0, 1) := by decide +kernel
theorem dJ7_fill_53178_3 : decode cJ7_fill_53178 3 = .ok (.arraylength, 1) := by decide +kernel
theorem dJ7_fill_53178_4 : decode cJ7_fill_53178 4 = .ok (.istore_n 3, 1) := by decide +kernel
theorem dJ7_fill_53178_5 : decode cJ7_fill_53178 5 = .ok (.iload_n 2, 1) := by decide +kernel
theorem dJ7_fill_53178_6 : decode cJ7_fill_53178 6 = .ok (.iload_n 3, 1) := by decide +kernel
theorem dJ7_fill_53178_7 : decode cJ7_fill_53178 7 = .ok (.if_icmp .ge 13, 3) := by decide +kernel
theorem dJ7_fill_53178_10 : decode cJ7_fill_53178 10 = .ok (.aload_n 0, 1) := by decide +kernel
theorem dJ7_fill_53178_11 : decode cJ7_fill_53178 11 = .ok (.iload_n 2, 1) := by decide +kernel
theorem dJ7_fill_53178_12 : decode cJ7_fill_53178 12 = .ok (.iload_n 1, 1) := by decide +kernel
theorem dJ7_fill_53178_13 : decode cJ7_fill_53178 13 = .ok (.iastore, 1) := by decide +kernel
theorem dJ7_fill_53178_14 : decode cJ7_fill_53178 14 = .ok (.iinc 2 1, 3) := by decide +kernel
theorem dJ7_fill_53178_17 : decode cJ7_fill_53178 17 = .ok (.goto (-12), 3) := by decide +kernel
theorem dJ7_fill_53178_20 : decode cJ7_fill_53178 20 = .ok (.return_, 1) := by decide +kernel
end
section
theorem dX0_ofFloat_0 : decode cX0_ofFloat 0 = .ok (.fload_n 0, 1) := by decide +kernel
theorem dX0_ofFloat_1 : decode cX0_ofFloat 1 = .ok (.fconst 0, 1) := by decide +kernel
theorem dX0_ofFloat_2 : decode cX0_ofFloat 2 = .ok (.fcmp .l, 1) := by decide +kernel
theorem dX0_ofFloat_3 : decode cX0_ofFloat 3 = .ok (.ifCond .ne 5, 3) := by decide +kernel
theorem dX0_ofFloat_6 : decode cX0_ofFloat 6 = .ok (.iconst 0, 1) := by decide +kernel
theorem dX0_ofFloat_7 : decode cX0_ofFloat 7 = .ok (.ireturn, 1) := by decide +kernel
theorem dX0_ofFloat_8 : decode cX0_ofFloat 8 = .ok (.fload_n 0, 1) := by decide +kernel
theorem dX0_ofFloat_9 : decode cX0_ofFloat 9 = .ok (.fconst 0, 1) := by decide +kernel
theorem dX0_ofFloat_10 : decode cX0_ofFloat 10 = .ok (.fcmp .g, 1) := by decide +kernel
theorem dX0_ofFloat_11 : decode cX0_ofFloat 11 = .ok (.ifCond .ge 8, 3) := by decide +kernel
theorem dX0_ofFloat_14 : decode cX0_ofFloat 14 = .ok (.fload_n 0, 1) := by decide +kernel
theorem dX0_ofFloat_15 : decode cX0_ofFloat 15 = .ok (.fneg, 1) := by decide +kernel
theorem dX0_ofFloat_16 : decode cX0_ofFloat 16 = .ok (.goto 4, 3) := by decide +kernel
theorem dX0_ofFloat_19 : decode cX0_ofFloat 19 = .ok (.fload_n 0, 1) := by decide +kernel
theorem dX0_ofFloat_20 : decode cX0_ofFloat 20 = .ok (.fstore_n 1, 1) := by decide +kernel
theorem dX0_ofFloat_21 : decode cX0_ofFloat 21 = .ok (.bipush 127, 2) := by decide +kernel
theorem dX0_ofFloat_23 : decode cX0_ofFloat 23 = .ok (.istore_n 2, 1) := by decide +kernel
theorem dX0_ofFloat_24 : decode cX0_ofFloat 24 = .ok (.iconst 0, 1) := by decide +kernel
theorem dX0_ofFloat_25 : decode cX0_ofFloat 25 = .ok (.istore_n 3, 1) := by decide +kernel
theorem dX0_ofFloat_26 : decode cX0_ofFloat 26 = .ok (.iload_n 3, 1) := by decide +kernel
theorem dX0_ofFloat_27 : decode cX0_ofFloat 27 = .ok (.sipush 1100, 3) := by decide +kernel
theorem dX0_ofFloat_30 : decode cX0_ofFloat 30 = .ok (.if_icmp .ge 22, 3) := by decide +kernel
theorem dX0_ofFloat_33 : decode cX0_ofFloat 33 = .ok (.fload_n 1, 1) := by decide +kernel
theorem dX0_ofFloat_34 : decode cX0_ofFloat 34 = .ok (.fconst 2, 1) := by decide +kernel
theorem dX0_ofFloat_35 : decode cX0_ofFloat 35 = .ok (.fcmp .l, 1) := by decide +kernel
theorem dX0_ofFloat_36 : decode cX0_ofFloat 36 = .ok (.ifCond .lt 16, 3) := by decide +kernel
theorem dX0_ofFloat_39 : decode cX0_ofFloat 39 = .ok (.fload_n 1, 1) := by decide +kernel
theorem dX0_ofFloat_40 : decode cX0_ofFloat 40 = .ok (.fconst 2, 1) := by decide +kernel
theorem dX0_ofFloat_41 : decode cX0_ofFloat 41 = .ok (.fdiv, 1) := by decide +kernel
theorem dX0_ofFloat_42 : decode cX0_ofFloat 42 = .ok (.fstore_n 1, 1) := by decide +kernel
theorem dX0_ofFloat_43 : decode cX0_ofFloat 43 = .ok (.iinc 2 1, 3) := by decide +kernel
theorem dX0_ofFloat_46 : decode cX0_ofFloat 46 = .ok (.iinc 3 1, 3) := by decide +kernel
theorem dX0_ofFloat_49 : decode cX0_ofFloat 49 = .ok (.goto (-23), 3) := by decide +kernel
theorem dX0_ofFloat_52 : decode cX0_ofFloat 52 = .ok (.iconst 0, 1) := by decide +kernel
theorem dX0_ofFloat_53 : decode cX0_ofFloat 53 = .ok (.istore_n 3, 1) := by decide +kernel
theorem dX0_ofFloat_54 : decode cX0_ofFloat 54 = .ok (.iload_n 3, 1) := by decide +kernel
theorem dX0_ofFloat_55 : decode cX0_ofFloat 55 = .ok (.sipush 1100, 3) := by decide +kernel
theorem dX0_ofFloat_58 : decode cX0_ofFloat 58 = .ok (.if_icmp .ge 22, 3) := by decide +kernel
theorem dX0_ofFloat_61 : decode cX0_ofFloat 61 = .ok (.fload_n 1, 1) := by decide +kernel
theorem dX0_ofFloat_62 : decode cX0_ofFloat 62 = .ok (.fconst 1, 1) := by decide +kernel
theorem dX0_ofFloat_63 : decode cX0_ofFloat 63 = .ok (.fcmp .g, 1) := by decide +kernel
theorem dX0_ofFloat_64 : decode cX0_ofFloat 64 = .ok (.ifCond .ge 16, 3) := by decide +kernel
theorem dX0_ofFloat_67 : decode cX0_ofFloat 67 = .ok (.fload_n 1, 1) := by decide +kernel
theorem dX0_ofFloat_68 : decode cX0_ofFloat 68 = .ok (.fconst 2, 1) := by decide +kernel
theorem dX0_ofFloat_69 : decode cX0_ofFloat 69 = .ok (.fmul, 1) := by decide +kernel
theorem dX0_ofFloat_70 : decode cX0_ofFloat 70 = .ok (.fstore_n 1, 1) := by decide +kernel
theorem dX0_ofFloat_71 : decode cX0_ofFloat 71 = .ok (.iinc 2 (-1), 3) := by decide +kernel
theorem dX0_ofFloat_74 : decode cX0_ofFloat 74 = .ok (.iinc 3 1, 3) := by decide +kernel
theorem dX0_ofFloat_77 : decode cX0_ofFloat 77 = .ok (.goto (-23), 3) := by decide +kernel
theorem dX0_ofFloat_80 : decode cX0_ofFloat 80 = .ok (.fload_n 0, 1) := by decide +kernel
theorem dX0_ofFloat_81 : decode cX0_ofFloat 81 = .ok (.fconst 0, 1) := by decide +kernel
theorem dX0_ofFloat_82 : decode cX0_ofFloat 82 = .ok (.fcmp .g, 1) := by decide +kernel
theorem dX0_ofFloat_83 : decode cX0_ofFloat 83 = .ok (.ifCond .ge 8, 3) := by decide +kernel
theorem dX0_ofFloat_86 : decode cX0_ofFloat 86 = .ok (.ldc 11, 2) := by decide +kernel
theorem dX0_ofFloat_88 : decode cX0_ofFloat 88 = .ok (.goto 4, 3) := by decide +kernel
theorem dX0_ofFloat_91 : decode cX0_ofFloat 91 = .ok (.iconst 0, 1) := by decide +kernel
theorem dX0_ofFloat_92 : decode cX0_ofFloat 92 = .ok (.istore_n 3, 1) := by decide +kernel
theorem dX0_ofFloat_93 : decode cX0_ofFloat 93 = .ok (.iload_n 3, 1) := by decide +kernel
theorem dX0_ofFloat_94 : decode cX0_ofFloat 94 = .ok (.iload_n 2, 1) := by decide +kernel
theorem dX0_ofFloat_95 : decode cX0_ofFloat 95 = .ok (.bipush 23, 2) := by decide +kernel
theorem dX0_ofFloat_97 : decode cX0_ofFloat 97 = .ok (.ishl, 1) := by decide +kernel
theorem dX0_ofFloat_98 : decode cX0_ofFloat 98 = .ok (.ior, 1) := by decide +kernel
theorem dX0_ofFloat_99 : decode cX0_ofFloat 99 = .ok (.fload_n 1, 1) := by decide +kernel
theorem dX0_ofFloat_100 : decode cX0_ofFloat 100 = .ok (.fconst 1, 1) := by decide +kernel
theorem dX0_ofFloat_101 : decode cX0_ofFloat 101 = .ok (.fsub, 1) := by decide +kernel
theorem dX0_ofFloat_102 : decode cX0_ofFloat 102 = .ok (.ldc 12, 2) := by decide +kernel
theorem dX0_ofFloat_104 : decode cX0_ofFloat 104 = .ok (.fmul, 1) := by decide +kernel
theorem dX0_ofFloat_105 : decode cX0_ofFloat 105 = .ok (.f2i, 1) := by decide +kernel
theorem dX0_ofFloat_106 : decode cX0_ofFloat 106 = .ok (.ior, 1) := by decide +kernel
theorem dX0_ofFloat_107 : decode cX0_ofFloat 107 = .ok (.ireturn, 1) := by decide +kernel
theorem dX0_ofDouble_0 : decode cX0_ofDouble 0 = .ok (.dload_n 0, 1) := by decide +kernel
theorem dX0_ofDouble_1 : decode cX0_ofDouble 1 = .ok (.dconst 0, 1) := by decide +kernel
theorem dX0_ofDouble_2 : decode cX0_ofDouble 2 = .ok (.dcmp .g, 1) := by decide +kernel
theorem dX0_ofDouble_3 : decode cX0_ofDouble 3 = .ok (.ifCond .gt 5, 3) := by decide +kernel
theorem dX0_ofDouble_6 : decode cX0_ofDouble 6 = .ok (.lconst 0, 1) := by decide +kernel
theorem dX0_ofDouble_7 : decode cX0_ofDouble 7 = .ok (.lreturn, 1) := by decide +kernel
theorem dX0_ofDouble_8 : decode cX0_ofDouble 8 = .ok (.dload_n 0, 1) := by decide +kernel
theorem dX0_ofDouble_9 : decode cX0_ofDouble 9 = .ok (.dstore_n 2, 1) := by decide +kernel
theorem dX0_ofDouble_10 : decode cX0_ofDouble 10 = .ok (.ldc2_w 13, 3) := by decide +kernel
theorem dX0_ofDouble_13 : decode cX0_ofDouble 13 = .ok (.lstore 4, 2) := by decide +kernel
theorem dX0_ofDouble_15 : decode cX0_ofDouble 15 = .ok (.iconst 0, 1) := by decide +kernel
theorem dX0_ofDouble_16 : decode cX0_ofDouble 16 = .ok (.istore 6, 2) := by decide +kernel
theorem dX0_ofDouble_18 : decode cX0_ofDouble 18 = .ok (.iload 6, 2) := by decide +kernel
theorem dX0_ofDouble_20 : decode cX0_ofDouble 20 = .ok (.sipush 1100, 3) := by decide +kernel
theorem dX0_ofDouble_23 : decode cX0_ofDouble 23 = .ok (.if_icmp .ge 29, 3) := by decide +kernel
theorem dX0_ofDouble_26 : decode cX0_ofDouble 26 = .ok (.dload_n 2, 1) := by decide +kernel
theorem dX0_ofDouble_27 : decode cX0_ofDouble 27 = .ok (.ldc2_w 15, 3) := by decide +kernel
theorem dX0_ofDouble_30 : decode cX0_ofDouble 30 = .ok (.dcmp .l, 1) := by decide +kernel
theorem dX0_ofDouble_31 : decode cX0_ofDouble 31 = .ok (.ifCond .lt 21, 3) := by decide +kernel
theorem dX0_ofDouble_34 : decode cX0_ofDouble 34 = .ok (.dload_n 2, 1) := by decide +kernel
theorem dX0_ofDouble_35 : decode cX0_ofDouble 35 = .ok (.ldc2_w 15, 3) := by decide +kernel
theorem dX0_ofDouble_38 : decode cX0_ofDouble 38 = .ok (.ddiv, 1) := by decide +kernel
theorem dX0_ofDouble_39 : decode cX0_ofDouble 39 = .ok (.dstore_n 2, 1) := by decide +kernel
theorem dX0_ofDouble_40 : decode cX0_ofDouble 40 = .ok (.lload 4, 2) := by decide +kernel
theorem dX0_ofDouble_42 : decode cX0_ofDouble 42 = .ok (.lconst 1, 1) := by decide +kernel
theorem dX0_ofDouble_43 : decode cX0_ofDouble 43 = .ok (.ladd, 1) := by decide +kernel
theorem dX0_ofDouble_44 : decode cX0_ofDouble 44 = .ok (.lstore 4, 2) := by decide +kernel
theorem dX0_ofDouble_46 : decode cX0_ofDouble 46 = .ok (.iinc 6 1, 3) := by decide +kernel
theorem dX0_ofDouble_49 : decode cX0_ofDouble 49 = .ok (.goto (-31), 3) := by decide +kernel
theorem dX0_ofDouble_52 : decode cX0_ofDouble 52 = .ok (.iconst 0, 1) := by decide +kernel
theorem dX0_ofDouble_53 : decode cX0_ofDouble 53 = .ok (.istore 6, 2) := by decide +kernel
theorem dX0_ofDouble_55 : decode cX0_ofDouble 55 = .ok (.iload 6, 2) := by decide +kernel
theorem dX0_ofDouble_57 : decode cX0_ofDouble 57 = .ok (.sipush 1100, 3) := by decide +kernel
theorem dX0_ofDouble_60 : decode cX0_ofDouble 60 = .ok (.if_icmp .ge 27, 3) := by decide +kernel
theorem dX0_ofDouble_63 : decode cX0_ofDouble 63 = .ok (.dload_n 2, 1) := by decide +kernel
theorem dX0_ofDouble_64 : decode cX0_ofDouble 64 = .ok (.dconst 1, 1) := by decide +kernel
theorem dX0_ofDouble_65 : decode cX0_ofDouble 65 = .ok (.dcmp .g, 1) := by decide +kernel
theorem dX0_ofDouble_66 : decode cX0_ofDouble 66 = .ok (.ifCond .ge 21, 3) := by decide +kernel
theorem dX0_ofDouble_69 : decode cX0_ofDouble 69 = .ok (.dload_n 2, 1) := by decide +kernel
theorem dX0_ofDouble_70 : decode cX0_ofDouble 70 = .ok (.ldc2_w 15, 3) := by decide +kernel
theorem dX0_ofDouble_73 : decode cX0_ofDouble 73 = .ok (.dmul, 1) := by decide +kernel
theorem dX0_ofDouble_74 : decode cX0_ofDouble 74 = .ok (.dstore_n 2, 1) := by decide +kernel
theorem dX0_ofDouble_75 : decode cX0_ofDouble 75 = .ok (.lload 4, 2) := by decide +kernel
theorem dX0_ofDouble_77 : decode cX0_ofDouble 77 = .ok (.lconst 1, 1) := by decide +kernel
theorem dX0_ofDouble_78 : decode cX0_ofDouble 78 = .ok (.lsub, 1) := by decide +kernel
theorem dX0_ofDouble_79 : decode cX0_ofDouble 79 = .ok (.lstore 4, 2) := by decide +kernel
theorem dX0_ofDouble_81 : decode cX0_ofDouble 81 = .ok (.iinc 6 1, 3) := by decide +kernel
theorem dX0_ofDouble_84 : decode cX0_ofDouble 84 = .ok (.goto (-29), 3) := by decide +kernel
theorem dX0_ofDouble_87 : decode cX0_ofDouble 87 = .ok (.lload 4, 2) := by decide +kernel
theorem dX0_ofDouble_89 : decode cX0_ofDouble 89 = .ok (.bipush 52, 2) := by decide +kernel
theorem dX0_ofDouble_91 : decode cX0_ofDouble 91 = .ok (.lshl, 1) := by decide +kernel
theorem dX0_ofDouble_92 : decode cX0_ofDouble 92 = .ok (.dload_n 2, 1) := by decide +kernel
theorem dX0_ofDouble_93 : decode cX0_ofDouble 93 = .ok (.dconst 1, 1) := by decide +kernel
theorem dX0_ofDouble_94 : decode cX0_ofDouble 94 = .ok (.dsub, 1) := by decide +kernel
theorem dX0_ofDouble_95 : decode cX0_ofDouble 95 = .ok (.ldc2_w 17, 3) := by decide +kernel
theorem dX0_ofDouble_98 : decode cX0_ofDouble 98 = .ok (.dmul, 1) := by decide +kernel
theorem dX0_ofDouble_99 : decode cX0_ofDouble 99 = .ok (.d2l, 1) := by decide +kernel
theorem dX0_ofDouble_100 : decode cX0_ofDouble 100 = .ok (.lor, 1) := by decide +kernel
theorem dX0_ofDouble_101 : decode cX0_ofDouble 101 = .ok (.lreturn, 1) := by decide +kernel
end
section
theorem dX1_init_0 : decode cX1_init 0 = .ok (.aload_n 0, 1) := by decide +kernel
theorem dX1_init_1 : decode cX1_init 1 = .ok (.invokespecial 3, 3) := by decide +kernel
theorem dX1_init_4 : decode cX1_init 4 = .ok (.aload_n 0, 1) := by decide +kernel
theorem dX1_init_5 : decode cX1_init 5 = .ok (.sipush 150, 3) := by decide +kernel
theorem dX1_init_8 : decode cX1_init 8 = .ok (.newarray .int, 2) := by decide +kernel
theorem dX1_init_10 : decode cX1_init 10 = .ok (.putfield 9, 3) := by decide +kernel
theorem dX1_init_13 : decode cX1_init 13 = .ok (.aload_n 0, 1) := by decide +kernel
theorem dX1_init_14 : decode cX1_init 14 = .ok (.iconst 0, 1) := by decide +kernel
theorem dX1_init_15 : decode cX1_init 15 = .ok (.putfield 15, 3) := by decide +kernel
theorem dX1_init_18 : decode cX1_init 18 = .ok (.aload_n 0, 1) := by decide +kernel
theorem dX1_init_19 : decode cX1_init 19 = .ok (.sipush 150, 3) := by decide +kernel
theorem dX1_init_22 : decode cX1_init 22 = .ok (.newarray .int, 2) := by decide +kernel
theorem dX1_init_24 : decode cX1_init 24 = .ok (.putfield 19, 3) := by decide +kernel
theorem dX1_init_27 : decode cX1_init 27 = .ok (.aload_n 0, 1) := by decide +kernel
theorem dX1_init_28 : decode cX1_init 28 = .ok (.iconst 0, 1) := by decide +kernel
theorem dX1_init_29 : decode cX1_init 29 = .ok (.putfield 22, 3) := by decide +kernel
theorem dX1_init_32 : decode cX1_init 32 = .ok (.return_, 1) := by decide +kernel
theorem dX1_append_0 : decode cX1_append 0 = .ok (.aload_n 0, 1) := by decide +kernel
theorem dX1_append_1 : decode cX1_append 1 = .ok (.getfield 15, 3) := by decide +kernel
theorem dX1_append_4 : decode cX1_append 4 = .ok (.ifCond .lt 13, 3) := by decide +kernel
theorem dX1_append_7 : decode cX1_append 7 = .ok (.aload_n 0, 1) := by decide +kernel
theorem dX1_append_8 : decode cX1_append 8 = .ok (.getfield 15, 3) := by decide +kernel
theorem dX1_append_11 : decode cX1_append 11 = .ok (.sipush 150, 3) := by decide +kernel
theorem dX1_append_14 : decode cX1_append 14 = .ok (.if_icmp .lt 5, 3) := by decide +kernel
theorem dX1_append_17 : decode cX1_append 17 = .ok (.iconst 0, 1) := by decide +kernel
theorem dX1_append_18 : decode cX1_append 18 = .ok (.ireturn, 1) := by decide +kernel
theorem dX1_append_19 : decode cX1_append 19 = .ok (.aload_n 0, 1) := by decide +kernel
theorem dX1_append_20 : decode cX1_append 20 = .ok (.getfield 9, 3) := by decide +kernel
theorem dX1_append_23 : decode cX1_append 23 = .ok (.aload_n 0, 1) := by decide +kernel
theorem dX1_append_24 : decode cX1_append 24 = .ok (.getfield 15, 3) := by decide +kernel
theorem dX1_append_27 : decode cX1_append 27 = .ok (.iload_n 1, 1) := by decide +kernel
theorem dX1_append_28 : decode cX1_append 28 = .ok (.iastore, 1) := by decide +kernel
theorem dX1_append_29 : decode cX1_append 29 = .ok (.aload_n 0, 1) := by decide +kernel
theorem dX1_append_30 : decode cX1_append 30 = .ok (.dup, 1) := by decide +kernel
theorem dX1_append_31 : decode cX1_append 31 = .ok (.getfield 15, 3) := by decide +kernel
theorem dX1_append_34 : decode cX1_append 34 = .ok (.iconst 1, 1) := by decide +kernel
theorem dX1_append_35 : decode cX1_append 35 = .ok (.iadd, 1) := by decide +kernel
theorem dX1_append_36 : decode cX1_append 36 = .ok (.putfield 15, 3) := by decide +kernel
theorem dX1_append_39 : decode cX1_append 39 = .ok (.iconst 1, 1) := by decide +kernel
theorem dX1_append_40 : decode cX1_append 40 = .ok (.ireturn, 1) := by decide +kernel
theorem dX1_readAll_0 : decode cX1_readAll 0 = .ok (.aload_n 0, 1) := by decide +kernel
theorem dX1_readAll_1 : decode cX1_readAll 1 = .ok (.iconst 0, 1) := by decide +kernel
theorem dX1_readAll_2 : decode cX1_readAll 2 = .ok (.putfield 25, 3) := by decide +kernel
theorem dX1_readAll_5 : decode cX1_readAll 5 = .ok (.aload_n 0, 1) := by decide +kernel
theorem dX1_readAll_6 : decode cX1_readAll 6 = .ok (.iconst 0, 1) := by decide +kernel
theorem dX1_readAll_7 : decode cX1_readAll 7 = .ok (.putfield 22, 3) := by decide +kernel
theorem dX1_readAll_10 : decode cX1_readAll 10 = .ok (.aload_n 0, 1) := by decide +kernel
theorem dX1_readAll_11 : decode cX1_readAll 11 = .ok (.iconst (-1), 1) := by decide +kernel
theorem dX1_readAll_12 : decode cX1_readAll 12 = .ok (.putfield 28, 3) := by decide +kernel
theorem dX1_readAll_15 : decode cX1_readAll 15 = .ok (.aload_n 0, 1) := by decide +kernel
theorem dX1_readAll_16 : decode cX1_readAll 16 = .ok (.iconst 0, 1) := by decide +kernel
theorem dX1_readAll_17 : decode cX1_readAll 17 = .ok (.putfield 31, 3) := by decide +kernel
theorem dX1_readAll_20 : decode cX1_readAll 20 = .ok (.iconst 0, 1) := by decide +kernel
theorem dX1_readAll_21 : decode cX1_readAll 21 = .ok (.istore_n 1, 1) := by decide +kernel
theorem dX1_readAll_22 : decode cX1_readAll 22 = .ok (.iload_n 1, 1) := by decide +kernel
theorem dX1_readAll_23 : decode cX1_readAll 23 = .ok (.aload_n 0, 1) := by decide +kernel
theorem dX1_readAll_24 : decode cX1_readAll 24 = .ok (.getfield 15, 3) := by decide +kernel
theorem dX1_readAll_27 : decode cX1_readAll 27 = .ok (.if_icmp .ge 31, 3) := by decide +kernel
theorem dX1_readAll_30 : decode cX1_readAll 30 = .ok (.iload_n 1, 1) := by decide +kernel
theorem dX1_readAll_31 : decode cX1_readAll 31 = .ok (.sipush 150, 3) := by decide +kernel
theorem dX1_readAll_34 : decode cX1_readAll 34 = .ok (.if_icmp .ge 24, 3) := by decide +kernel
theorem dX1_readAll_37 : decode cX1_readAll 37 = .ok (.aload_n 0, 1) := by decide +kernel
theorem dX1_readAll_38 : decode cX1_readAll 38 = .ok (.aload_n 0, 1) := by decide +kernel
theorem dX1_readAll_39 : decode cX1_readAll 39 = .ok (.getfield 9, 3) := by decide +kernel
theorem dX1_readAll_42 : decode cX1_readAll 42 = .ok (.iload_n 1, 1) := by decide +kernel
theorem dX1_readAll_43 : decode cX1_readAll 43 = .ok (.iaload, 1) := by decide +kernel
theorem dX1_readAll_44 : decode cX1_readAll 44 = .ok (.invokevirtual 34, 3) := by decide +kernel
theorem dX1_readAll_47 : decode cX1_readAll 47 = .ok (.ifCond .ne 5, 3) := by decide +kernel
theorem dX1_readAll_50 : decode cX1_readAll 50 = .ok (.iload_n 1, 1) := by decide +kernel
theorem dX1_readAll_51 : decode cX1_readAll 51 = .ok (.ireturn, 1) := by decide +kernel
theorem dX1_readAll_52 : decode cX1_readAll 52 = .ok (.iinc 1 1, 3) := by decide +kernel
theorem dX1_readAll_55 : decode cX1_readAll 55 = .ok (.goto (-33), 3) := by decide +kernel
theorem dX1_readAll_58 : decode cX1_readAll 58 = .ok (.aload_n 0, 1) := by decide +kernel
theorem dX1_readAll_59 : decode cX1_readAll 59 = .ok (.getfield 28, 3) := by decide +kernel
theorem dX1_readAll_62 : decode cX1_readAll 62 = .ok (.iconst (-1), 1) := by decide +kernel
theorem dX1_readAll_63 : decode cX1_readAll 63 = .ok (.if_icmp .ne 14, 3) := by decide +kernel
theorem dX1_readAll_66 : decode cX1_readAll 66 = .ok (.aload_n 0, 1) := by decide +kernel
theorem dX1_readAll_67 : decode cX1_readAll 67 = .ok (.getfield 22, 3) := by decide +kernel
theorem dX1_readAll_70 : decode cX1_readAll 70 = .ok (.ifCond .le 7, 3) := by decide +kernel
theorem dX1_readAll_73 : decode cX1_readAll 73 = .ok (.iconst (-1), 1) := by decide +kernel
theorem dX1_readAll_74 : decode cX1_readAll 74 = .ok (.goto 7, 3) := by decide +kernel
theorem dX1_readAll_77 : decode cX1_readAll 77 = .ok (.aload_n 0, 1) := by decide +kernel
theorem dX1_readAll_78 : decode cX1_readAll 78 = .ok (.getfield 15, 3) := by decide +kernel
theorem dX1_readAll_81 : decode cX1_readAll 81 = .ok (.ireturn, 1) := by decide +kernel
theorem dX1_item_0 : decode cX1_item 0 = .ok (.iload_n 1, 1) := by decide +kernel
theorem dX1_item_1 : decode cX1_item 1 = .ok (.iconst 0, 1) := by decide +kernel
theorem dX1_item_2 : decode cX1_item 2 = .ok (.aload_n 0, 1) := by decide +kernel
theorem dX1_item_3 : decode cX1_item 3 = .ok (.getfield 25, 3) := by decide +kernel
theorem dX1_item_6 : decode cX1_item 6 = .ok (.iconst 1, 1) := by decide +kernel
theorem dX1_item_7 : decode cX1_item 7 = .ok (.isub, 1) := by decide +kernel
theorem dX1_item_8 : decode cX1_item 8 = .ok (.invokestatic 38, 3) := by decide +kernel
theorem dX1_item_11 : decode cX1_item 11 = .ok (.ifCond .eq 12, 3) := by decide +kernel
theorem dX1_item_14 : decode cX1_item 14 = .ok (.aload_n 0, 1) := by decide +kernel
theorem dX1_item_15 : decode cX1_item 15 = .ok (.getfield 19, 3) := by decide +kernel
theorem dX1_item_18 : decode cX1_item 18 = .ok (.iload_n 1, 1) := by decide +kernel
theorem dX1_item_19 : decode cX1_item 19 = .ok (.iaload, 1) := by decide +kernel
theorem dX1_item_20 : decode cX1_item 20 = .ok (.goto 4, 3) := by decide +kernel
theorem dX1_item_23 : decode cX1_item 23 = .ok (.iconst (-1), 1) := by decide +kernel
theorem dX1_item_24 : decode cX1_item 24 = .ok (.ireturn, 1) := by decide +kernel
theorem dX1_takes_0 : decode cX1_takes 0 = .ok (.iload_n 1, 1) := by decide +kernel
theorem dX1_takes_1 : decode cX1_takes 1 = .ok (.bipush 48, 2) := by decide +kernel
theorem dX1_takes_3 : decode cX1_takes 3 = .ok (.if_icmp .lt 18, 3) := by decide +kernel
theorem dX1_takes_6 : decode cX1_takes 6 = .ok (.iload_n 1, 1) := by decide +kernel
theorem dX1_takes_7 : decode cX1_takes 7 = .ok (.bipush 57, 2) := by decide +kernel
theorem dX1_takes_9 : decode cX1_takes 9 = .ok (.if_icmp .gt 12, 3) := by decide +kernel
theorem dX1_takes_12 : decode cX1_takes 12 = .ok (.aload_n 0, 1) := by decide +kernel
theorem dX1_takes_13 : decode cX1_takes 13 = .ok (.iload_n 1, 1) := by decide +kernel
theorem dX1_takes_14 : decode cX1_takes 14 = .ok (.bipush 48, 2) := by decide +kernel
theorem dX1_takes_16 : decode cX1_takes 16 = .ok (.isub, 1) := by decide +kernel
theorem dX1_takes_17 : decode cX1_takes 17 = .ok (.invokevirtual 42, 3) := by decide +kernel
theorem dX1_takes_20 : decode cX1_takes 20 = .ok (.ireturn, 1) := by decide +kernel
theorem dX1_takes_21 : decode cX1_takes 21 = .ok (.aload_n 0, 1) := by decide +kernel
theorem dX1_takes_22 : decode cX1_takes 22 = .ok (.invokevirtual 45, 3) := by decide +kernel
theorem dX1_takes_25 : decode cX1_takes 25 = .ok (.iload_n 1, 1) := by decide +kernel
theorem dX1_takes_26 : decode cX1_takes 26 = .ok (.bipush 32, 2) := by decide +kernel
theorem dX1_takes_28 : decode cX1_takes 28 = .ok (.if_icmp .ne 5, 3) := by decide +kernel
theorem dX1_takes_31 : decode cX1_takes 31 = .ok (.iconst 1, 1) := by decide +kernel
theorem dX1_takes_32 : decode cX1_takes 32 = .ok (.ireturn, 1) := by decide +kernel
theorem dX1_takes_33 : decode cX1_takes 33 = .ok (.aload_n 0, 1) := by decide +kernel
theorem dX1_takes_34 : decode cX1_takes 34 = .ok (.getfield 28, 3) := by decide +kernel
theorem dX1_takes_37 : decode cX1_takes 37 = .ok (.iconst (-1), 1) := by decide +kernel
theorem dX1_takes_38 : decode cX1_takes 38 = .ok (.if_icmp .ne 30, 3) := by decide +kernel
theorem dX1_takes_41 : decode cX1_takes 41 = .ok (.aload_n 0, 1) := by decide +kernel
theorem dX1_takes_42 : decode cX1_takes 42 = .ok (.iload_n 1, 1) := by decide +kernel
theorem dX1_takes_43 : decode cX1_takes 43 = .ok (.invokestatic 48, 3) := by decide +kernel
theorem dX1_takes_46 : decode cX1_takes 46 = .ok (.putfield 28, 3) := by decide +kernel
theorem dX1_takes_49 : decode cX1_takes 49 = .ok (.aload_n 0, 1) := by decide +kernel
theorem dX1_takes_50 : decode cX1_takes 50 = .ok (.iload_n 1, 1) := by decide +kernel
theorem dX1_takes_51 : decode cX1_takes 51 = .ok (.invokevirtual 52, 3) := by decide +kernel
theorem dX1_takes_54 : decode cX1_takes 54 = .ok (.aload_n 0, 1) := by decide +kernel
theorem dX1_takes_55 : decode cX1_takes 55 = .ok (.getfield 28, 3) := by decide +kernel
theorem dX1_takes_58 : decode cX1_takes 58 = .ok (.iconst (-1), 1) := by decide +kernel
theorem dX1_takes_59 : decode cX1_takes 59 = .ok (.if_icmp .eq 7, 3) := by decide +kernel
theorem dX1_takes_62 : decode cX1_takes 62 = .ok (.iconst 1, 1) := by decide +kernel
theorem dX1_takes_63 : decode cX1_takes 63 = .ok (.goto 4, 3) := by decide +kernel
theorem dX1_takes_66 : decode cX1_takes 66 = .ok (.iconst 0, 1) := by decide +kernel
theorem dX1_takes_67 : decode cX1_takes 67 = .ok (.ireturn, 1) := by decide +kernel
theorem dX1_takes_68 : decode cX1_takes 68 = .ok (.iload_n 1, 1) := by decide +kernel
theorem dX1_takes_69 : decode cX1_takes 69 = .ok (.bipush 59, 2) := by decide +kernel
theorem dX1_takes_71 : decode cX1_takes 71 = .ok (.if_icmp .ne 10, 3) := by decide +kernel
theorem dX1_takes_74 : decode cX1_takes 74 = .ok (.aload_n 0, 1) := by decide +kernel
theorem dX1_takes_75 : decode cX1_takes 75 = .ok (.getfield 28, 3) := by decide +kernel
theorem dX1_takes_78 : decode cX1_takes 78 = .ok (.ifCond .le 5, 3) := by decide +kernel
theorem dX1_takes_81 : decode cX1_takes 81 = .ok (.iconst 0, 1) := by decide +kernel
theorem dX1_takes_82 : decode cX1_takes 82 = .ok (.ireturn, 1) := by decide +kernel
theorem dX1_takes_83 : decode cX1_takes 83 = .ok (.aload_n 0, 1) := by decide +kernel
theorem dX1_takes_84 : decode cX1_takes 84 = .ok (.iconst (-1), 1) := by decide +kernel
theorem dX1_takes_85 : decode cX1_takes 85 = .ok (.putfield 28, 3) := by decide +kernel
theorem dX1_takes_88 : decode cX1_takes 88 = .ok (.aload_n 0, 1) := by decide +kernel
theorem dX1_takes_89 : decode cX1_takes 89 = .ok (.dup, 1) := by decide +kernel
theorem dX1_takes_90 : decode cX1_takes 90 = .ok (.getfield 22, 3) := by decide +kernel
theorem dX1_takes_93 : decode cX1_takes 93 = .ok (.iconst 1, 1) := by decide +kernel
theorem dX1_takes_94 : decode cX1_takes 94 = .ok (.iadd, 1) := by decide +kernel
theorem dX1_takes_95 : decode cX1_takes 95 = .ok (.putfield 22, 3) := by decide +kernel
theorem dX1_takes_98 : decode cX1_takes 98 = .ok (.iconst 1, 1) := by decide +kernel
theorem dX1_takes_99 : decode cX1_takes 99 = .ok (.ireturn, 1) := by decide +kernel
theorem dX1_takesFigure_0 : decode cX1_takesFigure 0 = .ok (.aload_n 0, 1) := by decide +kernel
theorem dX1_takesFigure_1 : decode cX1_takesFigure 1 = .ok (.getfield 31, 3) := by decide +kernel
theorem dX1_takesFigure_4 : decode cX1_takesFigure 4 = .ok (.ifCond .ne 28, 3) := by decide +kernel
theorem dX1_takesFigure_7 : decode cX1_takesFigure 7 = .ok (.aload_n 0, 1) := by decide +kernel
theorem dX1_takesFigure_8 : decode cX1_takesFigure 8 = .ok (.getfield 28, 3) := by decide +kernel
theorem dX1_takesFigure_11 : decode cX1_takesFigure 11 = .ok (.iconst 1, 1) := by decide +kernel
theorem dX1_takesFigure_12 : decode cX1_takesFigure 12 = .ok (.if_icmp .ge 5, 3) := by decide +kernel
theorem dX1_takesFigure_15 : decode cX1_takesFigure 15 = .ok (.iconst 0, 1) := by decide +kernel
theorem dX1_takesFigure_16 : decode cX1_takesFigure 16 = .ok (.ireturn, 1) := by decide +kernel
theorem dX1_takesFigure_17 : decode cX1_takesFigure 17 = .ok (.aload_n 0, 1) := by decide +kernel
theorem dX1_takesFigure_18 : decode cX1_takesFigure 18 = .ok (.dup, 1) := by decide +kernel
theorem dX1_takesFigure_19 : decode cX1_takesFigure 19 = .ok (.getfield 28, 3) := by decide +kernel
theorem dX1_takesFigure_22 : decode cX1_takesFigure 22 = .ok (.iconst 1, 1) := by decide +kernel
theorem dX1_takesFigure_23 : decode cX1_takesFigure 23 = .ok (.isub, 1) := by decide +kernel
theorem dX1_takesFigure_24 : decode cX1_takesFigure 24 = .ok (.putfield 28, 3) := by decide +kernel
theorem dX1_takesFigure_27 : decode cX1_takesFigure 27 = .ok (.aload_n 0, 1) := by decide +kernel
theorem dX1_takesFigure_28 : decode cX1_takesFigure 28 = .ok (.iconst 0, 1) := by decide +kernel
theorem dX1_takesFigure_29 : decode cX1_takesFigure 29 = .ok (.putfield 56, 3) := by decide +kernel
theorem dX1_takesFigure_32 : decode cX1_takesFigure 32 = .ok (.aload_n 0, 1) := by decide +kernel
theorem dX1_takesFigure_33 : decode cX1_takesFigure 33 = .ok (.getfield 31, 3) := by decide +kernel
theorem dX1_takesFigure_36 : decode cX1_takesFigure 36 = .ok (.iconst 4, 1) := by decide +kernel
theorem dX1_takesFigure_37 : decode cX1_takesFigure 37 = .ok (.if_icmp .lt 5, 3) := by decide +kernel
theorem dX1_takesFigure_40 : decode cX1_takesFigure 40 = .ok (.iconst 0, 1) := by decide +kernel
theorem dX1_takesFigure_41 : decode cX1_takesFigure 41 = .ok (.ireturn, 1) := by decide +kernel
theorem dX1_takesFigure_42 : decode cX1_takesFigure 42 = .ok (.aload_n 0, 1) := by decide +kernel
theorem dX1_takesFigure_43 : decode cX1_takesFigure 43 = .ok (.aload_n 0, 1) := by decide +kernel
theorem dX1_takesFigure_44 : decode cX1_takesFigure 44 = .ok (.getfield 56, 3) := by decide +kernel
theorem dX1_takesFigure_47 : decode cX1_takesFigure 47 = .ok (.bipush 10, 2) := by decide +kernel
theorem dX1_takesFigure_49 : decode cX1_takesFigure 49 = .ok (.imul, 1) := by decide +kernel
theorem dX1_takesFigure_50 : decode cX1_takesFigure 50 = .ok (.iload_n 1, 1) := by decide +kernel
theorem dX1_takesFigure_51 : decode cX1_takesFigure 51 = .ok (.iadd, 1) := by decide +kernel
theorem dX1_takesFigure_52 : decode cX1_takesFigure 52 = .ok (.putfield 56, 3) := by decide +kernel
theorem dX1_takesFigure_55 : decode cX1_takesFigure 55 = .ok (.aload_n 0, 1) := by decide +kernel
theorem dX1_takesFigure_56 : decode cX1_takesFigure 56 = .ok (.dup, 1) := by decide +kernel
theorem dX1_takesFigure_57 : decode cX1_takesFigure 57 = .ok (.getfield 31, 3) := by decide +kernel
theorem dX1_takesFigure_60 : decode cX1_takesFigure 60 = .ok (.iconst 1, 1) := by decide +kernel
theorem dX1_takesFigure_61 : decode cX1_takesFigure 61 = .ok (.iadd, 1) := by decide +kernel
theorem dX1_takesFigure_62 : decode cX1_takesFigure 62 = .ok (.putfield 31, 3) := by decide +kernel
theorem dX1_takesFigure_65 : decode cX1_takesFigure 65 = .ok (.iconst 1, 1) := by decide +kernel
theorem dX1_takesFigure_66 : decode cX1_takesFigure 66 = .ok (.ireturn, 1) := by decide +kernel
theorem dX1_endNumber_0 : decode cX1_endNumber 0 = .ok (.aload_n 0, 1) := by decide +kernel
theorem dX1_endNumber_1 : decode cX1_endNumber 1 = .ok (.getfield 31, 3) := by decide +kernel
theorem dX1_endNumber_4 : decode cX1_endNumber 4 = .ok (.ifCond .le 16, 3) := by decide +kernel
theorem dX1_endNumber_7 : decode cX1_endNumber 7 = .ok (.aload_n 0, 1) := by decide +kernel
theorem dX1_endNumber_8 : decode cX1_endNumber 8 = .ok (.aload_n 0, 1) := by decide +kernel
theorem dX1_endNumber_9 : decode cX1_endNumber 9 = .ok (.getfield 56, 3) := by decide +kernel
theorem dX1_endNumber_12 : decode cX1_endNumber 12 = .ok (.invokevirtual 52, 3) := by decide +kernel
theorem dX1_endNumber_15 : decode cX1_endNumber 15 = .ok (.aload_n 0, 1) := by decide +kernel
theorem dX1_endNumber_16 : decode cX1_endNumber 16 = .ok (.iconst 0, 1) := by decide +kernel
theorem dX1_endNumber_17 : decode cX1_endNumber 17 = .ok (.putfield 31, 3) := by decide +kernel
theorem dX1_endNumber_20 : decode cX1_endNumber 20 = .ok (.return_, 1) := by decide +kernel
theorem dX1_keep_0 : decode cX1_keep 0 = .ok (.aload_n 0, 1) := by decide +kernel
theorem dX1_keep_1 : decode cX1_keep 1 = .ok (.getfield 25, 3) := by decide +kernel
theorem dX1_keep_4 : decode cX1_keep 4 = .ok (.iconst 0, 1) := by decide +kernel
theorem dX1_keep_5 : decode cX1_keep 5 = .ok (.sipush 149, 3) := by decide +kernel
theorem dX1_keep_8 : decode cX1_keep 8 = .ok (.invokestatic 38, 3) := by decide +kernel
theorem dX1_keep_11 : decode cX1_keep 11 = .ok (.ifCond .eq 23, 3) := by decide +kernel
theorem dX1_keep_14 : decode cX1_keep 14 = .ok (.aload_n 0, 1) := by decide +kernel
theorem dX1_keep_15 : decode cX1_keep 15 = .ok (.getfield 19, 3) := by decide +kernel
theorem dX1_keep_18 : decode cX1_keep 18 = .ok (.aload_n 0, 1) := by decide +kernel
theorem dX1_keep_19 : decode cX1_keep 19 = .ok (.getfield 25, 3) := by decide +kernel
theorem dX1_keep_22 : decode cX1_keep 22 = .ok (.iload_n 1, 1) := by decide +kernel
theorem dX1_keep_23 : decode cX1_keep 23 = .ok (.iastore, 1) := by decide +kernel
theorem dX1_keep_24 : decode cX1_keep 24 = .ok (.aload_n 0, 1) := by decide +kernel
theorem dX1_keep_25 : decode cX1_keep 25 = .ok (.dup, 1) := by decide +kernel
theorem dX1_keep_26 : decode cX1_keep 26 = .ok (.getfield 25, 3) := by decide +kernel
theorem dX1_keep_29 : decode cX1_keep 29 = .ok (.iconst 1, 1) := by decide +kernel
theorem dX1_keep_30 : decode cX1_keep 30 = .ok (.iadd, 1) := by decide +kernel
theorem dX1_keep_31 : decode cX1_keep 31 = .ok (.putfield 25, 3) := by decide +kernel
theorem dX1_keep_34 : decode cX1_keep 34 = .ok (.return_, 1) := by decide +kernel
theorem dX1_numbersOf_0 : decode cX1_numbersOf 0 = .ok (.iload_n 0, 1) := by decide +kernel
theorem dX1_numbersOf_1 : decode cX1_numbersOf 1 = .ok (.tableswitch 103 99 118 #[101, 103, 97, 103, 95, 103, 103, 103, 103, 99, 103, 103, 103, 103, 103, 103, 95, 103, 103, 95], 95) := by decide +kernel
theorem dX1_numbersOf_96 : decode cX1_numbersOf 96 = .ok (.iconst 2, 1) := by decide +kernel
theorem dX1_numbersOf_97 : decode cX1_numbersOf 97 = .ok (.ireturn, 1) := by decide +kernel
theorem dX1_numbersOf_98 : decode cX1_numbersOf 98 = .ok (.iconst 5, 1) := by decide +kernel
theorem dX1_numbersOf_99 : decode cX1_numbersOf 99 = .ok (.ireturn, 1) := by decide +kernel
theorem dX1_numbersOf_100 : decode cX1_numbersOf 100 = .ok (.iconst 4, 1) := by decide +kernel
theorem dX1_numbersOf_101 : decode cX1_numbersOf 101 = .ok (.ireturn, 1) := by decide +kernel
theorem dX1_numbersOf_102 : decode cX1_numbersOf 102 = .ok (.iconst 3, 1) := by decide +kernel
theorem dX1_numbersOf_103 : decode cX1_numbersOf 103 = .ok (.ireturn, 1) := by decide +kernel
theorem dX1_numbersOf_104 : decode cX1_numbersOf 104 = .ok (.iconst (-1), 1) := by decide +kernel
theorem dX1_numbersOf_105 : decode cX1_numbersOf 105 = .ok (.ireturn, 1) := by decide +kernel
end
section
theorem dX2_init_0 : decode cX2_init 0 = .ok (.aload_n 0, 1) := by decide +kernel
theorem dX2_init_1 : decode cX2_init 1 = .ok (.invokespecial 3, 3) := by decide +kernel
theorem dX2_init_4 : decode cX2_init 4 = .ok (.aload_n 0, 1) := by decide +kernel
theorem dX2_init_5 : decode cX2_init 5 = .ok (.new 9, 3) := by decide +kernel
theorem dX2_init_8 : decode cX2_init 8 = .ok (.dup, 1) := by decide +kernel
theorem dX2_init_9 : decode cX2_init 9 = .ok (.invokespecial 11, 3) := by decide +kernel
theorem dX2_init_12 : decode cX2_init 12 = .ok (.putfield 12, 3) := by decide +kernel
theorem dX2_init_15 : decode cX2_init 15 = .ok (.aload_n 0, 1) := by decide +kernel
theorem dX2_init_16 : decode cX2_init 16 = .ok (.bipush 32, 2) := by decide +kernel
theorem dX2_init_18 : decode cX2_init 18 = .ok (.newarray .int, 2) := by decide +kernel
theorem dX2_init_20 : decode cX2_init 20 = .ok (.putfield 18, 3) := by decide +kernel
theorem dX2_init_23 : decode cX2_init 23 = .ok (.aload_n 0, 1) := by decide +kernel
theorem dX2_init_24 : decode cX2_init 24 = .ok (.bipush 32, 2) := by decide +kernel
theorem dX2_init_26 : decode cX2_init 26 = .ok (.newarray .int, 2) := by decide +kernel
theorem dX2_init_28 : decode cX2_init 28 = .ok (.putfield 22, 3) := by decide +kernel
theorem dX2_init_31 : decode cX2_init 31 = .ok (.aload_n 0, 1) := by decide +kernel
theorem dX2_init_32 : decode cX2_init 32 = .ok (.bipush 32, 2) := by decide +kernel
theorem dX2_init_34 : decode cX2_init 34 = .ok (.newarray .int, 2) := by decide +kernel
theorem dX2_init_36 : decode cX2_init 36 = .ok (.putfield 25, 3) := by decide +kernel
theorem dX2_init_39 : decode cX2_init 39 = .ok (.aload_n 0, 1) := by decide +kernel
theorem dX2_init_40 : decode cX2_init 40 = .ok (.iconst 3, 1) := by decide +kernel
theorem dX2_init_41 : decode cX2_init 41 = .ok (.newarray .int, 2) := by decide +kernel
theorem dX2_init_43 : decode cX2_init 43 = .ok (.putfield 28, 3) := by decide +kernel
theorem dX2_init_46 : decode cX2_init 46 = .ok (.aload_n 0, 1) := by decide +kernel
theorem dX2_init_47 : decode cX2_init 47 = .ok (.getfield 18, 3) := by decide +kernel
theorem dX2_init_50 : decode cX2_init 50 = .ok (.iconst (-1), 1) := by decide +kernel
theorem dX2_init_51 : decode cX2_init 51 = .ok (.invokestatic 31, 3) := by decide +kernel
theorem dX2_init_54 : decode cX2_init 54 = .ok (.return_, 1) := by decide +kernel
theorem dX2_forget_0 : decode cX2_forget 0 = .ok (.aload_n 0, 1) := by decide +kernel
theorem dX2_forget_1 : decode cX2_forget 1 = .ok (.getfield 18, 3) := by decide +kernel
theorem dX2_forget_4 : decode cX2_forget 4 = .ok (.iconst (-1), 1) := by decide +kernel
theorem dX2_forget_5 : decode cX2_forget 5 = .ok (.invokestatic 31, 3) := by decide +kernel
theorem dX2_forget_8 : decode cX2_forget 8 = .ok (.return_, 1) := by decide +kernel
theorem dX2_markOf_0 : decode cX2_markOf 0 = .ok (.iload_n 1, 1) := by decide +kernel
theorem dX2_markOf_1 : decode cX2_markOf 1 = .ok (.iconst 0, 1) := by decide +kernel
theorem dX2_markOf_2 : decode cX2_markOf 2 = .ok (.bipush 31, 2) := by decide +kernel
theorem dX2_markOf_4 : decode cX2_markOf 4 = .ok (.invokestatic 37, 3) := by decide +kernel
theorem dX2_markOf_7 : decode cX2_markOf 7 = .ok (.ifCond .ne 5, 3) := by decide +kernel
theorem dX2_markOf_10 : decode cX2_markOf 10 = .ok (.iconst 5, 1) := by decide +kernel
theorem dX2_markOf_11 : decode cX2_markOf 11 = .ok (.ireturn, 1) := by decide +kernel
theorem dX2_markOf_12 : decode cX2_markOf 12 = .ok (.aload_n 0, 1) := by decide +kernel
theorem dX2_markOf_13 : decode cX2_markOf 13 = .ok (.getfield 18, 3) := by decide +kernel
theorem dX2_markOf_16 : decode cX2_markOf 16 = .ok (.iload_n 1, 1) := by decide +kernel
theorem dX2_markOf_17 : decode cX2_markOf 17 = .ok (.iaload, 1) := by decide +kernel
theorem dX2_markOf_18 : decode cX2_markOf 18 = .ok (.iconst (-1), 1) := by decide +kernel
theorem dX2_markOf_19 : decode cX2_markOf 19 = .ok (.if_icmp .ne 29, 3) := by decide +kernel
theorem dX2_markOf_22 : decode cX2_markOf 22 = .ok (.aload_n 0, 1) := by decide +kernel
theorem dX2_markOf_23 : decode cX2_markOf 23 = .ok (.iload_n 1, 1) := by decide +kernel
theorem dX2_markOf_24 : decode cX2_markOf 24 = .ok (.invokevirtual 41, 3) := by decide +kernel
theorem dX2_markOf_27 : decode cX2_markOf 27 = .ok (.istore_n 2, 1) := by decide +kernel
theorem dX2_markOf_28 : decode cX2_markOf 28 = .ok (.aload_n 0, 1) := by decide +kernel
theorem dX2_markOf_29 : decode cX2_markOf 29 = .ok (.getfield 18, 3) := by decide +kernel
theorem dX2_markOf_32 : decode cX2_markOf 32 = .ok (.iload_n 1, 1) := by decide +kernel
theorem dX2_markOf_33 : decode cX2_markOf 33 = .ok (.iload_n 2, 1) := by decide +kernel
theorem dX2_markOf_34 : decode cX2_markOf 34 = .ok (.iconst 5, 1) := by decide +kernel
theorem dX2_markOf_35 : decode cX2_markOf 35 = .ok (.if_icmp .ne 11, 3) := by decide +kernel
theorem dX2_markOf_38 : decode cX2_markOf 38 = .ok (.aload_n 0, 1) := by decide +kernel
theorem dX2_markOf_39 : decode cX2_markOf 39 = .ok (.iload_n 1, 1) := by decide +kernel
theorem dX2_markOf_40 : decode cX2_markOf 40 = .ok (.invokevirtual 45, 3) := by decide +kernel
theorem dX2_markOf_43 : decode cX2_markOf 43 = .ok (.goto 4, 3) := by decide +kernel
theorem dX2_markOf_46 : decode cX2_markOf 46 = .ok (.iload_n 2, 1) := by decide +kernel
theorem dX2_markOf_47 : decode cX2_markOf 47 = .ok (.iastore, 1) := by decide +kernel
theorem dX2_markOf_48 : decode cX2_markOf 48 = .ok (.aload_n 0, 1) := by decide +kernel
theorem dX2_markOf_49 : decode cX2_markOf 49 = .ok (.getfield 18, 3) := by decide +kernel
theorem dX2_markOf_52 : decode cX2_markOf 52 = .ok (.iload_n 1, 1) := by decide +kernel
theorem dX2_markOf_53 : decode cX2_markOf 53 = .ok (.iaload, 1) := by decide +kernel
theorem dX2_markOf_54 : decode cX2_markOf 54 = .ok (.ireturn, 1) := by decide +kernel
theorem dX2_distanceOf_0 : decode cX2_distanceOf 0 = .ok (.aload_n 0, 1) := by decide +kernel
theorem dX2_distanceOf_1 : decode cX2_distanceOf 1 = .ok (.iload_n 1, 1) := by decide +kernel
theorem dX2_distanceOf_2 : decode cX2_distanceOf 2 = .ok (.invokevirtual 48, 3) := by decide +kernel
theorem dX2_distanceOf_5 : decode cX2_distanceOf 5 = .ok (.ifCond .ne 12, 3) := by decide +kernel
theorem dX2_distanceOf_8 : decode cX2_distanceOf 8 = .ok (.aload_n 0, 1) := by decide +kernel
theorem dX2_distanceOf_9 : decode cX2_distanceOf 9 = .ok (.getfield 22, 3) := by decide +kernel
theorem dX2_distanceOf_12 : decode cX2_distanceOf 12 = .ok (.iload_n 1, 1) := by decide +kernel
theorem dX2_distanceOf_13 : decode cX2_distanceOf 13 = .ok (.iaload, 1) := by decide +kernel
theorem dX2_distanceOf_14 : decode cX2_distanceOf 14 = .ok (.goto 6, 3) := by decide +kernel
theorem dX2_distanceOf_17 : decode cX2_distanceOf 17 = .ok (.sipush (-10001), 3) := by decide +kernel
theorem dX2_distanceOf_20 : decode cX2_distanceOf 20 = .ok (.ireturn, 1) := by decide +kernel
theorem dX2_nearOf_0 : decode cX2_nearOf 0 = .ok (.aload_n 0, 1) := by decide +kernel
theorem dX2_nearOf_1 : decode cX2_nearOf 1 = .ok (.iload_n 1, 1) := by decide +kernel
theorem dX2_nearOf_2 : decode cX2_nearOf 2 = .ok (.invokevirtual 48, 3) := by decide +kernel
theorem dX2_nearOf_5 : decode cX2_nearOf 5 = .ok (.iconst 4, 1) := by decide +kernel
theorem dX2_nearOf_6 : decode cX2_nearOf 6 = .ok (.if_icmp .ne 12, 3) := by decide +kernel
theorem dX2_nearOf_9 : decode cX2_nearOf 9 = .ok (.aload_n 0, 1) := by decide +kernel
theorem dX2_nearOf_10 : decode cX2_nearOf 10 = .ok (.getfield 22, 3) := by decide +kernel
theorem dX2_nearOf_13 : decode cX2_nearOf 13 = .ok (.iload_n 1, 1) := by decide +kernel
theorem dX2_nearOf_14 : decode cX2_nearOf 14 = .ok (.iaload, 1) := by decide +kernel
theorem dX2_nearOf_15 : decode cX2_nearOf 15 = .ok (.goto 6, 3) := by decide +kernel
theorem dX2_nearOf_18 : decode cX2_nearOf 18 = .ok (.sipush (-10001), 3) := by decide +kernel
theorem dX2_nearOf_21 : decode cX2_nearOf 21 = .ok (.ireturn, 1) := by decide +kernel
theorem dX2_beyondOf_0 : decode cX2_beyondOf 0 = .ok (.aload_n 0, 1) := by decide +kernel
theorem dX2_beyondOf_1 : decode cX2_beyondOf 1 = .ok (.iload_n 1, 1) := by decide +kernel
theorem dX2_beyondOf_2 : decode cX2_beyondOf 2 = .ok (.invokevirtual 48, 3) := by decide +kernel
theorem dX2_beyondOf_5 : decode cX2_beyondOf 5 = .ok (.iconst 4, 1) := by decide +kernel
theorem dX2_beyondOf_6 : decode cX2_beyondOf 6 = .ok (.if_icmp .ne 12, 3) := by decide +kernel
theorem dX2_beyondOf_9 : decode cX2_beyondOf 9 = .ok (.aload_n 0, 1) := by decide +kernel
theorem dX2_beyondOf_10 : decode cX2_beyondOf 10 = .ok (.getfield 25, 3) := by decide +kernel
theorem dX2_beyondOf_13 : decode cX2_beyondOf 13 = .ok (.iload_n 1, 1) := by decide +kernel
theorem dX2_beyondOf_14 : decode cX2_beyondOf 14 = .ok (.iaload, 1) := by decide +kernel
theorem dX2_beyondOf_15 : decode cX2_beyondOf 15 = .ok (.goto 6, 3) := by decide +kernel
theorem dX2_beyondOf_18 : decode cX2_beyondOf 18 = .ok (.sipush (-10001), 3) := by decide +kernel
theorem dX2_beyondOf_21 : decode cX2_beyondOf 21 = .ok (.ireturn, 1) := by decide +kernel
theorem dX2_reckon_0 : decode cX2_reckon 0 = .ok (.aload_n 0, 1) := by decide +kernel
theorem dX2_reckon_1 : decode cX2_reckon 1 = .ok (.getfield 12, 3) := by decide +kernel
theorem dX2_reckon_4 : decode cX2_reckon 4 = .ok (.iload_n 1, 1) := by decide +kernel
theorem dX2_reckon_5 : decode cX2_reckon 5 = .ok (.aload_n 0, 1) := by decide +kernel
theorem dX2_reckon_6 : decode cX2_reckon 6 = .ok (.getfield 12, 3) := by decide +kernel
theorem dX2_reckon_9 : decode cX2_reckon 9 = .ok (.getfield 51, 3) := by decide +kernel
theorem dX2_reckon_12 : decode cX2_reckon 12 = .ok (.iconst 2, 1) := by decide +kernel
theorem dX2_reckon_13 : decode cX2_reckon 13 = .ok (.iaload, 1) := by decide +kernel
theorem dX2_reckon_14 : decode cX2_reckon 14 = .ok (.invokevirtual 54, 3) := by decide +kernel
theorem dX2_reckon_17 : decode cX2_reckon 17 = .ok (.ifCond .le 5, 3) := by decide +kernel
theorem dX2_reckon_20 : decode cX2_reckon 20 = .ok (.iconst 1, 1) := by decide +kernel
theorem dX2_reckon_21 : decode cX2_reckon 21 = .ok (.ireturn, 1) := by decide +kernel
theorem dX2_reckon_22 : decode cX2_reckon 22 = .ok (.iconst 0, 1) := by decide +kernel
theorem dX2_reckon_23 : decode cX2_reckon 23 = .ok (.istore_n 2, 1) := by decide +kernel
theorem dX2_reckon_24 : decode cX2_reckon 24 = .ok (.iload_n 2, 1) := by decide +kernel
theorem dX2_reckon_25 : decode cX2_reckon 25 = .ok (.iconst 3, 1) := by decide +kernel
theorem dX2_reckon_26 : decode cX2_reckon 26 = .ok (.if_icmp .ge 85, 3) := by decide +kernel
theorem dX2_reckon_29 : decode cX2_reckon 29 = .ok (.aload_n 0, 1) := by decide +kernel
theorem dX2_reckon_30 : decode cX2_reckon 30 = .ok (.getfield 12, 3) := by decide +kernel
theorem dX2_reckon_33 : decode cX2_reckon 33 = .ok (.iload_n 1, 1) := by decide +kernel
theorem dX2_reckon_34 : decode cX2_reckon 34 = .ok (.iload_n 2, 1) := by decide +kernel
theorem dX2_reckon_35 : decode cX2_reckon 35 = .ok (.invokevirtual 58, 3) := by decide +kernel
theorem dX2_reckon_38 : decode cX2_reckon 38 = .ok (.istore_n 3, 1) := by decide +kernel
theorem dX2_reckon_39 : decode cX2_reckon 39 = .ok (.aload_n 0, 1) := by decide +kernel
theorem dX2_reckon_40 : decode cX2_reckon 40 = .ok (.getfield 12, 3) := by decide +kernel
theorem dX2_reckon_43 : decode cX2_reckon 43 = .ok (.iload_n 1, 1) := by decide +kernel
theorem dX2_reckon_44 : decode cX2_reckon 44 = .ok (.iload_n 2, 1) := by decide +kernel
theorem dX2_reckon_45 : decode cX2_reckon 45 = .ok (.invokevirtual 61, 3) := by decide +kernel
theorem dX2_reckon_48 : decode cX2_reckon 48 = .ok (.istore 4, 2) := by decide +kernel
theorem dX2_reckon_50 : decode cX2_reckon 50 = .ok (.aload_n 0, 1) := by decide +kernel
theorem dX2_reckon_51 : decode cX2_reckon 51 = .ok (.getfield 28, 3) := by decide +kernel
theorem dX2_reckon_54 : decode cX2_reckon 54 = .ok (.iload_n 2, 1) := by decide +kernel
theorem dX2_reckon_55 : decode cX2_reckon 55 = .ok (.iload_n 3, 1) := by decide +kernel
theorem dX2_reckon_56 : decode cX2_reckon 56 = .ok (.iload 4, 2) := by decide +kernel
theorem dX2_reckon_58 : decode cX2_reckon 58 = .ok (.aload_n 0, 1) := by decide +kernel
theorem dX2_reckon_59 : decode cX2_reckon 59 = .ok (.getfield 12, 3) := by decide +kernel
theorem dX2_reckon_62 : decode cX2_reckon 62 = .ok (.getfield 64, 3) := by decide +kernel
theorem dX2_reckon_65 : decode cX2_reckon 65 = .ok (.iload_n 2, 1) := by decide +kernel
theorem dX2_reckon_66 : decode cX2_reckon 66 = .ok (.iaload, 1) := by decide +kernel
theorem dX2_reckon_67 : decode cX2_reckon 67 = .ok (.invokestatic 67, 3) := by decide +kernel
theorem dX2_reckon_70 : decode cX2_reckon 70 = .ok (.iastore, 1) := by decide +kernel
theorem dX2_reckon_71 : decode cX2_reckon 71 = .ok (.aload_n 0, 1) := by decide +kernel
theorem dX2_reckon_72 : decode cX2_reckon 72 = .ok (.getfield 28, 3) := by decide +kernel
theorem dX2_reckon_75 : decode cX2_reckon 75 = .ok (.iload_n 2, 1) := by decide +kernel
theorem dX2_reckon_76 : decode cX2_reckon 76 = .ok (.iaload, 1) := by decide +kernel
theorem dX2_reckon_77 : decode cX2_reckon 77 = .ok (.sipush (-10001), 3) := by decide +kernel
theorem dX2_reckon_80 : decode cX2_reckon 80 = .ok (.if_icmp .eq 23, 3) := by decide +kernel
theorem dX2_reckon_83 : decode cX2_reckon 83 = .ok (.iload_n 3, 1) := by decide +kernel
theorem dX2_reckon_84 : decode cX2_reckon 84 = .ok (.iload 4, 2) := by decide +kernel
theorem dX2_reckon_86 : decode cX2_reckon 86 = .ok (.invokestatic 73, 3) := by decide +kernel
theorem dX2_reckon_89 : decode cX2_reckon 89 = .ok (.aload_n 0, 1) := by decide +kernel
theorem dX2_reckon_90 : decode cX2_reckon 90 = .ok (.getfield 12, 3) := by decide +kernel
theorem dX2_reckon_93 : decode cX2_reckon 93 = .ok (.getfield 51, 3) := by decide +kernel
theorem dX2_reckon_96 : decode cX2_reckon 96 = .ok (.iconst 1, 1) := by decide +kernel
theorem dX2_reckon_97 : decode cX2_reckon 97 = .ok (.iaload, 1) := by decide +kernel
theorem dX2_reckon_98 : decode cX2_reckon 98 = .ok (.i2f, 1) := by decide +kernel
theorem dX2_reckon_99 : decode cX2_reckon 99 = .ok (.fcmp .g, 1) := by decide +kernel
theorem dX2_reckon_100 : decode cX2_reckon 100 = .ok (.ifCond .ge 5, 3) := by decide +kernel
theorem dX2_reckon_103 : decode cX2_reckon 103 = .ok (.iconst 2, 1) := by decide +kernel
theorem dX2_reckon_104 : decode cX2_reckon 104 = .ok (.ireturn, 1) := by decide +kernel
theorem dX2_reckon_105 : decode cX2_reckon 105 = .ok (.iinc 2 1, 3) := by decide +kernel
theorem dX2_reckon_108 : decode cX2_reckon 108 = .ok (.goto (-84), 3) := by decide +kernel
theorem dX2_reckon_111 : decode cX2_reckon 111 = .ok (.aload_n 0, 1) := by decide +kernel
theorem dX2_reckon_112 : decode cX2_reckon 112 = .ok (.iconst (-1), 1) := by decide +kernel
theorem dX2_reckon_113 : decode cX2_reckon 113 = .ok (.invokevirtual 77, 3) := by decide +kernel
theorem dX2_reckon_116 : decode cX2_reckon 116 = .ok (.ifCond .ne 5, 3) := by decide +kernel
theorem dX2_reckon_119 : decode cX2_reckon 119 = .ok (.iconst 5, 1) := by decide +kernel
theorem dX2_reckon_120 : decode cX2_reckon 120 = .ok (.ireturn, 1) := by decide +kernel
theorem dX2_reckon_121 : decode cX2_reckon 121 = .ok (.aload_n 0, 1) := by decide +kernel
theorem dX2_reckon_122 : decode cX2_reckon 122 = .ok (.getfield 22, 3) := by decide +kernel
theorem dX2_reckon_125 : decode cX2_reckon 125 = .ok (.iload_n 1, 1) := by decide +kernel
theorem dX2_reckon_126 : decode cX2_reckon 126 = .ok (.aload_n 0, 1) := by decide +kernel
theorem dX2_reckon_127 : decode cX2_reckon 127 = .ok (.getfield 81, 3) := by decide +kernel
theorem dX2_reckon_130 : decode cX2_reckon 130 = .ok (.iastore, 1) := by decide +kernel
theorem dX2_reckon_131 : decode cX2_reckon 131 = .ok (.iconst 2, 1) := by decide +kernel
theorem dX2_reckon_132 : decode cX2_reckon 132 = .ok (.aload_n 0, 1) := by decide +kernel
theorem dX2_reckon_133 : decode cX2_reckon 133 = .ok (.getfield 12, 3) := by decide +kernel
theorem dX2_reckon_136 : decode cX2_reckon 136 = .ok (.getfield 51, 3) := by decide +kernel
theorem dX2_reckon_139 : decode cX2_reckon 139 = .ok (.iconst 0, 1) := by decide +kernel
theorem dX2_reckon_140 : decode cX2_reckon 140 = .ok (.iaload, 1) := by decide +kernel
theorem dX2_reckon_141 : decode cX2_reckon 141 = .ok (.imul, 1) := by decide +kernel
theorem dX2_reckon_142 : decode cX2_reckon 142 = .ok (.istore_n 2, 1) := by decide +kernel
theorem dX2_reckon_143 : decode cX2_reckon 143 = .ok (.aload_n 0, 1) := by decide +kernel
theorem dX2_reckon_144 : decode cX2_reckon 144 = .ok (.getfield 81, 3) := by decide +kernel
theorem dX2_reckon_147 : decode cX2_reckon 147 = .ok (.aload_n 0, 1) := by decide +kernel
theorem dX2_reckon_148 : decode cX2_reckon 148 = .ok (.getfield 85, 3) := by decide +kernel
theorem dX2_reckon_151 : decode cX2_reckon 151 = .ok (.isub, 1) := by decide +kernel
theorem dX2_reckon_152 : decode cX2_reckon 152 = .ok (.iload_n 2, 1) := by decide +kernel
theorem dX2_reckon_153 : decode cX2_reckon 153 = .ok (.if_icmp .gt 16, 3) := by decide +kernel
theorem dX2_reckon_156 : decode cX2_reckon 156 = .ok (.aload_n 0, 1) := by decide +kernel
theorem dX2_reckon_157 : decode cX2_reckon 157 = .ok (.getfield 88, 3) := by decide +kernel
theorem dX2_reckon_160 : decode cX2_reckon 160 = .ok (.aload_n 0, 1) := by decide +kernel
theorem dX2_reckon_161 : decode cX2_reckon 161 = .ok (.getfield 81, 3) := by decide +kernel
theorem dX2_reckon_164 : decode cX2_reckon 164 = .ok (.isub, 1) := by decide +kernel
theorem dX2_reckon_165 : decode cX2_reckon 165 = .ok (.iload_n 2, 1) := by decide +kernel
theorem dX2_reckon_166 : decode cX2_reckon 166 = .ok (.if_icmp .le 7, 3) := by decide +kernel
theorem dX2_reckon_169 : decode cX2_reckon 169 = .ok (.iconst 3, 1) := by decide +kernel
theorem dX2_reckon_170 : decode cX2_reckon 170 = .ok (.goto 4, 3) := by decide +kernel
theorem dX2_reckon_173 : decode cX2_reckon 173 = .ok (.iconst 0, 1) := by decide +kernel
theorem dX2_reckon_174 : decode cX2_reckon 174 = .ok (.ireturn, 1) := by decide +kernel
theorem dX2_reckonPairs_0 : decode cX2_reckonPairs 0 = .ok (.sipush (-10001), 3) := by decide +kernel
theorem dX2_reckonPairs_3 : decode cX2_reckonPairs 3 = .ok (.istore_n 2, 1) := by decide +kernel
theorem dX2_reckonPairs_4 : decode cX2_reckonPairs 4 = .ok (.sipush (-10001), 3) := by decide +kernel
theorem dX2_reckonPairs_7 : decode cX2_reckonPairs 7 = .ok (.istore_n 3, 1) := by decide +kernel
theorem dX2_reckonPairs_8 : decode cX2_reckonPairs 8 = .ok (.iconst 0, 1) := by decide +kernel
theorem dX2_reckonPairs_9 : decode cX2_reckonPairs 9 = .ok (.istore 4, 2) := by decide +kernel
theorem dX2_reckonPairs_11 : decode cX2_reckonPairs 11 = .ok (.iload 4, 2) := by decide +kernel
theorem dX2_reckonPairs_13 : decode cX2_reckonPairs 13 = .ok (.iconst 3, 1) := by decide +kernel
theorem dX2_reckonPairs_14 : decode cX2_reckonPairs 14 = .ok (.if_icmp .ge 50, 3) := by decide +kernel
theorem dX2_reckonPairs_17 : decode cX2_reckonPairs 17 = .ok (.aload_n 0, 1) := by decide +kernel
theorem dX2_reckonPairs_18 : decode cX2_reckonPairs 18 = .ok (.iload 4, 2) := by decide +kernel
theorem dX2_reckonPairs_20 : decode cX2_reckonPairs 20 = .ok (.invokevirtual 77, 3) := by decide +kernel
theorem dX2_reckonPairs_23 : decode cX2_reckonPairs 23 = .ok (.ifCond .eq 35, 3) := by decide +kernel
theorem dX2_reckonPairs_26 : decode cX2_reckonPairs 26 = .ok (.iload_n 2, 1) := by decide +kernel
theorem dX2_reckonPairs_27 : decode cX2_reckonPairs 27 = .ok (.sipush (-10001), 3) := by decide +kernel
theorem dX2_reckonPairs_30 : decode cX2_reckonPairs 30 = .ok (.if_icmp .ne 10, 3) := by decide +kernel
theorem dX2_reckonPairs_33 : decode cX2_reckonPairs 33 = .ok (.aload_n 0, 1) := by decide +kernel
theorem dX2_reckonPairs_34 : decode cX2_reckonPairs 34 = .ok (.getfield 81, 3) := by decide +kernel
theorem dX2_reckonPairs_37 : decode cX2_reckonPairs 37 = .ok (.goto 11, 3) := by decide +kernel
theorem dX2_reckonPairs_40 : decode cX2_reckonPairs 40 = .ok (.iload_n 2, 1) := by decide +kernel
theorem dX2_reckonPairs_41 : decode cX2_reckonPairs 41 = .ok (.aload_n 0, 1) := by decide +kernel
theorem dX2_reckonPairs_42 : decode cX2_reckonPairs 42 = .ok (.getfield 81, 3) := by decide +kernel
theorem dX2_reckonPairs_45 : decode cX2_reckonPairs 45 = .ok (.invokestatic 91, 3) := by decide +kernel
theorem dX2_reckonPairs_48 : decode cX2_reckonPairs 48 = .ok (.istore_n 2, 1) := by decide +kernel
theorem dX2_reckonPairs_49 : decode cX2_reckonPairs 49 = .ok (.iload_n 3, 1) := by decide +kernel
theorem dX2_reckonPairs_50 : decode cX2_reckonPairs 50 = .ok (.aload_n 0, 1) := by decide +kernel
theorem dX2_reckonPairs_51 : decode cX2_reckonPairs 51 = .ok (.getfield 81, 3) := by decide +kernel
theorem dX2_reckonPairs_54 : decode cX2_reckonPairs 54 = .ok (.invokestatic 96, 3) := by decide +kernel
theorem dX2_reckonPairs_57 : decode cX2_reckonPairs 57 = .ok (.istore_n 3, 1) := by decide +kernel
theorem dX2_reckonPairs_58 : decode cX2_reckonPairs 58 = .ok (.iinc 4 1, 3) := by decide +kernel
theorem dX2_reckonPairs_61 : decode cX2_reckonPairs 61 = .ok (.goto (-50), 3) := by decide +kernel
theorem dX2_reckonPairs_64 : decode cX2_reckonPairs 64 = .ok (.aload_n 0, 1) := by decide +kernel
theorem dX2_reckonPairs_65 : decode cX2_reckonPairs 65 = .ok (.getfield 22, 3) := by decide +kernel
theorem dX2_reckonPairs_68 : decode cX2_reckonPairs 68 = .ok (.iload_n 1, 1) := by decide +kernel
theorem dX2_reckonPairs_69 : decode cX2_reckonPairs 69 = .ok (.iload_n 2, 1) := by decide +kernel
theorem dX2_reckonPairs_70 : decode cX2_reckonPairs 70 = .ok (.iastore, 1) := by decide +kernel
theorem dX2_reckonPairs_71 : decode cX2_reckonPairs 71 = .ok (.aload_n 0, 1) := by decide +kernel
theorem dX2_reckonPairs_72 : decode cX2_reckonPairs 72 = .ok (.getfield 25, 3) := by decide +kernel
theorem dX2_reckonPairs_75 : decode cX2_reckonPairs 75 = .ok (.iload_n 1, 1) := by decide +kernel
theorem dX2_reckonPairs_76 : decode cX2_reckonPairs 76 = .ok (.iload_n 3, 1) := by decide +kernel
theorem dX2_reckonPairs_77 : decode cX2_reckonPairs 77 = .ok (.iastore, 1) := by decide +kernel
theorem dX2_reckonPairs_78 : decode cX2_reckonPairs 78 = .ok (.iload_n 2, 1) := by decide +kernel
theorem dX2_reckonPairs_79 : decode cX2_reckonPairs 79 = .ok (.sipush (-10001), 3) := by decide +kernel
theorem dX2_reckonPairs_82 : decode cX2_reckonPairs 82 = .ok (.if_icmp .ne 7, 3) := by decide +kernel
theorem dX2_reckonPairs_85 : decode cX2_reckonPairs 85 = .ok (.iconst 5, 1) := by decide +kernel
theorem dX2_reckonPairs_86 : decode cX2_reckonPairs 86 = .ok (.goto 4, 3) := by decide +kernel
theorem dX2_reckonPairs_89 : decode cX2_reckonPairs 89 = .ok (.iconst 4, 1) := by decide +kernel
theorem dX2_reckonPairs_90 : decode cX2_reckonPairs 90 = .ok (.ireturn, 1) := by decide +kernel
theorem dX2_search_0 : decode cX2_search 0 = .ok (.aload_n 0, 1) := by decide +kernel
theorem dX2_search_1 : decode cX2_search 1 = .ok (.sipush (-10001), 3) := by decide +kernel
theorem dX2_search_4 : decode cX2_search 4 = .ok (.putfield 85, 3) := by decide +kernel
theorem dX2_search_7 : decode cX2_search 7 = .ok (.iconst 4, 1) := by decide +kernel
theorem dX2_search_8 : decode cX2_search 8 = .ok (.aload_n 0, 1) := by decide +kernel
theorem dX2_search_9 : decode cX2_search 9 = .ok (.getfield 12, 3) := by decide +kernel
theorem dX2_search_12 : decode cX2_search 12 = .ok (.getfield 51, 3) := by decide +kernel
theorem dX2_search_15 : decode cX2_search 15 = .ok (.iconst 0, 1) := by decide +kernel
theorem dX2_search_16 : decode cX2_search 16 = .ok (.iaload, 1) := by decide +kernel
theorem dX2_search_17 : decode cX2_search 17 = .ok (.imul, 1) := by decide +kernel
theorem dX2_search_18 : decode cX2_search 18 = .ok (.istore_n 2, 1) := by decide +kernel
theorem dX2_search_19 : decode cX2_search 19 = .ok (.ldc 101, 2) := by decide +kernel
theorem dX2_search_21 : decode cX2_search 21 = .ok (.istore_n 3, 1) := by decide +kernel
theorem dX2_search_22 : decode cX2_search 22 = .ok (.iconst 0, 1) := by decide +kernel
theorem dX2_search_23 : decode cX2_search 23 = .ok (.istore 4, 2) := by decide +kernel
theorem dX2_search_25 : decode cX2_search 25 = .ok (.iload 4, 2) := by decide +kernel
theorem dX2_search_27 : decode cX2_search 27 = .ok (.aload_n 0, 1) := by decide +kernel
theorem dX2_search_28 : decode cX2_search 28 = .ok (.getfield 12, 3) := by decide +kernel
theorem dX2_search_31 : decode cX2_search 31 = .ok (.getfield 51, 3) := by decide +kernel
theorem dX2_search_34 : decode cX2_search 34 = .ok (.iconst 3, 1) := by decide +kernel
theorem dX2_search_35 : decode cX2_search 35 = .ok (.iaload, 1) := by decide +kernel
theorem dX2_search_36 : decode cX2_search 36 = .ok (.if_icmp .gt 116, 3) := by decide +kernel
theorem dX2_search_39 : decode cX2_search 39 = .ok (.aload_n 0, 1) := by decide +kernel
theorem dX2_search_40 : decode cX2_search 40 = .ok (.iload 4, 2) := by decide +kernel
theorem dX2_search_42 : decode cX2_search 42 = .ok (.iload_n 1, 1) := by decide +kernel
theorem dX2_search_43 : decode cX2_search 43 = .ok (.invokevirtual 102, 3) := by decide +kernel
theorem dX2_search_46 : decode cX2_search 46 = .ok (.istore 5, 2) := by decide +kernel
theorem dX2_search_48 : decode cX2_search 48 = .ok (.iload 5, 2) := by decide +kernel
theorem dX2_search_50 : decode cX2_search 50 = .ok (.ifCond .le 15, 3) := by decide +kernel
theorem dX2_search_53 : decode cX2_search 53 = .ok (.iload 4, 2) := by decide +kernel
theorem dX2_search_55 : decode cX2_search 55 = .ok (.iload 5, 2) := by decide +kernel
theorem dX2_search_57 : decode cX2_search 57 = .ok (.iconst 1, 1) := by decide +kernel
theorem dX2_search_58 : decode cX2_search 58 = .ok (.isub, 1) := by decide +kernel
theorem dX2_search_59 : decode cX2_search 59 = .ok (.iadd, 1) := by decide +kernel
theorem dX2_search_60 : decode cX2_search 60 = .ok (.istore 4, 2) := by decide +kernel
theorem dX2_search_62 : decode cX2_search 62 = .ok (.goto 84, 3) := by decide +kernel
theorem dX2_search_65 : decode cX2_search 65 = .ok (.aload_n 0, 1) := by decide +kernel
theorem dX2_search_66 : decode cX2_search 66 = .ok (.iload 4, 2) := by decide +kernel
theorem dX2_search_68 : decode cX2_search 68 = .ok (.iload_n 1, 1) := by decide +kernel
theorem dX2_search_69 : decode cX2_search 69 = .ok (.invokevirtual 105, 3) := by decide +kernel
theorem dX2_search_72 : decode cX2_search 72 = .ok (.istore 6, 2) := by decide +kernel
theorem dX2_search_74 : decode cX2_search 74 = .ok (.iload 6, 2) := by decide +kernel
theorem dX2_search_76 : decode cX2_search 76 = .ok (.iload_n 3, 1) := by decide +kernel
theorem dX2_search_77 : decode cX2_search 77 = .ok (.if_icmp .ge 12, 3) := by decide +kernel
theorem dX2_search_80 : decode cX2_search 80 = .ok (.iload 6, 2) := by decide +kernel
theorem dX2_search_82 : decode cX2_search 82 = .ok (.istore_n 3, 1) := by decide +kernel
theorem dX2_search_83 : decode cX2_search 83 = .ok (.aload_n 0, 1) := by decide +kernel
theorem dX2_search_84 : decode cX2_search 84 = .ok (.iload 4, 2) := by decide +kernel
theorem dX2_search_86 : decode cX2_search 86 = .ok (.putfield 81, 3) := by decide +kernel
theorem dX2_search_89 : decode cX2_search 89 = .ok (.aload_n 0, 1) := by decide +kernel
theorem dX2_search_90 : decode cX2_search 90 = .ok (.aload_n 0, 1) := by decide +kernel
theorem dX2_search_91 : decode cX2_search 91 = .ok (.getfield 85, 3) := by decide +kernel
theorem dX2_search_94 : decode cX2_search 94 = .ok (.sipush (-10001), 3) := by decide +kernel
theorem dX2_search_97 : decode cX2_search 97 = .ok (.if_icmp .ne 8, 3) := by decide +kernel
theorem dX2_search_100 : decode cX2_search 100 = .ok (.iload 4, 2) := by decide +kernel
theorem dX2_search_102 : decode cX2_search 102 = .ok (.goto 7, 3) := by decide +kernel
theorem dX2_search_105 : decode cX2_search 105 = .ok (.aload_n 0, 1) := by decide +kernel
theorem dX2_search_106 : decode cX2_search 106 = .ok (.getfield 85, 3) := by decide +kernel
theorem dX2_search_109 : decode cX2_search 109 = .ok (.putfield 85, 3) := by decide +kernel
theorem dX2_search_112 : decode cX2_search 112 = .ok (.aload_n 0, 1) := by decide +kernel
theorem dX2_search_113 : decode cX2_search 113 = .ok (.iload 4, 2) := by decide +kernel
theorem dX2_search_115 : decode cX2_search 115 = .ok (.putfield 88, 3) := by decide +kernel
theorem dX2_search_118 : decode cX2_search 118 = .ok (.iload_n 1, 1) := by decide +kernel
theorem dX2_search_119 : decode cX2_search 119 = .ok (.iconst (-1), 1) := by decide +kernel
theorem dX2_search_120 : decode cX2_search 120 = .ok (.if_icmp .ne 19, 3) := by decide +kernel
theorem dX2_search_123 : decode cX2_search 123 = .ok (.aload_n 0, 1) := by decide +kernel
theorem dX2_search_124 : decode cX2_search 124 = .ok (.getfield 88, 3) := by decide +kernel
theorem dX2_search_127 : decode cX2_search 127 = .ok (.aload_n 0, 1) := by decide +kernel
theorem dX2_search_128 : decode cX2_search 128 = .ok (.getfield 85, 3) := by decide +kernel
theorem dX2_search_131 : decode cX2_search 131 = .ok (.isub, 1) := by decide +kernel
theorem dX2_search_132 : decode cX2_search 132 = .ok (.iload_n 2, 1) := by decide +kernel
theorem dX2_search_133 : decode cX2_search 133 = .ok (.if_icmp .le 13, 3) := by decide +kernel
theorem dX2_search_136 : decode cX2_search 136 = .ok (.goto 16, 3) := by decide +kernel
theorem dX2_search_139 : decode cX2_search 139 = .ok (.iload_n 3, 1) := by decide +kernel
theorem dX2_search_140 : decode cX2_search 140 = .ok (.ifCond .ne 6, 3) := by decide +kernel
theorem dX2_search_143 : decode cX2_search 143 = .ok (.goto 9, 3) := by decide +kernel
theorem dX2_search_146 : decode cX2_search 146 = .ok (.iinc 4 1, 3) := by decide +kernel
theorem dX2_search_149 : decode cX2_search 149 = .ok (.goto (-124), 3) := by decide +kernel
theorem dX2_search_152 : decode cX2_search 152 = .ok (.aload_n 0, 1) := by decide +kernel
theorem dX2_search_153 : decode cX2_search 153 = .ok (.getfield 85, 3) := by decide +kernel
theorem dX2_search_156 : decode cX2_search 156 = .ok (.sipush (-10001), 3) := by decide +kernel
theorem dX2_search_159 : decode cX2_search 159 = .ok (.if_icmp .eq 7, 3) := by decide +kernel
theorem dX2_search_162 : decode cX2_search 162 = .ok (.iconst 1, 1) := by decide +kernel
theorem dX2_search_163 : decode cX2_search 163 = .ok (.goto 4, 3) := by decide +kernel
theorem dX2_search_166 : decode cX2_search 166 = .ok (.iconst 0, 1) := by decide +kernel
theorem dX2_search_167 : decode cX2_search 167 = .ok (.ireturn, 1) := by decide +kernel
theorem dX2_widestGap_0 : decode cX2_widestGap 0 = .ok (.iconst 0, 1) := by decide +kernel
theorem dX2_widestGap_1 : decode cX2_widestGap 1 = .ok (.istore_n 3, 1) := by decide +kernel
theorem dX2_widestGap_2 : decode cX2_widestGap 2 = .ok (.iconst 0, 1) := by decide +kernel
theorem dX2_widestGap_3 : decode cX2_widestGap 3 = .ok (.istore 4, 2) := by decide +kernel
theorem dX2_widestGap_5 : decode cX2_widestGap 5 = .ok (.iload 4, 2) := by decide +kernel
theorem dX2_widestGap_7 : decode cX2_widestGap 7 = .ok (.iconst 3, 1) := by decide +kernel
theorem dX2_widestGap_8 : decode cX2_widestGap 8 = .ok (.if_icmp .ge 50, 3) := by decide +kernel
theorem dX2_widestGap_11 : decode cX2_widestGap 11 = .ok (.iload 4, 2) := by decide +kernel
theorem dX2_widestGap_13 : decode cX2_widestGap 13 = .ok (.iload_n 2, 1) := by decide +kernel
theorem dX2_widestGap_14 : decode cX2_widestGap 14 = .ok (.if_icmp .eq 38, 3) := by decide +kernel
theorem dX2_widestGap_17 : decode cX2_widestGap 17 = .ok (.iload_n 3, 1) := by decide +kernel
theorem dX2_widestGap_18 : decode cX2_widestGap 18 = .ok (.iload_n 1, 1) := by decide +kernel
theorem dX2_widestGap_19 : decode cX2_widestGap 19 = .ok (.aload_n 0, 1) := by decide +kernel
theorem dX2_widestGap_20 : decode cX2_widestGap 20 = .ok (.getfield 28, 3) := by decide +kernel
theorem dX2_widestGap_23 : decode cX2_widestGap 23 = .ok (.iload 4, 2) := by decide +kernel
theorem dX2_widestGap_25 : decode cX2_widestGap 25 = .ok (.iaload, 1) := by decide +kernel
theorem dX2_widestGap_26 : decode cX2_widestGap 26 = .ok (.aload_n 0, 1) := by decide +kernel
theorem dX2_widestGap_27 : decode cX2_widestGap 27 = .ok (.getfield 12, 3) := by decide +kernel
theorem dX2_widestGap_30 : decode cX2_widestGap 30 = .ok (.getfield 64, 3) := by decide +kernel
theorem dX2_widestGap_33 : decode cX2_widestGap 33 = .ok (.iload 4, 2) := by decide +kernel
theorem dX2_widestGap_35 : decode cX2_widestGap 35 = .ok (.iaload, 1) := by decide +kernel
theorem dX2_widestGap_36 : decode cX2_widestGap 36 = .ok (.aload_n 0, 1) := by decide +kernel
theorem dX2_widestGap_37 : decode cX2_widestGap 37 = .ok (.getfield 12, 3) := by decide +kernel
theorem dX2_widestGap_40 : decode cX2_widestGap 40 = .ok (.getfield 51, 3) := by decide +kernel
theorem dX2_widestGap_43 : decode cX2_widestGap 43 = .ok (.iconst 0, 1) := by decide +kernel
theorem dX2_widestGap_44 : decode cX2_widestGap 44 = .ok (.iaload, 1) := by decide +kernel
theorem dX2_widestGap_45 : decode cX2_widestGap 45 = .ok (.invokestatic 108, 3) := by decide +kernel
theorem dX2_widestGap_48 : decode cX2_widestGap 48 = .ok (.invokestatic 96, 3) := by decide +kernel
theorem dX2_widestGap_51 : decode cX2_widestGap 51 = .ok (.istore_n 3, 1) := by decide +kernel
theorem dX2_widestGap_52 : decode cX2_widestGap 52 = .ok (.iinc 4 1, 3) := by decide +kernel
theorem dX2_widestGap_55 : decode cX2_widestGap 55 = .ok (.goto (-50), 3) := by decide +kernel
theorem dX2_widestGap_58 : decode cX2_widestGap 58 = .ok (.iload_n 3, 1) := by decide +kernel
theorem dX2_widestGap_59 : decode cX2_widestGap 59 = .ok (.ireturn, 1) := by decide +kernel
theorem dX2_misfit_0 : decode cX2_misfit 0 = .ok (.iconst 0, 1) := by decide +kernel
theorem dX2_misfit_1 : decode cX2_misfit 1 = .ok (.istore_n 3, 1) := by decide +kernel
theorem dX2_misfit_2 : decode cX2_misfit 2 = .ok (.iconst 0, 1) := by decide +kernel
theorem dX2_misfit_3 : decode cX2_misfit 3 = .ok (.istore 4, 2) := by decide +kernel
theorem dX2_misfit_5 : decode cX2_misfit 5 = .ok (.iload 4, 2) := by decide +kernel
theorem dX2_misfit_7 : decode cX2_misfit 7 = .ok (.iconst 3, 1) := by decide +kernel
theorem dX2_misfit_8 : decode cX2_misfit 8 = .ok (.if_icmp .ge 46, 3) := by decide +kernel
theorem dX2_misfit_11 : decode cX2_misfit 11 = .ok (.iload 4, 2) := by decide +kernel
theorem dX2_misfit_13 : decode cX2_misfit 13 = .ok (.iload_n 2, 1) := by decide +kernel
theorem dX2_misfit_14 : decode cX2_misfit 14 = .ok (.if_icmp .eq 34, 3) := by decide +kernel
theorem dX2_misfit_17 : decode cX2_misfit 17 = .ok (.iload_n 1, 1) := by decide +kernel
theorem dX2_misfit_18 : decode cX2_misfit 18 = .ok (.aload_n 0, 1) := by decide +kernel
theorem dX2_misfit_19 : decode cX2_misfit 19 = .ok (.getfield 28, 3) := by decide +kernel
theorem dX2_misfit_22 : decode cX2_misfit 22 = .ok (.iload 4, 2) := by decide +kernel
theorem dX2_misfit_24 : decode cX2_misfit 24 = .ok (.iaload, 1) := by decide +kernel
theorem dX2_misfit_25 : decode cX2_misfit 25 = .ok (.aload_n 0, 1) := by decide +kernel
theorem dX2_misfit_26 : decode cX2_misfit 26 = .ok (.getfield 12, 3) := by decide +kernel
theorem dX2_misfit_29 : decode cX2_misfit 29 = .ok (.getfield 64, 3) := by decide +kernel
theorem dX2_misfit_32 : decode cX2_misfit 32 = .ok (.iload 4, 2) := by decide +kernel
theorem dX2_misfit_34 : decode cX2_misfit 34 = .ok (.iaload, 1) := by decide +kernel
theorem dX2_misfit_35 : decode cX2_misfit 35 = .ok (.invokestatic 112, 3) := by decide +kernel
theorem dX2_misfit_38 : decode cX2_misfit 38 = .ok (.istore 5, 2) := by decide +kernel
theorem dX2_misfit_40 : decode cX2_misfit 40 = .ok (.iload_n 3, 1) := by decide +kernel
theorem dX2_misfit_41 : decode cX2_misfit 41 = .ok (.iload 5, 2) := by decide +kernel
theorem dX2_misfit_43 : decode cX2_misfit 43 = .ok (.iload 5, 2) := by decide +kernel
theorem dX2_misfit_45 : decode cX2_misfit 45 = .ok (.imul, 1) := by decide +kernel
theorem dX2_misfit_46 : decode cX2_misfit 46 = .ok (.iadd, 1) := by decide +kernel
theorem dX2_misfit_47 : decode cX2_misfit 47 = .ok (.istore_n 3, 1) := by decide +kernel
theorem dX2_misfit_48 : decode cX2_misfit 48 = .ok (.iinc 4 1, 3) := by decide +kernel
theorem dX2_misfit_51 : decode cX2_misfit 51 = .ok (.goto (-46), 3) := by decide +kernel
theorem dX2_misfit_54 : decode cX2_misfit 54 = .ok (.iload_n 3, 1) := by decide +kernel
theorem dX2_misfit_55 : decode cX2_misfit 55 = .ok (.ireturn, 1) := by decide +kernel
theorem dX2_filled_0 : decode cX2_filled 0 = .ok (.aload_n 0, 1) := by decide +kernel
theorem dX2_filled_1 : decode cX2_filled 1 = .ok (.getfield 12, 3) := by decide +kernel
theorem dX2_filled_4 : decode cX2_filled 4 = .ok (.aload_n 0, 1) := by decide +kernel
theorem dX2_filled_5 : decode cX2_filled 5 = .ok (.getfield 12, 3) := by decide +kernel
theorem dX2_filled_8 : decode cX2_filled 8 = .ok (.iload_n 1, 1) := by decide +kernel
theorem dX2_filled_9 : decode cX2_filled 9 = .ok (.iload_n 2, 1) := by decide +kernel
theorem dX2_filled_10 : decode cX2_filled 10 = .ok (.iload_n 3, 1) := by decide +kernel
theorem dX2_filled_11 : decode cX2_filled 11 = .ok (.invokevirtual 115, 3) := by decide +kernel
theorem dX2_filled_14 : decode cX2_filled 14 = .ok (.invokevirtual 118, 3) := by decide +kernel
theorem dX2_filled_17 : decode cX2_filled 17 = .ok (.fstore 4, 2) := by decide +kernel
theorem dX2_filled_19 : decode cX2_filled 19 = .ok (.aload_n 0, 1) := by decide +kernel
theorem dX2_filled_20 : decode cX2_filled 20 = .ok (.getfield 12, 3) := by decide +kernel
theorem dX2_filled_23 : decode cX2_filled 23 = .ok (.getfield 51, 3) := by decide +kernel
theorem dX2_filled_26 : decode cX2_filled 26 = .ok (.iconst 4, 1) := by decide +kernel
theorem dX2_filled_27 : decode cX2_filled 27 = .ok (.iaload, 1) := by decide +kernel
theorem dX2_filled_28 : decode cX2_filled 28 = .ok (.istore 5, 2) := by decide +kernel
theorem dX2_filled_30 : decode cX2_filled 30 = .ok (.fconst 0, 1) := by decide +kernel
theorem dX2_filled_31 : decode cX2_filled 31 = .ok (.fstore 6, 2) := by decide +kernel
theorem dX2_filled_33 : decode cX2_filled 33 = .ok (.fconst 0, 1) := by decide +kernel
theorem dX2_filled_34 : decode cX2_filled 34 = .ok (.fstore 7, 2) := by decide +kernel
theorem dX2_filled_36 : decode cX2_filled 36 = .ok (.iconst 0, 1) := by decide +kernel
theorem dX2_filled_37 : decode cX2_filled 37 = .ok (.istore 8, 2) := by decide +kernel
theorem dX2_filled_39 : decode cX2_filled 39 = .ok (.iload 8, 2) := by decide +kernel
theorem dX2_filled_41 : decode cX2_filled 41 = .ok (.getstatic 122, 3) := by decide +kernel
theorem dX2_filled_44 : decode cX2_filled 44 = .ok (.arraylength, 1) := by decide +kernel
theorem dX2_filled_45 : decode cX2_filled 45 = .ok (.if_icmp .ge 136, 3) := by decide +kernel
theorem dX2_filled_48 : decode cX2_filled 48 = .ok (.aload_n 0, 1) := by decide +kernel
theorem dX2_filled_49 : decode cX2_filled 49 = .ok (.getfield 12, 3) := by decide +kernel
theorem dX2_filled_52 : decode cX2_filled 52 = .ok (.iload_n 1, 1) := by decide +kernel
theorem dX2_filled_53 : decode cX2_filled 53 = .ok (.iload_n 2, 1) := by decide +kernel
theorem dX2_filled_54 : decode cX2_filled 54 = .ok (.getstatic 122, 3) := by decide +kernel
theorem dX2_filled_57 : decode cX2_filled 57 = .ok (.iload 8, 2) := by decide +kernel
theorem dX2_filled_59 : decode cX2_filled 59 = .ok (.iaload, 1) := by decide +kernel
theorem dX2_filled_60 : decode cX2_filled 60 = .ok (.iadd, 1) := by decide +kernel
theorem dX2_filled_61 : decode cX2_filled 61 = .ok (.iload_n 3, 1) := by decide +kernel
theorem dX2_filled_62 : decode cX2_filled 62 = .ok (.getstatic 125, 3) := by decide +kernel
theorem dX2_filled_65 : decode cX2_filled 65 = .ok (.iload 8, 2) := by decide +kernel
theorem dX2_filled_67 : decode cX2_filled 67 = .ok (.iaload, 1) := by decide +kernel
theorem dX2_filled_68 : decode cX2_filled 68 = .ok (.iadd, 1) := by decide +kernel
theorem dX2_filled_69 : decode cX2_filled 69 = .ok (.invokevirtual 115, 3) := by decide +kernel
theorem dX2_filled_72 : decode cX2_filled 72 = .ok (.istore 9, 2) := by decide +kernel
theorem dX2_filled_74 : decode cX2_filled 74 = .ok (.iload 9, 2) := by decide +kernel
theorem dX2_filled_76 : decode cX2_filled 76 = .ok (.ifCond .lt 99, 3) := by decide +kernel
theorem dX2_filled_79 : decode cX2_filled 79 = .ok (.iload 5, 2) := by decide +kernel
theorem dX2_filled_81 : decode cX2_filled 81 = .ok (.iconst 1, 1) := by decide +kernel
theorem dX2_filled_82 : decode cX2_filled 82 = .ok (.if_icmp .lt 93, 3) := by decide +kernel
theorem dX2_filled_85 : decode cX2_filled 85 = .ok (.aload_n 0, 1) := by decide +kernel
theorem dX2_filled_86 : decode cX2_filled 86 = .ok (.iload 9, 2) := by decide +kernel
theorem dX2_filled_88 : decode cX2_filled 88 = .ok (.invokevirtual 48, 3) := by decide +kernel
theorem dX2_filled_91 : decode cX2_filled 91 = .ok (.ifCond .eq 6, 3) := by decide +kernel
theorem dX2_filled_94 : decode cX2_filled 94 = .ok (.goto 81, 3) := by decide +kernel
theorem dX2_filled_97 : decode cX2_filled 97 = .ok (.aload_n 0, 1) := by decide +kernel
theorem dX2_filled_98 : decode cX2_filled 98 = .ok (.getfield 12, 3) := by decide +kernel
theorem dX2_filled_101 : decode cX2_filled 101 = .ok (.iload 9, 2) := by decide +kernel
theorem dX2_filled_103 : decode cX2_filled 103 = .ok (.invokevirtual 118, 3) := by decide +kernel
theorem dX2_filled_106 : decode cX2_filled 106 = .ok (.fload 4, 2) := by decide +kernel
theorem dX2_filled_108 : decode cX2_filled 108 = .ok (.fsub, 1) := by decide +kernel
theorem dX2_filled_109 : decode cX2_filled 109 = .ok (.fstore 10, 2) := by decide +kernel
theorem dX2_filled_111 : decode cX2_filled 111 = .ok (.fload 10, 2) := by decide +kernel
theorem dX2_filled_113 : decode cX2_filled 113 = .ok (.fconst 0, 1) := by decide +kernel
theorem dX2_filled_114 : decode cX2_filled 114 = .ok (.fcmp .g, 1) := by decide +kernel
theorem dX2_filled_115 : decode cX2_filled 115 = .ok (.ifCond .ge 9, 3) := by decide +kernel
theorem dX2_filled_118 : decode cX2_filled 118 = .ok (.fload 10, 2) := by decide +kernel
theorem dX2_filled_120 : decode cX2_filled 120 = .ok (.fneg, 1) := by decide +kernel
theorem dX2_filled_121 : decode cX2_filled 121 = .ok (.goto 5, 3) := by decide +kernel
theorem dX2_filled_124 : decode cX2_filled 124 = .ok (.fload 10, 2) := by decide +kernel
theorem dX2_filled_126 : decode cX2_filled 126 = .ok (.fstore 10, 2) := by decide +kernel
theorem dX2_filled_128 : decode cX2_filled 128 = .ok (.fload 10, 2) := by decide +kernel
theorem dX2_filled_130 : decode cX2_filled 130 = .ok (.ldc 128, 2) := by decide +kernel
theorem dX2_filled_132 : decode cX2_filled 132 = .ok (.iload 5, 2) := by decide +kernel
theorem dX2_filled_134 : decode cX2_filled 134 = .ok (.i2f, 1) := by decide +kernel
theorem dX2_filled_135 : decode cX2_filled 135 = .ok (.fmul, 1) := by decide +kernel
theorem dX2_filled_136 : decode cX2_filled 136 = .ok (.fcmp .g, 1) := by decide +kernel
theorem dX2_filled_137 : decode cX2_filled 137 = .ok (.ifCond .gt 38, 3) := by decide +kernel
theorem dX2_filled_140 : decode cX2_filled 140 = .ok (.fconst 1, 1) := by decide +kernel
theorem dX2_filled_141 : decode cX2_filled 141 = .ok (.fconst 1, 1) := by decide +kernel
theorem dX2_filled_142 : decode cX2_filled 142 = .ok (.fload 10, 2) := by decide +kernel
theorem dX2_filled_144 : decode cX2_filled 144 = .ok (.iload 5, 2) := by decide +kernel
theorem dX2_filled_146 : decode cX2_filled 146 = .ok (.i2f, 1) := by decide +kernel
theorem dX2_filled_147 : decode cX2_filled 147 = .ok (.fdiv, 1) := by decide +kernel
theorem dX2_filled_148 : decode cX2_filled 148 = .ok (.fadd, 1) := by decide +kernel
theorem dX2_filled_149 : decode cX2_filled 149 = .ok (.fdiv, 1) := by decide +kernel
theorem dX2_filled_150 : decode cX2_filled 150 = .ok (.fstore 11, 2) := by decide +kernel
theorem dX2_filled_152 : decode cX2_filled 152 = .ok (.fload 6, 2) := by decide +kernel
theorem dX2_filled_154 : decode cX2_filled 154 = .ok (.fload 11, 2) := by decide +kernel
theorem dX2_filled_156 : decode cX2_filled 156 = .ok (.fadd, 1) := by decide +kernel
theorem dX2_filled_157 : decode cX2_filled 157 = .ok (.fstore 6, 2) := by decide +kernel
theorem dX2_filled_159 : decode cX2_filled 159 = .ok (.fload 7, 2) := by decide +kernel
theorem dX2_filled_161 : decode cX2_filled 161 = .ok (.fload 11, 2) := by decide +kernel
theorem dX2_filled_163 : decode cX2_filled 163 = .ok (.aload_n 0, 1) := by decide +kernel
theorem dX2_filled_164 : decode cX2_filled 164 = .ok (.getfield 22, 3) := by decide +kernel
theorem dX2_filled_167 : decode cX2_filled 167 = .ok (.iload 9, 2) := by decide +kernel
theorem dX2_filled_169 : decode cX2_filled 169 = .ok (.iaload, 1) := by decide +kernel
theorem dX2_filled_170 : decode cX2_filled 170 = .ok (.i2f, 1) := by decide +kernel
theorem dX2_filled_171 : decode cX2_filled 171 = .ok (.fmul, 1) := by decide +kernel
theorem dX2_filled_172 : decode cX2_filled 172 = .ok (.fadd, 1) := by decide +kernel
theorem dX2_filled_173 : decode cX2_filled 173 = .ok (.fstore 7, 2) := by decide +kernel
theorem dX2_filled_175 : decode cX2_filled 175 = .ok (.iinc 8 1, 3) := by decide +kernel
theorem dX2_filled_178 : decode cX2_filled 178 = .ok (.goto (-139), 3) := by decide +kernel
theorem dX2_filled_181 : decode cX2_filled 181 = .ok (.fload 6, 2) := by decide +kernel
theorem dX2_filled_183 : decode cX2_filled 183 = .ok (.fconst 0, 1) := by decide +kernel
theorem dX2_filled_184 : decode cX2_filled 184 = .ok (.fcmp .l, 1) := by decide +kernel
theorem dX2_filled_185 : decode cX2_filled 185 = .ok (.ifCond .le 12, 3) := by decide +kernel
theorem dX2_filled_188 : decode cX2_filled 188 = .ok (.fload 7, 2) := by decide +kernel
theorem dX2_filled_190 : decode cX2_filled 190 = .ok (.fload 6, 2) := by decide +kernel
theorem dX2_filled_192 : decode cX2_filled 192 = .ok (.fdiv, 1) := by decide +kernel
theorem dX2_filled_193 : decode cX2_filled 193 = .ok (.f2i, 1) := by decide +kernel
theorem dX2_filled_194 : decode cX2_filled 194 = .ok (.goto 6, 3) := by decide +kernel
theorem dX2_filled_197 : decode cX2_filled 197 = .ok (.sipush (-10001), 3) := by decide +kernel
theorem dX2_filled_200 : decode cX2_filled 200 = .ok (.ireturn, 1) := by decide +kernel
theorem dX2_shift_0 : decode cX2_shift 0 = .ok (.aload_n 0, 1) := by decide +kernel
theorem dX2_shift_1 : decode cX2_shift 1 = .ok (.iload_n 1, 1) := by decide +kernel
theorem dX2_shift_2 : decode cX2_shift 2 = .ok (.invokevirtual 48, 3) := by decide +kernel
theorem dX2_shift_5 : decode cX2_shift 5 = .ok (.ifCond .ne 11, 3) := by decide +kernel
theorem dX2_shift_8 : decode cX2_shift 8 = .ok (.aload_n 0, 1) := by decide +kernel
theorem dX2_shift_9 : decode cX2_shift 9 = .ok (.iload_n 2, 1) := by decide +kernel
theorem dX2_shift_10 : decode cX2_shift 10 = .ok (.invokevirtual 48, 3) := by decide +kernel
theorem dX2_shift_13 : decode cX2_shift 13 = .ok (.ifCond .eq 7, 3) := by decide +kernel
theorem dX2_shift_16 : decode cX2_shift 16 = .ok (.sipush (-10001), 3) := by decide +kernel
theorem dX2_shift_19 : decode cX2_shift 19 = .ok (.ireturn, 1) := by decide +kernel
theorem dX2_shift_20 : decode cX2_shift 20 = .ok (.aload_n 0, 1) := by decide +kernel
theorem dX2_shift_21 : decode cX2_shift 21 = .ok (.iload_n 2, 1) := by decide +kernel
theorem dX2_shift_22 : decode cX2_shift 22 = .ok (.invokevirtual 129, 3) := by decide +kernel
theorem dX2_shift_25 : decode cX2_shift 25 = .ok (.aload_n 0, 1) := by decide +kernel
theorem dX2_shift_26 : decode cX2_shift 26 = .ok (.iload_n 1, 1) := by decide +kernel
theorem dX2_shift_27 : decode cX2_shift 27 = .ok (.invokevirtual 129, 3) := by decide +kernel
theorem dX2_shift_30 : decode cX2_shift 30 = .ok (.isub, 1) := by decide +kernel
theorem dX2_shift_31 : decode cX2_shift 31 = .ok (.ireturn, 1) := by decide +kernel
theorem dX2_meanBits_0 : decode cX2_meanBits 0 = .ok (.iconst 0, 1) := by decide +kernel
theorem dX2_meanBits_1 : decode cX2_meanBits 1 = .ok (.istore_n 2, 1) := by decide +kernel
theorem dX2_meanBits_2 : decode cX2_meanBits 2 = .ok (.iconst 0, 1) := by decide +kernel
theorem dX2_meanBits_3 : decode cX2_meanBits 3 = .ok (.istore_n 3, 1) := by decide +kernel
theorem dX2_meanBits_4 : decode cX2_meanBits 4 = .ok (.iconst 0, 1) := by decide +kernel
theorem dX2_meanBits_5 : decode cX2_meanBits 5 = .ok (.istore 4, 2) := by decide +kernel
theorem dX2_meanBits_7 : decode cX2_meanBits 7 = .ok (.iload 4, 2) := by decide +kernel
theorem dX2_meanBits_9 : decode cX2_meanBits 9 = .ok (.aload_n 0, 1) := by decide +kernel
theorem dX2_meanBits_10 : decode cX2_meanBits 10 = .ok (.getfield 12, 3) := by decide +kernel
theorem dX2_meanBits_13 : decode cX2_meanBits 13 = .ok (.getfield 132, 3) := by decide +kernel
theorem dX2_meanBits_16 : decode cX2_meanBits 16 = .ok (.if_icmp .ge 65, 3) := by decide +kernel
theorem dX2_meanBits_19 : decode cX2_meanBits 19 = .ok (.iconst 0, 1) := by decide +kernel
theorem dX2_meanBits_20 : decode cX2_meanBits 20 = .ok (.istore 5, 2) := by decide +kernel
theorem dX2_meanBits_22 : decode cX2_meanBits 22 = .ok (.iload 5, 2) := by decide +kernel
theorem dX2_meanBits_24 : decode cX2_meanBits 24 = .ok (.aload_n 0, 1) := by decide +kernel
theorem dX2_meanBits_25 : decode cX2_meanBits 25 = .ok (.getfield 12, 3) := by decide +kernel
theorem dX2_meanBits_28 : decode cX2_meanBits 28 = .ok (.getfield 135, 3) := by decide +kernel
theorem dX2_meanBits_31 : decode cX2_meanBits 31 = .ok (.if_icmp .ge 44, 3) := by decide +kernel
theorem dX2_meanBits_34 : decode cX2_meanBits 34 = .ok (.aload_n 0, 1) := by decide +kernel
theorem dX2_meanBits_35 : decode cX2_meanBits 35 = .ok (.getfield 12, 3) := by decide +kernel
theorem dX2_meanBits_38 : decode cX2_meanBits 38 = .ok (.iload_n 1, 1) := by decide +kernel
theorem dX2_meanBits_39 : decode cX2_meanBits 39 = .ok (.iload 5, 2) := by decide +kernel
theorem dX2_meanBits_41 : decode cX2_meanBits 41 = .ok (.iload 4, 2) := by decide +kernel
theorem dX2_meanBits_43 : decode cX2_meanBits 43 = .ok (.invokevirtual 115, 3) := by decide +kernel
theorem dX2_meanBits_46 : decode cX2_meanBits 46 = .ok (.istore 6, 2) := by decide +kernel
theorem dX2_meanBits_48 : decode cX2_meanBits 48 = .ok (.aload_n 0, 1) := by decide +kernel
theorem dX2_meanBits_49 : decode cX2_meanBits 49 = .ok (.iload 6, 2) := by decide +kernel
theorem dX2_meanBits_51 : decode cX2_meanBits 51 = .ok (.invokevirtual 48, 3) := by decide +kernel
theorem dX2_meanBits_54 : decode cX2_meanBits 54 = .ok (.ifCond .ne 15, 3) := by decide +kernel
theorem dX2_meanBits_57 : decode cX2_meanBits 57 = .ok (.iload_n 2, 1) := by decide +kernel
theorem dX2_meanBits_58 : decode cX2_meanBits 58 = .ok (.aload_n 0, 1) := by decide +kernel
theorem dX2_meanBits_59 : decode cX2_meanBits 59 = .ok (.iload 6, 2) := by decide +kernel
theorem dX2_meanBits_61 : decode cX2_meanBits 61 = .ok (.invokevirtual 129, 3) := by decide +kernel
theorem dX2_meanBits_64 : decode cX2_meanBits 64 = .ok (.iadd, 1) := by decide +kernel
theorem dX2_meanBits_65 : decode cX2_meanBits 65 = .ok (.istore_n 2, 1) := by decide +kernel
theorem dX2_meanBits_66 : decode cX2_meanBits 66 = .ok (.iinc 3 1, 3) := by decide +kernel
theorem dX2_meanBits_69 : decode cX2_meanBits 69 = .ok (.iinc 5 1, 3) := by decide +kernel
theorem dX2_meanBits_72 : decode cX2_meanBits 72 = .ok (.goto (-50), 3) := by decide +kernel
theorem dX2_meanBits_75 : decode cX2_meanBits 75 = .ok (.iinc 4 1, 3) := by decide +kernel
theorem dX2_meanBits_78 : decode cX2_meanBits 78 = .ok (.goto (-71), 3) := by decide +kernel
theorem dX2_meanBits_81 : decode cX2_meanBits 81 = .ok (.iload_n 3, 1) := by decide +kernel
theorem dX2_meanBits_82 : decode cX2_meanBits 82 = .ok (.ifCond .le 14, 3) := by decide +kernel
theorem dX2_meanBits_85 : decode cX2_meanBits 85 = .ok (.iload_n 2, 1) := by decide +kernel
theorem dX2_meanBits_86 : decode cX2_meanBits 86 = .ok (.i2d, 1) := by decide +kernel
theorem dX2_meanBits_87 : decode cX2_meanBits 87 = .ok (.iload_n 3, 1) := by decide +kernel
theorem dX2_meanBits_88 : decode cX2_meanBits 88 = .ok (.i2d, 1) := by decide +kernel
theorem dX2_meanBits_89 : decode cX2_meanBits 89 = .ok (.ddiv, 1) := by decide +kernel
theorem dX2_meanBits_90 : decode cX2_meanBits 90 = .ok (.invokestatic 138, 3) := by decide +kernel
theorem dX2_meanBits_93 : decode cX2_meanBits 93 = .ok (.goto 4, 3) := by decide +kernel
theorem dX2_meanBits_96 : decode cX2_meanBits 96 = .ok (.lconst 0, 1) := by decide +kernel
theorem dX2_meanBits_97 : decode cX2_meanBits 97 = .ok (.lreturn, 1) := by decide +kernel
end
section
theorem dX3_size_0 : decode cX3_size 0 = .ok (.iload_n 0, 1) := by decide +kernel
theorem dX3_size_1 : decode cX3_size 1 = .ok (.invokestatic 9, 3) := by decide +kernel
theorem dX3_size_4 : decode cX3_size 4 = .ok (.iload_n 1, 1) := by decide +kernel
theorem dX3_size_5 : decode cX3_size 5 = .ok (.invokestatic 9, 3) := by decide +kernel
theorem dX3_size_8 : decode cX3_size 8 = .ok (.iadd, 1) := by decide +kernel
theorem dX3_size_9 : decode cX3_size 9 = .ok (.ireturn, 1) := by decide +kernel
theorem dX3_strength_0 : decode cX3_strength 0 = .ok (.iload_n 0, 1) := by decide +kernel
theorem dX3_strength_1 : decode cX3_strength 1 = .ok (.iload_n 1, 1) := by decide +kernel
theorem dX3_strength_2 : decode cX3_strength 2 = .ok (.invokestatic 15, 3) := by decide +kernel
theorem dX3_strength_5 : decode cX3_strength 5 = .ok (.i2f, 1) := by decide +kernel
theorem dX3_strength_6 : decode cX3_strength 6 = .ok (.fconst 2, 1) := by decide +kernel
theorem dX3_strength_7 : decode cX3_strength 7 = .ok (.fdiv, 1) := by decide +kernel
theorem dX3_strength_8 : decode cX3_strength 8 = .ok (.freturn, 1) := by decide +kernel
theorem dX3_phase_0 : decode cX3_phase 0 = .ok (.iload_n 0, 1) := by decide +kernel
theorem dX3_phase_1 : decode cX3_phase 1 = .ok (.invokestatic 9, 3) := by decide +kernel
theorem dX3_phase_4 : decode cX3_phase 4 = .ok (.iload_n 1, 1) := by decide +kernel
theorem dX3_phase_5 : decode cX3_phase 5 = .ok (.invokestatic 9, 3) := by decide +kernel
theorem dX3_phase_8 : decode cX3_phase 8 = .ok (.iadd, 1) := by decide +kernel
theorem dX3_phase_9 : decode cX3_phase 9 = .ok (.istore_n 2, 1) := by decide +kernel
theorem dX3_phase_10 : decode cX3_phase 10 = .ok (.iload_n 2, 1) := by decide +kernel
theorem dX3_phase_11 : decode cX3_phase 11 = .ok (.ifCond .ne 6, 3) := by decide +kernel
theorem dX3_phase_14 : decode cX3_phase 14 = .ok (.ldc 21, 2) := by decide +kernel
theorem dX3_phase_16 : decode cX3_phase 16 = .ok (.freturn, 1) := by decide +kernel
theorem dX3_phase_17 : decode cX3_phase 17 = .ok (.iload_n 1, 1) := by decide +kernel
theorem dX3_phase_18 : decode cX3_phase 18 = .ok (.i2f, 1) := by decide +kernel
theorem dX3_phase_19 : decode cX3_phase 19 = .ok (.iload_n 2, 1) := by decide +kernel
theorem dX3_phase_20 : decode cX3_phase 20 = .ok (.i2f, 1) := by decide +kernel
theorem dX3_phase_21 : decode cX3_phase 21 = .ok (.fdiv, 1) := by decide +kernel
theorem dX3_phase_22 : decode cX3_phase 22 = .ok (.fstore_n 3, 1) := by decide +kernel
theorem dX3_phase_23 : decode cX3_phase 23 = .ok (.iload_n 0, 1) := by decide +kernel
theorem dX3_phase_24 : decode cX3_phase 24 = .ok (.ifCond .ge 7, 3) := by decide +kernel
theorem dX3_phase_27 : decode cX3_phase 27 = .ok (.fconst 2, 1) := by decide +kernel
theorem dX3_phase_28 : decode cX3_phase 28 = .ok (.fload_n 3, 1) := by decide +kernel
theorem dX3_phase_29 : decode cX3_phase 29 = .ok (.fsub, 1) := by decide +kernel
theorem dX3_phase_30 : decode cX3_phase 30 = .ok (.freturn, 1) := by decide +kernel
theorem dX3_phase_31 : decode cX3_phase 31 = .ok (.iload_n 1, 1) := by decide +kernel
theorem dX3_phase_32 : decode cX3_phase 32 = .ok (.ifCond .lt 7, 3) := by decide +kernel
theorem dX3_phase_35 : decode cX3_phase 35 = .ok (.fload_n 3, 1) := by decide +kernel
theorem dX3_phase_36 : decode cX3_phase 36 = .ok (.goto 7, 3) := by decide +kernel
theorem dX3_phase_39 : decode cX3_phase 39 = .ok (.ldc 22, 2) := by decide +kernel
theorem dX3_phase_41 : decode cX3_phase 41 = .ok (.fload_n 3, 1) := by decide +kernel
theorem dX3_phase_42 : decode cX3_phase 42 = .ok (.fadd, 1) := by decide +kernel
theorem dX3_phase_43 : decode cX3_phase 43 = .ok (.freturn, 1) := by decide +kernel
theorem dX3_residue_0 : decode cX3_residue 0 = .ok (.iload_n 0, 1) := by decide +kernel
theorem dX3_residue_1 : decode cX3_residue 1 = .ok (.ifCond .ne 7, 3) := by decide +kernel
theorem dX3_residue_4 : decode cX3_residue 4 = .ok (.iload_n 1, 1) := by decide +kernel
theorem dX3_residue_5 : decode cX3_residue 5 = .ok (.ifCond .eq 8, 3) := by decide +kernel
theorem dX3_residue_8 : decode cX3_residue 8 = .ok (.iload_n 2, 1) := by decide +kernel
theorem dX3_residue_9 : decode cX3_residue 9 = .ok (.iconst 1, 1) := by decide +kernel
theorem dX3_residue_10 : decode cX3_residue 10 = .ok (.if_icmp .ge 7, 3) := by decide +kernel
theorem dX3_residue_13 : decode cX3_residue 13 = .ok (.sipush (-10001), 3) := by decide +kernel
theorem dX3_residue_16 : decode cX3_residue 16 = .ok (.ireturn, 1) := by decide +kernel
theorem dX3_residue_17 : decode cX3_residue 17 = .ok (.iload_n 0, 1) := by decide +kernel
theorem dX3_residue_18 : decode cX3_residue 18 = .ok (.iload_n 1, 1) := by decide +kernel
theorem dX3_residue_19 : decode cX3_residue 19 = .ok (.invokestatic 23, 3) := by decide +kernel
theorem dX3_residue_22 : decode cX3_residue 22 = .ok (.iload_n 2, 1) := by decide +kernel
theorem dX3_residue_23 : decode cX3_residue 23 = .ok (.i2f, 1) := by decide +kernel
theorem dX3_residue_24 : decode cX3_residue 24 = .ok (.fmul, 1) := by decide +kernel
theorem dX3_residue_25 : decode cX3_residue 25 = .ok (.ldc 22, 2) := by decide +kernel
theorem dX3_residue_27 : decode cX3_residue 27 = .ok (.fdiv, 1) := by decide +kernel
theorem dX3_residue_28 : decode cX3_residue 28 = .ok (.ldc 27, 2) := by decide +kernel
theorem dX3_residue_30 : decode cX3_residue 30 = .ok (.fadd, 1) := by decide +kernel
theorem dX3_residue_31 : decode cX3_residue 31 = .ok (.f2i, 1) := by decide +kernel
theorem dX3_residue_32 : decode cX3_residue 32 = .ok (.iload_n 2, 1) := by decide +kernel
theorem dX3_residue_33 : decode cX3_residue 33 = .ok (.irem, 1) := by decide +kernel
theorem dX3_residue_34 : decode cX3_residue 34 = .ok (.ireturn, 1) := by decide +kernel
theorem dX3_awayFrom_0 : decode cX3_awayFrom 0 = .ok (.iload_n 2, 1) := by decide +kernel
theorem dX3_awayFrom_1 : decode cX3_awayFrom 1 = .ok (.iconst 1, 1) := by decide +kernel
theorem dX3_awayFrom_2 : decode cX3_awayFrom 2 = .ok (.if_icmp .ge 5, 3) := by decide +kernel
theorem dX3_awayFrom_5 : decode cX3_awayFrom 5 = .ok (.iconst 0, 1) := by decide +kernel
theorem dX3_awayFrom_6 : decode cX3_awayFrom 6 = .ok (.ireturn, 1) := by decide +kernel
theorem dX3_awayFrom_7 : decode cX3_awayFrom 7 = .ok (.iload_n 0, 1) := by decide +kernel
theorem dX3_awayFrom_8 : decode cX3_awayFrom 8 = .ok (.iload_n 1, 1) := by decide +kernel
theorem dX3_awayFrom_9 : decode cX3_awayFrom 9 = .ok (.isub, 1) := by decide +kernel
theorem dX3_awayFrom_10 : decode cX3_awayFrom 10 = .ok (.iload_n 2, 1) := by decide +kernel
theorem dX3_awayFrom_11 : decode cX3_awayFrom 11 = .ok (.iadd, 1) := by decide +kernel
theorem dX3_awayFrom_12 : decode cX3_awayFrom 12 = .ok (.iload_n 2, 1) := by decide +kernel
theorem dX3_awayFrom_13 : decode cX3_awayFrom 13 = .ok (.irem, 1) := by decide +kernel
theorem dX3_awayFrom_14 : decode cX3_awayFrom 14 = .ok (.istore_n 3, 1) := by decide +kernel
theorem dX3_awayFrom_15 : decode cX3_awayFrom 15 = .ok (.iload_n 3, 1) := by decide +kernel
theorem dX3_awayFrom_16 : decode cX3_awayFrom 16 = .ok (.iload_n 2, 1) := by decide +kernel
theorem dX3_awayFrom_17 : decode cX3_awayFrom 17 = .ok (.iload_n 3, 1) := by decide +kernel
theorem dX3_awayFrom_18 : decode cX3_awayFrom 18 = .ok (.isub, 1) := by decide +kernel
theorem dX3_awayFrom_19 : decode cX3_awayFrom 19 = .ok (.if_icmp .gt 7, 3) := by decide +kernel
theorem dX3_awayFrom_22 : decode cX3_awayFrom 22 = .ok (.iload_n 3, 1) := by decide +kernel
theorem dX3_awayFrom_23 : decode cX3_awayFrom 23 = .ok (.goto 6, 3) := by decide +kernel
theorem dX3_awayFrom_26 : decode cX3_awayFrom 26 = .ok (.iload_n 2, 1) := by decide +kernel
theorem dX3_awayFrom_27 : decode cX3_awayFrom 27 = .ok (.iload_n 3, 1) := by decide +kernel
theorem dX3_awayFrom_28 : decode cX3_awayFrom 28 = .ok (.isub, 1) := by decide +kernel
theorem dX3_awayFrom_29 : decode cX3_awayFrom 29 = .ok (.ireturn, 1) := by decide +kernel
theorem dX3_gap_0 : decode cX3_gap 0 = .ok (.iload_n 2, 1) := by decide +kernel
theorem dX3_gap_1 : decode cX3_gap 1 = .ok (.iconst 1, 1) := by decide +kernel
theorem dX3_gap_2 : decode cX3_gap 2 = .ok (.if_icmp .ge 5, 3) := by decide +kernel
theorem dX3_gap_5 : decode cX3_gap 5 = .ok (.iconst 0, 1) := by decide +kernel
theorem dX3_gap_6 : decode cX3_gap 6 = .ok (.ireturn, 1) := by decide +kernel
theorem dX3_gap_7 : decode cX3_gap 7 = .ok (.iload_n 0, 1) := by decide +kernel
theorem dX3_gap_8 : decode cX3_gap 8 = .ok (.iload_n 1, 1) := by decide +kernel
theorem dX3_gap_9 : decode cX3_gap 9 = .ok (.isub, 1) := by decide +kernel
theorem dX3_gap_10 : decode cX3_gap 10 = .ok (.iload_n 2, 1) := by decide +kernel
theorem dX3_gap_11 : decode cX3_gap 11 = .ok (.iadd, 1) := by decide +kernel
theorem dX3_gap_12 : decode cX3_gap 12 = .ok (.iload_n 2, 1) := by decide +kernel
theorem dX3_gap_13 : decode cX3_gap 13 = .ok (.irem, 1) := by decide +kernel
theorem dX3_gap_14 : decode cX3_gap 14 = .ok (.istore 4, 2) := by decide +kernel
theorem dX3_gap_16 : decode cX3_gap 16 = .ok (.iload_n 2, 1) := by decide +kernel
theorem dX3_gap_17 : decode cX3_gap 17 = .ok (.iload_n 3, 1) := by decide +kernel
theorem dX3_gap_18 : decode cX3_gap 18 = .ok (.isub, 1) := by decide +kernel
theorem dX3_gap_19 : decode cX3_gap 19 = .ok (.iload 4, 2) := by decide +kernel
theorem dX3_gap_21 : decode cX3_gap 21 = .ok (.isub, 1) := by decide +kernel
theorem dX3_gap_22 : decode cX3_gap 22 = .ok (.istore 5, 2) := by decide +kernel
theorem dX3_gap_24 : decode cX3_gap 24 = .ok (.iload 4, 2) := by decide +kernel
theorem dX3_gap_26 : decode cX3_gap 26 = .ok (.iload_n 3, 1) := by decide +kernel
theorem dX3_gap_27 : decode cX3_gap 27 = .ok (.if_icmp .le 8, 3) := by decide +kernel
theorem dX3_gap_30 : decode cX3_gap 30 = .ok (.iload 5, 2) := by decide +kernel
theorem dX3_gap_32 : decode cX3_gap 32 = .ok (.ifCond .ge 7, 3) := by decide +kernel
theorem dX3_gap_35 : decode cX3_gap 35 = .ok (.iconst 0, 1) := by decide +kernel
theorem dX3_gap_36 : decode cX3_gap 36 = .ok (.goto 5, 3) := by decide +kernel
theorem dX3_gap_39 : decode cX3_gap 39 = .ok (.iload 5, 2) := by decide +kernel
theorem dX3_gap_41 : decode cX3_gap 41 = .ok (.ireturn, 1) := by decide +kernel
end
section
theorem dX4_init_0 : decode cX4_init 0 = .ok (.aload_n 0, 1) := by decide +kernel
theorem dX4_init_1 : decode cX4_init 1 = .ok (.invokespecial 3, 3) := by decide +kernel
theorem dX4_init_4 : decode cX4_init 4 = .ok (.aload_n 0, 1) := by decide +kernel
theorem dX4_init_5 : decode cX4_init 5 = .ok (.iconst 3, 1) := by decide +kernel
theorem dX4_init_6 : decode cX4_init 6 = .ok (.putfield 9, 3) := by decide +kernel
theorem dX4_init_9 : decode cX4_init 9 = .ok (.aload_n 0, 1) := by decide +kernel
theorem dX4_init_10 : decode cX4_init 10 = .ok (.iconst 3, 1) := by decide +kernel
theorem dX4_init_11 : decode cX4_init 11 = .ok (.putfield 15, 3) := by decide +kernel
theorem dX4_init_14 : decode cX4_init 14 = .ok (.aload_n 0, 1) := by decide +kernel
theorem dX4_init_15 : decode cX4_init 15 = .ok (.iconst 3, 1) := by decide +kernel
theorem dX4_init_16 : decode cX4_init 16 = .ok (.newarray .int, 2) := by decide +kernel
theorem dX4_init_18 : decode cX4_init 18 = .ok (.putfield 18, 3) := by decide +kernel
theorem dX4_init_21 : decode cX4_init 21 = .ok (.aload_n 0, 1) := by decide +kernel
theorem dX4_init_22 : decode cX4_init 22 = .ok (.bipush 6, 2) := by decide +kernel
theorem dX4_init_24 : decode cX4_init 24 = .ok (.newarray .int, 2) := by decide +kernel
theorem dX4_init_26 : decode cX4_init 26 = .ok (.putfield 22, 3) := by decide +kernel
theorem dX4_init_29 : decode cX4_init 29 = .ok (.aload_n 0, 1) := by decide +kernel
theorem dX4_init_30 : decode cX4_init 30 = .ok (.sipush 384, 3) := by decide +kernel
theorem dX4_init_33 : decode cX4_init 33 = .ok (.newarray .int, 2) := by decide +kernel
theorem dX4_init_35 : decode cX4_init 35 = .ok (.putfield 25, 3) := by decide +kernel
theorem dX4_init_38 : decode cX4_init 38 = .ok (.getstatic 28, 3) := by decide +kernel
theorem dX4_init_41 : decode cX4_init 41 = .ok (.iconst 0, 1) := by decide +kernel
theorem dX4_init_42 : decode cX4_init 42 = .ok (.aload_n 0, 1) := by decide +kernel
theorem dX4_init_43 : decode cX4_init 43 = .ok (.getfield 18, 3) := by decide +kernel
theorem dX4_init_46 : decode cX4_init 46 = .ok (.iconst 0, 1) := by decide +kernel
theorem dX4_init_47 : decode cX4_init 47 = .ok (.iconst 3, 1) := by decide +kernel
theorem dX4_init_48 : decode cX4_init 48 = .ok (.invokestatic 31, 3) := by decide +kernel
theorem dX4_init_51 : decode cX4_init 51 = .ok (.getstatic 37, 3) := by decide +kernel
theorem dX4_init_54 : decode cX4_init 54 = .ok (.iconst 0, 1) := by decide +kernel
theorem dX4_init_55 : decode cX4_init 55 = .ok (.aload_n 0, 1) := by decide +kernel
theorem dX4_init_56 : decode cX4_init 56 = .ok (.getfield 22, 3) := by decide +kernel
theorem dX4_init_59 : decode cX4_init 59 = .ok (.iconst 0, 1) := by decide +kernel
theorem dX4_init_60 : decode cX4_init 60 = .ok (.bipush 6, 2) := by decide +kernel
theorem dX4_init_62 : decode cX4_init 62 = .ok (.invokestatic 31, 3) := by decide +kernel
theorem dX4_init_65 : decode cX4_init 65 = .ok (.return_, 1) := by decide +kernel
theorem dX4_copyFrom_0 : decode cX4_copyFrom 0 = .ok (.aload_n 0, 1) := by decide +kernel
theorem dX4_copyFrom_1 : decode cX4_copyFrom 1 = .ok (.aload_n 1, 1) := by decide +kernel
theorem dX4_copyFrom_2 : decode cX4_copyFrom 2 = .ok (.getfield 9, 3) := by decide +kernel
theorem dX4_copyFrom_5 : decode cX4_copyFrom 5 = .ok (.putfield 9, 3) := by decide +kernel
theorem dX4_copyFrom_8 : decode cX4_copyFrom 8 = .ok (.aload_n 0, 1) := by decide +kernel
theorem dX4_copyFrom_9 : decode cX4_copyFrom 9 = .ok (.aload_n 1, 1) := by decide +kernel
theorem dX4_copyFrom_10 : decode cX4_copyFrom 10 = .ok (.getfield 15, 3) := by decide +kernel
theorem dX4_copyFrom_13 : decode cX4_copyFrom 13 = .ok (.putfield 15, 3) := by decide +kernel
theorem dX4_copyFrom_16 : decode cX4_copyFrom 16 = .ok (.aload_n 1, 1) := by decide +kernel
theorem dX4_copyFrom_17 : decode cX4_copyFrom 17 = .ok (.getfield 18, 3) := by decide +kernel
theorem dX4_copyFrom_20 : decode cX4_copyFrom 20 = .ok (.iconst 0, 1) := by decide +kernel
theorem dX4_copyFrom_21 : decode cX4_copyFrom 21 = .ok (.aload_n 0, 1) := by decide +kernel
theorem dX4_copyFrom_22 : decode cX4_copyFrom 22 = .ok (.getfield 18, 3) := by decide +kernel
theorem dX4_copyFrom_25 : decode cX4_copyFrom 25 = .ok (.iconst 0, 1) := by decide +kernel
theorem dX4_copyFrom_26 : decode cX4_copyFrom 26 = .ok (.iconst 3, 1) := by decide +kernel
theorem dX4_copyFrom_27 : decode cX4_copyFrom 27 = .ok (.invokestatic 31, 3) := by decide +kernel
theorem dX4_copyFrom_30 : decode cX4_copyFrom 30 = .ok (.aload_n 1, 1) := by decide +kernel
theorem dX4_copyFrom_31 : decode cX4_copyFrom 31 = .ok (.getfield 22, 3) := by decide +kernel
theorem dX4_copyFrom_34 : decode cX4_copyFrom 34 = .ok (.iconst 0, 1) := by decide +kernel
theorem dX4_copyFrom_35 : decode cX4_copyFrom 35 = .ok (.aload_n 0, 1) := by decide +kernel
theorem dX4_copyFrom_36 : decode cX4_copyFrom 36 = .ok (.getfield 22, 3) := by decide +kernel
theorem dX4_copyFrom_39 : decode cX4_copyFrom 39 = .ok (.iconst 0, 1) := by decide +kernel
theorem dX4_copyFrom_40 : decode cX4_copyFrom 40 = .ok (.bipush 6, 2) := by decide +kernel
theorem dX4_copyFrom_42 : decode cX4_copyFrom 42 = .ok (.invokestatic 31, 3) := by decide +kernel
theorem dX4_copyFrom_45 : decode cX4_copyFrom 45 = .ok (.aload_n 1, 1) := by decide +kernel
theorem dX4_copyFrom_46 : decode cX4_copyFrom 46 = .ok (.getfield 25, 3) := by decide +kernel
theorem dX4_copyFrom_49 : decode cX4_copyFrom 49 = .ok (.iconst 0, 1) := by decide +kernel
theorem dX4_copyFrom_50 : decode cX4_copyFrom 50 = .ok (.aload_n 0, 1) := by decide +kernel
theorem dX4_copyFrom_51 : decode cX4_copyFrom 51 = .ok (.getfield 25, 3) := by decide +kernel
theorem dX4_copyFrom_54 : decode cX4_copyFrom 54 = .ok (.iconst 0, 1) := by decide +kernel
theorem dX4_copyFrom_55 : decode cX4_copyFrom 55 = .ok (.sipush 384, 3) := by decide +kernel
theorem dX4_copyFrom_58 : decode cX4_copyFrom 58 = .ok (.invokestatic 31, 3) := by decide +kernel
theorem dX4_copyFrom_61 : decode cX4_copyFrom 61 = .ok (.return_, 1) := by decide +kernel
theorem dX4_place_0 : decode cX4_place 0 = .ok (.iload_n 1, 1) := by decide +kernel
theorem dX4_place_1 : decode cX4_place 1 = .ok (.iconst 0, 1) := by decide +kernel
theorem dX4_place_2 : decode cX4_place 2 = .ok (.iconst 1, 1) := by decide +kernel
theorem dX4_place_3 : decode cX4_place 3 = .ok (.invokestatic 40, 3) := by decide +kernel
theorem dX4_place_6 : decode cX4_place 6 = .ok (.ifCond .eq 35, 3) := by decide +kernel
theorem dX4_place_9 : decode cX4_place 9 = .ok (.iload_n 2, 1) := by decide +kernel
theorem dX4_place_10 : decode cX4_place 10 = .ok (.iconst 0, 1) := by decide +kernel
theorem dX4_place_11 : decode cX4_place 11 = .ok (.aload_n 0, 1) := by decide +kernel
theorem dX4_place_12 : decode cX4_place 12 = .ok (.getfield 9, 3) := by decide +kernel
theorem dX4_place_15 : decode cX4_place 15 = .ok (.iconst 1, 1) := by decide +kernel
theorem dX4_place_16 : decode cX4_place 16 = .ok (.isub, 1) := by decide +kernel
theorem dX4_place_17 : decode cX4_place 17 = .ok (.invokestatic 40, 3) := by decide +kernel
theorem dX4_place_20 : decode cX4_place 20 = .ok (.ifCond .eq 21, 3) := by decide +kernel
theorem dX4_place_23 : decode cX4_place 23 = .ok (.iload_n 3, 1) := by decide +kernel
theorem dX4_place_24 : decode cX4_place 24 = .ok (.iconst 0, 1) := by decide +kernel
theorem dX4_place_25 : decode cX4_place 25 = .ok (.aload_n 0, 1) := by decide +kernel
theorem dX4_place_26 : decode cX4_place 26 = .ok (.getfield 15, 3) := by decide +kernel
theorem dX4_place_29 : decode cX4_place 29 = .ok (.iconst 1, 1) := by decide +kernel
theorem dX4_place_30 : decode cX4_place 30 = .ok (.isub, 1) := by decide +kernel
theorem dX4_place_31 : decode cX4_place 31 = .ok (.invokestatic 40, 3) := by decide +kernel
theorem dX4_place_34 : decode cX4_place 34 = .ok (.ifCond .eq 7, 3) := by decide +kernel
theorem dX4_place_37 : decode cX4_place 37 = .ok (.iconst 1, 1) := by decide +kernel
theorem dX4_place_38 : decode cX4_place 38 = .ok (.goto 4, 3) := by decide +kernel
theorem dX4_place_41 : decode cX4_place 41 = .ok (.iconst 0, 1) := by decide +kernel
theorem dX4_place_42 : decode cX4_place 42 = .ok (.istore 4, 2) := by decide +kernel
theorem dX4_place_44 : decode cX4_place 44 = .ok (.iload 4, 2) := by decide +kernel
theorem dX4_place_46 : decode cX4_place 46 = .ok (.ifCond .eq 15, 3) := by decide +kernel
theorem dX4_place_49 : decode cX4_place 49 = .ok (.iload_n 1, 1) := by decide +kernel
theorem dX4_place_50 : decode cX4_place 50 = .ok (.iconst 4, 1) := by decide +kernel
theorem dX4_place_51 : decode cX4_place 51 = .ok (.imul, 1) := by decide +kernel
theorem dX4_place_52 : decode cX4_place 52 = .ok (.iload_n 3, 1) := by decide +kernel
theorem dX4_place_53 : decode cX4_place 53 = .ok (.iadd, 1) := by decide +kernel
theorem dX4_place_54 : decode cX4_place 54 = .ok (.iconst 4, 1) := by decide +kernel
theorem dX4_place_55 : decode cX4_place 55 = .ok (.imul, 1) := by decide +kernel
theorem dX4_place_56 : decode cX4_place 56 = .ok (.iload_n 2, 1) := by decide +kernel
theorem dX4_place_57 : decode cX4_place 57 = .ok (.iadd, 1) := by decide +kernel
theorem dX4_place_58 : decode cX4_place 58 = .ok (.goto 4, 3) := by decide +kernel
theorem dX4_place_61 : decode cX4_place 61 = .ok (.iconst (-1), 1) := by decide +kernel
theorem dX4_place_62 : decode cX4_place 62 = .ok (.ireturn, 1) := by decide +kernel
theorem dX4_setting_0 : decode cX4_setting 0 = .ok (.iload_n 1, 1) := by decide +kernel
theorem dX4_setting_1 : decode cX4_setting 1 = .ok (.ifCond .ne 8, 3) := by decide +kernel
theorem dX4_setting_4 : decode cX4_setting 4 = .ok (.aload_n 0, 1) := by decide +kernel
theorem dX4_setting_5 : decode cX4_setting 5 = .ok (.getfield 9, 3) := by decide +kernel
theorem dX4_setting_8 : decode cX4_setting 8 = .ok (.ireturn, 1) := by decide +kernel
theorem dX4_setting_9 : decode cX4_setting 9 = .ok (.iload_n 1, 1) := by decide +kernel
theorem dX4_setting_10 : decode cX4_setting 10 = .ok (.iconst 1, 1) := by decide +kernel
theorem dX4_setting_11 : decode cX4_setting 11 = .ok (.if_icmp .ne 8, 3) := by decide +kernel
theorem dX4_setting_14 : decode cX4_setting 14 = .ok (.aload_n 0, 1) := by decide +kernel
theorem dX4_setting_15 : decode cX4_setting 15 = .ok (.getfield 15, 3) := by decide +kernel
theorem dX4_setting_18 : decode cX4_setting 18 = .ok (.ireturn, 1) := by decide +kernel
theorem dX4_setting_19 : decode cX4_setting 19 = .ok (.iload_n 1, 1) := by decide +kernel
theorem dX4_setting_20 : decode cX4_setting 20 = .ok (.iconst 2, 1) := by decide +kernel
theorem dX4_setting_21 : decode cX4_setting 21 = .ok (.isub, 1) := by decide +kernel
theorem dX4_setting_22 : decode cX4_setting 22 = .ok (.istore_n 2, 1) := by decide +kernel
theorem dX4_setting_23 : decode cX4_setting 23 = .ok (.iload_n 2, 1) := by decide +kernel
theorem dX4_setting_24 : decode cX4_setting 24 = .ok (.iconst 0, 1) := by decide +kernel
theorem dX4_setting_25 : decode cX4_setting 25 = .ok (.iconst 2, 1) := by decide +kernel
theorem dX4_setting_26 : decode cX4_setting 26 = .ok (.invokestatic 40, 3) := by decide +kernel
theorem dX4_setting_29 : decode cX4_setting 29 = .ok (.ifCond .eq 10, 3) := by decide +kernel
theorem dX4_setting_32 : decode cX4_setting 32 = .ok (.aload_n 0, 1) := by decide +kernel
theorem dX4_setting_33 : decode cX4_setting 33 = .ok (.getfield 18, 3) := by decide +kernel
theorem dX4_setting_36 : decode cX4_setting 36 = .ok (.iload_n 2, 1) := by decide +kernel
theorem dX4_setting_37 : decode cX4_setting 37 = .ok (.iaload, 1) := by decide +kernel
theorem dX4_setting_38 : decode cX4_setting 38 = .ok (.ireturn, 1) := by decide +kernel
theorem dX4_setting_39 : decode cX4_setting 39 = .ok (.iload_n 2, 1) := by decide +kernel
theorem dX4_setting_40 : decode cX4_setting 40 = .ok (.iconst 3, 1) := by decide +kernel
theorem dX4_setting_41 : decode cX4_setting 41 = .ok (.isub, 1) := by decide +kernel
theorem dX4_setting_42 : decode cX4_setting 42 = .ok (.iconst 0, 1) := by decide +kernel
theorem dX4_setting_43 : decode cX4_setting 43 = .ok (.iconst 5, 1) := by decide +kernel
theorem dX4_setting_44 : decode cX4_setting 44 = .ok (.invokestatic 40, 3) := by decide +kernel
theorem dX4_setting_47 : decode cX4_setting 47 = .ok (.ifCond .eq 14, 3) := by decide +kernel
theorem dX4_setting_50 : decode cX4_setting 50 = .ok (.aload_n 0, 1) := by decide +kernel
theorem dX4_setting_51 : decode cX4_setting 51 = .ok (.getfield 22, 3) := by decide +kernel
theorem dX4_setting_54 : decode cX4_setting 54 = .ok (.iload_n 2, 1) := by decide +kernel
theorem dX4_setting_55 : decode cX4_setting 55 = .ok (.iconst 3, 1) := by decide +kernel
theorem dX4_setting_56 : decode cX4_setting 56 = .ok (.isub, 1) := by decide +kernel
theorem dX4_setting_57 : decode cX4_setting 57 = .ok (.iaload, 1) := by decide +kernel
theorem dX4_setting_58 : decode cX4_setting 58 = .ok (.goto 6, 3) := by decide +kernel
theorem dX4_setting_61 : decode cX4_setting 61 = .ok (.sipush (-10002), 3) := by decide +kernel
theorem dX4_setting_64 : decode cX4_setting 64 = .ok (.ireturn, 1) := by decide +kernel
theorem dX4_layGrid_0 : decode cX4_layGrid 0 = .ok (.iload_n 1, 1) := by decide +kernel
theorem dX4_layGrid_1 : decode cX4_layGrid 1 = .ok (.iconst 1, 1) := by decide +kernel
theorem dX4_layGrid_2 : decode cX4_layGrid 2 = .ok (.iconst 4, 1) := by decide +kernel
theorem dX4_layGrid_3 : decode cX4_layGrid 3 = .ok (.invokestatic 40, 3) := by decide +kernel
theorem dX4_layGrid_6 : decode cX4_layGrid 6 = .ok (.ifCond .eq 12, 3) := by decide +kernel
theorem dX4_layGrid_9 : decode cX4_layGrid 9 = .ok (.iload_n 2, 1) := by decide +kernel
theorem dX4_layGrid_10 : decode cX4_layGrid 10 = .ok (.iconst 1, 1) := by decide +kernel
theorem dX4_layGrid_11 : decode cX4_layGrid 11 = .ok (.iconst 4, 1) := by decide +kernel
theorem dX4_layGrid_12 : decode cX4_layGrid 12 = .ok (.invokestatic 40, 3) := by decide +kernel
theorem dX4_layGrid_15 : decode cX4_layGrid 15 = .ok (.ifCond .ne 7, 3) := by decide +kernel
theorem dX4_layGrid_18 : decode cX4_layGrid 18 = .ok (.sipush (-10002), 3) := by decide +kernel
theorem dX4_layGrid_21 : decode cX4_layGrid 21 = .ok (.ireturn, 1) := by decide +kernel
theorem dX4_layGrid_22 : decode cX4_layGrid 22 = .ok (.aload_n 0, 1) := by decide +kernel
theorem dX4_layGrid_23 : decode cX4_layGrid 23 = .ok (.getfield 9, 3) := by decide +kernel
theorem dX4_layGrid_26 : decode cX4_layGrid 26 = .ok (.aload_n 0, 1) := by decide +kernel
theorem dX4_layGrid_27 : decode cX4_layGrid 27 = .ok (.getfield 15, 3) := by decide +kernel
theorem dX4_layGrid_30 : decode cX4_layGrid 30 = .ok (.imul, 1) := by decide +kernel
theorem dX4_layGrid_31 : decode cX4_layGrid 31 = .ok (.istore_n 3, 1) := by decide +kernel
theorem dX4_layGrid_32 : decode cX4_layGrid 32 = .ok (.aload_n 0, 1) := by decide +kernel
theorem dX4_layGrid_33 : decode cX4_layGrid 33 = .ok (.iload_n 1, 1) := by decide +kernel
theorem dX4_layGrid_34 : decode cX4_layGrid 34 = .ok (.putfield 9, 3) := by decide +kernel
theorem dX4_layGrid_37 : decode cX4_layGrid 37 = .ok (.aload_n 0, 1) := by decide +kernel
theorem dX4_layGrid_38 : decode cX4_layGrid 38 = .ok (.iload_n 2, 1) := by decide +kernel
theorem dX4_layGrid_39 : decode cX4_layGrid 39 = .ok (.putfield 15, 3) := by decide +kernel
theorem dX4_layGrid_42 : decode cX4_layGrid 42 = .ok (.aload_n 0, 1) := by decide +kernel
theorem dX4_layGrid_43 : decode cX4_layGrid 43 = .ok (.getfield 25, 3) := by decide +kernel
theorem dX4_layGrid_46 : decode cX4_layGrid 46 = .ok (.iconst 0, 1) := by decide +kernel
theorem dX4_layGrid_47 : decode cX4_layGrid 47 = .ok (.invokestatic 44, 3) := by decide +kernel
theorem dX4_layGrid_50 : decode cX4_layGrid 50 = .ok (.iload_n 3, 1) := by decide +kernel
theorem dX4_layGrid_51 : decode cX4_layGrid 51 = .ok (.ireturn, 1) := by decide +kernel
theorem dX4_putWave_0 : decode cX4_putWave 0 = .ok (.iload_n 1, 1) := by decide +kernel
theorem dX4_putWave_1 : decode cX4_putWave 1 = .ok (.iconst 0, 1) := by decide +kernel
theorem dX4_putWave_2 : decode cX4_putWave 2 = .ok (.iconst 2, 1) := by decide +kernel
theorem dX4_putWave_3 : decode cX4_putWave 3 = .ok (.invokestatic 40, 3) := by decide +kernel
theorem dX4_putWave_6 : decode cX4_putWave 6 = .ok (.ifCond .eq 15, 3) := by decide +kernel
theorem dX4_putWave_9 : decode cX4_putWave 9 = .ok (.iload_n 2, 1) := by decide +kernel
theorem dX4_putWave_10 : decode cX4_putWave 10 = .ok (.bipush 10, 2) := by decide +kernel
theorem dX4_putWave_12 : decode cX4_putWave 12 = .ok (.sipush 2000, 3) := by decide +kernel
theorem dX4_putWave_15 : decode cX4_putWave 15 = .ok (.invokestatic 40, 3) := by decide +kernel
theorem dX4_putWave_18 : decode cX4_putWave 18 = .ok (.ifCond .ne 7, 3) := by decide +kernel
theorem dX4_putWave_21 : decode cX4_putWave 21 = .ok (.sipush (-10002), 3) := by decide +kernel
theorem dX4_putWave_24 : decode cX4_putWave 24 = .ok (.ireturn, 1) := by decide +kernel
theorem dX4_putWave_25 : decode cX4_putWave 25 = .ok (.aload_n 0, 1) := by decide +kernel
theorem dX4_putWave_26 : decode cX4_putWave 26 = .ok (.getfield 18, 3) := by decide +kernel
theorem dX4_putWave_29 : decode cX4_putWave 29 = .ok (.iload_n 1, 1) := by decide +kernel
theorem dX4_putWave_30 : decode cX4_putWave 30 = .ok (.iaload, 1) := by decide +kernel
theorem dX4_putWave_31 : decode cX4_putWave 31 = .ok (.istore_n 3, 1) := by decide +kernel
theorem dX4_putWave_32 : decode cX4_putWave 32 = .ok (.aload_n 0, 1) := by decide +kernel
theorem dX4_putWave_33 : decode cX4_putWave 33 = .ok (.getfield 18, 3) := by decide +kernel
theorem dX4_putWave_36 : decode cX4_putWave 36 = .ok (.iload_n 1, 1) := by decide +kernel
theorem dX4_putWave_37 : decode cX4_putWave 37 = .ok (.iload_n 2, 1) := by decide +kernel
theorem dX4_putWave_38 : decode cX4_putWave 38 = .ok (.iastore, 1) := by decide +kernel
theorem dX4_putWave_39 : decode cX4_putWave 39 = .ok (.iload_n 3, 1) := by decide +kernel
theorem dX4_putWave_40 : decode cX4_putWave 40 = .ok (.ireturn, 1) := by decide +kernel
theorem dX4_putSetting_0 : decode cX4_putSetting 0 = .ok (.iload_n 1, 1) := by decide +kernel
theorem dX4_putSetting_1 : decode cX4_putSetting 1 = .ok (.iconst 0, 1) := by decide +kernel
theorem dX4_putSetting_2 : decode cX4_putSetting 2 = .ok (.iconst 5, 1) := by decide +kernel
theorem dX4_putSetting_3 : decode cX4_putSetting 3 = .ok (.invokestatic 40, 3) := by decide +kernel
theorem dX4_putSetting_6 : decode cX4_putSetting 6 = .ok (.ifCond .eq 20, 3) := by decide +kernel
theorem dX4_putSetting_9 : decode cX4_putSetting 9 = .ok (.iload_n 2, 1) := by decide +kernel
theorem dX4_putSetting_10 : decode cX4_putSetting 10 = .ok (.getstatic 50, 3) := by decide +kernel
theorem dX4_putSetting_13 : decode cX4_putSetting 13 = .ok (.iload_n 1, 1) := by decide +kernel
theorem dX4_putSetting_14 : decode cX4_putSetting 14 = .ok (.iaload, 1) := by decide +kernel
theorem dX4_putSetting_15 : decode cX4_putSetting 15 = .ok (.getstatic 53, 3) := by decide +kernel
theorem dX4_putSetting_18 : decode cX4_putSetting 18 = .ok (.iload_n 1, 1) := by decide +kernel
theorem dX4_putSetting_19 : decode cX4_putSetting 19 = .ok (.iaload, 1) := by decide +kernel
theorem dX4_putSetting_20 : decode cX4_putSetting 20 = .ok (.invokestatic 40, 3) := by decide +kernel
theorem dX4_putSetting_23 : decode cX4_putSetting 23 = .ok (.ifCond .ne 7, 3) := by decide +kernel
theorem dX4_putSetting_26 : decode cX4_putSetting 26 = .ok (.sipush (-10002), 3) := by decide +kernel
theorem dX4_putSetting_29 : decode cX4_putSetting 29 = .ok (.ireturn, 1) := by decide +kernel
theorem dX4_putSetting_30 : decode cX4_putSetting 30 = .ok (.aload_n 0, 1) := by decide +kernel
theorem dX4_putSetting_31 : decode cX4_putSetting 31 = .ok (.getfield 22, 3) := by decide +kernel
theorem dX4_putSetting_34 : decode cX4_putSetting 34 = .ok (.iload_n 1, 1) := by decide +kernel
theorem dX4_putSetting_35 : decode cX4_putSetting 35 = .ok (.iaload, 1) := by decide +kernel
theorem dX4_putSetting_36 : decode cX4_putSetting 36 = .ok (.istore_n 3, 1) := by decide +kernel
theorem dX4_putSetting_37 : decode cX4_putSetting 37 = .ok (.aload_n 0, 1) := by decide +kernel
theorem dX4_putSetting_38 : decode cX4_putSetting 38 = .ok (.getfield 22, 3) := by decide +kernel
theorem dX4_putSetting_41 : decode cX4_putSetting 41 = .ok (.iload_n 1, 1) := by decide +kernel
theorem dX4_putSetting_42 : decode cX4_putSetting 42 = .ok (.iload_n 2, 1) := by decide +kernel
theorem dX4_putSetting_43 : decode cX4_putSetting 43 = .ok (.iastore, 1) := by decide +kernel
theorem dX4_putSetting_44 : decode cX4_putSetting 44 = .ok (.iload_n 3, 1) := by decide +kernel
theorem dX4_putSetting_45 : decode cX4_putSetting 45 = .ok (.ireturn, 1) := by decide +kernel
theorem dX4_putSample_0 : decode cX4_putSample 0 = .ok (.iload_n 1, 1) := by decide +kernel
theorem dX4_putSample_1 : decode cX4_putSample 1 = .ok (.invokestatic 56, 3) := by decide +kernel
theorem dX4_putSample_4 : decode cX4_putSample 4 = .ok (.ifCond .eq 33, 3) := by decide +kernel
theorem dX4_putSample_7 : decode cX4_putSample 7 = .ok (.iload_n 2, 1) := by decide +kernel
theorem dX4_putSample_8 : decode cX4_putSample 8 = .ok (.iconst 0, 1) := by decide +kernel
theorem dX4_putSample_9 : decode cX4_putSample 9 = .ok (.iconst 2, 1) := by decide +kernel
theorem dX4_putSample_10 : decode cX4_putSample 10 = .ok (.invokestatic 40, 3) := by decide +kernel
theorem dX4_putSample_13 : decode cX4_putSample 13 = .ok (.ifCond .eq 24, 3) := by decide +kernel
theorem dX4_putSample_16 : decode cX4_putSample 16 = .ok (.iload_n 3, 1) := by decide +kernel
theorem dX4_putSample_17 : decode cX4_putSample 17 = .ok (.iconst 0, 1) := by decide +kernel
theorem dX4_putSample_18 : decode cX4_putSample 18 = .ok (.iconst 3, 1) := by decide +kernel
theorem dX4_putSample_19 : decode cX4_putSample 19 = .ok (.invokestatic 40, 3) := by decide +kernel
theorem dX4_putSample_22 : decode cX4_putSample 22 = .ok (.ifCond .eq 15, 3) := by decide +kernel
theorem dX4_putSample_25 : decode cX4_putSample 25 = .ok (.iload 4, 2) := by decide +kernel
theorem dX4_putSample_27 : decode cX4_putSample 27 = .ok (.iconst 0, 1) := by decide +kernel
theorem dX4_putSample_28 : decode cX4_putSample 28 = .ok (.sipush 4095, 3) := by decide +kernel
theorem dX4_putSample_31 : decode cX4_putSample 31 = .ok (.invokestatic 40, 3) := by decide +kernel
theorem dX4_putSample_34 : decode cX4_putSample 34 = .ok (.ifCond .ne 7, 3) := by decide +kernel
theorem dX4_putSample_37 : decode cX4_putSample 37 = .ok (.sipush (-10002), 3) := by decide +kernel
theorem dX4_putSample_40 : decode cX4_putSample 40 = .ok (.ireturn, 1) := by decide +kernel
theorem dX4_putSample_41 : decode cX4_putSample 41 = .ok (.iload_n 1, 1) := by decide +kernel
theorem dX4_putSample_42 : decode cX4_putSample 42 = .ok (.bipush 12, 2) := by decide +kernel
theorem dX4_putSample_44 : decode cX4_putSample 44 = .ok (.imul, 1) := by decide +kernel
theorem dX4_putSample_45 : decode cX4_putSample 45 = .ok (.iload_n 2, 1) := by decide +kernel
theorem dX4_putSample_46 : decode cX4_putSample 46 = .ok (.iconst 4, 1) := by decide +kernel
theorem dX4_putSample_47 : decode cX4_putSample 47 = .ok (.imul, 1) := by decide +kernel
theorem dX4_putSample_48 : decode cX4_putSample 48 = .ok (.iadd, 1) := by decide +kernel
theorem dX4_putSample_49 : decode cX4_putSample 49 = .ok (.iload_n 3, 1) := by decide +kernel
theorem dX4_putSample_50 : decode cX4_putSample 50 = .ok (.iadd, 1) := by decide +kernel
theorem dX4_putSample_51 : decode cX4_putSample 51 = .ok (.istore 5, 2) := by decide +kernel
theorem dX4_putSample_53 : decode cX4_putSample 53 = .ok (.aload_n 0, 1) := by decide +kernel
theorem dX4_putSample_54 : decode cX4_putSample 54 = .ok (.getfield 25, 3) := by decide +kernel
theorem dX4_putSample_57 : decode cX4_putSample 57 = .ok (.iload 5, 2) := by decide +kernel
theorem dX4_putSample_59 : decode cX4_putSample 59 = .ok (.iaload, 1) := by decide +kernel
theorem dX4_putSample_60 : decode cX4_putSample 60 = .ok (.istore 6, 2) := by decide +kernel
theorem dX4_putSample_62 : decode cX4_putSample 62 = .ok (.aload_n 0, 1) := by decide +kernel
theorem dX4_putSample_63 : decode cX4_putSample 63 = .ok (.getfield 25, 3) := by decide +kernel
theorem dX4_putSample_66 : decode cX4_putSample 66 = .ok (.iload 5, 2) := by decide +kernel
theorem dX4_putSample_68 : decode cX4_putSample 68 = .ok (.iload 4, 2) := by decide +kernel
theorem dX4_putSample_70 : decode cX4_putSample 70 = .ok (.iastore, 1) := by decide +kernel
theorem dX4_putSample_71 : decode cX4_putSample 71 = .ok (.iload 6, 2) := by decide +kernel
theorem dX4_putSample_73 : decode cX4_putSample 73 = .ok (.ireturn, 1) := by decide +kernel
theorem dX4_layEcho_0 : decode cX4_layEcho 0 = .ok (.iload_n 1, 1) := by decide +kernel
theorem dX4_layEcho_1 : decode cX4_layEcho 1 = .ok (.invokestatic 56, 3) := by decide +kernel
theorem dX4_layEcho_4 : decode cX4_layEcho 4 = .ok (.ifCond .eq 25, 3) := by decide +kernel
theorem dX4_layEcho_7 : decode cX4_layEcho 7 = .ok (.iload_n 2, 1) := by decide +kernel
theorem dX4_layEcho_8 : decode cX4_layEcho 8 = .ok (.iconst 0, 1) := by decide +kernel
theorem dX4_layEcho_9 : decode cX4_layEcho 9 = .ok (.sipush 9999, 3) := by decide +kernel
theorem dX4_layEcho_12 : decode cX4_layEcho 12 = .ok (.invokestatic 40, 3) := by decide +kernel
theorem dX4_layEcho_15 : decode cX4_layEcho 15 = .ok (.ifCond .eq 14, 3) := by decide +kernel
theorem dX4_layEcho_18 : decode cX4_layEcho 18 = .ok (.iload_n 3, 1) := by decide +kernel
theorem dX4_layEcho_19 : decode cX4_layEcho 19 = .ok (.iconst 1, 1) := by decide +kernel
theorem dX4_layEcho_20 : decode cX4_layEcho 20 = .ok (.sipush 1000, 3) := by decide +kernel
theorem dX4_layEcho_23 : decode cX4_layEcho 23 = .ok (.invokestatic 40, 3) := by decide +kernel
theorem dX4_layEcho_26 : decode cX4_layEcho 26 = .ok (.ifCond .ne 7, 3) := by decide +kernel
theorem dX4_layEcho_29 : decode cX4_layEcho 29 = .ok (.sipush (-10002), 3) := by decide +kernel
theorem dX4_layEcho_32 : decode cX4_layEcho 32 = .ok (.ireturn, 1) := by decide +kernel
theorem dX4_layEcho_33 : decode cX4_layEcho 33 = .ok (.iconst 0, 1) := by decide +kernel
theorem dX4_layEcho_34 : decode cX4_layEcho 34 = .ok (.istore 4, 2) := by decide +kernel
theorem dX4_layEcho_36 : decode cX4_layEcho 36 = .ok (.iload 4, 2) := by decide +kernel
theorem dX4_layEcho_38 : decode cX4_layEcho 38 = .ok (.iconst 3, 1) := by decide +kernel
theorem dX4_layEcho_39 : decode cX4_layEcho 39 = .ok (.if_icmp .ge 31, 3) := by decide +kernel
theorem dX4_layEcho_42 : decode cX4_layEcho 42 = .ok (.aload_n 0, 1) := by decide +kernel
theorem dX4_layEcho_43 : decode cX4_layEcho 43 = .ok (.iload_n 1, 1) := by decide +kernel
theorem dX4_layEcho_44 : decode cX4_layEcho 44 = .ok (.bipush 12, 2) := by decide +kernel
theorem dX4_layEcho_46 : decode cX4_layEcho 46 = .ok (.imul, 1) := by decide +kernel
theorem dX4_layEcho_47 : decode cX4_layEcho 47 = .ok (.iload 4, 2) := by decide +kernel
theorem dX4_layEcho_49 : decode cX4_layEcho 49 = .ok (.iconst 4, 1) := by decide +kernel
theorem dX4_layEcho_50 : decode cX4_layEcho 50 = .ok (.imul, 1) := by decide +kernel
theorem dX4_layEcho_51 : decode cX4_layEcho 51 = .ok (.iadd, 1) := by decide +kernel
theorem dX4_layEcho_52 : decode cX4_layEcho 52 = .ok (.iload_n 2, 1) := by decide +kernel
theorem dX4_layEcho_53 : decode cX4_layEcho 53 = .ok (.iload_n 3, 1) := by decide +kernel
theorem dX4_layEcho_54 : decode cX4_layEcho 54 = .ok (.aload_n 0, 1) := by decide +kernel
theorem dX4_layEcho_55 : decode cX4_layEcho 55 = .ok (.getfield 18, 3) := by decide +kernel
theorem dX4_layEcho_58 : decode cX4_layEcho 58 = .ok (.iload 4, 2) := by decide +kernel
theorem dX4_layEcho_60 : decode cX4_layEcho 60 = .ok (.iaload, 1) := by decide +kernel
theorem dX4_layEcho_61 : decode cX4_layEcho 61 = .ok (.invokevirtual 60, 3) := by decide +kernel
theorem dX4_layEcho_64 : decode cX4_layEcho 64 = .ok (.iinc 4 1, 3) := by decide +kernel
theorem dX4_layEcho_67 : decode cX4_layEcho 67 = .ok (.goto (-31), 3) := by decide +kernel
theorem dX4_layEcho_70 : decode cX4_layEcho 70 = .ok (.aload_n 0, 1) := by decide +kernel
theorem dX4_layEcho_71 : decode cX4_layEcho 71 = .ok (.iload_n 1, 1) := by decide +kernel
theorem dX4_layEcho_72 : decode cX4_layEcho 72 = .ok (.sipush 4095, 3) := by decide +kernel
theorem dX4_layEcho_75 : decode cX4_layEcho 75 = .ok (.invokevirtual 64, 3) := by decide +kernel
theorem dX4_layEcho_78 : decode cX4_layEcho 78 = .ok (.ireturn, 1) := by decide +kernel
theorem dX4_layEchoOfRate_0 : decode cX4_layEchoOfRate 0 = .ok (.iload 4, 2) := by decide +kernel
theorem dX4_layEchoOfRate_2 : decode cX4_layEchoOfRate 2 = .ok (.iconst 1, 1) := by decide +kernel
theorem dX4_layEchoOfRate_3 : decode cX4_layEchoOfRate 3 = .ok (.if_icmp .ge 4, 3) := by decide +kernel
theorem dX4_layEchoOfRate_6 : decode cX4_layEchoOfRate 6 = .ok (.return_, 1) := by decide +kernel
theorem dX4_layEchoOfRate_7 : decode cX4_layEchoOfRate 7 = .ok (.iload_n 2, 1) := by decide +kernel
theorem dX4_layEchoOfRate_8 : decode cX4_layEchoOfRate 8 = .ok (.iload 4, 2) := by decide +kernel
theorem dX4_layEchoOfRate_10 : decode cX4_layEchoOfRate 10 = .ok (.irem, 1) := by decide +kernel
theorem dX4_layEchoOfRate_11 : decode cX4_layEchoOfRate 11 = .ok (.istore 5, 2) := by decide +kernel
theorem dX4_layEchoOfRate_13 : decode cX4_layEchoOfRate 13 = .ok (.ldc 68, 2) := by decide +kernel
theorem dX4_layEchoOfRate_15 : decode cX4_layEchoOfRate 15 = .ok (.iload 5, 2) := by decide +kernel
theorem dX4_layEchoOfRate_17 : decode cX4_layEchoOfRate 17 = .ok (.i2f, 1) := by decide +kernel
theorem dX4_layEchoOfRate_18 : decode cX4_layEchoOfRate 18 = .ok (.fmul, 1) := by decide +kernel
theorem dX4_layEchoOfRate_19 : decode cX4_layEchoOfRate 19 = .ok (.iload 4, 2) := by decide +kernel
theorem dX4_layEchoOfRate_21 : decode cX4_layEchoOfRate 21 = .ok (.i2f, 1) := by decide +kernel
theorem dX4_layEchoOfRate_22 : decode cX4_layEchoOfRate 22 = .ok (.fdiv, 1) := by decide +kernel
theorem dX4_layEchoOfRate_23 : decode cX4_layEchoOfRate 23 = .ok (.fstore 6, 2) := by decide +kernel
theorem dX4_layEchoOfRate_25 : decode cX4_layEchoOfRate 25 = .ok (.fload 6, 2) := by decide +kernel
theorem dX4_layEchoOfRate_27 : decode cX4_layEchoOfRate 27 = .ok (.fconst 1, 1) := by decide +kernel
theorem dX4_layEchoOfRate_28 : decode cX4_layEchoOfRate 28 = .ok (.fcmp .g, 1) := by decide +kernel
theorem dX4_layEchoOfRate_29 : decode cX4_layEchoOfRate 29 = .ok (.ifCond .ge 25, 3) := by decide +kernel
theorem dX4_layEchoOfRate_32 : decode cX4_layEchoOfRate 32 = .ok (.iload_n 3, 1) := by decide +kernel
theorem dX4_layEchoOfRate_33 : decode cX4_layEchoOfRate 33 = .ok (.i2f, 1) := by decide +kernel
theorem dX4_layEchoOfRate_34 : decode cX4_layEchoOfRate 34 = .ok (.fload 6, 2) := by decide +kernel
theorem dX4_layEchoOfRate_36 : decode cX4_layEchoOfRate 36 = .ok (.fmul, 1) := by decide +kernel
theorem dX4_layEchoOfRate_37 : decode cX4_layEchoOfRate 37 = .ok (.f2i, 1) := by decide +kernel
theorem dX4_layEchoOfRate_38 : decode cX4_layEchoOfRate 38 = .ok (.istore 7, 2) := by decide +kernel
theorem dX4_layEchoOfRate_40 : decode cX4_layEchoOfRate 40 = .ok (.aload_n 0, 1) := by decide +kernel
theorem dX4_layEchoOfRate_41 : decode cX4_layEchoOfRate 41 = .ok (.iload_n 1, 1) := by decide +kernel
theorem dX4_layEchoOfRate_42 : decode cX4_layEchoOfRate 42 = .ok (.iload_n 3, 1) := by decide +kernel
theorem dX4_layEchoOfRate_43 : decode cX4_layEchoOfRate 43 = .ok (.iload 7, 2) := by decide +kernel
theorem dX4_layEchoOfRate_45 : decode cX4_layEchoOfRate 45 = .ok (.isub, 1) := by decide +kernel
theorem dX4_layEchoOfRate_46 : decode cX4_layEchoOfRate 46 = .ok (.iload 7, 2) := by decide +kernel
theorem dX4_layEchoOfRate_48 : decode cX4_layEchoOfRate 48 = .ok (.invokevirtual 69, 3) := by decide +kernel
theorem dX4_layEchoOfRate_51 : decode cX4_layEchoOfRate 51 = .ok (.goto 90, 3) := by decide +kernel
theorem dX4_layEchoOfRate_54 : decode cX4_layEchoOfRate 54 = .ok (.fload 6, 2) := by decide +kernel
theorem dX4_layEchoOfRate_56 : decode cX4_layEchoOfRate 56 = .ok (.fconst 2, 1) := by decide +kernel
theorem dX4_layEchoOfRate_57 : decode cX4_layEchoOfRate 57 = .ok (.fcmp .g, 1) := by decide +kernel
theorem dX4_layEchoOfRate_58 : decode cX4_layEchoOfRate 58 = .ok (.ifCond .ge 28, 3) := by decide +kernel
theorem dX4_layEchoOfRate_61 : decode cX4_layEchoOfRate 61 = .ok (.iload_n 3, 1) := by decide +kernel
theorem dX4_layEchoOfRate_62 : decode cX4_layEchoOfRate 62 = .ok (.i2f, 1) := by decide +kernel
theorem dX4_layEchoOfRate_63 : decode cX4_layEchoOfRate 63 = .ok (.fload 6, 2) := by decide +kernel
theorem dX4_layEchoOfRate_65 : decode cX4_layEchoOfRate 65 = .ok (.fconst 1, 1) := by decide +kernel
theorem dX4_layEchoOfRate_66 : decode cX4_layEchoOfRate 66 = .ok (.fsub, 1) := by decide +kernel
theorem dX4_layEchoOfRate_67 : decode cX4_layEchoOfRate 67 = .ok (.fmul, 1) := by decide +kernel
theorem dX4_layEchoOfRate_68 : decode cX4_layEchoOfRate 68 = .ok (.f2i, 1) := by decide +kernel
theorem dX4_layEchoOfRate_69 : decode cX4_layEchoOfRate 69 = .ok (.istore 7, 2) := by decide +kernel
theorem dX4_layEchoOfRate_71 : decode cX4_layEchoOfRate 71 = .ok (.aload_n 0, 1) := by decide +kernel
theorem dX4_layEchoOfRate_72 : decode cX4_layEchoOfRate 72 = .ok (.iload_n 1, 1) := by decide +kernel
theorem dX4_layEchoOfRate_73 : decode cX4_layEchoOfRate 73 = .ok (.iload 7, 2) := by decide +kernel
theorem dX4_layEchoOfRate_75 : decode cX4_layEchoOfRate 75 = .ok (.ineg, 1) := by decide +kernel
theorem dX4_layEchoOfRate_76 : decode cX4_layEchoOfRate 76 = .ok (.iload_n 3, 1) := by decide +kernel
theorem dX4_layEchoOfRate_77 : decode cX4_layEchoOfRate 77 = .ok (.iload 7, 2) := by decide +kernel
theorem dX4_layEchoOfRate_79 : decode cX4_layEchoOfRate 79 = .ok (.isub, 1) := by decide +kernel
theorem dX4_layEchoOfRate_80 : decode cX4_layEchoOfRate 80 = .ok (.invokevirtual 69, 3) := by decide +kernel
theorem dX4_layEchoOfRate_83 : decode cX4_layEchoOfRate 83 = .ok (.goto 58, 3) := by decide +kernel
theorem dX4_layEchoOfRate_86 : decode cX4_layEchoOfRate 86 = .ok (.fload 6, 2) := by decide +kernel
theorem dX4_layEchoOfRate_88 : decode cX4_layEchoOfRate 88 = .ok (.ldc 73, 2) := by decide +kernel
theorem dX4_layEchoOfRate_90 : decode cX4_layEchoOfRate 90 = .ok (.fcmp .g, 1) := by decide +kernel
theorem dX4_layEchoOfRate_91 : decode cX4_layEchoOfRate 91 = .ok (.ifCond .ge 28, 3) := by decide +kernel
theorem dX4_layEchoOfRate_94 : decode cX4_layEchoOfRate 94 = .ok (.iload_n 3, 1) := by decide +kernel
theorem dX4_layEchoOfRate_95 : decode cX4_layEchoOfRate 95 = .ok (.i2f, 1) := by decide +kernel
theorem dX4_layEchoOfRate_96 : decode cX4_layEchoOfRate 96 = .ok (.fload 6, 2) := by decide +kernel
theorem dX4_layEchoOfRate_98 : decode cX4_layEchoOfRate 98 = .ok (.fconst 2, 1) := by decide +kernel
theorem dX4_layEchoOfRate_99 : decode cX4_layEchoOfRate 99 = .ok (.fsub, 1) := by decide +kernel
theorem dX4_layEchoOfRate_100 : decode cX4_layEchoOfRate 100 = .ok (.fmul, 1) := by decide +kernel
theorem dX4_layEchoOfRate_101 : decode cX4_layEchoOfRate 101 = .ok (.f2i, 1) := by decide +kernel
theorem dX4_layEchoOfRate_102 : decode cX4_layEchoOfRate 102 = .ok (.istore 7, 2) := by decide +kernel
theorem dX4_layEchoOfRate_104 : decode cX4_layEchoOfRate 104 = .ok (.aload_n 0, 1) := by decide +kernel
theorem dX4_layEchoOfRate_105 : decode cX4_layEchoOfRate 105 = .ok (.iload_n 1, 1) := by decide +kernel
theorem dX4_layEchoOfRate_106 : decode cX4_layEchoOfRate 106 = .ok (.iload 7, 2) := by decide +kernel
theorem dX4_layEchoOfRate_108 : decode cX4_layEchoOfRate 108 = .ok (.iload_n 3, 1) := by decide +kernel
theorem dX4_layEchoOfRate_109 : decode cX4_layEchoOfRate 109 = .ok (.isub, 1) := by decide +kernel
theorem dX4_layEchoOfRate_110 : decode cX4_layEchoOfRate 110 = .ok (.iload 7, 2) := by decide +kernel
theorem dX4_layEchoOfRate_112 : decode cX4_layEchoOfRate 112 = .ok (.ineg, 1) := by decide +kernel
theorem dX4_layEchoOfRate_113 : decode cX4_layEchoOfRate 113 = .ok (.invokevirtual 69, 3) := by decide +kernel
theorem dX4_layEchoOfRate_116 : decode cX4_layEchoOfRate 116 = .ok (.goto 25, 3) := by decide +kernel
theorem dX4_layEchoOfRate_119 : decode cX4_layEchoOfRate 119 = .ok (.iload_n 3, 1) := by decide +kernel
theorem dX4_layEchoOfRate_120 : decode cX4_layEchoOfRate 120 = .ok (.i2f, 1) := by decide +kernel
theorem dX4_layEchoOfRate_121 : decode cX4_layEchoOfRate 121 = .ok (.fload 6, 2) := by decide +kernel
theorem dX4_layEchoOfRate_123 : decode cX4_layEchoOfRate 123 = .ok (.ldc 73, 2) := by decide +kernel
theorem dX4_layEchoOfRate_125 : decode cX4_layEchoOfRate 125 = .ok (.fsub, 1) := by decide +kernel
theorem dX4_layEchoOfRate_126 : decode cX4_layEchoOfRate 126 = .ok (.fmul, 1) := by decide +kernel
theorem dX4_layEchoOfRate_127 : decode cX4_layEchoOfRate 127 = .ok (.f2i, 1) := by decide +kernel
theorem dX4_layEchoOfRate_128 : decode cX4_layEchoOfRate 128 = .ok (.istore 7, 2) := by decide +kernel
theorem dX4_layEchoOfRate_130 : decode cX4_layEchoOfRate 130 = .ok (.aload_n 0, 1) := by decide +kernel
theorem dX4_layEchoOfRate_131 : decode cX4_layEchoOfRate 131 = .ok (.iload_n 1, 1) := by decide +kernel
theorem dX4_layEchoOfRate_132 : decode cX4_layEchoOfRate 132 = .ok (.iload 7, 2) := by decide +kernel
theorem dX4_layEchoOfRate_134 : decode cX4_layEchoOfRate 134 = .ok (.iload 7, 2) := by decide +kernel
theorem dX4_layEchoOfRate_136 : decode cX4_layEchoOfRate 136 = .ok (.iload_n 3, 1) := by decide +kernel
theorem dX4_layEchoOfRate_137 : decode cX4_layEchoOfRate 137 = .ok (.isub, 1) := by decide +kernel
theorem dX4_layEchoOfRate_138 : decode cX4_layEchoOfRate 138 = .ok (.invokevirtual 69, 3) := by decide +kernel
theorem dX4_layEchoOfRate_141 : decode cX4_layEchoOfRate 141 = .ok (.return_, 1) := by decide +kernel
theorem dX4_addSignal_0 : decode cX4_addSignal 0 = .ok (.aload_n 0, 1) := by decide +kernel
theorem dX4_addSignal_1 : decode cX4_addSignal 1 = .ok (.iload_n 2, 1) := by decide +kernel
theorem dX4_addSignal_2 : decode cX4_addSignal 2 = .ok (.ifCond .le 7, 3) := by decide +kernel
theorem dX4_addSignal_5 : decode cX4_addSignal 5 = .ok (.iload_n 1, 1) := by decide +kernel
theorem dX4_addSignal_6 : decode cX4_addSignal 6 = .ok (.goto 6, 3) := by decide +kernel
theorem dX4_addSignal_9 : decode cX4_addSignal 9 = .ok (.iload_n 1, 1) := by decide +kernel
theorem dX4_addSignal_10 : decode cX4_addSignal 10 = .ok (.iconst 2, 1) := by decide +kernel
theorem dX4_addSignal_11 : decode cX4_addSignal 11 = .ok (.iadd, 1) := by decide +kernel
theorem dX4_addSignal_12 : decode cX4_addSignal 12 = .ok (.iload_n 2, 1) := by decide +kernel
theorem dX4_addSignal_13 : decode cX4_addSignal 13 = .ok (.invokestatic 74, 3) := by decide +kernel
theorem dX4_addSignal_16 : decode cX4_addSignal 16 = .ok (.invokevirtual 80, 3) := by decide +kernel
theorem dX4_addSignal_19 : decode cX4_addSignal 19 = .ok (.aload_n 0, 1) := by decide +kernel
theorem dX4_addSignal_20 : decode cX4_addSignal 20 = .ok (.iload_n 3, 1) := by decide +kernel
theorem dX4_addSignal_21 : decode cX4_addSignal 21 = .ok (.ifCond .le 9, 3) := by decide +kernel
theorem dX4_addSignal_24 : decode cX4_addSignal 24 = .ok (.iload_n 1, 1) := by decide +kernel
theorem dX4_addSignal_25 : decode cX4_addSignal 25 = .ok (.iconst 1, 1) := by decide +kernel
theorem dX4_addSignal_26 : decode cX4_addSignal 26 = .ok (.iadd, 1) := by decide +kernel
theorem dX4_addSignal_27 : decode cX4_addSignal 27 = .ok (.goto 6, 3) := by decide +kernel
theorem dX4_addSignal_30 : decode cX4_addSignal 30 = .ok (.iload_n 1, 1) := by decide +kernel
theorem dX4_addSignal_31 : decode cX4_addSignal 31 = .ok (.iconst 3, 1) := by decide +kernel
theorem dX4_addSignal_32 : decode cX4_addSignal 32 = .ok (.iadd, 1) := by decide +kernel
theorem dX4_addSignal_33 : decode cX4_addSignal 33 = .ok (.iload_n 3, 1) := by decide +kernel
theorem dX4_addSignal_34 : decode cX4_addSignal 34 = .ok (.invokestatic 74, 3) := by decide +kernel
theorem dX4_addSignal_37 : decode cX4_addSignal 37 = .ok (.invokevirtual 80, 3) := by decide +kernel
theorem dX4_addSignal_40 : decode cX4_addSignal 40 = .ok (.return_, 1) := by decide +kernel
theorem dX4_brighten_0 : decode cX4_brighten 0 = .ok (.iload_n 1, 1) := by decide +kernel
theorem dX4_brighten_1 : decode cX4_brighten 1 = .ok (.iconst 0, 1) := by decide +kernel
theorem dX4_brighten_2 : decode cX4_brighten 2 = .ok (.aload_n 0, 1) := by decide +kernel
theorem dX4_brighten_3 : decode cX4_brighten 3 = .ok (.getfield 25, 3) := by decide +kernel
theorem dX4_brighten_6 : decode cX4_brighten 6 = .ok (.arraylength, 1) := by decide +kernel
theorem dX4_brighten_7 : decode cX4_brighten 7 = .ok (.iconst 1, 1) := by decide +kernel
theorem dX4_brighten_8 : decode cX4_brighten 8 = .ok (.isub, 1) := by decide +kernel
theorem dX4_brighten_9 : decode cX4_brighten 9 = .ok (.invokestatic 40, 3) := by decide +kernel
theorem dX4_brighten_12 : decode cX4_brighten 12 = .ok (.ifCond .eq 23, 3) := by decide +kernel
theorem dX4_brighten_15 : decode cX4_brighten 15 = .ok (.aload_n 0, 1) := by decide +kernel
theorem dX4_brighten_16 : decode cX4_brighten 16 = .ok (.getfield 25, 3) := by decide +kernel
theorem dX4_brighten_19 : decode cX4_brighten 19 = .ok (.iload_n 1, 1) := by decide +kernel
theorem dX4_brighten_20 : decode cX4_brighten 20 = .ok (.sipush 4095, 3) := by decide +kernel
theorem dX4_brighten_23 : decode cX4_brighten 23 = .ok (.aload_n 0, 1) := by decide +kernel
theorem dX4_brighten_24 : decode cX4_brighten 24 = .ok (.getfield 25, 3) := by decide +kernel
theorem dX4_brighten_27 : decode cX4_brighten 27 = .ok (.iload_n 1, 1) := by decide +kernel
theorem dX4_brighten_28 : decode cX4_brighten 28 = .ok (.iaload, 1) := by decide +kernel
theorem dX4_brighten_29 : decode cX4_brighten 29 = .ok (.iload_n 2, 1) := by decide +kernel
theorem dX4_brighten_30 : decode cX4_brighten 30 = .ok (.iadd, 1) := by decide +kernel
theorem dX4_brighten_31 : decode cX4_brighten 31 = .ok (.invokestatic 84, 3) := by decide +kernel
theorem dX4_brighten_34 : decode cX4_brighten 34 = .ok (.iastore, 1) := by decide +kernel
theorem dX4_brighten_35 : decode cX4_brighten 35 = .ok (.return_, 1) := by decide +kernel
theorem dX4_addLight_0 : decode cX4_addLight 0 = .ok (.iload_n 1, 1) := by decide +kernel
theorem dX4_addLight_1 : decode cX4_addLight 1 = .ok (.invokestatic 56, 3) := by decide +kernel
theorem dX4_addLight_4 : decode cX4_addLight 4 = .ok (.ifCond .eq 14, 3) := by decide +kernel
theorem dX4_addLight_7 : decode cX4_addLight 7 = .ok (.iload_n 2, 1) := by decide +kernel
theorem dX4_addLight_8 : decode cX4_addLight 8 = .ok (.iconst 1, 1) := by decide +kernel
theorem dX4_addLight_9 : decode cX4_addLight 9 = .ok (.sipush 4095, 3) := by decide +kernel
theorem dX4_addLight_12 : decode cX4_addLight 12 = .ok (.invokestatic 40, 3) := by decide +kernel
theorem dX4_addLight_15 : decode cX4_addLight 15 = .ok (.ifCond .ne 7, 3) := by decide +kernel
theorem dX4_addLight_18 : decode cX4_addLight 18 = .ok (.sipush (-10002), 3) := by decide +kernel
theorem dX4_addLight_21 : decode cX4_addLight 21 = .ok (.ireturn, 1) := by decide +kernel
theorem dX4_addLight_22 : decode cX4_addLight 22 = .ok (.iconst 0, 1) := by decide +kernel
theorem dX4_addLight_23 : decode cX4_addLight 23 = .ok (.istore_n 3, 1) := by decide +kernel
theorem dX4_addLight_24 : decode cX4_addLight 24 = .ok (.iload_n 3, 1) := by decide +kernel
theorem dX4_addLight_25 : decode cX4_addLight 25 = .ok (.bipush 12, 2) := by decide +kernel
theorem dX4_addLight_27 : decode cX4_addLight 27 = .ok (.if_icmp .ge 20, 3) := by decide +kernel
theorem dX4_addLight_30 : decode cX4_addLight 30 = .ok (.aload_n 0, 1) := by decide +kernel
theorem dX4_addLight_31 : decode cX4_addLight 31 = .ok (.iload_n 1, 1) := by decide +kernel
theorem dX4_addLight_32 : decode cX4_addLight 32 = .ok (.bipush 12, 2) := by decide +kernel
theorem dX4_addLight_34 : decode cX4_addLight 34 = .ok (.imul, 1) := by decide +kernel
theorem dX4_addLight_35 : decode cX4_addLight 35 = .ok (.iload_n 3, 1) := by decide +kernel
theorem dX4_addLight_36 : decode cX4_addLight 36 = .ok (.iadd, 1) := by decide +kernel
theorem dX4_addLight_37 : decode cX4_addLight 37 = .ok (.iload_n 2, 1) := by decide +kernel
theorem dX4_addLight_38 : decode cX4_addLight 38 = .ok (.invokevirtual 80, 3) := by decide +kernel
theorem dX4_addLight_41 : decode cX4_addLight 41 = .ok (.iinc 3 1, 3) := by decide +kernel
theorem dX4_addLight_44 : decode cX4_addLight 44 = .ok (.goto (-20), 3) := by decide +kernel
theorem dX4_addLight_47 : decode cX4_addLight 47 = .ok (.aload_n 0, 1) := by decide +kernel
theorem dX4_addLight_48 : decode cX4_addLight 48 = .ok (.iload_n 1, 1) := by decide +kernel
theorem dX4_addLight_49 : decode cX4_addLight 49 = .ok (.sipush 4095, 3) := by decide +kernel
theorem dX4_addLight_52 : decode cX4_addLight 52 = .ok (.invokevirtual 64, 3) := by decide +kernel
theorem dX4_addLight_55 : decode cX4_addLight 55 = .ok (.ireturn, 1) := by decide +kernel
theorem dX4_countFrom_0 : decode cX4_countFrom 0 = .ok (.iload_n 1, 1) := by decide +kernel
theorem dX4_countFrom_1 : decode cX4_countFrom 1 = .ok (.invokestatic 56, 3) := by decide +kernel
theorem dX4_countFrom_4 : decode cX4_countFrom 4 = .ok (.ifCond .ne 5, 3) := by decide +kernel
theorem dX4_countFrom_7 : decode cX4_countFrom 7 = .ok (.iconst 0, 1) := by decide +kernel
theorem dX4_countFrom_8 : decode cX4_countFrom 8 = .ok (.ireturn, 1) := by decide +kernel
theorem dX4_countFrom_9 : decode cX4_countFrom 9 = .ok (.iconst 0, 1) := by decide +kernel
theorem dX4_countFrom_10 : decode cX4_countFrom 10 = .ok (.istore_n 3, 1) := by decide +kernel
theorem dX4_countFrom_11 : decode cX4_countFrom 11 = .ok (.iconst 0, 1) := by decide +kernel
theorem dX4_countFrom_12 : decode cX4_countFrom 12 = .ok (.istore 4, 2) := by decide +kernel
theorem dX4_countFrom_14 : decode cX4_countFrom 14 = .ok (.iload 4, 2) := by decide +kernel
theorem dX4_countFrom_16 : decode cX4_countFrom 16 = .ok (.bipush 12, 2) := by decide +kernel
theorem dX4_countFrom_18 : decode cX4_countFrom 18 = .ok (.if_icmp .ge 33, 3) := by decide +kernel
theorem dX4_countFrom_21 : decode cX4_countFrom 21 = .ok (.iload_n 3, 1) := by decide +kernel
theorem dX4_countFrom_22 : decode cX4_countFrom 22 = .ok (.aload_n 0, 1) := by decide +kernel
theorem dX4_countFrom_23 : decode cX4_countFrom 23 = .ok (.getfield 25, 3) := by decide +kernel
theorem dX4_countFrom_26 : decode cX4_countFrom 26 = .ok (.iload_n 1, 1) := by decide +kernel
theorem dX4_countFrom_27 : decode cX4_countFrom 27 = .ok (.bipush 12, 2) := by decide +kernel
theorem dX4_countFrom_29 : decode cX4_countFrom 29 = .ok (.imul, 1) := by decide +kernel
theorem dX4_countFrom_30 : decode cX4_countFrom 30 = .ok (.iload 4, 2) := by decide +kernel
theorem dX4_countFrom_32 : decode cX4_countFrom 32 = .ok (.iadd, 1) := by decide +kernel
theorem dX4_countFrom_33 : decode cX4_countFrom 33 = .ok (.iaload, 1) := by decide +kernel
theorem dX4_countFrom_34 : decode cX4_countFrom 34 = .ok (.iload_n 2, 1) := by decide +kernel
theorem dX4_countFrom_35 : decode cX4_countFrom 35 = .ok (.if_icmp .lt 7, 3) := by decide +kernel
theorem dX4_countFrom_38 : decode cX4_countFrom 38 = .ok (.iconst 1, 1) := by decide +kernel
theorem dX4_countFrom_39 : decode cX4_countFrom 39 = .ok (.goto 4, 3) := by decide +kernel
theorem dX4_countFrom_42 : decode cX4_countFrom 42 = .ok (.iconst 0, 1) := by decide +kernel
theorem dX4_countFrom_43 : decode cX4_countFrom 43 = .ok (.iadd, 1) := by decide +kernel
theorem dX4_countFrom_44 : decode cX4_countFrom 44 = .ok (.istore_n 3, 1) := by decide +kernel
theorem dX4_countFrom_45 : decode cX4_countFrom 45 = .ok (.iinc 4 1, 3) := by decide +kernel
theorem dX4_countFrom_48 : decode cX4_countFrom 48 = .ok (.goto (-34), 3) := by decide +kernel
theorem dX4_countFrom_51 : decode cX4_countFrom 51 = .ok (.iload_n 3, 1) := by decide +kernel
theorem dX4_countFrom_52 : decode cX4_countFrom 52 = .ok (.ireturn, 1) := by decide +kernel
theorem dX4_darken_0 : decode cX4_darken 0 = .ok (.iload_n 1, 1) := by decide +kernel
theorem dX4_darken_1 : decode cX4_darken 1 = .ok (.invokestatic 56, 3) := by decide +kernel
theorem dX4_darken_4 : decode cX4_darken 4 = .ok (.ifCond .ne 7, 3) := by decide +kernel
theorem dX4_darken_7 : decode cX4_darken 7 = .ok (.sipush (-10002), 3) := by decide +kernel
theorem dX4_darken_10 : decode cX4_darken 10 = .ok (.ireturn, 1) := by decide +kernel
theorem dX4_darken_11 : decode cX4_darken 11 = .ok (.aload_n 0, 1) := by decide +kernel
theorem dX4_darken_12 : decode cX4_darken 12 = .ok (.iload_n 1, 1) := by decide +kernel
theorem dX4_darken_13 : decode cX4_darken 13 = .ok (.iconst 1, 1) := by decide +kernel
theorem dX4_darken_14 : decode cX4_darken 14 = .ok (.invokevirtual 64, 3) := by decide +kernel
theorem dX4_darken_17 : decode cX4_darken 17 = .ok (.istore_n 2, 1) := by decide +kernel
theorem dX4_darken_18 : decode cX4_darken 18 = .ok (.iconst 0, 1) := by decide +kernel
theorem dX4_darken_19 : decode cX4_darken 19 = .ok (.istore_n 3, 1) := by decide +kernel
theorem dX4_darken_20 : decode cX4_darken 20 = .ok (.iload_n 3, 1) := by decide +kernel
theorem dX4_darken_21 : decode cX4_darken 21 = .ok (.bipush 12, 2) := by decide +kernel
theorem dX4_darken_23 : decode cX4_darken 23 = .ok (.if_icmp .ge 21, 3) := by decide +kernel
theorem dX4_darken_26 : decode cX4_darken 26 = .ok (.aload_n 0, 1) := by decide +kernel
theorem dX4_darken_27 : decode cX4_darken 27 = .ok (.getfield 25, 3) := by decide +kernel
theorem dX4_darken_30 : decode cX4_darken 30 = .ok (.iload_n 1, 1) := by decide +kernel
theorem dX4_darken_31 : decode cX4_darken 31 = .ok (.bipush 12, 2) := by decide +kernel
theorem dX4_darken_33 : decode cX4_darken 33 = .ok (.imul, 1) := by decide +kernel
theorem dX4_darken_34 : decode cX4_darken 34 = .ok (.iload_n 3, 1) := by decide +kernel
theorem dX4_darken_35 : decode cX4_darken 35 = .ok (.iadd, 1) := by decide +kernel
theorem dX4_darken_36 : decode cX4_darken 36 = .ok (.iconst 0, 1) := by decide +kernel
theorem dX4_darken_37 : decode cX4_darken 37 = .ok (.iastore, 1) := by decide +kernel
theorem dX4_darken_38 : decode cX4_darken 38 = .ok (.iinc 3 1, 3) := by decide +kernel
theorem dX4_darken_41 : decode cX4_darken 41 = .ok (.goto (-21), 3) := by decide +kernel
theorem dX4_darken_44 : decode cX4_darken 44 = .ok (.iload_n 2, 1) := by decide +kernel
theorem dX4_darken_45 : decode cX4_darken 45 = .ok (.ireturn, 1) := by decide +kernel
theorem dX4_sampleAt_0 : decode cX4_sampleAt 0 = .ok (.iload_n 1, 1) := by decide +kernel
theorem dX4_sampleAt_1 : decode cX4_sampleAt 1 = .ok (.bipush 12, 2) := by decide +kernel
theorem dX4_sampleAt_3 : decode cX4_sampleAt 3 = .ok (.imul, 1) := by decide +kernel
theorem dX4_sampleAt_4 : decode cX4_sampleAt 4 = .ok (.iload_n 2, 1) := by decide +kernel
theorem dX4_sampleAt_5 : decode cX4_sampleAt 5 = .ok (.iconst 4, 1) := by decide +kernel
theorem dX4_sampleAt_6 : decode cX4_sampleAt 6 = .ok (.imul, 1) := by decide +kernel
theorem dX4_sampleAt_7 : decode cX4_sampleAt 7 = .ok (.iadd, 1) := by decide +kernel
theorem dX4_sampleAt_8 : decode cX4_sampleAt 8 = .ok (.iload_n 3, 1) := by decide +kernel
theorem dX4_sampleAt_9 : decode cX4_sampleAt 9 = .ok (.iadd, 1) := by decide +kernel
theorem dX4_sampleAt_10 : decode cX4_sampleAt 10 = .ok (.istore 4, 2) := by decide +kernel
theorem dX4_sampleAt_12 : decode cX4_sampleAt 12 = .ok (.iload 4, 2) := by decide +kernel
theorem dX4_sampleAt_14 : decode cX4_sampleAt 14 = .ok (.iconst 0, 1) := by decide +kernel
theorem dX4_sampleAt_15 : decode cX4_sampleAt 15 = .ok (.aload_n 0, 1) := by decide +kernel
theorem dX4_sampleAt_16 : decode cX4_sampleAt 16 = .ok (.getfield 25, 3) := by decide +kernel
theorem dX4_sampleAt_19 : decode cX4_sampleAt 19 = .ok (.arraylength, 1) := by decide +kernel
theorem dX4_sampleAt_20 : decode cX4_sampleAt 20 = .ok (.iconst 1, 1) := by decide +kernel
theorem dX4_sampleAt_21 : decode cX4_sampleAt 21 = .ok (.isub, 1) := by decide +kernel
theorem dX4_sampleAt_22 : decode cX4_sampleAt 22 = .ok (.invokestatic 40, 3) := by decide +kernel
theorem dX4_sampleAt_25 : decode cX4_sampleAt 25 = .ok (.ifCond .eq 13, 3) := by decide +kernel
theorem dX4_sampleAt_28 : decode cX4_sampleAt 28 = .ok (.aload_n 0, 1) := by decide +kernel
theorem dX4_sampleAt_29 : decode cX4_sampleAt 29 = .ok (.getfield 25, 3) := by decide +kernel
theorem dX4_sampleAt_32 : decode cX4_sampleAt 32 = .ok (.iload 4, 2) := by decide +kernel
theorem dX4_sampleAt_34 : decode cX4_sampleAt 34 = .ok (.iaload, 1) := by decide +kernel
theorem dX4_sampleAt_35 : decode cX4_sampleAt 35 = .ok (.goto 4, 3) := by decide +kernel
theorem dX4_sampleAt_38 : decode cX4_sampleAt 38 = .ok (.iconst 0, 1) := by decide +kernel
theorem dX4_sampleAt_39 : decode cX4_sampleAt 39 = .ok (.ireturn, 1) := by decide +kernel
theorem dX4_across_0 : decode cX4_across 0 = .ok (.aload_n 0, 1) := by decide +kernel
theorem dX4_across_1 : decode cX4_across 1 = .ok (.iload_n 1, 1) := by decide +kernel
theorem dX4_across_2 : decode cX4_across 2 = .ok (.iload_n 2, 1) := by decide +kernel
theorem dX4_across_3 : decode cX4_across 3 = .ok (.iconst 0, 1) := by decide +kernel
theorem dX4_across_4 : decode cX4_across 4 = .ok (.invokevirtual 87, 3) := by decide +kernel
theorem dX4_across_7 : decode cX4_across 7 = .ok (.aload_n 0, 1) := by decide +kernel
theorem dX4_across_8 : decode cX4_across 8 = .ok (.iload_n 1, 1) := by decide +kernel
theorem dX4_across_9 : decode cX4_across 9 = .ok (.iload_n 2, 1) := by decide +kernel
theorem dX4_across_10 : decode cX4_across 10 = .ok (.iconst 2, 1) := by decide +kernel
theorem dX4_across_11 : decode cX4_across 11 = .ok (.invokevirtual 87, 3) := by decide +kernel
theorem dX4_across_14 : decode cX4_across 14 = .ok (.isub, 1) := by decide +kernel
theorem dX4_across_15 : decode cX4_across 15 = .ok (.ireturn, 1) := by decide +kernel
theorem dX4_along_0 : decode cX4_along 0 = .ok (.aload_n 0, 1) := by decide +kernel
theorem dX4_along_1 : decode cX4_along 1 = .ok (.iload_n 1, 1) := by decide +kernel
theorem dX4_along_2 : decode cX4_along 2 = .ok (.iload_n 2, 1) := by decide +kernel
theorem dX4_along_3 : decode cX4_along 3 = .ok (.iconst 1, 1) := by decide +kernel
theorem dX4_along_4 : decode cX4_along 4 = .ok (.invokevirtual 87, 3) := by decide +kernel
theorem dX4_along_7 : decode cX4_along 7 = .ok (.aload_n 0, 1) := by decide +kernel
theorem dX4_along_8 : decode cX4_along 8 = .ok (.iload_n 1, 1) := by decide +kernel
theorem dX4_along_9 : decode cX4_along 9 = .ok (.iload_n 2, 1) := by decide +kernel
theorem dX4_along_10 : decode cX4_along 10 = .ok (.iconst 3, 1) := by decide +kernel
theorem dX4_along_11 : decode cX4_along 11 = .ok (.invokevirtual 87, 3) := by decide +kernel
theorem dX4_along_14 : decode cX4_along 14 = .ok (.isub, 1) := by decide +kernel
theorem dX4_along_15 : decode cX4_along 15 = .ok (.ireturn, 1) := by decide +kernel
theorem dX4_strengthOf_0 : decode cX4_strengthOf 0 = .ok (.aload_n 0, 1) := by decide +kernel
theorem dX4_strengthOf_1 : decode cX4_strengthOf 1 = .ok (.iload_n 1, 1) := by decide +kernel
theorem dX4_strengthOf_2 : decode cX4_strengthOf 2 = .ok (.iload_n 2, 1) := by decide +kernel
theorem dX4_strengthOf_3 : decode cX4_strengthOf 3 = .ok (.invokevirtual 91, 3) := by decide +kernel
theorem dX4_strengthOf_6 : decode cX4_strengthOf 6 = .ok (.aload_n 0, 1) := by decide +kernel
theorem dX4_strengthOf_7 : decode cX4_strengthOf 7 = .ok (.iload_n 1, 1) := by decide +kernel
theorem dX4_strengthOf_8 : decode cX4_strengthOf 8 = .ok (.iload_n 2, 1) := by decide +kernel
theorem dX4_strengthOf_9 : decode cX4_strengthOf 9 = .ok (.invokevirtual 94, 3) := by decide +kernel
theorem dX4_strengthOf_12 : decode cX4_strengthOf 12 = .ok (.invokestatic 97, 3) := by decide +kernel
theorem dX4_strengthOf_15 : decode cX4_strengthOf 15 = .ok (.freturn, 1) := by decide +kernel
theorem dX4_brightness_0 : decode cX4_brightness 0 = .ok (.aload_n 0, 1) := by decide +kernel
theorem dX4_brightness_1 : decode cX4_brightness 1 = .ok (.iload_n 1, 1) := by decide +kernel
theorem dX4_brightness_2 : decode cX4_brightness 2 = .ok (.iconst 0, 1) := by decide +kernel
theorem dX4_brightness_3 : decode cX4_brightness 3 = .ok (.invokevirtual 103, 3) := by decide +kernel
theorem dX4_brightness_6 : decode cX4_brightness 6 = .ok (.aload_n 0, 1) := by decide +kernel
theorem dX4_brightness_7 : decode cX4_brightness 7 = .ok (.iload_n 1, 1) := by decide +kernel
theorem dX4_brightness_8 : decode cX4_brightness 8 = .ok (.iconst 1, 1) := by decide +kernel
theorem dX4_brightness_9 : decode cX4_brightness 9 = .ok (.invokevirtual 103, 3) := by decide +kernel
theorem dX4_brightness_12 : decode cX4_brightness 12 = .ok (.fadd, 1) := by decide +kernel
theorem dX4_brightness_13 : decode cX4_brightness 13 = .ok (.aload_n 0, 1) := by decide +kernel
theorem dX4_brightness_14 : decode cX4_brightness 14 = .ok (.iload_n 1, 1) := by decide +kernel
theorem dX4_brightness_15 : decode cX4_brightness 15 = .ok (.iconst 2, 1) := by decide +kernel
theorem dX4_brightness_16 : decode cX4_brightness 16 = .ok (.invokevirtual 103, 3) := by decide +kernel
theorem dX4_brightness_19 : decode cX4_brightness 19 = .ok (.fadd, 1) := by decide +kernel
theorem dX4_brightness_20 : decode cX4_brightness 20 = .ok (.freturn, 1) := by decide +kernel
theorem dX4_isCell_0 : decode cX4_isCell 0 = .ok (.iload_n 0, 1) := by decide +kernel
theorem dX4_isCell_1 : decode cX4_isCell 1 = .ok (.iconst 0, 1) := by decide +kernel
theorem dX4_isCell_2 : decode cX4_isCell 2 = .ok (.bipush 31, 2) := by decide +kernel
theorem dX4_isCell_4 : decode cX4_isCell 4 = .ok (.invokestatic 40, 3) := by decide +kernel
theorem dX4_isCell_7 : decode cX4_isCell 7 = .ok (.ireturn, 1) := by decide +kernel
end
section
theorem dX5_init_0 : decode cX5_init 0 = .ok (.aload_n 0, 1) := by decide +kernel
theorem dX5_init_1 : decode cX5_init 1 = .ok (.invokespecial 3, 3) := by decide +kernel
theorem dX5_init_4 : decode cX5_init 4 = .ok (.aload_n 0, 1) := by decide +kernel
theorem dX5_init_5 : decode cX5_init 5 = .ok (.new 9, 3) := by decide +kernel
theorem dX5_init_8 : decode cX5_init 8 = .ok (.dup, 1) := by decide +kernel
theorem dX5_init_9 : decode cX5_init 9 = .ok (.invokespecial 11, 3) := by decide +kernel
theorem dX5_init_12 : decode cX5_init 12 = .ok (.putfield 12, 3) := by decide +kernel
theorem dX5_init_15 : decode cX5_init 15 = .ok (.aload_n 0, 1) := by decide +kernel
theorem dX5_init_16 : decode cX5_init 16 = .ok (.aload_n 0, 1) := by decide +kernel
theorem dX5_init_17 : decode cX5_init 17 = .ok (.getfield 12, 3) := by decide +kernel
theorem dX5_init_20 : decode cX5_init 20 = .ok (.getfield 16, 3) := by decide +kernel
theorem dX5_init_23 : decode cX5_init 23 = .ok (.putfield 20, 3) := by decide +kernel
theorem dX5_init_26 : decode cX5_init 26 = .ok (.aload_n 0, 1) := by decide +kernel
theorem dX5_init_27 : decode cX5_init 27 = .ok (.new 23, 3) := by decide +kernel
theorem dX5_init_30 : decode cX5_init 30 = .ok (.dup, 1) := by decide +kernel
theorem dX5_init_31 : decode cX5_init 31 = .ok (.invokespecial 25, 3) := by decide +kernel
theorem dX5_init_34 : decode cX5_init 34 = .ok (.putfield 26, 3) := by decide +kernel
theorem dX5_init_37 : decode cX5_init 37 = .ok (.aload_n 0, 1) := by decide +kernel
theorem dX5_init_38 : decode cX5_init 38 = .ok (.iconst 5, 1) := by decide +kernel
theorem dX5_init_39 : decode cX5_init 39 = .ok (.anewarray 23, 3) := by decide +kernel
theorem dX5_init_42 : decode cX5_init 42 = .ok (.putfield 29, 3) := by decide +kernel
theorem dX5_init_45 : decode cX5_init 45 = .ok (.aload_n 0, 1) := by decide +kernel
theorem dX5_init_46 : decode cX5_init 46 = .ok (.iconst 0, 1) := by decide +kernel
theorem dX5_init_47 : decode cX5_init 47 = .ok (.putfield 33, 3) := by decide +kernel
theorem dX5_init_50 : decode cX5_init 50 = .ok (.aload_n 0, 1) := by decide +kernel
theorem dX5_init_51 : decode cX5_init 51 = .ok (.new 37, 3) := by decide +kernel
theorem dX5_init_54 : decode cX5_init 54 = .ok (.dup, 1) := by decide +kernel
theorem dX5_init_55 : decode cX5_init 55 = .ok (.invokespecial 39, 3) := by decide +kernel
theorem dX5_init_58 : decode cX5_init 58 = .ok (.putfield 40, 3) := by decide +kernel
theorem dX5_init_61 : decode cX5_init 61 = .ok (.aload_n 0, 1) := by decide +kernel
theorem dX5_init_62 : decode cX5_init 62 = .ok (.iconst 0, 1) := by decide +kernel
theorem dX5_init_63 : decode cX5_init 63 = .ok (.putfield 44, 3) := by decide +kernel
theorem dX5_init_66 : decode cX5_init 66 = .ok (.aload_n 0, 1) := by decide +kernel
theorem dX5_init_67 : decode cX5_init 67 = .ok (.iconst 0, 1) := by decide +kernel
theorem dX5_init_68 : decode cX5_init 68 = .ok (.putfield 47, 3) := by decide +kernel
theorem dX5_init_71 : decode cX5_init 71 = .ok (.aload_n 0, 1) := by decide +kernel
theorem dX5_init_72 : decode cX5_init 72 = .ok (.iconst 0, 1) := by decide +kernel
theorem dX5_init_73 : decode cX5_init 73 = .ok (.putfield 50, 3) := by decide +kernel
theorem dX5_init_76 : decode cX5_init 76 = .ok (.iconst 0, 1) := by decide +kernel
theorem dX5_init_77 : decode cX5_init 77 = .ok (.istore_n 1, 1) := by decide +kernel
theorem dX5_init_78 : decode cX5_init 78 = .ok (.iload_n 1, 1) := by decide +kernel
theorem dX5_init_79 : decode cX5_init 79 = .ok (.iconst 5, 1) := by decide +kernel
theorem dX5_init_80 : decode cX5_init 80 = .ok (.if_icmp .ge 22, 3) := by decide +kernel
theorem dX5_init_83 : decode cX5_init 83 = .ok (.aload_n 0, 1) := by decide +kernel
theorem dX5_init_84 : decode cX5_init 84 = .ok (.getfield 29, 3) := by decide +kernel
theorem dX5_init_87 : decode cX5_init 87 = .ok (.iload_n 1, 1) := by decide +kernel
theorem dX5_init_88 : decode cX5_init 88 = .ok (.new 23, 3) := by decide +kernel
theorem dX5_init_91 : decode cX5_init 91 = .ok (.dup, 1) := by decide +kernel
theorem dX5_init_92 : decode cX5_init 92 = .ok (.invokespecial 25, 3) := by decide +kernel
theorem dX5_init_95 : decode cX5_init 95 = .ok (.aastore, 1) := by decide +kernel
theorem dX5_init_96 : decode cX5_init 96 = .ok (.iinc 1 1, 3) := by decide +kernel
theorem dX5_init_99 : decode cX5_init 99 = .ok (.goto (-21), 3) := by decide +kernel
theorem dX5_init_102 : decode cX5_init 102 = .ok (.return_, 1) := by decide +kernel
theorem dX5_grid_0 : decode cX5_grid 0 = .ok (.aload_n 0, 1) := by decide +kernel
theorem dX5_grid_1 : decode cX5_grid 1 = .ok (.getfield 26, 3) := by decide +kernel
theorem dX5_grid_4 : decode cX5_grid 4 = .ok (.aload_n 0, 1) := by decide +kernel
theorem dX5_grid_5 : decode cX5_grid 5 = .ok (.getfield 20, 3) := by decide +kernel
theorem dX5_grid_8 : decode cX5_grid 8 = .ok (.invokevirtual 53, 3) := by decide +kernel
theorem dX5_grid_11 : decode cX5_grid 11 = .ok (.aload_n 0, 1) := by decide +kernel
theorem dX5_grid_12 : decode cX5_grid 12 = .ok (.aload_n 0, 1) := by decide +kernel
theorem dX5_grid_13 : decode cX5_grid 13 = .ok (.getfield 20, 3) := by decide +kernel
theorem dX5_grid_16 : decode cX5_grid 16 = .ok (.iload_n 1, 1) := by decide +kernel
theorem dX5_grid_17 : decode cX5_grid 17 = .ok (.iload_n 2, 1) := by decide +kernel
theorem dX5_grid_18 : decode cX5_grid 18 = .ok (.invokevirtual 57, 3) := by decide +kernel
theorem dX5_grid_21 : decode cX5_grid 21 = .ok (.invokevirtual 61, 3) := by decide +kernel
theorem dX5_grid_24 : decode cX5_grid 24 = .ok (.ireturn, 1) := by decide +kernel
theorem dX5_wave_0 : decode cX5_wave 0 = .ok (.aload_n 0, 1) := by decide +kernel
theorem dX5_wave_1 : decode cX5_wave 1 = .ok (.getfield 26, 3) := by decide +kernel
theorem dX5_wave_4 : decode cX5_wave 4 = .ok (.aload_n 0, 1) := by decide +kernel
theorem dX5_wave_5 : decode cX5_wave 5 = .ok (.getfield 20, 3) := by decide +kernel
theorem dX5_wave_8 : decode cX5_wave 8 = .ok (.invokevirtual 53, 3) := by decide +kernel
theorem dX5_wave_11 : decode cX5_wave 11 = .ok (.aload_n 0, 1) := by decide +kernel
theorem dX5_wave_12 : decode cX5_wave 12 = .ok (.aload_n 0, 1) := by decide +kernel
theorem dX5_wave_13 : decode cX5_wave 13 = .ok (.getfield 20, 3) := by decide +kernel
theorem dX5_wave_16 : decode cX5_wave 16 = .ok (.iload_n 1, 1) := by decide +kernel
theorem dX5_wave_17 : decode cX5_wave 17 = .ok (.iload_n 2, 1) := by decide +kernel
theorem dX5_wave_18 : decode cX5_wave 18 = .ok (.invokevirtual 65, 3) := by decide +kernel
theorem dX5_wave_21 : decode cX5_wave 21 = .ok (.invokevirtual 61, 3) := by decide +kernel
theorem dX5_wave_24 : decode cX5_wave 24 = .ok (.ireturn, 1) := by decide +kernel
theorem dX5_sets_0 : decode cX5_sets 0 = .ok (.aload_n 0, 1) := by decide +kernel
theorem dX5_sets_1 : decode cX5_sets 1 = .ok (.getfield 26, 3) := by decide +kernel
theorem dX5_sets_4 : decode cX5_sets 4 = .ok (.aload_n 0, 1) := by decide +kernel
theorem dX5_sets_5 : decode cX5_sets 5 = .ok (.getfield 20, 3) := by decide +kernel
theorem dX5_sets_8 : decode cX5_sets 8 = .ok (.invokevirtual 53, 3) := by decide +kernel
theorem dX5_sets_11 : decode cX5_sets 11 = .ok (.aload_n 0, 1) := by decide +kernel
theorem dX5_sets_12 : decode cX5_sets 12 = .ok (.aload_n 0, 1) := by decide +kernel
theorem dX5_sets_13 : decode cX5_sets 13 = .ok (.getfield 20, 3) := by decide +kernel
theorem dX5_sets_16 : decode cX5_sets 16 = .ok (.iload_n 1, 1) := by decide +kernel
theorem dX5_sets_17 : decode cX5_sets 17 = .ok (.iload_n 2, 1) := by decide +kernel
theorem dX5_sets_18 : decode cX5_sets 18 = .ok (.invokevirtual 68, 3) := by decide +kernel
theorem dX5_sets_21 : decode cX5_sets 21 = .ok (.invokevirtual 61, 3) := by decide +kernel
theorem dX5_sets_24 : decode cX5_sets 24 = .ok (.ireturn, 1) := by decide +kernel
theorem dX5_sample_0 : decode cX5_sample 0 = .ok (.aload_n 0, 1) := by decide +kernel
theorem dX5_sample_1 : decode cX5_sample 1 = .ok (.getfield 26, 3) := by decide +kernel
theorem dX5_sample_4 : decode cX5_sample 4 = .ok (.aload_n 0, 1) := by decide +kernel
theorem dX5_sample_5 : decode cX5_sample 5 = .ok (.getfield 20, 3) := by decide +kernel
theorem dX5_sample_8 : decode cX5_sample 8 = .ok (.invokevirtual 53, 3) := by decide +kernel
theorem dX5_sample_11 : decode cX5_sample 11 = .ok (.aload_n 0, 1) := by decide +kernel
theorem dX5_sample_12 : decode cX5_sample 12 = .ok (.aload_n 0, 1) := by decide +kernel
theorem dX5_sample_13 : decode cX5_sample 13 = .ok (.getfield 20, 3) := by decide +kernel
theorem dX5_sample_16 : decode cX5_sample 16 = .ok (.aload_n 0, 1) := by decide +kernel
theorem dX5_sample_17 : decode cX5_sample 17 = .ok (.getfield 20, 3) := by decide +kernel
theorem dX5_sample_20 : decode cX5_sample 20 = .ok (.iload_n 1, 1) := by decide +kernel
theorem dX5_sample_21 : decode cX5_sample 21 = .ok (.iload_n 2, 1) := by decide +kernel
theorem dX5_sample_22 : decode cX5_sample 22 = .ok (.iload_n 3, 1) := by decide +kernel
theorem dX5_sample_23 : decode cX5_sample 23 = .ok (.invokevirtual 71, 3) := by decide +kernel
theorem dX5_sample_26 : decode cX5_sample 26 = .ok (.iload 4, 2) := by decide +kernel
theorem dX5_sample_28 : decode cX5_sample 28 = .ok (.iload 5, 2) := by decide +kernel
theorem dX5_sample_30 : decode cX5_sample 30 = .ok (.iload 6, 2) := by decide +kernel
theorem dX5_sample_32 : decode cX5_sample 32 = .ok (.invokevirtual 75, 3) := by decide +kernel
theorem dX5_sample_35 : decode cX5_sample 35 = .ok (.invokevirtual 61, 3) := by decide +kernel
theorem dX5_sample_38 : decode cX5_sample 38 = .ok (.ireturn, 1) := by decide +kernel
theorem dX5_echo_0 : decode cX5_echo 0 = .ok (.aload_n 0, 1) := by decide +kernel
theorem dX5_echo_1 : decode cX5_echo 1 = .ok (.getfield 26, 3) := by decide +kernel
theorem dX5_echo_4 : decode cX5_echo 4 = .ok (.aload_n 0, 1) := by decide +kernel
theorem dX5_echo_5 : decode cX5_echo 5 = .ok (.getfield 20, 3) := by decide +kernel
theorem dX5_echo_8 : decode cX5_echo 8 = .ok (.invokevirtual 53, 3) := by decide +kernel
theorem dX5_echo_11 : decode cX5_echo 11 = .ok (.aload_n 0, 1) := by decide +kernel
theorem dX5_echo_12 : decode cX5_echo 12 = .ok (.aload_n 0, 1) := by decide +kernel
theorem dX5_echo_13 : decode cX5_echo 13 = .ok (.getfield 20, 3) := by decide +kernel
theorem dX5_echo_16 : decode cX5_echo 16 = .ok (.aload_n 0, 1) := by decide +kernel
theorem dX5_echo_17 : decode cX5_echo 17 = .ok (.getfield 20, 3) := by decide +kernel
theorem dX5_echo_20 : decode cX5_echo 20 = .ok (.iload_n 1, 1) := by decide +kernel
theorem dX5_echo_21 : decode cX5_echo 21 = .ok (.iload_n 2, 1) := by decide +kernel
theorem dX5_echo_22 : decode cX5_echo 22 = .ok (.iload_n 3, 1) := by decide +kernel
theorem dX5_echo_23 : decode cX5_echo 23 = .ok (.invokevirtual 71, 3) := by decide +kernel
theorem dX5_echo_26 : decode cX5_echo 26 = .ok (.iload 4, 2) := by decide +kernel
theorem dX5_echo_28 : decode cX5_echo 28 = .ok (.iload 5, 2) := by decide +kernel
theorem dX5_echo_30 : decode cX5_echo 30 = .ok (.invokevirtual 79, 3) := by decide +kernel
theorem dX5_echo_33 : decode cX5_echo 33 = .ok (.invokevirtual 61, 3) := by decide +kernel
theorem dX5_echo_36 : decode cX5_echo 36 = .ok (.ireturn, 1) := by decide +kernel
theorem dX5_shines_0 : decode cX5_shines 0 = .ok (.aload_n 0, 1) := by decide +kernel
theorem dX5_shines_1 : decode cX5_shines 1 = .ok (.getfield 26, 3) := by decide +kernel
theorem dX5_shines_4 : decode cX5_shines 4 = .ok (.aload_n 0, 1) := by decide +kernel
theorem dX5_shines_5 : decode cX5_shines 5 = .ok (.getfield 20, 3) := by decide +kernel
theorem dX5_shines_8 : decode cX5_shines 8 = .ok (.invokevirtual 53, 3) := by decide +kernel
theorem dX5_shines_11 : decode cX5_shines 11 = .ok (.aload_n 0, 1) := by decide +kernel
theorem dX5_shines_12 : decode cX5_shines 12 = .ok (.aload_n 0, 1) := by decide +kernel
theorem dX5_shines_13 : decode cX5_shines 13 = .ok (.getfield 20, 3) := by decide +kernel
theorem dX5_shines_16 : decode cX5_shines 16 = .ok (.aload_n 0, 1) := by decide +kernel
theorem dX5_shines_17 : decode cX5_shines 17 = .ok (.getfield 20, 3) := by decide +kernel
theorem dX5_shines_20 : decode cX5_shines 20 = .ok (.iload_n 1, 1) := by decide +kernel
theorem dX5_shines_21 : decode cX5_shines 21 = .ok (.iload_n 2, 1) := by decide +kernel
theorem dX5_shines_22 : decode cX5_shines 22 = .ok (.iload_n 3, 1) := by decide +kernel
theorem dX5_shines_23 : decode cX5_shines 23 = .ok (.invokevirtual 71, 3) := by decide +kernel
theorem dX5_shines_26 : decode cX5_shines 26 = .ok (.iload 4, 2) := by decide +kernel
theorem dX5_shines_28 : decode cX5_shines 28 = .ok (.invokevirtual 82, 3) := by decide +kernel
theorem dX5_shines_31 : decode cX5_shines 31 = .ok (.invokevirtual 61, 3) := by decide +kernel
theorem dX5_shines_34 : decode cX5_shines 34 = .ok (.ireturn, 1) := by decide +kernel
theorem dX5_clears_0 : decode cX5_clears 0 = .ok (.aload_n 0, 1) := by decide +kernel
theorem dX5_clears_1 : decode cX5_clears 1 = .ok (.getfield 26, 3) := by decide +kernel
theorem dX5_clears_4 : decode cX5_clears 4 = .ok (.aload_n 0, 1) := by decide +kernel
theorem dX5_clears_5 : decode cX5_clears 5 = .ok (.getfield 20, 3) := by decide +kernel
theorem dX5_clears_8 : decode cX5_clears 8 = .ok (.invokevirtual 53, 3) := by decide +kernel
theorem dX5_clears_11 : decode cX5_clears 11 = .ok (.aload_n 0, 1) := by decide +kernel
theorem dX5_clears_12 : decode cX5_clears 12 = .ok (.aload_n 0, 1) := by decide +kernel
theorem dX5_clears_13 : decode cX5_clears 13 = .ok (.getfield 20, 3) := by decide +kernel
theorem dX5_clears_16 : decode cX5_clears 16 = .ok (.aload_n 0, 1) := by decide +kernel
theorem dX5_clears_17 : decode cX5_clears 17 = .ok (.getfield 20, 3) := by decide +kernel
theorem dX5_clears_20 : decode cX5_clears 20 = .ok (.iload_n 1, 1) := by decide +kernel
theorem dX5_clears_21 : decode cX5_clears 21 = .ok (.iload_n 2, 1) := by decide +kernel
theorem dX5_clears_22 : decode cX5_clears 22 = .ok (.iload_n 3, 1) := by decide +kernel
theorem dX5_clears_23 : decode cX5_clears 23 = .ok (.invokevirtual 71, 3) := by decide +kernel
theorem dX5_clears_26 : decode cX5_clears 26 = .ok (.invokevirtual 85, 3) := by decide +kernel
theorem dX5_clears_29 : decode cX5_clears 29 = .ok (.invokevirtual 61, 3) := by decide +kernel
theorem dX5_clears_32 : decode cX5_clears 32 = .ok (.ireturn, 1) := by decide +kernel
theorem dX5_raw_0 : decode cX5_raw 0 = .ok (.aload_n 0, 1) := by decide +kernel
theorem dX5_raw_1 : decode cX5_raw 1 = .ok (.getfield 20, 3) := by decide +kernel
theorem dX5_raw_4 : decode cX5_raw 4 = .ok (.iload_n 1, 1) := by decide +kernel
theorem dX5_raw_5 : decode cX5_raw 5 = .ok (.iload_n 2, 1) := by decide +kernel
theorem dX5_raw_6 : decode cX5_raw 6 = .ok (.iload_n 3, 1) := by decide +kernel
theorem dX5_raw_7 : decode cX5_raw 7 = .ok (.invokevirtual 71, 3) := by decide +kernel
theorem dX5_raw_10 : decode cX5_raw 10 = .ok (.istore 6, 2) := by decide +kernel
theorem dX5_raw_12 : decode cX5_raw 12 = .ok (.iload 6, 2) := by decide +kernel
theorem dX5_raw_14 : decode cX5_raw 14 = .ok (.ifCond .lt 23, 3) := by decide +kernel
theorem dX5_raw_17 : decode cX5_raw 17 = .ok (.iload 4, 2) := by decide +kernel
theorem dX5_raw_19 : decode cX5_raw 19 = .ok (.iconst 0, 1) := by decide +kernel
theorem dX5_raw_20 : decode cX5_raw 20 = .ok (.iconst 2, 1) := by decide +kernel
theorem dX5_raw_21 : decode cX5_raw 21 = .ok (.invokestatic 88, 3) := by decide +kernel
theorem dX5_raw_24 : decode cX5_raw 24 = .ok (.ifCond .eq 13, 3) := by decide +kernel
theorem dX5_raw_27 : decode cX5_raw 27 = .ok (.iload 5, 2) := by decide +kernel
theorem dX5_raw_29 : decode cX5_raw 29 = .ok (.iconst 0, 1) := by decide +kernel
theorem dX5_raw_30 : decode cX5_raw 30 = .ok (.iconst 3, 1) := by decide +kernel
theorem dX5_raw_31 : decode cX5_raw 31 = .ok (.invokestatic 88, 3) := by decide +kernel
theorem dX5_raw_34 : decode cX5_raw 34 = .ok (.ifCond .ne 11, 3) := by decide +kernel
theorem dX5_raw_37 : decode cX5_raw 37 = .ok (.aload_n 0, 1) := by decide +kernel
theorem dX5_raw_38 : decode cX5_raw 38 = .ok (.sipush (-10002), 3) := by decide +kernel
theorem dX5_raw_41 : decode cX5_raw 41 = .ok (.invokevirtual 92, 3) := by decide +kernel
theorem dX5_raw_44 : decode cX5_raw 44 = .ok (.ireturn, 1) := by decide +kernel
theorem dX5_raw_45 : decode cX5_raw 45 = .ok (.aload_n 0, 1) := by decide +kernel
theorem dX5_raw_46 : decode cX5_raw 46 = .ok (.getfield 20, 3) := by decide +kernel
theorem dX5_raw_49 : decode cX5_raw 49 = .ok (.iload 6, 2) := by decide +kernel
theorem dX5_raw_51 : decode cX5_raw 51 = .ok (.iload 4, 2) := by decide +kernel
theorem dX5_raw_53 : decode cX5_raw 53 = .ok (.iload 5, 2) := by decide +kernel
theorem dX5_raw_55 : decode cX5_raw 55 = .ok (.invokevirtual 95, 3) := by decide +kernel
theorem dX5_raw_58 : decode cX5_raw 58 = .ok (.ireturn, 1) := by decide +kernel
theorem dX5_of_0 : decode cX5_of 0 = .ok (.aload_n 0, 1) := by decide +kernel
theorem dX5_of_1 : decode cX5_of 1 = .ok (.getfield 20, 3) := by decide +kernel
theorem dX5_of_4 : decode cX5_of 4 = .ok (.iload_n 1, 1) := by decide +kernel
theorem dX5_of_5 : decode cX5_of 5 = .ok (.iload_n 2, 1) := by decide +kernel
theorem dX5_of_6 : decode cX5_of 6 = .ok (.iload_n 3, 1) := by decide +kernel
theorem dX5_of_7 : decode cX5_of 7 = .ok (.invokevirtual 71, 3) := by decide +kernel
theorem dX5_of_10 : decode cX5_of 10 = .ok (.istore 6, 2) := by decide +kernel
theorem dX5_of_12 : decode cX5_of 12 = .ok (.iload 6, 2) := by decide +kernel
theorem dX5_of_14 : decode cX5_of 14 = .ok (.ifCond .lt 23, 3) := by decide +kernel
theorem dX5_of_17 : decode cX5_of 17 = .ok (.iload 4, 2) := by decide +kernel
theorem dX5_of_19 : decode cX5_of 19 = .ok (.iconst 0, 1) := by decide +kernel
theorem dX5_of_20 : decode cX5_of 20 = .ok (.iconst 2, 1) := by decide +kernel
theorem dX5_of_21 : decode cX5_of 21 = .ok (.invokestatic 88, 3) := by decide +kernel
theorem dX5_of_24 : decode cX5_of 24 = .ok (.ifCond .eq 13, 3) := by decide +kernel
theorem dX5_of_27 : decode cX5_of 27 = .ok (.iload 5, 2) := by decide +kernel
theorem dX5_of_29 : decode cX5_of 29 = .ok (.iconst 0, 1) := by decide +kernel
theorem dX5_of_30 : decode cX5_of 30 = .ok (.iconst 3, 1) := by decide +kernel
theorem dX5_of_31 : decode cX5_of 31 = .ok (.invokestatic 88, 3) := by decide +kernel
theorem dX5_of_34 : decode cX5_of 34 = .ok (.ifCond .ne 11, 3) := by decide +kernel
theorem dX5_of_37 : decode cX5_of 37 = .ok (.aload_n 0, 1) := by decide +kernel
theorem dX5_of_38 : decode cX5_of 38 = .ok (.sipush (-10002), 3) := by decide +kernel
theorem dX5_of_41 : decode cX5_of 41 = .ok (.invokevirtual 92, 3) := by decide +kernel
theorem dX5_of_44 : decode cX5_of 44 = .ok (.ireturn, 1) := by decide +kernel
theorem dX5_of_45 : decode cX5_of 45 = .ok (.aload_n 0, 1) := by decide +kernel
theorem dX5_of_46 : decode cX5_of 46 = .ok (.getfield 20, 3) := by decide +kernel
theorem dX5_of_49 : decode cX5_of 49 = .ok (.iload 6, 2) := by decide +kernel
theorem dX5_of_51 : decode cX5_of 51 = .ok (.iload 4, 2) := by decide +kernel
theorem dX5_of_53 : decode cX5_of 53 = .ok (.invokevirtual 98, 3) := by decide +kernel
theorem dX5_of_56 : decode cX5_of 56 = .ok (.istore 7, 2) := by decide +kernel
theorem dX5_of_58 : decode cX5_of 58 = .ok (.aload_n 0, 1) := by decide +kernel
theorem dX5_of_59 : decode cX5_of 59 = .ok (.getfield 20, 3) := by decide +kernel
theorem dX5_of_62 : decode cX5_of 62 = .ok (.iload 6, 2) := by decide +kernel
theorem dX5_of_64 : decode cX5_of 64 = .ok (.iload 4, 2) := by decide +kernel
theorem dX5_of_66 : decode cX5_of 66 = .ok (.invokevirtual 101, 3) := by decide +kernel
theorem dX5_of_69 : decode cX5_of 69 = .ok (.istore 8, 2) := by decide +kernel
theorem dX5_of_71 : decode cX5_of 71 = .ok (.iload 5, 2) := by decide +kernel
theorem dX5_of_73 : decode cX5_of 73 = .ok (.tableswitch 41 0 2 #[27, 30, 33], 27) := by decide +kernel
theorem dX5_of_100 : decode cX5_of 100 = .ok (.iload 7, 2) := by decide +kernel
theorem dX5_of_102 : decode cX5_of 102 = .ok (.ireturn, 1) := by decide +kernel
theorem dX5_of_103 : decode cX5_of 103 = .ok (.iload 8, 2) := by decide +kernel
theorem dX5_of_105 : decode cX5_of 105 = .ok (.ireturn, 1) := by decide +kernel
theorem dX5_of_106 : decode cX5_of 106 = .ok (.iload 7, 2) := by decide +kernel
theorem dX5_of_108 : decode cX5_of 108 = .ok (.iload 8, 2) := by decide +kernel
theorem dX5_of_110 : decode cX5_of 110 = .ok (.invokestatic 104, 3) := by decide +kernel
theorem dX5_of_113 : decode cX5_of 113 = .ok (.ireturn, 1) := by decide +kernel
theorem dX5_of_114 : decode cX5_of 114 = .ok (.iload 7, 2) := by decide +kernel
theorem dX5_of_116 : decode cX5_of 116 = .ok (.iload 8, 2) := by decide +kernel
theorem dX5_of_118 : decode cX5_of 118 = .ok (.aload_n 0, 1) := by decide +kernel
theorem dX5_of_119 : decode cX5_of 119 = .ok (.getfield 20, 3) := by decide +kernel
theorem dX5_of_122 : decode cX5_of 122 = .ok (.getfield 109, 3) := by decide +kernel
theorem dX5_of_125 : decode cX5_of 125 = .ok (.iload 4, 2) := by decide +kernel
theorem dX5_of_127 : decode cX5_of 127 = .ok (.iaload, 1) := by decide +kernel
theorem dX5_of_128 : decode cX5_of 128 = .ok (.invokestatic 113, 3) := by decide +kernel
theorem dX5_of_131 : decode cX5_of 131 = .ok (.ireturn, 1) := by decide +kernel
theorem dX5_bits_0 : decode cX5_bits 0 = .ok (.aload_n 0, 1) := by decide +kernel
theorem dX5_bits_1 : decode cX5_bits 1 = .ok (.getfield 20, 3) := by decide +kernel
theorem dX5_bits_4 : decode cX5_bits 4 = .ok (.iload_n 1, 1) := by decide +kernel
theorem dX5_bits_5 : decode cX5_bits 5 = .ok (.iload_n 2, 1) := by decide +kernel
theorem dX5_bits_6 : decode cX5_bits 6 = .ok (.iload_n 3, 1) := by decide +kernel
theorem dX5_bits_7 : decode cX5_bits 7 = .ok (.invokevirtual 71, 3) := by decide +kernel
theorem dX5_bits_10 : decode cX5_bits 10 = .ok (.istore 6, 2) := by decide +kernel
theorem dX5_bits_12 : decode cX5_bits 12 = .ok (.iload 6, 2) := by decide +kernel
theorem dX5_bits_14 : decode cX5_bits 14 = .ok (.ifCond .lt 23, 3) := by decide +kernel
theorem dX5_bits_17 : decode cX5_bits 17 = .ok (.iload 4, 2) := by decide +kernel
theorem dX5_bits_19 : decode cX5_bits 19 = .ok (.iconst 0, 1) := by decide +kernel
theorem dX5_bits_20 : decode cX5_bits 20 = .ok (.iconst 2, 1) := by decide +kernel
theorem dX5_bits_21 : decode cX5_bits 21 = .ok (.invokestatic 88, 3) := by decide +kernel
theorem dX5_bits_24 : decode cX5_bits 24 = .ok (.ifCond .eq 13, 3) := by decide +kernel
theorem dX5_bits_27 : decode cX5_bits 27 = .ok (.iload 5, 2) := by decide +kernel
theorem dX5_bits_29 : decode cX5_bits 29 = .ok (.iconst 0, 1) := by decide +kernel
theorem dX5_bits_30 : decode cX5_bits 30 = .ok (.iconst 1, 1) := by decide +kernel
theorem dX5_bits_31 : decode cX5_bits 31 = .ok (.invokestatic 88, 3) := by decide +kernel
theorem dX5_bits_34 : decode cX5_bits 34 = .ok (.ifCond .ne 11, 3) := by decide +kernel
theorem dX5_bits_37 : decode cX5_bits 37 = .ok (.aload_n 0, 1) := by decide +kernel
theorem dX5_bits_38 : decode cX5_bits 38 = .ok (.sipush (-10002), 3) := by decide +kernel
theorem dX5_bits_41 : decode cX5_bits 41 = .ok (.invokevirtual 92, 3) := by decide +kernel
theorem dX5_bits_44 : decode cX5_bits 44 = .ok (.ireturn, 1) := by decide +kernel
theorem dX5_bits_45 : decode cX5_bits 45 = .ok (.aload_n 0, 1) := by decide +kernel
theorem dX5_bits_46 : decode cX5_bits 46 = .ok (.getfield 20, 3) := by decide +kernel
theorem dX5_bits_49 : decode cX5_bits 49 = .ok (.iload 6, 2) := by decide +kernel
theorem dX5_bits_51 : decode cX5_bits 51 = .ok (.iload 4, 2) := by decide +kernel
theorem dX5_bits_53 : decode cX5_bits 53 = .ok (.invokevirtual 98, 3) := by decide +kernel
theorem dX5_bits_56 : decode cX5_bits 56 = .ok (.istore 7, 2) := by decide +kernel
theorem dX5_bits_58 : decode cX5_bits 58 = .ok (.aload_n 0, 1) := by decide +kernel
theorem dX5_bits_59 : decode cX5_bits 59 = .ok (.getfield 20, 3) := by decide +kernel
theorem dX5_bits_62 : decode cX5_bits 62 = .ok (.iload 6, 2) := by decide +kernel
theorem dX5_bits_64 : decode cX5_bits 64 = .ok (.iload 4, 2) := by decide +kernel
theorem dX5_bits_66 : decode cX5_bits 66 = .ok (.invokevirtual 101, 3) := by decide +kernel
theorem dX5_bits_69 : decode cX5_bits 69 = .ok (.istore 8, 2) := by decide +kernel
theorem dX5_bits_71 : decode cX5_bits 71 = .ok (.iload 5, 2) := by decide +kernel
theorem dX5_bits_73 : decode cX5_bits 73 = .ok (.ifCond .ne 13, 3) := by decide +kernel
theorem dX5_bits_76 : decode cX5_bits 76 = .ok (.iload 7, 2) := by decide +kernel
theorem dX5_bits_78 : decode cX5_bits 78 = .ok (.iload 8, 2) := by decide +kernel
theorem dX5_bits_80 : decode cX5_bits 80 = .ok (.invokestatic 116, 3) := by decide +kernel
theorem dX5_bits_83 : decode cX5_bits 83 = .ok (.goto 10, 3) := by decide +kernel
theorem dX5_bits_86 : decode cX5_bits 86 = .ok (.iload 7, 2) := by decide +kernel
theorem dX5_bits_88 : decode cX5_bits 88 = .ok (.iload 8, 2) := by decide +kernel
theorem dX5_bits_90 : decode cX5_bits 90 = .ok (.invokestatic 120, 3) := by decide +kernel
theorem dX5_bits_93 : decode cX5_bits 93 = .ok (.invokestatic 123, 3) := by decide +kernel
theorem dX5_bits_96 : decode cX5_bits 96 = .ok (.ireturn, 1) := by decide +kernel
theorem dX5_wraps_0 : decode cX5_wraps 0 = .ok (.aload_n 0, 1) := by decide +kernel
theorem dX5_wraps_1 : decode cX5_wraps 1 = .ok (.getfield 20, 3) := by decide +kernel
theorem dX5_wraps_4 : decode cX5_wraps 4 = .ok (.iload_n 1, 1) := by decide +kernel
theorem dX5_wraps_5 : decode cX5_wraps 5 = .ok (.iload_n 2, 1) := by decide +kernel
theorem dX5_wraps_6 : decode cX5_wraps 6 = .ok (.iload_n 3, 1) := by decide +kernel
theorem dX5_wraps_7 : decode cX5_wraps 7 = .ok (.invokevirtual 71, 3) := by decide +kernel
theorem dX5_wraps_10 : decode cX5_wraps 10 = .ok (.istore 5, 2) := by decide +kernel
theorem dX5_wraps_12 : decode cX5_wraps 12 = .ok (.iload 5, 2) := by decide +kernel
theorem dX5_wraps_14 : decode cX5_wraps 14 = .ok (.ifCond .lt 13, 3) := by decide +kernel
theorem dX5_wraps_17 : decode cX5_wraps 17 = .ok (.iload 4, 2) := by decide +kernel
theorem dX5_wraps_19 : decode cX5_wraps 19 = .ok (.iconst 0, 1) := by decide +kernel
theorem dX5_wraps_20 : decode cX5_wraps 20 = .ok (.iconst 2, 1) := by decide +kernel
theorem dX5_wraps_21 : decode cX5_wraps 21 = .ok (.invokestatic 88, 3) := by decide +kernel
theorem dX5_wraps_24 : decode cX5_wraps 24 = .ok (.ifCond .ne 11, 3) := by decide +kernel
theorem dX5_wraps_27 : decode cX5_wraps 27 = .ok (.aload_n 0, 1) := by decide +kernel
theorem dX5_wraps_28 : decode cX5_wraps 28 = .ok (.sipush (-10002), 3) := by decide +kernel
theorem dX5_wraps_31 : decode cX5_wraps 31 = .ok (.invokevirtual 92, 3) := by decide +kernel
theorem dX5_wraps_34 : decode cX5_wraps 34 = .ok (.ireturn, 1) := by decide +kernel
theorem dX5_wraps_35 : decode cX5_wraps 35 = .ok (.aload_n 0, 1) := by decide +kernel
theorem dX5_wraps_36 : decode cX5_wraps 36 = .ok (.getfield 20, 3) := by decide +kernel
theorem dX5_wraps_39 : decode cX5_wraps 39 = .ok (.getfield 109, 3) := by decide +kernel
theorem dX5_wraps_42 : decode cX5_wraps 42 = .ok (.iload 4, 2) := by decide +kernel
theorem dX5_wraps_44 : decode cX5_wraps 44 = .ok (.iaload, 1) := by decide +kernel
theorem dX5_wraps_45 : decode cX5_wraps 45 = .ok (.istore 6, 2) := by decide +kernel
theorem dX5_wraps_47 : decode cX5_wraps 47 = .ok (.aload_n 0, 1) := by decide +kernel
theorem dX5_wraps_48 : decode cX5_wraps 48 = .ok (.getfield 12, 3) := by decide +kernel
theorem dX5_wraps_51 : decode cX5_wraps 51 = .ok (.iload 5, 2) := by decide +kernel
theorem dX5_wraps_53 : decode cX5_wraps 53 = .ok (.invokevirtual 129, 3) := by decide +kernel
theorem dX5_wraps_56 : decode cX5_wraps 56 = .ok (.ifCond .ne 9, 3) := by decide +kernel
theorem dX5_wraps_59 : decode cX5_wraps 59 = .ok (.iload 6, 2) := by decide +kernel
theorem dX5_wraps_61 : decode cX5_wraps 61 = .ok (.iconst 1, 1) := by decide +kernel
theorem dX5_wraps_62 : decode cX5_wraps 62 = .ok (.if_icmp .ge 11, 3) := by decide +kernel
theorem dX5_wraps_65 : decode cX5_wraps 65 = .ok (.aload_n 0, 1) := by decide +kernel
theorem dX5_wraps_66 : decode cX5_wraps 66 = .ok (.sipush (-10003), 3) := by decide +kernel
theorem dX5_wraps_69 : decode cX5_wraps 69 = .ok (.invokevirtual 92, 3) := by decide +kernel
theorem dX5_wraps_72 : decode cX5_wraps 72 = .ok (.ireturn, 1) := by decide +kernel
theorem dX5_wraps_73 : decode cX5_wraps 73 = .ok (.aload_n 0, 1) := by decide +kernel
theorem dX5_wraps_74 : decode cX5_wraps 74 = .ok (.getfield 12, 3) := by decide +kernel
theorem dX5_wraps_77 : decode cX5_wraps 77 = .ok (.iload 5, 2) := by decide +kernel
theorem dX5_wraps_79 : decode cX5_wraps 79 = .ok (.invokevirtual 132, 3) := by decide +kernel
theorem dX5_wraps_82 : decode cX5_wraps 82 = .ok (.iload 6, 2) := by decide +kernel
theorem dX5_wraps_84 : decode cX5_wraps 84 = .ok (.idiv, 1) := by decide +kernel
theorem dX5_wraps_85 : decode cX5_wraps 85 = .ok (.ireturn, 1) := by decide +kernel
theorem dX5_away_0 : decode cX5_away 0 = .ok (.aload_n 0, 1) := by decide +kernel
theorem dX5_away_1 : decode cX5_away 1 = .ok (.getfield 20, 3) := by decide +kernel
theorem dX5_away_4 : decode cX5_away 4 = .ok (.iload_n 1, 1) := by decide +kernel
theorem dX5_away_5 : decode cX5_away 5 = .ok (.iload_n 2, 1) := by decide +kernel
theorem dX5_away_6 : decode cX5_away 6 = .ok (.iload_n 3, 1) := by decide +kernel
theorem dX5_away_7 : decode cX5_away 7 = .ok (.invokevirtual 71, 3) := by decide +kernel
theorem dX5_away_10 : decode cX5_away 10 = .ok (.istore 6, 2) := by decide +kernel
theorem dX5_away_12 : decode cX5_away 12 = .ok (.iload 6, 2) := by decide +kernel
theorem dX5_away_14 : decode cX5_away 14 = .ok (.ifCond .lt 25, 3) := by decide +kernel
theorem dX5_away_17 : decode cX5_away 17 = .ok (.iload 4, 2) := by decide +kernel
theorem dX5_away_19 : decode cX5_away 19 = .ok (.iconst 0, 1) := by decide +kernel
theorem dX5_away_20 : decode cX5_away 20 = .ok (.iconst 2, 1) := by decide +kernel
theorem dX5_away_21 : decode cX5_away 21 = .ok (.invokestatic 88, 3) := by decide +kernel
theorem dX5_away_24 : decode cX5_away 24 = .ok (.ifCond .eq 15, 3) := by decide +kernel
theorem dX5_away_27 : decode cX5_away 27 = .ok (.iload 5, 2) := by decide +kernel
theorem dX5_away_29 : decode cX5_away 29 = .ok (.iconst 0, 1) := by decide +kernel
theorem dX5_away_30 : decode cX5_away 30 = .ok (.sipush 9999, 3) := by decide +kernel
theorem dX5_away_33 : decode cX5_away 33 = .ok (.invokestatic 88, 3) := by decide +kernel
theorem dX5_away_36 : decode cX5_away 36 = .ok (.ifCond .ne 11, 3) := by decide +kernel
theorem dX5_away_39 : decode cX5_away 39 = .ok (.aload_n 0, 1) := by decide +kernel
theorem dX5_away_40 : decode cX5_away 40 = .ok (.sipush (-10002), 3) := by decide +kernel
theorem dX5_away_43 : decode cX5_away 43 = .ok (.invokevirtual 92, 3) := by decide +kernel
theorem dX5_away_46 : decode cX5_away 46 = .ok (.ireturn, 1) := by decide +kernel
theorem dX5_away_47 : decode cX5_away 47 = .ok (.aload_n 0, 1) := by decide +kernel
theorem dX5_away_48 : decode cX5_away 48 = .ok (.getfield 20, 3) := by decide +kernel
theorem dX5_away_51 : decode cX5_away 51 = .ok (.iload 6, 2) := by decide +kernel
theorem dX5_away_53 : decode cX5_away 53 = .ok (.iload 4, 2) := by decide +kernel
theorem dX5_away_55 : decode cX5_away 55 = .ok (.invokevirtual 98, 3) := by decide +kernel
theorem dX5_away_58 : decode cX5_away 58 = .ok (.aload_n 0, 1) := by decide +kernel
theorem dX5_away_59 : decode cX5_away 59 = .ok (.getfield 20, 3) := by decide +kernel
theorem dX5_away_62 : decode cX5_away 62 = .ok (.iload 6, 2) := by decide +kernel
theorem dX5_away_64 : decode cX5_away 64 = .ok (.iload 4, 2) := by decide +kernel
theorem dX5_away_66 : decode cX5_away 66 = .ok (.invokevirtual 101, 3) := by decide +kernel
theorem dX5_away_69 : decode cX5_away 69 = .ok (.aload_n 0, 1) := by decide +kernel
theorem dX5_away_70 : decode cX5_away 70 = .ok (.getfield 20, 3) := by decide +kernel
theorem dX5_away_73 : decode cX5_away 73 = .ok (.getfield 109, 3) := by decide +kernel
theorem dX5_away_76 : decode cX5_away 76 = .ok (.iload 4, 2) := by decide +kernel
theorem dX5_away_78 : decode cX5_away 78 = .ok (.iaload, 1) := by decide +kernel
theorem dX5_away_79 : decode cX5_away 79 = .ok (.invokestatic 113, 3) := by decide +kernel
theorem dX5_away_82 : decode cX5_away 82 = .ok (.istore 7, 2) := by decide +kernel
theorem dX5_away_84 : decode cX5_away 84 = .ok (.iload 7, 2) := by decide +kernel
theorem dX5_away_86 : decode cX5_away 86 = .ok (.sipush (-10001), 3) := by decide +kernel
theorem dX5_away_89 : decode cX5_away 89 = .ok (.if_icmp .ne 11, 3) := by decide +kernel
theorem dX5_away_92 : decode cX5_away 92 = .ok (.aload_n 0, 1) := by decide +kernel
theorem dX5_away_93 : decode cX5_away 93 = .ok (.sipush (-10003), 3) := by decide +kernel
theorem dX5_away_96 : decode cX5_away 96 = .ok (.invokevirtual 92, 3) := by decide +kernel
theorem dX5_away_99 : decode cX5_away 99 = .ok (.ireturn, 1) := by decide +kernel
theorem dX5_away_100 : decode cX5_away 100 = .ok (.iload 5, 2) := by decide +kernel
theorem dX5_away_102 : decode cX5_away 102 = .ok (.iload 7, 2) := by decide +kernel
theorem dX5_away_104 : decode cX5_away 104 = .ok (.aload_n 0, 1) := by decide +kernel
theorem dX5_away_105 : decode cX5_away 105 = .ok (.getfield 20, 3) := by decide +kernel
theorem dX5_away_108 : decode cX5_away 108 = .ok (.getfield 109, 3) := by decide +kernel
theorem dX5_away_111 : decode cX5_away 111 = .ok (.iload 4, 2) := by decide +kernel
theorem dX5_away_113 : decode cX5_away 113 = .ok (.iaload, 1) := by decide +kernel
theorem dX5_away_114 : decode cX5_away 114 = .ok (.invokestatic 135, 3) := by decide +kernel
theorem dX5_away_117 : decode cX5_away 117 = .ok (.ireturn, 1) := by decide +kernel
theorem dX5_mark_0 : decode cX5_mark 0 = .ok (.aload_n 0, 1) := by decide +kernel
theorem dX5_mark_1 : decode cX5_mark 1 = .ok (.getfield 20, 3) := by decide +kernel
theorem dX5_mark_4 : decode cX5_mark 4 = .ok (.iload_n 1, 1) := by decide +kernel
theorem dX5_mark_5 : decode cX5_mark 5 = .ok (.iload_n 2, 1) := by decide +kernel
theorem dX5_mark_6 : decode cX5_mark 6 = .ok (.iload_n 3, 1) := by decide +kernel
theorem dX5_mark_7 : decode cX5_mark 7 = .ok (.invokevirtual 71, 3) := by decide +kernel
theorem dX5_mark_10 : decode cX5_mark 10 = .ok (.istore 4, 2) := by decide +kernel
theorem dX5_mark_12 : decode cX5_mark 12 = .ok (.iload 4, 2) := by decide +kernel
theorem dX5_mark_14 : decode cX5_mark 14 = .ok (.ifCond .ge 13, 3) := by decide +kernel
theorem dX5_mark_17 : decode cX5_mark 17 = .ok (.aload_n 0, 1) := by decide +kernel
theorem dX5_mark_18 : decode cX5_mark 18 = .ok (.sipush (-10002), 3) := by decide +kernel
theorem dX5_mark_21 : decode cX5_mark 21 = .ok (.invokevirtual 92, 3) := by decide +kernel
theorem dX5_mark_24 : decode cX5_mark 24 = .ok (.goto 12, 3) := by decide +kernel
theorem dX5_mark_27 : decode cX5_mark 27 = .ok (.aload_n 0, 1) := by decide +kernel
theorem dX5_mark_28 : decode cX5_mark 28 = .ok (.getfield 12, 3) := by decide +kernel
theorem dX5_mark_31 : decode cX5_mark 31 = .ok (.iload 4, 2) := by decide +kernel
theorem dX5_mark_33 : decode cX5_mark 33 = .ok (.invokevirtual 129, 3) := by decide +kernel
theorem dX5_mark_36 : decode cX5_mark 36 = .ok (.ireturn, 1) := by decide +kernel
theorem dX5_cell_0 : decode cX5_cell 0 = .ok (.aload_n 0, 1) := by decide +kernel
theorem dX5_cell_1 : decode cX5_cell 1 = .ok (.getfield 20, 3) := by decide +kernel
theorem dX5_cell_4 : decode cX5_cell 4 = .ok (.iload_n 1, 1) := by decide +kernel
theorem dX5_cell_5 : decode cX5_cell 5 = .ok (.iload_n 2, 1) := by decide +kernel
theorem dX5_cell_6 : decode cX5_cell 6 = .ok (.iload_n 3, 1) := by decide +kernel
theorem dX5_cell_7 : decode cX5_cell 7 = .ok (.invokevirtual 71, 3) := by decide +kernel
theorem dX5_cell_10 : decode cX5_cell 10 = .ok (.istore 5, 2) := by decide +kernel
theorem dX5_cell_12 : decode cX5_cell 12 = .ok (.iload 5, 2) := by decide +kernel
theorem dX5_cell_14 : decode cX5_cell 14 = .ok (.ifCond .lt 13, 3) := by decide +kernel
theorem dX5_cell_17 : decode cX5_cell 17 = .ok (.iload 4, 2) := by decide +kernel
theorem dX5_cell_19 : decode cX5_cell 19 = .ok (.iconst 0, 1) := by decide +kernel
theorem dX5_cell_20 : decode cX5_cell 20 = .ok (.iconst 3, 1) := by decide +kernel
theorem dX5_cell_21 : decode cX5_cell 21 = .ok (.invokestatic 88, 3) := by decide +kernel
theorem dX5_cell_24 : decode cX5_cell 24 = .ok (.ifCond .ne 11, 3) := by decide +kernel
theorem dX5_cell_27 : decode cX5_cell 27 = .ok (.aload_n 0, 1) := by decide +kernel
theorem dX5_cell_28 : decode cX5_cell 28 = .ok (.sipush (-10002), 3) := by decide +kernel
theorem dX5_cell_31 : decode cX5_cell 31 = .ok (.invokevirtual 92, 3) := by decide +kernel
theorem dX5_cell_34 : decode cX5_cell 34 = .ok (.ireturn, 1) := by decide +kernel
theorem dX5_cell_35 : decode cX5_cell 35 = .ok (.aload_n 0, 1) := by decide +kernel
theorem dX5_cell_36 : decode cX5_cell 36 = .ok (.getfield 12, 3) := by decide +kernel
theorem dX5_cell_39 : decode cX5_cell 39 = .ok (.iload 5, 2) := by decide +kernel
theorem dX5_cell_41 : decode cX5_cell 41 = .ok (.invokevirtual 129, 3) := by decide +kernel
theorem dX5_cell_44 : decode cX5_cell 44 = .ok (.istore 6, 2) := by decide +kernel
theorem dX5_cell_46 : decode cX5_cell 46 = .ok (.iload 4, 2) := by decide +kernel
theorem dX5_cell_48 : decode cX5_cell 48 = .ok (.tableswitch 105 0 2 #[28, 53, 79], 28) := by decide +kernel
theorem dX5_cell_76 : decode cX5_cell 76 = .ok (.iload 6, 2) := by decide +kernel
theorem dX5_cell_78 : decode cX5_cell 78 = .ok (.ifCond .ne 15, 3) := by decide +kernel
theorem dX5_cell_81 : decode cX5_cell 81 = .ok (.aload_n 0, 1) := by decide +kernel
theorem dX5_cell_82 : decode cX5_cell 82 = .ok (.getfield 12, 3) := by decide +kernel
theorem dX5_cell_85 : decode cX5_cell 85 = .ok (.iload 5, 2) := by decide +kernel
theorem dX5_cell_87 : decode cX5_cell 87 = .ok (.invokevirtual 132, 3) := by decide +kernel
theorem dX5_cell_90 : decode cX5_cell 90 = .ok (.goto 10, 3) := by decide +kernel
theorem dX5_cell_93 : decode cX5_cell 93 = .ok (.aload_n 0, 1) := by decide +kernel
theorem dX5_cell_94 : decode cX5_cell 94 = .ok (.sipush (-10003), 3) := by decide +kernel
theorem dX5_cell_97 : decode cX5_cell 97 = .ok (.invokevirtual 92, 3) := by decide +kernel
theorem dX5_cell_100 : decode cX5_cell 100 = .ok (.ireturn, 1) := by decide +kernel
theorem dX5_cell_101 : decode cX5_cell 101 = .ok (.iload 6, 2) := by decide +kernel
theorem dX5_cell_103 : decode cX5_cell 103 = .ok (.iconst 4, 1) := by decide +kernel
theorem dX5_cell_104 : decode cX5_cell 104 = .ok (.if_icmp .ne 15, 3) := by decide +kernel
theorem dX5_cell_107 : decode cX5_cell 107 = .ok (.aload_n 0, 1) := by decide +kernel
theorem dX5_cell_108 : decode cX5_cell 108 = .ok (.getfield 12, 3) := by decide +kernel
theorem dX5_cell_111 : decode cX5_cell 111 = .ok (.iload 5, 2) := by decide +kernel
theorem dX5_cell_113 : decode cX5_cell 113 = .ok (.invokevirtual 138, 3) := by decide +kernel
theorem dX5_cell_116 : decode cX5_cell 116 = .ok (.goto 10, 3) := by decide +kernel
theorem dX5_cell_119 : decode cX5_cell 119 = .ok (.aload_n 0, 1) := by decide +kernel
theorem dX5_cell_120 : decode cX5_cell 120 = .ok (.sipush (-10003), 3) := by decide +kernel
theorem dX5_cell_123 : decode cX5_cell 123 = .ok (.invokevirtual 92, 3) := by decide +kernel
theorem dX5_cell_126 : decode cX5_cell 126 = .ok (.ireturn, 1) := by decide +kernel
theorem dX5_cell_127 : decode cX5_cell 127 = .ok (.iload 6, 2) := by decide +kernel
theorem dX5_cell_129 : decode cX5_cell 129 = .ok (.iconst 4, 1) := by decide +kernel
theorem dX5_cell_130 : decode cX5_cell 130 = .ok (.if_icmp .ne 15, 3) := by decide +kernel
theorem dX5_cell_133 : decode cX5_cell 133 = .ok (.aload_n 0, 1) := by decide +kernel
theorem dX5_cell_134 : decode cX5_cell 134 = .ok (.getfield 12, 3) := by decide +kernel
theorem dX5_cell_137 : decode cX5_cell 137 = .ok (.iload 5, 2) := by decide +kernel
theorem dX5_cell_139 : decode cX5_cell 139 = .ok (.invokevirtual 141, 3) := by decide +kernel
theorem dX5_cell_142 : decode cX5_cell 142 = .ok (.goto 10, 3) := by decide +kernel
theorem dX5_cell_145 : decode cX5_cell 145 = .ok (.aload_n 0, 1) := by decide +kernel
theorem dX5_cell_146 : decode cX5_cell 146 = .ok (.sipush (-10003), 3) := by decide +kernel
theorem dX5_cell_149 : decode cX5_cell 149 = .ok (.invokevirtual 92, 3) := by decide +kernel
theorem dX5_cell_152 : decode cX5_cell 152 = .ok (.ireturn, 1) := by decide +kernel
theorem dX5_cell_153 : decode cX5_cell 153 = .ok (.iload 6, 2) := by decide +kernel
theorem dX5_cell_155 : decode cX5_cell 155 = .ok (.ifCond .eq 16, 3) := by decide +kernel
theorem dX5_cell_158 : decode cX5_cell 158 = .ok (.aload_n 0, 1) := by decide +kernel
theorem dX5_cell_159 : decode cX5_cell 159 = .ok (.getfield 12, 3) := by decide +kernel
theorem dX5_cell_162 : decode cX5_cell 162 = .ok (.iload_n 1, 1) := by decide +kernel
theorem dX5_cell_163 : decode cX5_cell 163 = .ok (.iload_n 2, 1) := by decide +kernel
theorem dX5_cell_164 : decode cX5_cell 164 = .ok (.iload_n 3, 1) := by decide +kernel
theorem dX5_cell_165 : decode cX5_cell 165 = .ok (.invokevirtual 144, 3) := by decide +kernel
theorem dX5_cell_168 : decode cX5_cell 168 = .ok (.goto 10, 3) := by decide +kernel
theorem dX5_cell_171 : decode cX5_cell 171 = .ok (.aload_n 0, 1) := by decide +kernel
theorem dX5_cell_172 : decode cX5_cell 172 = .ok (.sipush (-10003), 3) := by decide +kernel
theorem dX5_cell_175 : decode cX5_cell 175 = .ok (.invokevirtual 92, 3) := by decide +kernel
theorem dX5_cell_178 : decode cX5_cell 178 = .ok (.ireturn, 1) := by decide +kernel
theorem dX5_glow_0 : decode cX5_glow 0 = .ok (.aload_n 0, 1) := by decide +kernel
theorem dX5_glow_1 : decode cX5_glow 1 = .ok (.getfield 20, 3) := by decide +kernel
theorem dX5_glow_4 : decode cX5_glow 4 = .ok (.iload_n 1, 1) := by decide +kernel
theorem dX5_glow_5 : decode cX5_glow 5 = .ok (.iload_n 2, 1) := by decide +kernel
theorem dX5_glow_6 : decode cX5_glow 6 = .ok (.iload_n 3, 1) := by decide +kernel
theorem dX5_glow_7 : decode cX5_glow 7 = .ok (.invokevirtual 71, 3) := by decide +kernel
theorem dX5_glow_10 : decode cX5_glow 10 = .ok (.istore 4, 2) := by decide +kernel
theorem dX5_glow_12 : decode cX5_glow 12 = .ok (.iload 4, 2) := by decide +kernel
theorem dX5_glow_14 : decode cX5_glow 14 = .ok (.ifCond .ge 13, 3) := by decide +kernel
theorem dX5_glow_17 : decode cX5_glow 17 = .ok (.aload_n 0, 1) := by decide +kernel
theorem dX5_glow_18 : decode cX5_glow 18 = .ok (.sipush (-10002), 3) := by decide +kernel
theorem dX5_glow_21 : decode cX5_glow 21 = .ok (.invokevirtual 92, 3) := by decide +kernel
theorem dX5_glow_24 : decode cX5_glow 24 = .ok (.goto 15, 3) := by decide +kernel
theorem dX5_glow_27 : decode cX5_glow 27 = .ok (.aload_n 0, 1) := by decide +kernel
theorem dX5_glow_28 : decode cX5_glow 28 = .ok (.getfield 20, 3) := by decide +kernel
theorem dX5_glow_31 : decode cX5_glow 31 = .ok (.iload 4, 2) := by decide +kernel
theorem dX5_glow_33 : decode cX5_glow 33 = .ok (.invokevirtual 147, 3) := by decide +kernel
theorem dX5_glow_36 : decode cX5_glow 36 = .ok (.invokestatic 123, 3) := by decide +kernel
theorem dX5_glow_39 : decode cX5_glow 39 = .ok (.ireturn, 1) := by decide +kernel
theorem dX5_motion_0 : decode cX5_motion 0 = .ok (.aload_n 0, 1) := by decide +kernel
theorem dX5_motion_1 : decode cX5_motion 1 = .ok (.getfield 20, 3) := by decide +kernel
theorem dX5_motion_4 : decode cX5_motion 4 = .ok (.iconst 0, 1) := by decide +kernel
theorem dX5_motion_5 : decode cX5_motion 5 = .ok (.iload_n 1, 1) := by decide +kernel
theorem dX5_motion_6 : decode cX5_motion 6 = .ok (.iload_n 2, 1) := by decide +kernel
theorem dX5_motion_7 : decode cX5_motion 7 = .ok (.invokevirtual 71, 3) := by decide +kernel
theorem dX5_motion_10 : decode cX5_motion 10 = .ok (.istore_n 3, 1) := by decide +kernel
theorem dX5_motion_11 : decode cX5_motion 11 = .ok (.aload_n 0, 1) := by decide +kernel
theorem dX5_motion_12 : decode cX5_motion 12 = .ok (.getfield 20, 3) := by decide +kernel
theorem dX5_motion_15 : decode cX5_motion 15 = .ok (.iconst 1, 1) := by decide +kernel
theorem dX5_motion_16 : decode cX5_motion 16 = .ok (.iload_n 1, 1) := by decide +kernel
theorem dX5_motion_17 : decode cX5_motion 17 = .ok (.iload_n 2, 1) := by decide +kernel
theorem dX5_motion_18 : decode cX5_motion 18 = .ok (.invokevirtual 71, 3) := by decide +kernel
theorem dX5_motion_21 : decode cX5_motion 21 = .ok (.istore 4, 2) := by decide +kernel
theorem dX5_motion_23 : decode cX5_motion 23 = .ok (.iload_n 3, 1) := by decide +kernel
theorem dX5_motion_24 : decode cX5_motion 24 = .ok (.ifCond .lt 8, 3) := by decide +kernel
theorem dX5_motion_27 : decode cX5_motion 27 = .ok (.iload 4, 2) := by decide +kernel
theorem dX5_motion_29 : decode cX5_motion 29 = .ok (.ifCond .ge 11, 3) := by decide +kernel
theorem dX5_motion_32 : decode cX5_motion 32 = .ok (.aload_n 0, 1) := by decide +kernel
theorem dX5_motion_33 : decode cX5_motion 33 = .ok (.sipush (-10002), 3) := by decide +kernel
theorem dX5_motion_36 : decode cX5_motion 36 = .ok (.invokevirtual 92, 3) := by decide +kernel
theorem dX5_motion_39 : decode cX5_motion 39 = .ok (.ireturn, 1) := by decide +kernel
theorem dX5_motion_40 : decode cX5_motion 40 = .ok (.aload_n 0, 1) := by decide +kernel
theorem dX5_motion_41 : decode cX5_motion 41 = .ok (.getfield 12, 3) := by decide +kernel
theorem dX5_motion_44 : decode cX5_motion 44 = .ok (.iload_n 3, 1) := by decide +kernel
theorem dX5_motion_45 : decode cX5_motion 45 = .ok (.iload 4, 2) := by decide +kernel
theorem dX5_motion_47 : decode cX5_motion 47 = .ok (.invokevirtual 151, 3) := by decide +kernel
theorem dX5_motion_50 : decode cX5_motion 50 = .ok (.istore 5, 2) := by decide +kernel
theorem dX5_motion_52 : decode cX5_motion 52 = .ok (.iload 5, 2) := by decide +kernel
theorem dX5_motion_54 : decode cX5_motion 54 = .ok (.sipush (-10001), 3) := by decide +kernel
theorem dX5_motion_57 : decode cX5_motion 57 = .ok (.if_icmp .ne 13, 3) := by decide +kernel
theorem dX5_motion_60 : decode cX5_motion 60 = .ok (.aload_n 0, 1) := by decide +kernel
theorem dX5_motion_61 : decode cX5_motion 61 = .ok (.sipush (-10003), 3) := by decide +kernel
theorem dX5_motion_64 : decode cX5_motion 64 = .ok (.invokevirtual 92, 3) := by decide +kernel
theorem dX5_motion_67 : decode cX5_motion 67 = .ok (.goto 5, 3) := by decide +kernel
theorem dX5_motion_70 : decode cX5_motion 70 = .ok (.iload 5, 2) := by decide +kernel
theorem dX5_motion_72 : decode cX5_motion 72 = .ok (.ireturn, 1) := by decide +kernel
theorem dX5_marks_0 : decode cX5_marks 0 = .ok (.iload_n 1, 1) := by decide +kernel
theorem dX5_marks_1 : decode cX5_marks 1 = .ok (.iconst 0, 1) := by decide +kernel
theorem dX5_marks_2 : decode cX5_marks 2 = .ok (.iconst 1, 1) := by decide +kernel
theorem dX5_marks_3 : decode cX5_marks 3 = .ok (.invokestatic 88, 3) := by decide +kernel
theorem dX5_marks_6 : decode cX5_marks 6 = .ok (.ifCond .eq 12, 3) := by decide +kernel
theorem dX5_marks_9 : decode cX5_marks 9 = .ok (.iload_n 2, 1) := by decide +kernel
theorem dX5_marks_10 : decode cX5_marks 10 = .ok (.iconst 0, 1) := by decide +kernel
theorem dX5_marks_11 : decode cX5_marks 11 = .ok (.iconst 5, 1) := by decide +kernel
theorem dX5_marks_12 : decode cX5_marks 12 = .ok (.invokestatic 88, 3) := by decide +kernel
theorem dX5_marks_15 : decode cX5_marks 15 = .ok (.ifCond .ne 11, 3) := by decide +kernel
theorem dX5_marks_18 : decode cX5_marks 18 = .ok (.aload_n 0, 1) := by decide +kernel
theorem dX5_marks_19 : decode cX5_marks 19 = .ok (.sipush (-10002), 3) := by decide +kernel
theorem dX5_marks_22 : decode cX5_marks 22 = .ok (.invokevirtual 92, 3) := by decide +kernel
theorem dX5_marks_25 : decode cX5_marks 25 = .ok (.ireturn, 1) := by decide +kernel
theorem dX5_marks_26 : decode cX5_marks 26 = .ok (.iconst 0, 1) := by decide +kernel
theorem dX5_marks_27 : decode cX5_marks 27 = .ok (.istore_n 3, 1) := by decide +kernel
theorem dX5_marks_28 : decode cX5_marks 28 = .ok (.iconst 0, 1) := by decide +kernel
theorem dX5_marks_29 : decode cX5_marks 29 = .ok (.istore 4, 2) := by decide +kernel
theorem dX5_marks_31 : decode cX5_marks 31 = .ok (.iload 4, 2) := by decide +kernel
theorem dX5_marks_33 : decode cX5_marks 33 = .ok (.aload_n 0, 1) := by decide +kernel
theorem dX5_marks_34 : decode cX5_marks 34 = .ok (.getfield 20, 3) := by decide +kernel
theorem dX5_marks_37 : decode cX5_marks 37 = .ok (.getfield 154, 3) := by decide +kernel
theorem dX5_marks_40 : decode cX5_marks 40 = .ok (.if_icmp .ge 61, 3) := by decide +kernel
theorem dX5_marks_43 : decode cX5_marks 43 = .ok (.iconst 0, 1) := by decide +kernel
theorem dX5_marks_44 : decode cX5_marks 44 = .ok (.istore 5, 2) := by decide +kernel
theorem dX5_marks_46 : decode cX5_marks 46 = .ok (.iload 5, 2) := by decide +kernel
theorem dX5_marks_48 : decode cX5_marks 48 = .ok (.aload_n 0, 1) := by decide +kernel
theorem dX5_marks_49 : decode cX5_marks 49 = .ok (.getfield 20, 3) := by decide +kernel
theorem dX5_marks_52 : decode cX5_marks 52 = .ok (.getfield 157, 3) := by decide +kernel
theorem dX5_marks_55 : decode cX5_marks 55 = .ok (.if_icmp .ge 40, 3) := by decide +kernel
theorem dX5_marks_58 : decode cX5_marks 58 = .ok (.iload_n 3, 1) := by decide +kernel
theorem dX5_marks_59 : decode cX5_marks 59 = .ok (.aload_n 0, 1) := by decide +kernel
theorem dX5_marks_60 : decode cX5_marks 60 = .ok (.getfield 12, 3) := by decide +kernel
theorem dX5_marks_63 : decode cX5_marks 63 = .ok (.aload_n 0, 1) := by decide +kernel
theorem dX5_marks_64 : decode cX5_marks 64 = .ok (.getfield 20, 3) := by decide +kernel
theorem dX5_marks_67 : decode cX5_marks 67 = .ok (.iload_n 1, 1) := by decide +kernel
theorem dX5_marks_68 : decode cX5_marks 68 = .ok (.iload 5, 2) := by decide +kernel
theorem dX5_marks_70 : decode cX5_marks 70 = .ok (.iload 4, 2) := by decide +kernel
theorem dX5_marks_72 : decode cX5_marks 72 = .ok (.invokevirtual 71, 3) := by decide +kernel
theorem dX5_marks_75 : decode cX5_marks 75 = .ok (.invokevirtual 129, 3) := by decide +kernel
theorem dX5_marks_78 : decode cX5_marks 78 = .ok (.iload_n 2, 1) := by decide +kernel
theorem dX5_marks_79 : decode cX5_marks 79 = .ok (.if_icmp .ne 7, 3) := by decide +kernel
theorem dX5_marks_82 : decode cX5_marks 82 = .ok (.iconst 1, 1) := by decide +kernel
theorem dX5_marks_83 : decode cX5_marks 83 = .ok (.goto 4, 3) := by decide +kernel
theorem dX5_marks_86 : decode cX5_marks 86 = .ok (.iconst 0, 1) := by decide +kernel
theorem dX5_marks_87 : decode cX5_marks 87 = .ok (.iadd, 1) := by decide +kernel
theorem dX5_marks_88 : decode cX5_marks 88 = .ok (.istore_n 3, 1) := by decide +kernel
theorem dX5_marks_89 : decode cX5_marks 89 = .ok (.iinc 5 1, 3) := by decide +kernel
theorem dX5_marks_92 : decode cX5_marks 92 = .ok (.goto (-46), 3) := by decide +kernel
theorem dX5_marks_95 : decode cX5_marks 95 = .ok (.iinc 4 1, 3) := by decide +kernel
theorem dX5_marks_98 : decode cX5_marks 98 = .ok (.goto (-67), 3) := by decide +kernel
theorem dX5_marks_101 : decode cX5_marks 101 = .ok (.iload_n 3, 1) := by decide +kernel
theorem dX5_marks_102 : decode cX5_marks 102 = .ok (.ireturn, 1) := by decide +kernel
theorem dX5_moved_0 : decode cX5_moved 0 = .ok (.iconst 0, 1) := by decide +kernel
theorem dX5_moved_1 : decode cX5_moved 1 = .ok (.istore_n 1, 1) := by decide +kernel
theorem dX5_moved_2 : decode cX5_moved 2 = .ok (.iconst 0, 1) := by decide +kernel
theorem dX5_moved_3 : decode cX5_moved 3 = .ok (.istore_n 2, 1) := by decide +kernel
theorem dX5_moved_4 : decode cX5_moved 4 = .ok (.iload_n 2, 1) := by decide +kernel
theorem dX5_moved_5 : decode cX5_moved 5 = .ok (.aload_n 0, 1) := by decide +kernel
theorem dX5_moved_6 : decode cX5_moved 6 = .ok (.getfield 20, 3) := by decide +kernel
theorem dX5_moved_9 : decode cX5_moved 9 = .ok (.getfield 154, 3) := by decide +kernel
theorem dX5_moved_12 : decode cX5_moved 12 = .ok (.if_icmp .ge 90, 3) := by decide +kernel
theorem dX5_moved_15 : decode cX5_moved 15 = .ok (.iconst 0, 1) := by decide +kernel
theorem dX5_moved_16 : decode cX5_moved 16 = .ok (.istore_n 3, 1) := by decide +kernel
theorem dX5_moved_17 : decode cX5_moved 17 = .ok (.iload_n 3, 1) := by decide +kernel
theorem dX5_moved_18 : decode cX5_moved 18 = .ok (.aload_n 0, 1) := by decide +kernel
theorem dX5_moved_19 : decode cX5_moved 19 = .ok (.getfield 20, 3) := by decide +kernel
theorem dX5_moved_22 : decode cX5_moved 22 = .ok (.getfield 157, 3) := by decide +kernel
theorem dX5_moved_25 : decode cX5_moved 25 = .ok (.if_icmp .ge 71, 3) := by decide +kernel
theorem dX5_moved_28 : decode cX5_moved 28 = .ok (.aload_n 0, 1) := by decide +kernel
theorem dX5_moved_29 : decode cX5_moved 29 = .ok (.getfield 12, 3) := by decide +kernel
theorem dX5_moved_32 : decode cX5_moved 32 = .ok (.aload_n 0, 1) := by decide +kernel
theorem dX5_moved_33 : decode cX5_moved 33 = .ok (.getfield 20, 3) := by decide +kernel
theorem dX5_moved_36 : decode cX5_moved 36 = .ok (.iconst 0, 1) := by decide +kernel
theorem dX5_moved_37 : decode cX5_moved 37 = .ok (.iload_n 3, 1) := by decide +kernel
theorem dX5_moved_38 : decode cX5_moved 38 = .ok (.iload_n 2, 1) := by decide +kernel
theorem dX5_moved_39 : decode cX5_moved 39 = .ok (.invokevirtual 71, 3) := by decide +kernel
theorem dX5_moved_42 : decode cX5_moved 42 = .ok (.aload_n 0, 1) := by decide +kernel
theorem dX5_moved_43 : decode cX5_moved 43 = .ok (.getfield 20, 3) := by decide +kernel
theorem dX5_moved_46 : decode cX5_moved 46 = .ok (.iconst 1, 1) := by decide +kernel
theorem dX5_moved_47 : decode cX5_moved 47 = .ok (.iload_n 3, 1) := by decide +kernel
theorem dX5_moved_48 : decode cX5_moved 48 = .ok (.iload_n 2, 1) := by decide +kernel
theorem dX5_moved_49 : decode cX5_moved 49 = .ok (.invokevirtual 71, 3) := by decide +kernel
theorem dX5_moved_52 : decode cX5_moved 52 = .ok (.invokevirtual 151, 3) := by decide +kernel
theorem dX5_moved_55 : decode cX5_moved 55 = .ok (.istore 4, 2) := by decide +kernel
theorem dX5_moved_57 : decode cX5_moved 57 = .ok (.iload_n 1, 1) := by decide +kernel
theorem dX5_moved_58 : decode cX5_moved 58 = .ok (.iload 4, 2) := by decide +kernel
theorem dX5_moved_60 : decode cX5_moved 60 = .ok (.sipush (-10001), 3) := by decide +kernel
theorem dX5_moved_63 : decode cX5_moved 63 = .ok (.if_icmp .eq 24, 3) := by decide +kernel
theorem dX5_moved_66 : decode cX5_moved 66 = .ok (.iload 4, 2) := by decide +kernel
theorem dX5_moved_68 : decode cX5_moved 68 = .ok (.invokestatic 160, 3) := by decide +kernel
theorem dX5_moved_71 : decode cX5_moved 71 = .ok (.aload_n 0, 1) := by decide +kernel
theorem dX5_moved_72 : decode cX5_moved 72 = .ok (.getfield 20, 3) := by decide +kernel
theorem dX5_moved_75 : decode cX5_moved 75 = .ok (.getfield 165, 3) := by decide +kernel
theorem dX5_moved_78 : decode cX5_moved 78 = .ok (.iconst 5, 1) := by decide +kernel
theorem dX5_moved_79 : decode cX5_moved 79 = .ok (.iaload, 1) := by decide +kernel
theorem dX5_moved_80 : decode cX5_moved 80 = .ok (.if_icmp .le 7, 3) := by decide +kernel
theorem dX5_moved_83 : decode cX5_moved 83 = .ok (.iconst 1, 1) := by decide +kernel
theorem dX5_moved_84 : decode cX5_moved 84 = .ok (.goto 4, 3) := by decide +kernel
theorem dX5_moved_87 : decode cX5_moved 87 = .ok (.iconst 0, 1) := by decide +kernel
theorem dX5_moved_88 : decode cX5_moved 88 = .ok (.iadd, 1) := by decide +kernel
theorem dX5_moved_89 : decode cX5_moved 89 = .ok (.istore_n 1, 1) := by decide +kernel
theorem dX5_moved_90 : decode cX5_moved 90 = .ok (.iinc 3 1, 3) := by decide +kernel
theorem dX5_moved_93 : decode cX5_moved 93 = .ok (.goto (-76), 3) := by decide +kernel
theorem dX5_moved_96 : decode cX5_moved 96 = .ok (.iinc 2 1, 3) := by decide +kernel
theorem dX5_moved_99 : decode cX5_moved 99 = .ok (.goto (-95), 3) := by decide +kernel
theorem dX5_moved_102 : decode cX5_moved 102 = .ok (.iload_n 1, 1) := by decide +kernel
theorem dX5_moved_103 : decode cX5_moved 103 = .ok (.ireturn, 1) := by decide +kernel
theorem dX5_mean_0 : decode cX5_mean 0 = .ok (.iload_n 1, 1) := by decide +kernel
theorem dX5_mean_1 : decode cX5_mean 1 = .ok (.iconst 0, 1) := by decide +kernel
theorem dX5_mean_2 : decode cX5_mean 2 = .ok (.iconst 1, 1) := by decide +kernel
theorem dX5_mean_3 : decode cX5_mean 3 = .ok (.invokestatic 88, 3) := by decide +kernel
theorem dX5_mean_6 : decode cX5_mean 6 = .ok (.ifCond .eq 14, 3) := by decide +kernel
theorem dX5_mean_9 : decode cX5_mean 9 = .ok (.aload_n 0, 1) := by decide +kernel
theorem dX5_mean_10 : decode cX5_mean 10 = .ok (.getfield 12, 3) := by decide +kernel
theorem dX5_mean_13 : decode cX5_mean 13 = .ok (.iload_n 1, 1) := by decide +kernel
theorem dX5_mean_14 : decode cX5_mean 14 = .ok (.invokevirtual 168, 3) := by decide +kernel
theorem dX5_mean_17 : decode cX5_mean 17 = .ok (.goto 11, 3) := by decide +kernel
theorem dX5_mean_20 : decode cX5_mean 20 = .ok (.aload_n 0, 1) := by decide +kernel
theorem dX5_mean_21 : decode cX5_mean 21 = .ok (.sipush (-10002), 3) := by decide +kernel
theorem dX5_mean_24 : decode cX5_mean 24 = .ok (.invokevirtual 92, 3) := by decide +kernel
theorem dX5_mean_27 : decode cX5_mean 27 = .ok (.i2l, 1) := by decide +kernel
theorem dX5_mean_28 : decode cX5_mean 28 = .ok (.lreturn, 1) := by decide +kernel
theorem dX5_told_0 : decode cX5_told 0 = .ok (.iload_n 1, 1) := by decide +kernel
theorem dX5_told_1 : decode cX5_told 1 = .ok (.iconst 0, 1) := by decide +kernel
theorem dX5_told_2 : decode cX5_told 2 = .ok (.bipush 10, 2) := by decide +kernel
theorem dX5_told_4 : decode cX5_told 4 = .ok (.invokestatic 88, 3) := by decide +kernel
theorem dX5_told_7 : decode cX5_told 7 = .ok (.ifCond .eq 14, 3) := by decide +kernel
theorem dX5_told_10 : decode cX5_told 10 = .ok (.aload_n 0, 1) := by decide +kernel
theorem dX5_told_11 : decode cX5_told 11 = .ok (.getfield 20, 3) := by decide +kernel
theorem dX5_told_14 : decode cX5_told 14 = .ok (.iload_n 1, 1) := by decide +kernel
theorem dX5_told_15 : decode cX5_told 15 = .ok (.invokevirtual 172, 3) := by decide +kernel
theorem dX5_told_18 : decode cX5_told 18 = .ok (.goto 10, 3) := by decide +kernel
theorem dX5_told_21 : decode cX5_told 21 = .ok (.aload_n 0, 1) := by decide +kernel
theorem dX5_told_22 : decode cX5_told 22 = .ok (.sipush (-10002), 3) := by decide +kernel
theorem dX5_told_25 : decode cX5_told 25 = .ok (.invokevirtual 92, 3) := by decide +kernel
theorem dX5_told_28 : decode cX5_told 28 = .ok (.ireturn, 1) := by decide +kernel
theorem dX5_type_0 : decode cX5_type 0 = .ok (.iload_n 1, 1) := by decide +kernel
theorem dX5_type_1 : decode cX5_type 1 = .ok (.iconst 0, 1) := by decide +kernel
theorem dX5_type_2 : decode cX5_type 2 = .ok (.bipush 127, 2) := by decide +kernel
theorem dX5_type_4 : decode cX5_type 4 = .ok (.invokestatic 88, 3) := by decide +kernel
theorem dX5_type_7 : decode cX5_type 7 = .ok (.ifCond .ne 11, 3) := by decide +kernel
theorem dX5_type_10 : decode cX5_type 10 = .ok (.aload_n 0, 1) := by decide +kernel
theorem dX5_type_11 : decode cX5_type 11 = .ok (.sipush (-10002), 3) := by decide +kernel
theorem dX5_type_14 : decode cX5_type 14 = .ok (.invokevirtual 92, 3) := by decide +kernel
theorem dX5_type_17 : decode cX5_type 17 = .ok (.ireturn, 1) := by decide +kernel
theorem dX5_type_18 : decode cX5_type 18 = .ok (.aload_n 0, 1) := by decide +kernel
theorem dX5_type_19 : decode cX5_type 19 = .ok (.getfield 40, 3) := by decide +kernel
theorem dX5_type_22 : decode cX5_type 22 = .ok (.iload_n 1, 1) := by decide +kernel
theorem dX5_type_23 : decode cX5_type 23 = .ok (.invokevirtual 175, 3) := by decide +kernel
theorem dX5_type_26 : decode cX5_type 26 = .ok (.ifCond .eq 13, 3) := by decide +kernel
theorem dX5_type_29 : decode cX5_type 29 = .ok (.aload_n 0, 1) := by decide +kernel
theorem dX5_type_30 : decode cX5_type 30 = .ok (.getfield 40, 3) := by decide +kernel
theorem dX5_type_33 : decode cX5_type 33 = .ok (.getfield 179, 3) := by decide +kernel
theorem dX5_type_36 : decode cX5_type 36 = .ok (.goto 10, 3) := by decide +kernel
theorem dX5_type_39 : decode cX5_type 39 = .ok (.aload_n 0, 1) := by decide +kernel
theorem dX5_type_40 : decode cX5_type 40 = .ok (.sipush (-10004), 3) := by decide +kernel
theorem dX5_type_43 : decode cX5_type 43 = .ok (.invokevirtual 92, 3) := by decide +kernel
theorem dX5_type_46 : decode cX5_type 46 = .ok (.ireturn, 1) := by decide +kernel
theorem dX5_clear_0 : decode cX5_clear 0 = .ok (.aload_n 0, 1) := by decide +kernel
theorem dX5_clear_1 : decode cX5_clear 1 = .ok (.getfield 40, 3) := by decide +kernel
theorem dX5_clear_4 : decode cX5_clear 4 = .ok (.getfield 179, 3) := by decide +kernel
theorem dX5_clear_7 : decode cX5_clear 7 = .ok (.istore_n 1, 1) := by decide +kernel
theorem dX5_clear_8 : decode cX5_clear 8 = .ok (.aload_n 0, 1) := by decide +kernel
theorem dX5_clear_9 : decode cX5_clear 9 = .ok (.getfield 40, 3) := by decide +kernel
theorem dX5_clear_12 : decode cX5_clear 12 = .ok (.iconst 0, 1) := by decide +kernel
theorem dX5_clear_13 : decode cX5_clear 13 = .ok (.putfield 179, 3) := by decide +kernel
theorem dX5_clear_16 : decode cX5_clear 16 = .ok (.iload_n 1, 1) := by decide +kernel
theorem dX5_clear_17 : decode cX5_clear 17 = .ok (.ireturn, 1) := by decide +kernel
theorem dX5_does_0 : decode cX5_does 0 = .ok (.aload_n 0, 1) := by decide +kernel
theorem dX5_does_1 : decode cX5_does 1 = .ok (.getfield 40, 3) := by decide +kernel
theorem dX5_does_4 : decode cX5_does 4 = .ok (.invokevirtual 182, 3) := by decide +kernel
theorem dX5_does_7 : decode cX5_does 7 = .ok (.istore_n 1, 1) := by decide +kernel
theorem dX5_does_8 : decode cX5_does 8 = .ok (.iload_n 1, 1) := by decide +kernel
theorem dX5_does_9 : decode cX5_does 9 = .ok (.ifCond .lt 8, 3) := by decide +kernel
theorem dX5_does_12 : decode cX5_does 12 = .ok (.bipush (-10), 2) := by decide +kernel
theorem dX5_does_14 : decode cX5_does 14 = .ok (.iload_n 1, 1) := by decide +kernel
theorem dX5_does_15 : decode cX5_does 15 = .ok (.isub, 1) := by decide +kernel
theorem dX5_does_16 : decode cX5_does 16 = .ok (.ireturn, 1) := by decide +kernel
theorem dX5_does_17 : decode cX5_does 17 = .ok (.aload_n 0, 1) := by decide +kernel
theorem dX5_does_18 : decode cX5_does 18 = .ok (.getfield 26, 3) := by decide +kernel
theorem dX5_does_21 : decode cX5_does 21 = .ok (.aload_n 0, 1) := by decide +kernel
theorem dX5_does_22 : decode cX5_does 22 = .ok (.getfield 20, 3) := by decide +kernel
theorem dX5_does_25 : decode cX5_does 25 = .ok (.invokevirtual 53, 3) := by decide +kernel
theorem dX5_does_28 : decode cX5_does 28 = .ok (.iconst 0, 1) := by decide +kernel
theorem dX5_does_29 : decode cX5_does 29 = .ok (.istore_n 2, 1) := by decide +kernel
theorem dX5_does_30 : decode cX5_does 30 = .ok (.iconst 0, 1) := by decide +kernel
theorem dX5_does_31 : decode cX5_does 31 = .ok (.istore_n 3, 1) := by decide +kernel
theorem dX5_does_32 : decode cX5_does 32 = .ok (.iload_n 3, 1) := by decide +kernel
theorem dX5_does_33 : decode cX5_does 33 = .ok (.aload_n 0, 1) := by decide +kernel
theorem dX5_does_34 : decode cX5_does 34 = .ok (.getfield 40, 3) := by decide +kernel
theorem dX5_does_37 : decode cX5_does 37 = .ok (.getfield 186, 3) := by decide +kernel
theorem dX5_does_40 : decode cX5_does 40 = .ok (.if_icmp .ge 53, 3) := by decide +kernel
theorem dX5_does_43 : decode cX5_does 43 = .ok (.aload_n 0, 1) := by decide +kernel
theorem dX5_does_44 : decode cX5_does 44 = .ok (.iload_n 2, 1) := by decide +kernel
theorem dX5_does_45 : decode cX5_does 45 = .ok (.invokevirtual 189, 3) := by decide +kernel
theorem dX5_does_48 : decode cX5_does 48 = .ok (.sipush (-10002), 3) := by decide +kernel
theorem dX5_does_51 : decode cX5_does 51 = .ok (.if_icmp .ne 20, 3) := by decide +kernel
theorem dX5_does_54 : decode cX5_does 54 = .ok (.aload_n 0, 1) := by decide +kernel
theorem dX5_does_55 : decode cX5_does 55 = .ok (.getfield 20, 3) := by decide +kernel
theorem dX5_does_58 : decode cX5_does 58 = .ok (.aload_n 0, 1) := by decide +kernel
theorem dX5_does_59 : decode cX5_does 59 = .ok (.getfield 26, 3) := by decide +kernel
theorem dX5_does_62 : decode cX5_does 62 = .ok (.invokevirtual 53, 3) := by decide +kernel
theorem dX5_does_65 : decode cX5_does 65 = .ok (.sipush (-1000), 3) := by decide +kernel
theorem dX5_does_68 : decode cX5_does 68 = .ok (.iload_n 3, 1) := by decide +kernel
theorem dX5_does_69 : decode cX5_does 69 = .ok (.isub, 1) := by decide +kernel
theorem dX5_does_70 : decode cX5_does 70 = .ok (.ireturn, 1) := by decide +kernel
theorem dX5_does_71 : decode cX5_does 71 = .ok (.iload_n 2, 1) := by decide +kernel
theorem dX5_does_72 : decode cX5_does 72 = .ok (.iconst 1, 1) := by decide +kernel
theorem dX5_does_73 : decode cX5_does 73 = .ok (.aload_n 0, 1) := by decide +kernel
theorem dX5_does_74 : decode cX5_does 74 = .ok (.getfield 40, 3) := by decide +kernel
theorem dX5_does_77 : decode cX5_does 77 = .ok (.iload_n 2, 1) := by decide +kernel
theorem dX5_does_78 : decode cX5_does 78 = .ok (.invokevirtual 192, 3) := by decide +kernel
theorem dX5_does_81 : decode cX5_does 81 = .ok (.invokestatic 195, 3) := by decide +kernel
theorem dX5_does_84 : decode cX5_does 84 = .ok (.iadd, 1) := by decide +kernel
theorem dX5_does_85 : decode cX5_does 85 = .ok (.iadd, 1) := by decide +kernel
theorem dX5_does_86 : decode cX5_does 86 = .ok (.istore_n 2, 1) := by decide +kernel
theorem dX5_does_87 : decode cX5_does 87 = .ok (.iinc 3 1, 3) := by decide +kernel
theorem dX5_does_90 : decode cX5_does 90 = .ok (.goto (-58), 3) := by decide +kernel
theorem dX5_does_93 : decode cX5_does 93 = .ok (.aload_n 0, 1) := by decide +kernel
theorem dX5_does_94 : decode cX5_does 94 = .ok (.invokevirtual 198, 3) := by decide +kernel
theorem dX5_does_97 : decode cX5_does 97 = .ok (.aload_n 0, 1) := by decide +kernel
theorem dX5_does_98 : decode cX5_does 98 = .ok (.getfield 40, 3) := by decide +kernel
theorem dX5_does_101 : decode cX5_does 101 = .ok (.getfield 186, 3) := by decide +kernel
theorem dX5_does_104 : decode cX5_does 104 = .ok (.ireturn, 1) := by decide +kernel
theorem dX5_back_0 : decode cX5_back 0 = .ok (.aload_n 0, 1) := by decide +kernel
theorem dX5_back_1 : decode cX5_back 1 = .ok (.getfield 33, 3) := by decide +kernel
theorem dX5_back_4 : decode cX5_back 4 = .ok (.iconst 1, 1) := by decide +kernel
theorem dX5_back_5 : decode cX5_back 5 = .ok (.if_icmp .lt 11, 3) := by decide +kernel
theorem dX5_back_8 : decode cX5_back 8 = .ok (.aload_n 0, 1) := by decide +kernel
theorem dX5_back_9 : decode cX5_back 9 = .ok (.getfield 33, 3) := by decide +kernel
theorem dX5_back_12 : decode cX5_back 12 = .ok (.iconst 5, 1) := by decide +kernel
theorem dX5_back_13 : decode cX5_back 13 = .ok (.if_icmp .le 11, 3) := by decide +kernel
theorem dX5_back_16 : decode cX5_back 16 = .ok (.aload_n 0, 1) := by decide +kernel
theorem dX5_back_17 : decode cX5_back 17 = .ok (.sipush (-10003), 3) := by decide +kernel
theorem dX5_back_20 : decode cX5_back 20 = .ok (.invokevirtual 92, 3) := by decide +kernel
theorem dX5_back_23 : decode cX5_back 23 = .ok (.ireturn, 1) := by decide +kernel
theorem dX5_back_24 : decode cX5_back 24 = .ok (.aload_n 0, 1) := by decide +kernel
theorem dX5_back_25 : decode cX5_back 25 = .ok (.dup, 1) := by decide +kernel
theorem dX5_back_26 : decode cX5_back 26 = .ok (.getfield 33, 3) := by decide +kernel
theorem dX5_back_29 : decode cX5_back 29 = .ok (.iconst 1, 1) := by decide +kernel
theorem dX5_back_30 : decode cX5_back 30 = .ok (.isub, 1) := by decide +kernel
theorem dX5_back_31 : decode cX5_back 31 = .ok (.putfield 33, 3) := by decide +kernel
theorem dX5_back_34 : decode cX5_back 34 = .ok (.aload_n 0, 1) := by decide +kernel
theorem dX5_back_35 : decode cX5_back 35 = .ok (.getfield 20, 3) := by decide +kernel
theorem dX5_back_38 : decode cX5_back 38 = .ok (.aload_n 0, 1) := by decide +kernel
theorem dX5_back_39 : decode cX5_back 39 = .ok (.getfield 29, 3) := by decide +kernel
theorem dX5_back_42 : decode cX5_back 42 = .ok (.aload_n 0, 1) := by decide +kernel
theorem dX5_back_43 : decode cX5_back 43 = .ok (.getfield 33, 3) := by decide +kernel
theorem dX5_back_46 : decode cX5_back 46 = .ok (.aaload, 1) := by decide +kernel
theorem dX5_back_47 : decode cX5_back 47 = .ok (.invokevirtual 53, 3) := by decide +kernel
theorem dX5_back_50 : decode cX5_back 50 = .ok (.aload_n 0, 1) := by decide +kernel
theorem dX5_back_51 : decode cX5_back 51 = .ok (.getfield 12, 3) := by decide +kernel
theorem dX5_back_54 : decode cX5_back 54 = .ok (.invokevirtual 201, 3) := by decide +kernel
theorem dX5_back_57 : decode cX5_back 57 = .ok (.aload_n 0, 1) := by decide +kernel
theorem dX5_back_58 : decode cX5_back 58 = .ok (.getfield 33, 3) := by decide +kernel
theorem dX5_back_61 : decode cX5_back 61 = .ok (.ireturn, 1) := by decide +kernel
theorem dX5_refused_0 : decode cX5_refused 0 = .ok (.iload_n 1, 1) := by decide +kernel
theorem dX5_refused_1 : decode cX5_refused 1 = .ok (.iconst 0, 1) := by decide +kernel
theorem dX5_refused_2 : decode cX5_refused 2 = .ok (.iconst 4, 1) := by decide +kernel
theorem dX5_refused_3 : decode cX5_refused 3 = .ok (.invokestatic 88, 3) := by decide +kernel
theorem dX5_refused_6 : decode cX5_refused 6 = .ok (.ifCond .eq 11, 3) := by decide +kernel
theorem dX5_refused_9 : decode cX5_refused 9 = .ok (.aload_n 0, 1) := by decide +kernel
theorem dX5_refused_10 : decode cX5_refused 10 = .ok (.iload_n 1, 1) := by decide +kernel
theorem dX5_refused_11 : decode cX5_refused 11 = .ok (.invokevirtual 204, 3) := by decide +kernel
theorem dX5_refused_14 : decode cX5_refused 14 = .ok (.goto 10, 3) := by decide +kernel
theorem dX5_refused_17 : decode cX5_refused 17 = .ok (.aload_n 0, 1) := by decide +kernel
theorem dX5_refused_18 : decode cX5_refused 18 = .ok (.sipush (-10002), 3) := by decide +kernel
theorem dX5_refused_21 : decode cX5_refused 21 = .ok (.invokevirtual 92, 3) := by decide +kernel
theorem dX5_refused_24 : decode cX5_refused 24 = .ok (.ireturn, 1) := by decide +kernel
theorem dX5_digest_0 : decode cX5_digest 0 = .ok (.ldc2_w 207, 3) := by decide +kernel
theorem dX5_digest_3 : decode cX5_digest 3 = .ok (.lstore_n 1, 1) := by decide +kernel
theorem dX5_digest_4 : decode cX5_digest 4 = .ok (.iconst 0, 1) := by decide +kernel
theorem dX5_digest_5 : decode cX5_digest 5 = .ok (.istore_n 3, 1) := by decide +kernel
theorem dX5_digest_6 : decode cX5_digest 6 = .ok (.iload_n 3, 1) := by decide +kernel
theorem dX5_digest_7 : decode cX5_digest 7 = .ok (.iconst 4, 1) := by decide +kernel
theorem dX5_digest_8 : decode cX5_digest 8 = .ok (.if_icmp .gt 22, 3) := by decide +kernel
theorem dX5_digest_11 : decode cX5_digest 11 = .ok (.ldc2_w 209, 3) := by decide +kernel
theorem dX5_digest_14 : decode cX5_digest 14 = .ok (.lload_n 1, 1) := by decide +kernel
theorem dX5_digest_15 : decode cX5_digest 15 = .ok (.lmul, 1) := by decide +kernel
theorem dX5_digest_16 : decode cX5_digest 16 = .ok (.aload_n 0, 1) := by decide +kernel
theorem dX5_digest_17 : decode cX5_digest 17 = .ok (.iload_n 3, 1) := by decide +kernel
theorem dX5_digest_18 : decode cX5_digest 18 = .ok (.invokevirtual 204, 3) := by decide +kernel
theorem dX5_digest_21 : decode cX5_digest 21 = .ok (.i2l, 1) := by decide +kernel
theorem dX5_digest_22 : decode cX5_digest 22 = .ok (.ladd, 1) := by decide +kernel
theorem dX5_digest_23 : decode cX5_digest 23 = .ok (.lstore_n 1, 1) := by decide +kernel
theorem dX5_digest_24 : decode cX5_digest 24 = .ok (.iinc 3 1, 3) := by decide +kernel
theorem dX5_digest_27 : decode cX5_digest 27 = .ok (.goto (-21), 3) := by decide +kernel
theorem dX5_digest_30 : decode cX5_digest 30 = .ok (.iconst 0, 1) := by decide +kernel
theorem dX5_digest_31 : decode cX5_digest 31 = .ok (.istore_n 3, 1) := by decide +kernel
theorem dX5_digest_32 : decode cX5_digest 32 = .ok (.iload_n 3, 1) := by decide +kernel
theorem dX5_digest_33 : decode cX5_digest 33 = .ok (.bipush 10, 2) := by decide +kernel
theorem dX5_digest_35 : decode cX5_digest 35 = .ok (.if_icmp .gt 25, 3) := by decide +kernel
theorem dX5_digest_38 : decode cX5_digest 38 = .ok (.ldc2_w 209, 3) := by decide +kernel
theorem dX5_digest_41 : decode cX5_digest 41 = .ok (.lload_n 1, 1) := by decide +kernel
theorem dX5_digest_42 : decode cX5_digest 42 = .ok (.lmul, 1) := by decide +kernel
theorem dX5_digest_43 : decode cX5_digest 43 = .ok (.aload_n 0, 1) := by decide +kernel
theorem dX5_digest_44 : decode cX5_digest 44 = .ok (.getfield 20, 3) := by decide +kernel
theorem dX5_digest_47 : decode cX5_digest 47 = .ok (.iload_n 3, 1) := by decide +kernel
theorem dX5_digest_48 : decode cX5_digest 48 = .ok (.invokevirtual 172, 3) := by decide +kernel
theorem dX5_digest_51 : decode cX5_digest 51 = .ok (.i2l, 1) := by decide +kernel
theorem dX5_digest_52 : decode cX5_digest 52 = .ok (.ladd, 1) := by decide +kernel
theorem dX5_digest_53 : decode cX5_digest 53 = .ok (.lstore_n 1, 1) := by decide +kernel
theorem dX5_digest_54 : decode cX5_digest 54 = .ok (.iinc 3 1, 3) := by decide +kernel
theorem dX5_digest_57 : decode cX5_digest 57 = .ok (.goto (-25), 3) := by decide +kernel
theorem dX5_digest_60 : decode cX5_digest 60 = .ok (.iconst 0, 1) := by decide +kernel
theorem dX5_digest_61 : decode cX5_digest 61 = .ok (.istore_n 3, 1) := by decide +kernel
theorem dX5_digest_62 : decode cX5_digest 62 = .ok (.iload_n 3, 1) := by decide +kernel
theorem dX5_digest_63 : decode cX5_digest 63 = .ok (.iconst 2, 1) := by decide +kernel
theorem dX5_digest_64 : decode cX5_digest 64 = .ok (.if_icmp .ge 62, 3) := by decide +kernel
theorem dX5_digest_67 : decode cX5_digest 67 = .ok (.iconst 0, 1) := by decide +kernel
theorem dX5_digest_68 : decode cX5_digest 68 = .ok (.istore 4, 2) := by decide +kernel
theorem dX5_digest_70 : decode cX5_digest 70 = .ok (.iload 4, 2) := by decide +kernel
theorem dX5_digest_72 : decode cX5_digest 72 = .ok (.aload_n 0, 1) := by decide +kernel
theorem dX5_digest_73 : decode cX5_digest 73 = .ok (.getfield 20, 3) := by decide +kernel
theorem dX5_digest_76 : decode cX5_digest 76 = .ok (.getfield 154, 3) := by decide +kernel
theorem dX5_digest_79 : decode cX5_digest 79 = .ok (.if_icmp .ge 41, 3) := by decide +kernel
theorem dX5_digest_82 : decode cX5_digest 82 = .ok (.iconst 0, 1) := by decide +kernel
theorem dX5_digest_83 : decode cX5_digest 83 = .ok (.istore 5, 2) := by decide +kernel
theorem dX5_digest_85 : decode cX5_digest 85 = .ok (.iload 5, 2) := by decide +kernel
theorem dX5_digest_87 : decode cX5_digest 87 = .ok (.aload_n 0, 1) := by decide +kernel
theorem dX5_digest_88 : decode cX5_digest 88 = .ok (.getfield 20, 3) := by decide +kernel
theorem dX5_digest_91 : decode cX5_digest 91 = .ok (.getfield 157, 3) := by decide +kernel
theorem dX5_digest_94 : decode cX5_digest 94 = .ok (.if_icmp .ge 20, 3) := by decide +kernel
theorem dX5_digest_97 : decode cX5_digest 97 = .ok (.aload_n 0, 1) := by decide +kernel
theorem dX5_digest_98 : decode cX5_digest 98 = .ok (.lload_n 1, 1) := by decide +kernel
theorem dX5_digest_99 : decode cX5_digest 99 = .ok (.iload_n 3, 1) := by decide +kernel
theorem dX5_digest_100 : decode cX5_digest 100 = .ok (.iload 5, 2) := by decide +kernel
theorem dX5_digest_102 : decode cX5_digest 102 = .ok (.iload 4, 2) := by decide +kernel
theorem dX5_digest_104 : decode cX5_digest 104 = .ok (.invokevirtual 211, 3) := by decide +kernel
theorem dX5_digest_107 : decode cX5_digest 107 = .ok (.lstore_n 1, 1) := by decide +kernel
theorem dX5_digest_108 : decode cX5_digest 108 = .ok (.iinc 5 1, 3) := by decide +kernel
theorem dX5_digest_111 : decode cX5_digest 111 = .ok (.goto (-26), 3) := by decide +kernel
theorem dX5_digest_114 : decode cX5_digest 114 = .ok (.iinc 4 1, 3) := by decide +kernel
theorem dX5_digest_117 : decode cX5_digest 117 = .ok (.goto (-47), 3) := by decide +kernel
theorem dX5_digest_120 : decode cX5_digest 120 = .ok (.iinc 3 1, 3) := by decide +kernel
theorem dX5_digest_123 : decode cX5_digest 123 = .ok (.goto (-61), 3) := by decide +kernel
theorem dX5_digest_126 : decode cX5_digest 126 = .ok (.iconst 0, 1) := by decide +kernel
theorem dX5_digest_127 : decode cX5_digest 127 = .ok (.istore_n 3, 1) := by decide +kernel
theorem dX5_digest_128 : decode cX5_digest 128 = .ok (.iload_n 3, 1) := by decide +kernel
theorem dX5_digest_129 : decode cX5_digest 129 = .ok (.iconst 2, 1) := by decide +kernel
theorem dX5_digest_130 : decode cX5_digest 130 = .ok (.if_icmp .ge 24, 3) := by decide +kernel
theorem dX5_digest_133 : decode cX5_digest 133 = .ok (.ldc2_w 209, 3) := by decide +kernel
theorem dX5_digest_136 : decode cX5_digest 136 = .ok (.lload_n 1, 1) := by decide +kernel
theorem dX5_digest_137 : decode cX5_digest 137 = .ok (.lmul, 1) := by decide +kernel
theorem dX5_digest_138 : decode cX5_digest 138 = .ok (.aload_n 0, 1) := by decide +kernel
theorem dX5_digest_139 : decode cX5_digest 139 = .ok (.getfield 12, 3) := by decide +kernel
theorem dX5_digest_142 : decode cX5_digest 142 = .ok (.iload_n 3, 1) := by decide +kernel
theorem dX5_digest_143 : decode cX5_digest 143 = .ok (.invokevirtual 168, 3) := by decide +kernel
theorem dX5_digest_146 : decode cX5_digest 146 = .ok (.ladd, 1) := by decide +kernel
theorem dX5_digest_147 : decode cX5_digest 147 = .ok (.lstore_n 1, 1) := by decide +kernel
theorem dX5_digest_148 : decode cX5_digest 148 = .ok (.iinc 3 1, 3) := by decide +kernel
theorem dX5_digest_151 : decode cX5_digest 151 = .ok (.goto (-23), 3) := by decide +kernel
theorem dX5_digest_154 : decode cX5_digest 154 = .ok (.lload_n 1, 1) := by decide +kernel
theorem dX5_digest_155 : decode cX5_digest 155 = .ok (.lreturn, 1) := by decide +kernel
theorem dX5_digestCell_0 : decode cX5_digestCell 0 = .ok (.lload_n 1, 1) := by decide +kernel
theorem dX5_digestCell_1 : decode cX5_digestCell 1 = .ok (.lstore 6, 2) := by decide +kernel
theorem dX5_digestCell_3 : decode cX5_digestCell 3 = .ok (.aload_n 0, 1) := by decide +kernel
theorem dX5_digestCell_4 : decode cX5_digestCell 4 = .ok (.getfield 20, 3) := by decide +kernel
theorem dX5_digestCell_7 : decode cX5_digestCell 7 = .ok (.iload_n 3, 1) := by decide +kernel
theorem dX5_digestCell_8 : decode cX5_digestCell 8 = .ok (.iload 4, 2) := by decide +kernel
theorem dX5_digestCell_10 : decode cX5_digestCell 10 = .ok (.iload 5, 2) := by decide +kernel
theorem dX5_digestCell_12 : decode cX5_digestCell 12 = .ok (.invokevirtual 71, 3) := by decide +kernel
theorem dX5_digestCell_15 : decode cX5_digestCell 15 = .ok (.istore 8, 2) := by decide +kernel
theorem dX5_digestCell_17 : decode cX5_digestCell 17 = .ok (.iconst 0, 1) := by decide +kernel
theorem dX5_digestCell_18 : decode cX5_digestCell 18 = .ok (.istore 9, 2) := by decide +kernel
theorem dX5_digestCell_20 : decode cX5_digestCell 20 = .ok (.iload 9, 2) := by decide +kernel
theorem dX5_digestCell_22 : decode cX5_digestCell 22 = .ok (.iconst 3, 1) := by decide +kernel
theorem dX5_digestCell_23 : decode cX5_digestCell 23 = .ok (.if_icmp .ge 47, 3) := by decide +kernel
theorem dX5_digestCell_26 : decode cX5_digestCell 26 = .ok (.iconst 0, 1) := by decide +kernel
theorem dX5_digestCell_27 : decode cX5_digestCell 27 = .ok (.istore 10, 2) := by decide +kernel
theorem dX5_digestCell_29 : decode cX5_digestCell 29 = .ok (.iload 10, 2) := by decide +kernel
theorem dX5_digestCell_31 : decode cX5_digestCell 31 = .ok (.iconst 4, 1) := by decide +kernel
theorem dX5_digestCell_32 : decode cX5_digestCell 32 = .ok (.if_icmp .ge 32, 3) := by decide +kernel
theorem dX5_digestCell_35 : decode cX5_digestCell 35 = .ok (.ldc2_w 209, 3) := by decide +kernel
theorem dX5_digestCell_38 : decode cX5_digestCell 38 = .ok (.lload 6, 2) := by decide +kernel
theorem dX5_digestCell_40 : decode cX5_digestCell 40 = .ok (.lmul, 1) := by decide +kernel
theorem dX5_digestCell_41 : decode cX5_digestCell 41 = .ok (.aload_n 0, 1) := by decide +kernel
theorem dX5_digestCell_42 : decode cX5_digestCell 42 = .ok (.getfield 20, 3) := by decide +kernel
theorem dX5_digestCell_45 : decode cX5_digestCell 45 = .ok (.iload 8, 2) := by decide +kernel
theorem dX5_digestCell_47 : decode cX5_digestCell 47 = .ok (.iload 9, 2) := by decide +kernel
theorem dX5_digestCell_49 : decode cX5_digestCell 49 = .ok (.iload 10, 2) := by decide +kernel
theorem dX5_digestCell_51 : decode cX5_digestCell 51 = .ok (.invokevirtual 95, 3) := by decide +kernel
theorem dX5_digestCell_54 : decode cX5_digestCell 54 = .ok (.i2l, 1) := by decide +kernel
theorem dX5_digestCell_55 : decode cX5_digestCell 55 = .ok (.ladd, 1) := by decide +kernel
theorem dX5_digestCell_56 : decode cX5_digestCell 56 = .ok (.lstore 6, 2) := by decide +kernel
theorem dX5_digestCell_58 : decode cX5_digestCell 58 = .ok (.iinc 10 1, 3) := by decide +kernel
theorem dX5_digestCell_61 : decode cX5_digestCell 61 = .ok (.goto (-32), 3) := by decide +kernel
theorem dX5_digestCell_64 : decode cX5_digestCell 64 = .ok (.iinc 9 1, 3) := by decide +kernel
theorem dX5_digestCell_67 : decode cX5_digestCell 67 = .ok (.goto (-47), 3) := by decide +kernel
theorem dX5_digestCell_70 : decode cX5_digestCell 70 = .ok (.aload_n 0, 1) := by decide +kernel
theorem dX5_digestCell_71 : decode cX5_digestCell 71 = .ok (.getfield 12, 3) := by decide +kernel
theorem dX5_digestCell_74 : decode cX5_digestCell 74 = .ok (.iload 8, 2) := by decide +kernel
theorem dX5_digestCell_76 : decode cX5_digestCell 76 = .ok (.invokevirtual 129, 3) := by decide +kernel
theorem dX5_digestCell_79 : decode cX5_digestCell 79 = .ok (.istore 9, 2) := by decide +kernel
theorem dX5_digestCell_81 : decode cX5_digestCell 81 = .ok (.ldc2_w 209, 3) := by decide +kernel
theorem dX5_digestCell_84 : decode cX5_digestCell 84 = .ok (.lload 6, 2) := by decide +kernel
theorem dX5_digestCell_86 : decode cX5_digestCell 86 = .ok (.lmul, 1) := by decide +kernel
theorem dX5_digestCell_87 : decode cX5_digestCell 87 = .ok (.iload 9, 2) := by decide +kernel
theorem dX5_digestCell_89 : decode cX5_digestCell 89 = .ok (.i2l, 1) := by decide +kernel
theorem dX5_digestCell_90 : decode cX5_digestCell 90 = .ok (.ladd, 1) := by decide +kernel
theorem dX5_digestCell_91 : decode cX5_digestCell 91 = .ok (.lstore 6, 2) := by decide +kernel
theorem dX5_digestCell_93 : decode cX5_digestCell 93 = .ok (.iload 9, 2) := by decide +kernel
theorem dX5_digestCell_95 : decode cX5_digestCell 95 = .ok (.ifCond .ne 21, 3) := by decide +kernel
theorem dX5_digestCell_98 : decode cX5_digestCell 98 = .ok (.ldc2_w 209, 3) := by decide +kernel
theorem dX5_digestCell_101 : decode cX5_digestCell 101 = .ok (.lload 6, 2) := by decide +kernel
theorem dX5_digestCell_103 : decode cX5_digestCell 103 = .ok (.lmul, 1) := by decide +kernel
theorem dX5_digestCell_104 : decode cX5_digestCell 104 = .ok (.aload_n 0, 1) := by decide +kernel
theorem dX5_digestCell_105 : decode cX5_digestCell 105 = .ok (.getfield 12, 3) := by decide +kernel
theorem dX5_digestCell_108 : decode cX5_digestCell 108 = .ok (.iload 8, 2) := by decide +kernel
theorem dX5_digestCell_110 : decode cX5_digestCell 110 = .ok (.invokevirtual 132, 3) := by decide +kernel
theorem dX5_digestCell_113 : decode cX5_digestCell 113 = .ok (.i2l, 1) := by decide +kernel
theorem dX5_digestCell_114 : decode cX5_digestCell 114 = .ok (.ladd, 1) := by decide +kernel
theorem dX5_digestCell_115 : decode cX5_digestCell 115 = .ok (.lreturn, 1) := by decide +kernel
theorem dX5_digestCell_116 : decode cX5_digestCell 116 = .ok (.iload 9, 2) := by decide +kernel
theorem dX5_digestCell_118 : decode cX5_digestCell 118 = .ok (.iconst 4, 1) := by decide +kernel
theorem dX5_digestCell_119 : decode cX5_digestCell 119 = .ok (.if_icmp .ne 41, 3) := by decide +kernel
theorem dX5_digestCell_122 : decode cX5_digestCell 122 = .ok (.ldc2_w 209, 3) := by decide +kernel
theorem dX5_digestCell_125 : decode cX5_digestCell 125 = .ok (.lload 6, 2) := by decide +kernel
theorem dX5_digestCell_127 : decode cX5_digestCell 127 = .ok (.lmul, 1) := by decide +kernel
theorem dX5_digestCell_128 : decode cX5_digestCell 128 = .ok (.aload_n 0, 1) := by decide +kernel
theorem dX5_digestCell_129 : decode cX5_digestCell 129 = .ok (.getfield 12, 3) := by decide +kernel
theorem dX5_digestCell_132 : decode cX5_digestCell 132 = .ok (.iload 8, 2) := by decide +kernel
theorem dX5_digestCell_134 : decode cX5_digestCell 134 = .ok (.invokevirtual 138, 3) := by decide +kernel
theorem dX5_digestCell_137 : decode cX5_digestCell 137 = .ok (.i2l, 1) := by decide +kernel
theorem dX5_digestCell_138 : decode cX5_digestCell 138 = .ok (.ladd, 1) := by decide +kernel
theorem dX5_digestCell_139 : decode cX5_digestCell 139 = .ok (.lstore 6, 2) := by decide +kernel
theorem dX5_digestCell_141 : decode cX5_digestCell 141 = .ok (.ldc2_w 209, 3) := by decide +kernel
theorem dX5_digestCell_144 : decode cX5_digestCell 144 = .ok (.lload 6, 2) := by decide +kernel
theorem dX5_digestCell_146 : decode cX5_digestCell 146 = .ok (.lmul, 1) := by decide +kernel
theorem dX5_digestCell_147 : decode cX5_digestCell 147 = .ok (.aload_n 0, 1) := by decide +kernel
theorem dX5_digestCell_148 : decode cX5_digestCell 148 = .ok (.getfield 12, 3) := by decide +kernel
theorem dX5_digestCell_151 : decode cX5_digestCell 151 = .ok (.iload 8, 2) := by decide +kernel
theorem dX5_digestCell_153 : decode cX5_digestCell 153 = .ok (.invokevirtual 141, 3) := by decide +kernel
theorem dX5_digestCell_156 : decode cX5_digestCell 156 = .ok (.i2l, 1) := by decide +kernel
theorem dX5_digestCell_157 : decode cX5_digestCell 157 = .ok (.ladd, 1) := by decide +kernel
theorem dX5_digestCell_158 : decode cX5_digestCell 158 = .ok (.lstore 6, 2) := by decide +kernel
theorem dX5_digestCell_160 : decode cX5_digestCell 160 = .ok (.ldc2_w 209, 3) := by decide +kernel
theorem dX5_digestCell_163 : decode cX5_digestCell 163 = .ok (.lload 6, 2) := by decide +kernel
theorem dX5_digestCell_165 : decode cX5_digestCell 165 = .ok (.lmul, 1) := by decide +kernel
theorem dX5_digestCell_166 : decode cX5_digestCell 166 = .ok (.aload_n 0, 1) := by decide +kernel
theorem dX5_digestCell_167 : decode cX5_digestCell 167 = .ok (.getfield 12, 3) := by decide +kernel
theorem dX5_digestCell_170 : decode cX5_digestCell 170 = .ok (.iload_n 3, 1) := by decide +kernel
theorem dX5_digestCell_171 : decode cX5_digestCell 171 = .ok (.iload 4, 2) := by decide +kernel
theorem dX5_digestCell_173 : decode cX5_digestCell 173 = .ok (.iload 5, 2) := by decide +kernel
theorem dX5_digestCell_175 : decode cX5_digestCell 175 = .ok (.invokevirtual 144, 3) := by decide +kernel
theorem dX5_digestCell_178 : decode cX5_digestCell 178 = .ok (.i2l, 1) := by decide +kernel
theorem dX5_digestCell_179 : decode cX5_digestCell 179 = .ok (.ladd, 1) := by decide +kernel
theorem dX5_digestCell_180 : decode cX5_digestCell 180 = .ok (.lreturn, 1) := by decide +kernel
theorem dX5_tally_0 : decode cX5_tally 0 = .ok (.iload_n 1, 1) := by decide +kernel
theorem dX5_tally_1 : decode cX5_tally 1 = .ok (.tableswitch 54 0 3 #[31, 36, 41, 46], 31) := by decide +kernel
theorem dX5_tally_32 : decode cX5_tally 32 = .ok (.aload_n 0, 1) := by decide +kernel
theorem dX5_tally_33 : decode cX5_tally 33 = .ok (.getfield 44, 3) := by decide +kernel
theorem dX5_tally_36 : decode cX5_tally 36 = .ok (.ireturn, 1) := by decide +kernel
theorem dX5_tally_37 : decode cX5_tally 37 = .ok (.aload_n 0, 1) := by decide +kernel
theorem dX5_tally_38 : decode cX5_tally 38 = .ok (.getfield 47, 3) := by decide +kernel
theorem dX5_tally_41 : decode cX5_tally 41 = .ok (.ireturn, 1) := by decide +kernel
theorem dX5_tally_42 : decode cX5_tally 42 = .ok (.aload_n 0, 1) := by decide +kernel
theorem dX5_tally_43 : decode cX5_tally 43 = .ok (.getfield 50, 3) := by decide +kernel
theorem dX5_tally_46 : decode cX5_tally 46 = .ok (.ireturn, 1) := by decide +kernel
theorem dX5_tally_47 : decode cX5_tally 47 = .ok (.aload_n 0, 1) := by decide +kernel
theorem dX5_tally_48 : decode cX5_tally 48 = .ok (.getfield 40, 3) := by decide +kernel
theorem dX5_tally_51 : decode cX5_tally 51 = .ok (.getfield 179, 3) := by decide +kernel
theorem dX5_tally_54 : decode cX5_tally 54 = .ok (.ireturn, 1) := by decide +kernel
theorem dX5_tally_55 : decode cX5_tally 55 = .ok (.aload_n 0, 1) := by decide +kernel
theorem dX5_tally_56 : decode cX5_tally 56 = .ok (.getfield 33, 3) := by decide +kernel
theorem dX5_tally_59 : decode cX5_tally 59 = .ok (.ireturn, 1) := by decide +kernel
theorem dX5_refuse_0 : decode cX5_refuse 0 = .ok (.iload_n 1, 1) := by decide +kernel
theorem dX5_refuse_1 : decode cX5_refuse 1 = .ok (.sipush (-10002), 3) := by decide +kernel
theorem dX5_refuse_4 : decode cX5_refuse 4 = .ok (.if_icmp .ne 16, 3) := by decide +kernel
theorem dX5_refuse_7 : decode cX5_refuse 7 = .ok (.aload_n 0, 1) := by decide +kernel
theorem dX5_refuse_8 : decode cX5_refuse 8 = .ok (.dup, 1) := by decide +kernel
theorem dX5_refuse_9 : decode cX5_refuse 9 = .ok (.getfield 44, 3) := by decide +kernel
theorem dX5_refuse_12 : decode cX5_refuse 12 = .ok (.iconst 1, 1) := by decide +kernel
theorem dX5_refuse_13 : decode cX5_refuse 13 = .ok (.iadd, 1) := by decide +kernel
theorem dX5_refuse_14 : decode cX5_refuse 14 = .ok (.putfield 44, 3) := by decide +kernel
theorem dX5_refuse_17 : decode cX5_refuse 17 = .ok (.goto 33, 3) := by decide +kernel
theorem dX5_refuse_20 : decode cX5_refuse 20 = .ok (.iload_n 1, 1) := by decide +kernel
theorem dX5_refuse_21 : decode cX5_refuse 21 = .ok (.sipush (-10003), 3) := by decide +kernel
theorem dX5_refuse_24 : decode cX5_refuse 24 = .ok (.if_icmp .ne 16, 3) := by decide +kernel
theorem dX5_refuse_27 : decode cX5_refuse 27 = .ok (.aload_n 0, 1) := by decide +kernel
theorem dX5_refuse_28 : decode cX5_refuse 28 = .ok (.dup, 1) := by decide +kernel
theorem dX5_refuse_29 : decode cX5_refuse 29 = .ok (.getfield 47, 3) := by decide +kernel
theorem dX5_refuse_32 : decode cX5_refuse 32 = .ok (.iconst 1, 1) := by decide +kernel
theorem dX5_refuse_33 : decode cX5_refuse 33 = .ok (.iadd, 1) := by decide +kernel
theorem dX5_refuse_34 : decode cX5_refuse 34 = .ok (.putfield 47, 3) := by decide +kernel
theorem dX5_refuse_37 : decode cX5_refuse 37 = .ok (.goto 13, 3) := by decide +kernel
theorem dX5_refuse_40 : decode cX5_refuse 40 = .ok (.aload_n 0, 1) := by decide +kernel
theorem dX5_refuse_41 : decode cX5_refuse 41 = .ok (.dup, 1) := by decide +kernel
theorem dX5_refuse_42 : decode cX5_refuse 42 = .ok (.getfield 50, 3) := by decide +kernel
theorem dX5_refuse_45 : decode cX5_refuse 45 = .ok (.iconst 1, 1) := by decide +kernel
theorem dX5_refuse_46 : decode cX5_refuse 46 = .ok (.iadd, 1) := by decide +kernel
theorem dX5_refuse_47 : decode cX5_refuse 47 = .ok (.putfield 50, 3) := by decide +kernel
theorem dX5_refuse_50 : decode cX5_refuse 50 = .ok (.iload_n 1, 1) := by decide +kernel
theorem dX5_refuse_51 : decode cX5_refuse 51 = .ok (.ireturn, 1) := by decide +kernel
theorem dX5_settle_0 : decode cX5_settle 0 = .ok (.iload_n 1, 1) := by decide +kernel
theorem dX5_settle_1 : decode cX5_settle 1 = .ok (.sipush (-10002), 3) := by decide +kernel
theorem dX5_settle_4 : decode cX5_settle 4 = .ok (.if_icmp .ne 11, 3) := by decide +kernel
theorem dX5_settle_7 : decode cX5_settle 7 = .ok (.aload_n 0, 1) := by decide +kernel
theorem dX5_settle_8 : decode cX5_settle 8 = .ok (.sipush (-10002), 3) := by decide +kernel
theorem dX5_settle_11 : decode cX5_settle 11 = .ok (.invokevirtual 92, 3) := by decide +kernel
theorem dX5_settle_14 : decode cX5_settle 14 = .ok (.ireturn, 1) := by decide +kernel
theorem dX5_settle_15 : decode cX5_settle 15 = .ok (.aload_n 0, 1) := by decide +kernel
theorem dX5_settle_16 : decode cX5_settle 16 = .ok (.invokevirtual 198, 3) := by decide +kernel
theorem dX5_settle_19 : decode cX5_settle 19 = .ok (.iload_n 1, 1) := by decide +kernel
theorem dX5_settle_20 : decode cX5_settle 20 = .ok (.ireturn, 1) := by decide +kernel
theorem dX5_keepBefore_0 : decode cX5_keepBefore 0 = .ok (.aload_n 0, 1) := by decide +kernel
theorem dX5_keepBefore_1 : decode cX5_keepBefore 1 = .ok (.getfield 33, 3) := by decide +kernel
theorem dX5_keepBefore_4 : decode cX5_keepBefore 4 = .ok (.iconst 5, 1) := by decide +kernel
theorem dX5_keepBefore_5 : decode cX5_keepBefore 5 = .ok (.if_icmp .lt 49, 3) := by decide +kernel
theorem dX5_keepBefore_8 : decode cX5_keepBefore 8 = .ok (.aload_n 0, 1) := by decide +kernel
theorem dX5_keepBefore_9 : decode cX5_keepBefore 9 = .ok (.getfield 29, 3) := by decide +kernel
theorem dX5_keepBefore_12 : decode cX5_keepBefore 12 = .ok (.iconst 0, 1) := by decide +kernel
theorem dX5_keepBefore_13 : decode cX5_keepBefore 13 = .ok (.aaload, 1) := by decide +kernel
theorem dX5_keepBefore_14 : decode cX5_keepBefore 14 = .ok (.astore_n 1, 1) := by decide +kernel
theorem dX5_keepBefore_15 : decode cX5_keepBefore 15 = .ok (.iconst 1, 1) := by decide +kernel
theorem dX5_keepBefore_16 : decode cX5_keepBefore 16 = .ok (.istore_n 2, 1) := by decide +kernel
theorem dX5_keepBefore_17 : decode cX5_keepBefore 17 = .ok (.iload_n 2, 1) := by decide +kernel
theorem dX5_keepBefore_18 : decode cX5_keepBefore 18 = .ok (.iconst 5, 1) := by decide +kernel
theorem dX5_keepBefore_19 : decode cX5_keepBefore 19 = .ok (.if_icmp .ge 23, 3) := by decide +kernel
theorem dX5_keepBefore_22 : decode cX5_keepBefore 22 = .ok (.aload_n 0, 1) := by decide +kernel
theorem dX5_keepBefore_23 : decode cX5_keepBefore 23 = .ok (.getfield 29, 3) := by decide +kernel
theorem dX5_keepBefore_26 : decode cX5_keepBefore 26 = .ok (.iload_n 2, 1) := by decide +kernel
theorem dX5_keepBefore_27 : decode cX5_keepBefore 27 = .ok (.iconst 1, 1) := by decide +kernel
theorem dX5_keepBefore_28 : decode cX5_keepBefore 28 = .ok (.isub, 1) := by decide +kernel
theorem dX5_keepBefore_29 : decode cX5_keepBefore 29 = .ok (.aload_n 0, 1) := by decide +kernel
theorem dX5_keepBefore_30 : decode cX5_keepBefore 30 = .ok (.getfield 29, 3) := by decide +kernel
theorem dX5_keepBefore_33 : decode cX5_keepBefore 33 = .ok (.iload_n 2, 1) := by decide +kernel
theorem dX5_keepBefore_34 : decode cX5_keepBefore 34 = .ok (.aaload, 1) := by decide +kernel
theorem dX5_keepBefore_35 : decode cX5_keepBefore 35 = .ok (.aastore, 1) := by decide +kernel
theorem dX5_keepBefore_36 : decode cX5_keepBefore 36 = .ok (.iinc 2 1, 3) := by decide +kernel
theorem dX5_keepBefore_39 : decode cX5_keepBefore 39 = .ok (.goto (-22), 3) := by decide +kernel
theorem dX5_keepBefore_42 : decode cX5_keepBefore 42 = .ok (.aload_n 0, 1) := by decide +kernel
theorem dX5_keepBefore_43 : decode cX5_keepBefore 43 = .ok (.getfield 29, 3) := by decide +kernel
theorem dX5_keepBefore_46 : decode cX5_keepBefore 46 = .ok (.iconst 4, 1) := by decide +kernel
theorem dX5_keepBefore_47 : decode cX5_keepBefore 47 = .ok (.aload_n 1, 1) := by decide +kernel
theorem dX5_keepBefore_48 : decode cX5_keepBefore 48 = .ok (.aastore, 1) := by decide +kernel
theorem dX5_keepBefore_49 : decode cX5_keepBefore 49 = .ok (.aload_n 0, 1) := by decide +kernel
theorem dX5_keepBefore_50 : decode cX5_keepBefore 50 = .ok (.iconst 4, 1) := by decide +kernel
theorem dX5_keepBefore_51 : decode cX5_keepBefore 51 = .ok (.putfield 33, 3) := by decide +kernel
theorem dX5_keepBefore_54 : decode cX5_keepBefore 54 = .ok (.aload_n 0, 1) := by decide +kernel
theorem dX5_keepBefore_55 : decode cX5_keepBefore 55 = .ok (.getfield 29, 3) := by decide +kernel
theorem dX5_keepBefore_58 : decode cX5_keepBefore 58 = .ok (.aload_n 0, 1) := by decide +kernel
theorem dX5_keepBefore_59 : decode cX5_keepBefore 59 = .ok (.getfield 33, 3) := by decide +kernel
theorem dX5_keepBefore_62 : decode cX5_keepBefore 62 = .ok (.aaload, 1) := by decide +kernel
theorem dX5_keepBefore_63 : decode cX5_keepBefore 63 = .ok (.aload_n 0, 1) := by decide +kernel
theorem dX5_keepBefore_64 : decode cX5_keepBefore 64 = .ok (.getfield 26, 3) := by decide +kernel
theorem dX5_keepBefore_67 : decode cX5_keepBefore 67 = .ok (.invokevirtual 53, 3) := by decide +kernel
theorem dX5_keepBefore_70 : decode cX5_keepBefore 70 = .ok (.aload_n 0, 1) := by decide +kernel
theorem dX5_keepBefore_71 : decode cX5_keepBefore 71 = .ok (.dup, 1) := by decide +kernel
theorem dX5_keepBefore_72 : decode cX5_keepBefore 72 = .ok (.getfield 33, 3) := by decide +kernel
theorem dX5_keepBefore_75 : decode cX5_keepBefore 75 = .ok (.iconst 1, 1) := by decide +kernel
theorem dX5_keepBefore_76 : decode cX5_keepBefore 76 = .ok (.iadd, 1) := by decide +kernel
theorem dX5_keepBefore_77 : decode cX5_keepBefore 77 = .ok (.putfield 33, 3) := by decide +kernel
theorem dX5_keepBefore_80 : decode cX5_keepBefore 80 = .ok (.aload_n 0, 1) := by decide +kernel
theorem dX5_keepBefore_81 : decode cX5_keepBefore 81 = .ok (.getfield 12, 3) := by decide +kernel
theorem dX5_keepBefore_84 : decode cX5_keepBefore 84 = .ok (.invokevirtual 201, 3) := by decide +kernel
theorem dX5_keepBefore_87 : decode cX5_keepBefore 87 = .ok (.return_, 1) := by decide +kernel
theorem dX5_perform_0 : decode cX5_perform 0 = .ok (.aload_n 0, 1) := by decide +kernel
theorem dX5_perform_1 : decode cX5_perform 1 = .ok (.getfield 40, 3) := by decide +kernel
theorem dX5_perform_4 : decode cX5_perform 4 = .ok (.iload_n 1, 1) := by decide +kernel
theorem dX5_perform_5 : decode cX5_perform 5 = .ok (.iconst 1, 1) := by decide +kernel
theorem dX5_perform_6 : decode cX5_perform 6 = .ok (.iadd, 1) := by decide +kernel
theorem dX5_perform_7 : decode cX5_perform 7 = .ok (.invokevirtual 192, 3) := by decide +kernel
theorem dX5_perform_10 : decode cX5_perform 10 = .ok (.istore_n 2, 1) := by decide +kernel
theorem dX5_perform_11 : decode cX5_perform 11 = .ok (.aload_n 0, 1) := by decide +kernel
theorem dX5_perform_12 : decode cX5_perform 12 = .ok (.getfield 40, 3) := by decide +kernel
theorem dX5_perform_15 : decode cX5_perform 15 = .ok (.iload_n 1, 1) := by decide +kernel
theorem dX5_perform_16 : decode cX5_perform 16 = .ok (.iconst 2, 1) := by decide +kernel
theorem dX5_perform_17 : decode cX5_perform 17 = .ok (.iadd, 1) := by decide +kernel
theorem dX5_perform_18 : decode cX5_perform 18 = .ok (.invokevirtual 192, 3) := by decide +kernel
theorem dX5_perform_21 : decode cX5_perform 21 = .ok (.istore_n 3, 1) := by decide +kernel
theorem dX5_perform_22 : decode cX5_perform 22 = .ok (.aload_n 0, 1) := by decide +kernel
theorem dX5_perform_23 : decode cX5_perform 23 = .ok (.getfield 40, 3) := by decide +kernel
theorem dX5_perform_26 : decode cX5_perform 26 = .ok (.iload_n 1, 1) := by decide +kernel
theorem dX5_perform_27 : decode cX5_perform 27 = .ok (.iconst 3, 1) := by decide +kernel
theorem dX5_perform_28 : decode cX5_perform 28 = .ok (.iadd, 1) := by decide +kernel
theorem dX5_perform_29 : decode cX5_perform 29 = .ok (.invokevirtual 192, 3) := by decide +kernel
theorem dX5_perform_32 : decode cX5_perform 32 = .ok (.istore 4, 2) := by decide +kernel
theorem dX5_perform_34 : decode cX5_perform 34 = .ok (.aload_n 0, 1) := by decide +kernel
theorem dX5_perform_35 : decode cX5_perform 35 = .ok (.getfield 40, 3) := by decide +kernel
theorem dX5_perform_38 : decode cX5_perform 38 = .ok (.iload_n 1, 1) := by decide +kernel
theorem dX5_perform_39 : decode cX5_perform 39 = .ok (.invokevirtual 192, 3) := by decide +kernel
theorem dX5_perform_42 : decode cX5_perform 42 = .ok (.tableswitch 211 99 118 #[192, 211, 124, 211, 94, 211, 211, 211, 211, 163, 211, 211, 211, 211, 211, 211, 114, 211, 211, 104], 94) := by decide +kernel
theorem dX5_perform_136 : decode cX5_perform 136 = .ok (.aload_n 0, 1) := by decide +kernel
theorem dX5_perform_137 : decode cX5_perform 137 = .ok (.getfield 20, 3) := by decide +kernel
theorem dX5_perform_140 : decode cX5_perform 140 = .ok (.iload_n 2, 1) := by decide +kernel
theorem dX5_perform_141 : decode cX5_perform 141 = .ok (.iload_n 3, 1) := by decide +kernel
theorem dX5_perform_142 : decode cX5_perform 142 = .ok (.invokevirtual 57, 3) := by decide +kernel
theorem dX5_perform_145 : decode cX5_perform 145 = .ok (.ireturn, 1) := by decide +kernel
theorem dX5_perform_146 : decode cX5_perform 146 = .ok (.aload_n 0, 1) := by decide +kernel
theorem dX5_perform_147 : decode cX5_perform 147 = .ok (.getfield 20, 3) := by decide +kernel
theorem dX5_perform_150 : decode cX5_perform 150 = .ok (.iload_n 2, 1) := by decide +kernel
theorem dX5_perform_151 : decode cX5_perform 151 = .ok (.iload_n 3, 1) := by decide +kernel
theorem dX5_perform_152 : decode cX5_perform 152 = .ok (.invokevirtual 65, 3) := by decide +kernel
theorem dX5_perform_155 : decode cX5_perform 155 = .ok (.ireturn, 1) := by decide +kernel
theorem dX5_perform_156 : decode cX5_perform 156 = .ok (.aload_n 0, 1) := by decide +kernel
theorem dX5_perform_157 : decode cX5_perform 157 = .ok (.getfield 20, 3) := by decide +kernel
theorem dX5_perform_160 : decode cX5_perform 160 = .ok (.iload_n 2, 1) := by decide +kernel
theorem dX5_perform_161 : decode cX5_perform 161 = .ok (.iload_n 3, 1) := by decide +kernel
theorem dX5_perform_162 : decode cX5_perform 162 = .ok (.invokevirtual 68, 3) := by decide +kernel
theorem dX5_perform_165 : decode cX5_perform 165 = .ok (.ireturn, 1) := by decide +kernel
theorem dX5_perform_166 : decode cX5_perform 166 = .ok (.aload_n 0, 1) := by decide +kernel
theorem dX5_perform_167 : decode cX5_perform 167 = .ok (.getfield 20, 3) := by decide +kernel
theorem dX5_perform_170 : decode cX5_perform 170 = .ok (.aload_n 0, 1) := by decide +kernel
theorem dX5_perform_171 : decode cX5_perform 171 = .ok (.getfield 20, 3) := by decide +kernel
theorem dX5_perform_174 : decode cX5_perform 174 = .ok (.iload_n 2, 1) := by decide +kernel
theorem dX5_perform_175 : decode cX5_perform 175 = .ok (.iload_n 3, 1) := by decide +kernel
theorem dX5_perform_176 : decode cX5_perform 176 = .ok (.iload 4, 2) := by decide +kernel
theorem dX5_perform_178 : decode cX5_perform 178 = .ok (.invokevirtual 71, 3) := by decide +kernel
theorem dX5_perform_181 : decode cX5_perform 181 = .ok (.aload_n 0, 1) := by decide +kernel
theorem dX5_perform_182 : decode cX5_perform 182 = .ok (.getfield 40, 3) := by decide +kernel
theorem dX5_perform_185 : decode cX5_perform 185 = .ok (.iload_n 1, 1) := by decide +kernel
theorem dX5_perform_186 : decode cX5_perform 186 = .ok (.iconst 4, 1) := by decide +kernel
theorem dX5_perform_187 : decode cX5_perform 187 = .ok (.iadd, 1) := by decide +kernel
theorem dX5_perform_188 : decode cX5_perform 188 = .ok (.invokevirtual 192, 3) := by decide +kernel
theorem dX5_perform_191 : decode cX5_perform 191 = .ok (.aload_n 0, 1) := by decide +kernel
theorem dX5_perform_192 : decode cX5_perform 192 = .ok (.getfield 40, 3) := by decide +kernel
theorem dX5_perform_195 : decode cX5_perform 195 = .ok (.iload_n 1, 1) := by decide +kernel
theorem dX5_perform_196 : decode cX5_perform 196 = .ok (.iconst 5, 1) := by decide +kernel
theorem dX5_perform_197 : decode cX5_perform 197 = .ok (.iadd, 1) := by decide +kernel
theorem dX5_perform_198 : decode cX5_perform 198 = .ok (.invokevirtual 192, 3) := by decide +kernel
theorem dX5_perform_201 : decode cX5_perform 201 = .ok (.invokevirtual 79, 3) := by decide +kernel
theorem dX5_perform_204 : decode cX5_perform 204 = .ok (.ireturn, 1) := by decide +kernel
theorem dX5_perform_205 : decode cX5_perform 205 = .ok (.aload_n 0, 1) := by decide +kernel
theorem dX5_perform_206 : decode cX5_perform 206 = .ok (.getfield 20, 3) := by decide +kernel
theorem dX5_perform_209 : decode cX5_perform 209 = .ok (.aload_n 0, 1) := by decide +kernel
theorem dX5_perform_210 : decode cX5_perform 210 = .ok (.getfield 20, 3) := by decide +kernel
theorem dX5_perform_213 : decode cX5_perform 213 = .ok (.iload_n 2, 1) := by decide +kernel
theorem dX5_perform_214 : decode cX5_perform 214 = .ok (.iload_n 3, 1) := by decide +kernel
theorem dX5_perform_215 : decode cX5_perform 215 = .ok (.iload 4, 2) := by decide +kernel
theorem dX5_perform_217 : decode cX5_perform 217 = .ok (.invokevirtual 71, 3) := by decide +kernel
theorem dX5_perform_220 : decode cX5_perform 220 = .ok (.aload_n 0, 1) := by decide +kernel
theorem dX5_perform_221 : decode cX5_perform 221 = .ok (.getfield 40, 3) := by decide +kernel
theorem dX5_perform_224 : decode cX5_perform 224 = .ok (.iload_n 1, 1) := by decide +kernel
theorem dX5_perform_225 : decode cX5_perform 225 = .ok (.iconst 4, 1) := by decide +kernel
theorem dX5_perform_226 : decode cX5_perform 226 = .ok (.iadd, 1) := by decide +kernel
theorem dX5_perform_227 : decode cX5_perform 227 = .ok (.invokevirtual 192, 3) := by decide +kernel
theorem dX5_perform_230 : decode cX5_perform 230 = .ok (.invokevirtual 82, 3) := by decide +kernel
theorem dX5_perform_233 : decode cX5_perform 233 = .ok (.ireturn, 1) := by decide +kernel
theorem dX5_perform_234 : decode cX5_perform 234 = .ok (.aload_n 0, 1) := by decide +kernel
theorem dX5_perform_235 : decode cX5_perform 235 = .ok (.getfield 20, 3) := by decide +kernel
theorem dX5_perform_238 : decode cX5_perform 238 = .ok (.aload_n 0, 1) := by decide +kernel
theorem dX5_perform_239 : decode cX5_perform 239 = .ok (.getfield 20, 3) := by decide +kernel
theorem dX5_perform_242 : decode cX5_perform 242 = .ok (.iload_n 2, 1) := by decide +kernel
theorem dX5_perform_243 : decode cX5_perform 243 = .ok (.iload_n 3, 1) := by decide +kernel
theorem dX5_perform_244 : decode cX5_perform 244 = .ok (.iload 4, 2) := by decide +kernel
theorem dX5_perform_246 : decode cX5_perform 246 = .ok (.invokevirtual 71, 3) := by decide +kernel
theorem dX5_perform_249 : decode cX5_perform 249 = .ok (.invokevirtual 85, 3) := by decide +kernel
theorem dX5_perform_252 : decode cX5_perform 252 = .ok (.ireturn, 1) := by decide +kernel
theorem dX5_perform_253 : decode cX5_perform 253 = .ok (.sipush (-10002), 3) := by decide +kernel
theorem dX5_perform_256 : decode cX5_perform 256 = .ok (.ireturn, 1) := by decide +kernel
theorem dX5_within_0 : decode cX5_within 0 = .ok (.iload_n 0, 1) := by decide +kernel
theorem dX5_within_1 : decode cX5_within 1 = .ok (.iload_n 1, 1) := by decide +kernel
theorem dX5_within_2 : decode cX5_within 2 = .ok (.if_icmp .lt 12, 3) := by decide +kernel
theorem dX5_within_5 : decode cX5_within 5 = .ok (.iload_n 0, 1) := by decide +kernel
theorem dX5_within_6 : decode cX5_within 6 = .ok (.iload_n 2, 1) := by decide +kernel
theorem dX5_within_7 : decode cX5_within 7 = .ok (.if_icmp .gt 7, 3) := by decide +kernel
theorem dX5_within_10 : decode cX5_within 10 = .ok (.iconst 1, 1) := by decide +kernel
theorem dX5_within_11 : decode cX5_within 11 = .ok (.goto 4, 3) := by decide +kernel
theorem dX5_within_14 : decode cX5_within 14 = .ok (.iconst 0, 1) := by decide +kernel
theorem dX5_within_15 : decode cX5_within 15 = .ok (.ireturn, 1) := by decide +kernel
end
section
theorem dX6_init_0 : decode cX6_init 0 = .ok (.aload_n 0, 1) := by decide +kernel
theorem dX6_init_1 : decode cX6_init 1 = .ok (.invokespecial 1, 3) := by decide +kernel
theorem dX6_init_4 : decode cX6_init 4 = .ok (.aload_n 0, 1) := by decide +kernel
theorem dX6_init_5 : decode cX6_init 5 = .ok (.sipush 395, 3) := by decide +kernel
theorem dX6_init_8 : decode cX6_init 8 = .ok (.newarray .int, 2) := by decide +kernel
theorem dX6_init_10 : decode cX6_init 10 = .ok (.putfield 7, 3) := by decide +kernel
theorem dX6_init_13 : decode cX6_init 13 = .ok (.aload_n 0, 1) := by decide +kernel
theorem dX6_init_14 : decode cX6_init 14 = .ok (.sipush 395, 3) := by decide +kernel
theorem dX6_init_17 : decode cX6_init 17 = .ok (.newarray .int, 2) := by decide +kernel
theorem dX6_init_19 : decode cX6_init 19 = .ok (.putfield 13, 3) := by decide +kernel
theorem dX6_init_22 : decode cX6_init 22 = .ok (.aload_n 0, 1) := by decide +kernel
theorem dX6_init_23 : decode cX6_init 23 = .ok (.sipush 1975, 3) := by decide +kernel
theorem dX6_init_26 : decode cX6_init 26 = .ok (.newarray .int, 2) := by decide +kernel
theorem dX6_init_28 : decode cX6_init 28 = .ok (.putfield 16, 3) := by decide +kernel
theorem dX6_init_31 : decode cX6_init 31 = .ok (.aload_n 0, 1) := by decide +kernel
theorem dX6_init_32 : decode cX6_init 32 = .ok (.iconst 3, 1) := by decide +kernel
theorem dX6_init_33 : decode cX6_init 33 = .ok (.newarray .int, 2) := by decide +kernel
theorem dX6_init_35 : decode cX6_init 35 = .ok (.putfield 19, 3) := by decide +kernel
theorem dX6_init_38 : decode cX6_init 38 = .ok (.aload_n 0, 1) := by decide +kernel
theorem dX6_init_39 : decode cX6_init 39 = .ok (.sipush 150, 3) := by decide +kernel
theorem dX6_init_42 : decode cX6_init 42 = .ok (.newarray .int, 2) := by decide +kernel
theorem dX6_init_44 : decode cX6_init 44 = .ok (.putfield 22, 3) := by decide +kernel
theorem dX6_init_47 : decode cX6_init 47 = .ok (.aload_n 0, 1) := by decide +kernel
theorem dX6_init_48 : decode cX6_init 48 = .ok (.iconst 3, 1) := by decide +kernel
theorem dX6_init_49 : decode cX6_init 49 = .ok (.newarray .int, 2) := by decide +kernel
theorem dX6_init_51 : decode cX6_init 51 = .ok (.putfield 25, 3) := by decide +kernel
theorem dX6_init_54 : decode cX6_init 54 = .ok (.aload_n 0, 1) := by decide +kernel
theorem dX6_init_55 : decode cX6_init 55 = .ok (.bipush 16, 2) := by decide +kernel
theorem dX6_init_57 : decode cX6_init 57 = .ok (.newarray .int, 2) := by decide +kernel
theorem dX6_init_59 : decode cX6_init 59 = .ok (.putfield 28, 3) := by decide +kernel
theorem dX6_init_62 : decode cX6_init 62 = .ok (.aload_n 0, 1) := by decide +kernel
theorem dX6_init_63 : decode cX6_init 63 = .ok (.bipush 16, 2) := by decide +kernel
theorem dX6_init_65 : decode cX6_init 65 = .ok (.newarray .int, 2) := by decide +kernel
theorem dX6_init_67 : decode cX6_init 67 = .ok (.putfield 31, 3) := by decide +kernel
theorem dX6_init_70 : decode cX6_init 70 = .ok (.aload_n 0, 1) := by decide +kernel
theorem dX6_init_71 : decode cX6_init 71 = .ok (.bipush 16, 2) := by decide +kernel
theorem dX6_init_73 : decode cX6_init 73 = .ok (.newarray .int, 2) := by decide +kernel
theorem dX6_init_75 : decode cX6_init 75 = .ok (.putfield 34, 3) := by decide +kernel
theorem dX6_init_78 : decode cX6_init 78 = .ok (.aload_n 0, 1) := by decide +kernel
theorem dX6_init_79 : decode cX6_init 79 = .ok (.bipush 16, 2) := by decide +kernel
theorem dX6_init_81 : decode cX6_init 81 = .ok (.newarray .int, 2) := by decide +kernel
theorem dX6_init_83 : decode cX6_init 83 = .ok (.putfield 37, 3) := by decide +kernel
theorem dX6_init_86 : decode cX6_init 86 = .ok (.aload_n 0, 1) := by decide +kernel
theorem dX6_init_87 : decode cX6_init 87 = .ok (.bipush 75, 2) := by decide +kernel
theorem dX6_init_89 : decode cX6_init 89 = .ok (.newarray .int, 2) := by decide +kernel
theorem dX6_init_91 : decode cX6_init 91 = .ok (.putfield 40, 3) := by decide +kernel
theorem dX6_init_94 : decode cX6_init 94 = .ok (.aload_n 0, 1) := by decide +kernel
theorem dX6_init_95 : decode cX6_init 95 = .ok (.sipush 375, 3) := by decide +kernel
theorem dX6_init_98 : decode cX6_init 98 = .ok (.newarray .int, 2) := by decide +kernel
theorem dX6_init_100 : decode cX6_init 100 = .ok (.putfield 43, 3) := by decide +kernel
theorem dX6_init_103 : decode cX6_init 103 = .ok (.aload_n 0, 1) := by decide +kernel
theorem dX6_init_104 : decode cX6_init 104 = .ok (.getfield 7, 3) := by decide +kernel
theorem dX6_init_107 : decode cX6_init 107 = .ok (.iconst 0, 1) := by decide +kernel
theorem dX6_init_108 : decode cX6_init 108 = .ok (.iconst 3, 1) := by decide +kernel
theorem dX6_init_109 : decode cX6_init 109 = .ok (.iastore, 1) := by decide +kernel
theorem dX6_init_110 : decode cX6_init 110 = .ok (.aload_n 0, 1) := by decide +kernel
theorem dX6_init_111 : decode cX6_init 111 = .ok (.getfield 7, 3) := by decide +kernel
theorem dX6_init_114 : decode cX6_init 114 = .ok (.iconst 1, 1) := by decide +kernel
theorem dX6_init_115 : decode cX6_init 115 = .ok (.iconst 3, 1) := by decide +kernel
theorem dX6_init_116 : decode cX6_init 116 = .ok (.iastore, 1) := by decide +kernel
theorem dX6_init_117 : decode cX6_init 117 = .ok (.aload_n 0, 1) := by decide +kernel
theorem dX6_init_118 : decode cX6_init 118 = .ok (.getfield 7, 3) := by decide +kernel
theorem dX6_init_121 : decode cX6_init 121 = .ok (.iconst 2, 1) := by decide +kernel
theorem dX6_init_122 : decode cX6_init 122 = .ok (.sipush 500, 3) := by decide +kernel
theorem dX6_init_125 : decode cX6_init 125 = .ok (.iastore, 1) := by decide +kernel
theorem dX6_init_126 : decode cX6_init 126 = .ok (.aload_n 0, 1) := by decide +kernel
theorem dX6_init_127 : decode cX6_init 127 = .ok (.getfield 7, 3) := by decide +kernel
theorem dX6_init_130 : decode cX6_init 130 = .ok (.iconst 3, 1) := by decide +kernel
theorem dX6_init_131 : decode cX6_init 131 = .ok (.sipush 700, 3) := by decide +kernel
theorem dX6_init_134 : decode cX6_init 134 = .ok (.iastore, 1) := by decide +kernel
theorem dX6_init_135 : decode cX6_init 135 = .ok (.aload_n 0, 1) := by decide +kernel
theorem dX6_init_136 : decode cX6_init 136 = .ok (.getfield 7, 3) := by decide +kernel
theorem dX6_init_139 : decode cX6_init 139 = .ok (.iconst 4, 1) := by decide +kernel
theorem dX6_init_140 : decode cX6_init 140 = .ok (.sipush 1100, 3) := by decide +kernel
theorem dX6_init_143 : decode cX6_init 143 = .ok (.iastore, 1) := by decide +kernel
theorem dX6_init_144 : decode cX6_init 144 = .ok (.aload_n 0, 1) := by decide +kernel
theorem dX6_init_145 : decode cX6_init 145 = .ok (.getfield 7, 3) := by decide +kernel
theorem dX6_init_148 : decode cX6_init 148 = .ok (.iconst 5, 1) := by decide +kernel
theorem dX6_init_149 : decode cX6_init 149 = .ok (.iconst 4, 1) := by decide +kernel
theorem dX6_init_150 : decode cX6_init 150 = .ok (.iastore, 1) := by decide +kernel
theorem dX6_init_151 : decode cX6_init 151 = .ok (.aload_n 0, 1) := by decide +kernel
theorem dX6_init_152 : decode cX6_init 152 = .ok (.getfield 7, 3) := by decide +kernel
theorem dX6_init_155 : decode cX6_init 155 = .ok (.bipush 6, 2) := by decide +kernel
theorem dX6_init_157 : decode cX6_init 157 = .ok (.bipush 20, 2) := by decide +kernel
theorem dX6_init_159 : decode cX6_init 159 = .ok (.iastore, 1) := by decide +kernel
theorem dX6_init_160 : decode cX6_init 160 = .ok (.aload_n 0, 1) := by decide +kernel
theorem dX6_init_161 : decode cX6_init 161 = .ok (.getfield 7, 3) := by decide +kernel
theorem dX6_init_164 : decode cX6_init 164 = .ok (.bipush 7, 2) := by decide +kernel
theorem dX6_init_166 : decode cX6_init 166 = .ok (.sipush 4000, 3) := by decide +kernel
theorem dX6_init_169 : decode cX6_init 169 = .ok (.iastore, 1) := by decide +kernel
theorem dX6_init_170 : decode cX6_init 170 = .ok (.aload_n 0, 1) := by decide +kernel
theorem dX6_init_171 : decode cX6_init 171 = .ok (.getfield 7, 3) := by decide +kernel
theorem dX6_init_174 : decode cX6_init 174 = .ok (.bipush 8, 2) := by decide +kernel
theorem dX6_init_176 : decode cX6_init 176 = .ok (.sipush 5000, 3) := by decide +kernel
theorem dX6_init_179 : decode cX6_init 179 = .ok (.iastore, 1) := by decide +kernel
theorem dX6_init_180 : decode cX6_init 180 = .ok (.aload_n 0, 1) := by decide +kernel
theorem dX6_init_181 : decode cX6_init 181 = .ok (.getfield 7, 3) := by decide +kernel
theorem dX6_init_184 : decode cX6_init 184 = .ok (.bipush 9, 2) := by decide +kernel
theorem dX6_init_186 : decode cX6_init 186 = .ok (.bipush 50, 2) := by decide +kernel
theorem dX6_init_188 : decode cX6_init 188 = .ok (.iastore, 1) := by decide +kernel
theorem dX6_init_189 : decode cX6_init 189 = .ok (.aload_n 0, 1) := by decide +kernel
theorem dX6_init_190 : decode cX6_init 190 = .ok (.getfield 7, 3) := by decide +kernel
theorem dX6_init_193 : decode cX6_init 193 = .ok (.bipush 10, 2) := by decide +kernel
theorem dX6_init_195 : decode cX6_init 195 = .ok (.bipush 10, 2) := by decide +kernel
theorem dX6_init_197 : decode cX6_init 197 = .ok (.iastore, 1) := by decide +kernel
theorem dX6_init_198 : decode cX6_init 198 = .ok (.return_, 1) := by decide +kernel
theorem dX6_in_0 : decode cX6_in 0 = .ok (.iload_n 0, 1) := by decide +kernel
theorem dX6_in_1 : decode cX6_in 1 = .ok (.iload_n 1, 1) := by decide +kernel
theorem dX6_in_2 : decode cX6_in 2 = .ok (.if_icmp .lt 12, 3) := by decide +kernel
theorem dX6_in_5 : decode cX6_in 5 = .ok (.iload_n 0, 1) := by decide +kernel
theorem dX6_in_6 : decode cX6_in 6 = .ok (.iload_n 2, 1) := by decide +kernel
theorem dX6_in_7 : decode cX6_in 7 = .ok (.if_icmp .gt 7, 3) := by decide +kernel
theorem dX6_in_10 : decode cX6_in 10 = .ok (.iconst 1, 1) := by decide +kernel
theorem dX6_in_11 : decode cX6_in 11 = .ok (.goto 4, 3) := by decide +kernel
theorem dX6_in_14 : decode cX6_in 14 = .ok (.iconst 0, 1) := by decide +kernel
theorem dX6_in_15 : decode cX6_in 15 = .ok (.ireturn, 1) := by decide +kernel
theorem dX6_bad_0 : decode cX6_bad 0 = .ok (.aload_n 0, 1) := by decide +kernel
theorem dX6_bad_1 : decode cX6_bad 1 = .ok (.getfield 19, 3) := by decide +kernel
theorem dX6_bad_4 : decode cX6_bad 4 = .ok (.iconst 0, 1) := by decide +kernel
theorem dX6_bad_5 : decode cX6_bad 5 = .ok (.dup2, 1) := by decide +kernel
theorem dX6_bad_6 : decode cX6_bad 6 = .ok (.iaload, 1) := by decide +kernel
theorem dX6_bad_7 : decode cX6_bad 7 = .ok (.iconst 1, 1) := by decide +kernel
theorem dX6_bad_8 : decode cX6_bad 8 = .ok (.iadd, 1) := by decide +kernel
theorem dX6_bad_9 : decode cX6_bad 9 = .ok (.iastore, 1) := by decide +kernel
theorem dX6_bad_10 : decode cX6_bad 10 = .ok (.sipush (-10002), 3) := by decide +kernel
theorem dX6_bad_13 : decode cX6_bad 13 = .ok (.ireturn, 1) := by decide +kernel
theorem dX6_no_0 : decode cX6_no 0 = .ok (.aload_n 0, 1) := by decide +kernel
theorem dX6_no_1 : decode cX6_no 1 = .ok (.getfield 19, 3) := by decide +kernel
theorem dX6_no_4 : decode cX6_no 4 = .ok (.iconst 1, 1) := by decide +kernel
theorem dX6_no_5 : decode cX6_no 5 = .ok (.dup2, 1) := by decide +kernel
theorem dX6_no_6 : decode cX6_no 6 = .ok (.iaload, 1) := by decide +kernel
theorem dX6_no_7 : decode cX6_no 7 = .ok (.iconst 1, 1) := by decide +kernel
theorem dX6_no_8 : decode cX6_no 8 = .ok (.iadd, 1) := by decide +kernel
theorem dX6_no_9 : decode cX6_no 9 = .ok (.iastore, 1) := by decide +kernel
theorem dX6_no_10 : decode cX6_no 10 = .ok (.sipush (-10003), 3) := by decide +kernel
theorem dX6_no_13 : decode cX6_no 13 = .ok (.ireturn, 1) := by decide +kernel
theorem dX6_laysAside_0 : decode cX6_laysAside 0 = .ok (.iconst 0, 1) := by decide +kernel
theorem dX6_laysAside_1 : decode cX6_laysAside 1 = .ok (.istore_n 1, 1) := by decide +kernel
theorem dX6_laysAside_2 : decode cX6_laysAside 2 = .ok (.iload_n 1, 1) := by decide +kernel
theorem dX6_laysAside_3 : decode cX6_laysAside 3 = .ok (.sipush 395, 3) := by decide +kernel
theorem dX6_laysAside_6 : decode cX6_laysAside 6 = .ok (.if_icmp .ge 21, 3) := by decide +kernel
theorem dX6_laysAside_9 : decode cX6_laysAside 9 = .ok (.aload_n 0, 1) := by decide +kernel
theorem dX6_laysAside_10 : decode cX6_laysAside 10 = .ok (.getfield 13, 3) := by decide +kernel
theorem dX6_laysAside_13 : decode cX6_laysAside 13 = .ok (.iload_n 1, 1) := by decide +kernel
theorem dX6_laysAside_14 : decode cX6_laysAside 14 = .ok (.aload_n 0, 1) := by decide +kernel
theorem dX6_laysAside_15 : decode cX6_laysAside 15 = .ok (.getfield 7, 3) := by decide +kernel
theorem dX6_laysAside_18 : decode cX6_laysAside 18 = .ok (.iload_n 1, 1) := by decide +kernel
theorem dX6_laysAside_19 : decode cX6_laysAside 19 = .ok (.iaload, 1) := by decide +kernel
theorem dX6_laysAside_20 : decode cX6_laysAside 20 = .ok (.iastore, 1) := by decide +kernel
theorem dX6_laysAside_21 : decode cX6_laysAside 21 = .ok (.iinc 1 1, 3) := by decide +kernel
theorem dX6_laysAside_24 : decode cX6_laysAside 24 = .ok (.goto (-22), 3) := by decide +kernel
theorem dX6_laysAside_27 : decode cX6_laysAside 27 = .ok (.return_, 1) := by decide +kernel
theorem dX6_remembers_0 : decode cX6_remembers 0 = .ok (.aload_n 0, 1) := by decide +kernel
theorem dX6_remembers_1 : decode cX6_remembers 1 = .ok (.getfield 46, 3) := by decide +kernel
theorem dX6_remembers_4 : decode cX6_remembers 4 = .ok (.iconst 5, 1) := by decide +kernel
theorem dX6_remembers_5 : decode cX6_remembers 5 = .ok (.if_icmp .ne 44, 3) := by decide +kernel
theorem dX6_remembers_8 : decode cX6_remembers 8 = .ok (.iconst 0, 1) := by decide +kernel
theorem dX6_remembers_9 : decode cX6_remembers 9 = .ok (.istore_n 1, 1) := by decide +kernel
theorem dX6_remembers_10 : decode cX6_remembers 10 = .ok (.iload_n 1, 1) := by decide +kernel
theorem dX6_remembers_11 : decode cX6_remembers 11 = .ok (.sipush 1580, 3) := by decide +kernel
theorem dX6_remembers_14 : decode cX6_remembers 14 = .ok (.if_icmp .ge 25, 3) := by decide +kernel
theorem dX6_remembers_17 : decode cX6_remembers 17 = .ok (.aload_n 0, 1) := by decide +kernel
theorem dX6_remembers_18 : decode cX6_remembers 18 = .ok (.getfield 16, 3) := by decide +kernel
theorem dX6_remembers_21 : decode cX6_remembers 21 = .ok (.iload_n 1, 1) := by decide +kernel
theorem dX6_remembers_22 : decode cX6_remembers 22 = .ok (.aload_n 0, 1) := by decide +kernel
theorem dX6_remembers_23 : decode cX6_remembers 23 = .ok (.getfield 16, 3) := by decide +kernel
theorem dX6_remembers_26 : decode cX6_remembers 26 = .ok (.iload_n 1, 1) := by decide +kernel
theorem dX6_remembers_27 : decode cX6_remembers 27 = .ok (.sipush 395, 3) := by decide +kernel
theorem dX6_remembers_30 : decode cX6_remembers 30 = .ok (.iadd, 1) := by decide +kernel
theorem dX6_remembers_31 : decode cX6_remembers 31 = .ok (.iaload, 1) := by decide +kernel
theorem dX6_remembers_32 : decode cX6_remembers 32 = .ok (.iastore, 1) := by decide +kernel
theorem dX6_remembers_33 : decode cX6_remembers 33 = .ok (.iinc 1 1, 3) := by decide +kernel
theorem dX6_remembers_36 : decode cX6_remembers 36 = .ok (.goto (-26), 3) := by decide +kernel
theorem dX6_remembers_39 : decode cX6_remembers 39 = .ok (.aload_n 0, 1) := by decide +kernel
theorem dX6_remembers_40 : decode cX6_remembers 40 = .ok (.dup, 1) := by decide +kernel
theorem dX6_remembers_41 : decode cX6_remembers 41 = .ok (.getfield 46, 3) := by decide +kernel
theorem dX6_remembers_44 : decode cX6_remembers 44 = .ok (.iconst 1, 1) := by decide +kernel
theorem dX6_remembers_45 : decode cX6_remembers 45 = .ok (.isub, 1) := by decide +kernel
theorem dX6_remembers_46 : decode cX6_remembers 46 = .ok (.putfield 46, 3) := by decide +kernel
theorem dX6_remembers_49 : decode cX6_remembers 49 = .ok (.iconst 0, 1) := by decide +kernel
theorem dX6_remembers_50 : decode cX6_remembers 50 = .ok (.istore_n 1, 1) := by decide +kernel
theorem dX6_remembers_51 : decode cX6_remembers 51 = .ok (.iload_n 1, 1) := by decide +kernel
theorem dX6_remembers_52 : decode cX6_remembers 52 = .ok (.sipush 395, 3) := by decide +kernel
theorem dX6_remembers_55 : decode cX6_remembers 55 = .ok (.if_icmp .ge 30, 3) := by decide +kernel
theorem dX6_remembers_58 : decode cX6_remembers 58 = .ok (.aload_n 0, 1) := by decide +kernel
theorem dX6_remembers_59 : decode cX6_remembers 59 = .ok (.getfield 16, 3) := by decide +kernel
theorem dX6_remembers_62 : decode cX6_remembers 62 = .ok (.sipush 395, 3) := by decide +kernel
theorem dX6_remembers_65 : decode cX6_remembers 65 = .ok (.aload_n 0, 1) := by decide +kernel
theorem dX6_remembers_66 : decode cX6_remembers 66 = .ok (.getfield 46, 3) := by decide +kernel
theorem dX6_remembers_69 : decode cX6_remembers 69 = .ok (.imul, 1) := by decide +kernel
theorem dX6_remembers_70 : decode cX6_remembers 70 = .ok (.iload_n 1, 1) := by decide +kernel
theorem dX6_remembers_71 : decode cX6_remembers 71 = .ok (.iadd, 1) := by decide +kernel
theorem dX6_remembers_72 : decode cX6_remembers 72 = .ok (.aload_n 0, 1) := by decide +kernel
theorem dX6_remembers_73 : decode cX6_remembers 73 = .ok (.getfield 13, 3) := by decide +kernel
theorem dX6_remembers_76 : decode cX6_remembers 76 = .ok (.iload_n 1, 1) := by decide +kernel
theorem dX6_remembers_77 : decode cX6_remembers 77 = .ok (.iaload, 1) := by decide +kernel
theorem dX6_remembers_78 : decode cX6_remembers 78 = .ok (.iastore, 1) := by decide +kernel
theorem dX6_remembers_79 : decode cX6_remembers 79 = .ok (.iinc 1 1, 3) := by decide +kernel
theorem dX6_remembers_82 : decode cX6_remembers 82 = .ok (.goto (-31), 3) := by decide +kernel
theorem dX6_remembers_85 : decode cX6_remembers 85 = .ok (.aload_n 0, 1) := by decide +kernel
theorem dX6_remembers_86 : decode cX6_remembers 86 = .ok (.dup, 1) := by decide +kernel
theorem dX6_remembers_87 : decode cX6_remembers 87 = .ok (.getfield 46, 3) := by decide +kernel
theorem dX6_remembers_90 : decode cX6_remembers 90 = .ok (.iconst 1, 1) := by decide +kernel
theorem dX6_remembers_91 : decode cX6_remembers 91 = .ok (.iadd, 1) := by decide +kernel
theorem dX6_remembers_92 : decode cX6_remembers 92 = .ok (.putfield 46, 3) := by decide +kernel
theorem dX6_remembers_95 : decode cX6_remembers 95 = .ok (.return_, 1) := by decide +kernel
theorem dX6_back_0 : decode cX6_back 0 = .ok (.aload_n 0, 1) := by decide +kernel
theorem dX6_back_1 : decode cX6_back 1 = .ok (.getfield 46, 3) := by decide +kernel
theorem dX6_back_4 : decode cX6_back 4 = .ok (.ifCond .ne 8, 3) := by decide +kernel
theorem dX6_back_7 : decode cX6_back 7 = .ok (.aload_n 0, 1) := by decide +kernel
theorem dX6_back_8 : decode cX6_back 8 = .ok (.invokevirtual 50, 3) := by decide +kernel
theorem dX6_back_11 : decode cX6_back 11 = .ok (.ireturn, 1) := by decide +kernel
theorem dX6_back_12 : decode cX6_back 12 = .ok (.aload_n 0, 1) := by decide +kernel
theorem dX6_back_13 : decode cX6_back 13 = .ok (.dup, 1) := by decide +kernel
theorem dX6_back_14 : decode cX6_back 14 = .ok (.getfield 46, 3) := by decide +kernel
theorem dX6_back_17 : decode cX6_back 17 = .ok (.iconst 1, 1) := by decide +kernel
theorem dX6_back_18 : decode cX6_back 18 = .ok (.isub, 1) := by decide +kernel
theorem dX6_back_19 : decode cX6_back 19 = .ok (.putfield 46, 3) := by decide +kernel
theorem dX6_back_22 : decode cX6_back 22 = .ok (.iconst 0, 1) := by decide +kernel
theorem dX6_back_23 : decode cX6_back 23 = .ok (.istore_n 1, 1) := by decide +kernel
theorem dX6_back_24 : decode cX6_back 24 = .ok (.iload_n 1, 1) := by decide +kernel
theorem dX6_back_25 : decode cX6_back 25 = .ok (.sipush 395, 3) := by decide +kernel
theorem dX6_back_28 : decode cX6_back 28 = .ok (.if_icmp .ge 30, 3) := by decide +kernel
theorem dX6_back_31 : decode cX6_back 31 = .ok (.aload_n 0, 1) := by decide +kernel
theorem dX6_back_32 : decode cX6_back 32 = .ok (.getfield 7, 3) := by decide +kernel
theorem dX6_back_35 : decode cX6_back 35 = .ok (.iload_n 1, 1) := by decide +kernel
theorem dX6_back_36 : decode cX6_back 36 = .ok (.aload_n 0, 1) := by decide +kernel
theorem dX6_back_37 : decode cX6_back 37 = .ok (.getfield 16, 3) := by decide +kernel
theorem dX6_back_40 : decode cX6_back 40 = .ok (.sipush 395, 3) := by decide +kernel
theorem dX6_back_43 : decode cX6_back 43 = .ok (.aload_n 0, 1) := by decide +kernel
theorem dX6_back_44 : decode cX6_back 44 = .ok (.getfield 46, 3) := by decide +kernel
theorem dX6_back_47 : decode cX6_back 47 = .ok (.imul, 1) := by decide +kernel
theorem dX6_back_48 : decode cX6_back 48 = .ok (.iload_n 1, 1) := by decide +kernel
theorem dX6_back_49 : decode cX6_back 49 = .ok (.iadd, 1) := by decide +kernel
theorem dX6_back_50 : decode cX6_back 50 = .ok (.iaload, 1) := by decide +kernel
theorem dX6_back_51 : decode cX6_back 51 = .ok (.iastore, 1) := by decide +kernel
theorem dX6_back_52 : decode cX6_back 52 = .ok (.iinc 1 1, 3) := by decide +kernel
theorem dX6_back_55 : decode cX6_back 55 = .ok (.goto (-31), 3) := by decide +kernel
theorem dX6_back_58 : decode cX6_back 58 = .ok (.aload_n 0, 1) := by decide +kernel
theorem dX6_back_59 : decode cX6_back 59 = .ok (.getfield 46, 3) := by decide +kernel
theorem dX6_back_62 : decode cX6_back 62 = .ok (.ireturn, 1) := by decide +kernel
theorem dX6_finished_0 : decode cX6_finished 0 = .ok (.iload_n 1, 1) := by decide +kernel
theorem dX6_finished_1 : decode cX6_finished 1 = .ok (.sipush (-10002), 3) := by decide +kernel
theorem dX6_finished_4 : decode cX6_finished 4 = .ok (.if_icmp .ne 8, 3) := by decide +kernel
theorem dX6_finished_7 : decode cX6_finished 7 = .ok (.aload_n 0, 1) := by decide +kernel
theorem dX6_finished_8 : decode cX6_finished 8 = .ok (.invokevirtual 54, 3) := by decide +kernel
theorem dX6_finished_11 : decode cX6_finished 11 = .ok (.ireturn, 1) := by decide +kernel
theorem dX6_finished_12 : decode cX6_finished 12 = .ok (.aload_n 0, 1) := by decide +kernel
theorem dX6_finished_13 : decode cX6_finished 13 = .ok (.invokevirtual 57, 3) := by decide +kernel
theorem dX6_finished_16 : decode cX6_finished 16 = .ok (.iload_n 1, 1) := by decide +kernel
theorem dX6_finished_17 : decode cX6_finished 17 = .ok (.ireturn, 1) := by decide +kernel
theorem dX6_isCell_0 : decode cX6_isCell 0 = .ok (.iload_n 1, 1) := by decide +kernel
theorem dX6_isCell_1 : decode cX6_isCell 1 = .ok (.iconst 0, 1) := by decide +kernel
theorem dX6_isCell_2 : decode cX6_isCell 2 = .ok (.iconst 1, 1) := by decide +kernel
theorem dX6_isCell_3 : decode cX6_isCell 3 = .ok (.invokestatic 60, 3) := by decide +kernel
theorem dX6_isCell_6 : decode cX6_isCell 6 = .ok (.ifCond .eq 39, 3) := by decide +kernel
theorem dX6_isCell_9 : decode cX6_isCell 9 = .ok (.iload_n 2, 1) := by decide +kernel
theorem dX6_isCell_10 : decode cX6_isCell 10 = .ok (.iconst 0, 1) := by decide +kernel
theorem dX6_isCell_11 : decode cX6_isCell 11 = .ok (.aload_n 0, 1) := by decide +kernel
theorem dX6_isCell_12 : decode cX6_isCell 12 = .ok (.getfield 7, 3) := by decide +kernel
theorem dX6_isCell_15 : decode cX6_isCell 15 = .ok (.iconst 0, 1) := by decide +kernel
theorem dX6_isCell_16 : decode cX6_isCell 16 = .ok (.iaload, 1) := by decide +kernel
theorem dX6_isCell_17 : decode cX6_isCell 17 = .ok (.iconst 1, 1) := by decide +kernel
theorem dX6_isCell_18 : decode cX6_isCell 18 = .ok (.isub, 1) := by decide +kernel
theorem dX6_isCell_19 : decode cX6_isCell 19 = .ok (.invokestatic 60, 3) := by decide +kernel
theorem dX6_isCell_22 : decode cX6_isCell 22 = .ok (.ifCond .eq 23, 3) := by decide +kernel
theorem dX6_isCell_25 : decode cX6_isCell 25 = .ok (.iload_n 3, 1) := by decide +kernel
theorem dX6_isCell_26 : decode cX6_isCell 26 = .ok (.iconst 0, 1) := by decide +kernel
theorem dX6_isCell_27 : decode cX6_isCell 27 = .ok (.aload_n 0, 1) := by decide +kernel
theorem dX6_isCell_28 : decode cX6_isCell 28 = .ok (.getfield 7, 3) := by decide +kernel
theorem dX6_isCell_31 : decode cX6_isCell 31 = .ok (.iconst 1, 1) := by decide +kernel
theorem dX6_isCell_32 : decode cX6_isCell 32 = .ok (.iaload, 1) := by decide +kernel
theorem dX6_isCell_33 : decode cX6_isCell 33 = .ok (.iconst 1, 1) := by decide +kernel
theorem dX6_isCell_34 : decode cX6_isCell 34 = .ok (.isub, 1) := by decide +kernel
theorem dX6_isCell_35 : decode cX6_isCell 35 = .ok (.invokestatic 60, 3) := by decide +kernel
theorem dX6_isCell_38 : decode cX6_isCell 38 = .ok (.ifCond .eq 7, 3) := by decide +kernel
theorem dX6_isCell_41 : decode cX6_isCell 41 = .ok (.iconst 1, 1) := by decide +kernel
theorem dX6_isCell_42 : decode cX6_isCell 42 = .ok (.goto 4, 3) := by decide +kernel
theorem dX6_isCell_45 : decode cX6_isCell 45 = .ok (.iconst 0, 1) := by decide +kernel
theorem dX6_isCell_46 : decode cX6_isCell 46 = .ok (.ireturn, 1) := by decide +kernel
theorem dX6_cellPlace_0 : decode cX6_cellPlace 0 = .ok (.bipush 11, 2) := by decide +kernel
theorem dX6_cellPlace_2 : decode cX6_cellPlace 2 = .ok (.sipush 192, 3) := by decide +kernel
theorem dX6_cellPlace_5 : decode cX6_cellPlace 5 = .ok (.iload_n 0, 1) := by decide +kernel
theorem dX6_cellPlace_6 : decode cX6_cellPlace 6 = .ok (.imul, 1) := by decide +kernel
theorem dX6_cellPlace_7 : decode cX6_cellPlace 7 = .ok (.iadd, 1) := by decide +kernel
theorem dX6_cellPlace_8 : decode cX6_cellPlace 8 = .ok (.bipush 12, 2) := by decide +kernel
theorem dX6_cellPlace_10 : decode cX6_cellPlace 10 = .ok (.iconst 4, 1) := by decide +kernel
theorem dX6_cellPlace_11 : decode cX6_cellPlace 11 = .ok (.iload_n 2, 1) := by decide +kernel
theorem dX6_cellPlace_12 : decode cX6_cellPlace 12 = .ok (.imul, 1) := by decide +kernel
theorem dX6_cellPlace_13 : decode cX6_cellPlace 13 = .ok (.iload_n 1, 1) := by decide +kernel
theorem dX6_cellPlace_14 : decode cX6_cellPlace 14 = .ok (.iadd, 1) := by decide +kernel
theorem dX6_cellPlace_15 : decode cX6_cellPlace 15 = .ok (.imul, 1) := by decide +kernel
theorem dX6_cellPlace_16 : decode cX6_cellPlace 16 = .ok (.iadd, 1) := by decide +kernel
theorem dX6_cellPlace_17 : decode cX6_cellPlace 17 = .ok (.ireturn, 1) := by decide +kernel
theorem dX6_raised_0 : decode cX6_raised 0 = .ok (.aload_n 0, 1) := by decide +kernel
theorem dX6_raised_1 : decode cX6_raised 1 = .ok (.getfield 7, 3) := by decide +kernel
theorem dX6_raised_4 : decode cX6_raised 4 = .ok (.iload_n 1, 1) := by decide +kernel
theorem dX6_raised_5 : decode cX6_raised 5 = .ok (.iaload, 1) := by decide +kernel
theorem dX6_raised_6 : decode cX6_raised 6 = .ok (.iload_n 2, 1) := by decide +kernel
theorem dX6_raised_7 : decode cX6_raised 7 = .ok (.iadd, 1) := by decide +kernel
theorem dX6_raised_8 : decode cX6_raised 8 = .ok (.istore_n 3, 1) := by decide +kernel
theorem dX6_raised_9 : decode cX6_raised 9 = .ok (.aload_n 0, 1) := by decide +kernel
theorem dX6_raised_10 : decode cX6_raised 10 = .ok (.getfield 7, 3) := by decide +kernel
theorem dX6_raised_13 : decode cX6_raised 13 = .ok (.iload_n 1, 1) := by decide +kernel
theorem dX6_raised_14 : decode cX6_raised 14 = .ok (.iload_n 3, 1) := by decide +kernel
theorem dX6_raised_15 : decode cX6_raised 15 = .ok (.sipush 4095, 3) := by decide +kernel
theorem dX6_raised_18 : decode cX6_raised 18 = .ok (.if_icmp .le 9, 3) := by decide +kernel
theorem dX6_raised_21 : decode cX6_raised 21 = .ok (.sipush 4095, 3) := by decide +kernel
theorem dX6_raised_24 : decode cX6_raised 24 = .ok (.goto 4, 3) := by decide +kernel
theorem dX6_raised_27 : decode cX6_raised 27 = .ok (.iload_n 3, 1) := by decide +kernel
theorem dX6_raised_28 : decode cX6_raised 28 = .ok (.iastore, 1) := by decide +kernel
theorem dX6_raised_29 : decode cX6_raised 29 = .ok (.aload_n 0, 1) := by decide +kernel
theorem dX6_raised_30 : decode cX6_raised 30 = .ok (.getfield 7, 3) := by decide +kernel
theorem dX6_raised_33 : decode cX6_raised 33 = .ok (.iload_n 1, 1) := by decide +kernel
theorem dX6_raised_34 : decode cX6_raised 34 = .ok (.iaload, 1) := by decide +kernel
theorem dX6_raised_35 : decode cX6_raised 35 = .ok (.ireturn, 1) := by decide +kernel
theorem dX6_fullOnes_0 : decode cX6_fullOnes 0 = .ok (.iconst 0, 1) := by decide +kernel
theorem dX6_fullOnes_1 : decode cX6_fullOnes 1 = .ok (.istore_n 2, 1) := by decide +kernel
theorem dX6_fullOnes_2 : decode cX6_fullOnes 2 = .ok (.iconst 0, 1) := by decide +kernel
theorem dX6_fullOnes_3 : decode cX6_fullOnes 3 = .ok (.istore_n 3, 1) := by decide +kernel
theorem dX6_fullOnes_4 : decode cX6_fullOnes 4 = .ok (.iload_n 3, 1) := by decide +kernel
theorem dX6_fullOnes_5 : decode cX6_fullOnes 5 = .ok (.bipush 12, 2) := by decide +kernel
theorem dX6_fullOnes_7 : decode cX6_fullOnes 7 = .ok (.if_icmp .ge 31, 3) := by decide +kernel
theorem dX6_fullOnes_10 : decode cX6_fullOnes 10 = .ok (.iload_n 2, 1) := by decide +kernel
theorem dX6_fullOnes_11 : decode cX6_fullOnes 11 = .ok (.aload_n 0, 1) := by decide +kernel
theorem dX6_fullOnes_12 : decode cX6_fullOnes 12 = .ok (.getfield 7, 3) := by decide +kernel
theorem dX6_fullOnes_15 : decode cX6_fullOnes 15 = .ok (.iload_n 1, 1) := by decide +kernel
theorem dX6_fullOnes_16 : decode cX6_fullOnes 16 = .ok (.iload_n 3, 1) := by decide +kernel
theorem dX6_fullOnes_17 : decode cX6_fullOnes 17 = .ok (.iadd, 1) := by decide +kernel
theorem dX6_fullOnes_18 : decode cX6_fullOnes 18 = .ok (.iaload, 1) := by decide +kernel
theorem dX6_fullOnes_19 : decode cX6_fullOnes 19 = .ok (.sipush 4095, 3) := by decide +kernel
theorem dX6_fullOnes_22 : decode cX6_fullOnes 22 = .ok (.if_icmp .ne 7, 3) := by decide +kernel
theorem dX6_fullOnes_25 : decode cX6_fullOnes 25 = .ok (.iconst 1, 1) := by decide +kernel
theorem dX6_fullOnes_26 : decode cX6_fullOnes 26 = .ok (.goto 4, 3) := by decide +kernel
theorem dX6_fullOnes_29 : decode cX6_fullOnes 29 = .ok (.iconst 0, 1) := by decide +kernel
theorem dX6_fullOnes_30 : decode cX6_fullOnes 30 = .ok (.iadd, 1) := by decide +kernel
theorem dX6_fullOnes_31 : decode cX6_fullOnes 31 = .ok (.istore_n 2, 1) := by decide +kernel
theorem dX6_fullOnes_32 : decode cX6_fullOnes 32 = .ok (.iinc 3 1, 3) := by decide +kernel
theorem dX6_fullOnes_35 : decode cX6_fullOnes 35 = .ok (.goto (-31), 3) := by decide +kernel
theorem dX6_fullOnes_38 : decode cX6_fullOnes 38 = .ok (.iload_n 2, 1) := by decide +kernel
theorem dX6_fullOnes_39 : decode cX6_fullOnes 39 = .ok (.ireturn, 1) := by decide +kernel
theorem dX6_putGrid_0 : decode cX6_putGrid 0 = .ok (.iload_n 1, 1) := by decide +kernel
theorem dX6_putGrid_1 : decode cX6_putGrid 1 = .ok (.iconst 1, 1) := by decide +kernel
theorem dX6_putGrid_2 : decode cX6_putGrid 2 = .ok (.iconst 4, 1) := by decide +kernel
theorem dX6_putGrid_3 : decode cX6_putGrid 3 = .ok (.invokestatic 60, 3) := by decide +kernel
theorem dX6_putGrid_6 : decode cX6_putGrid 6 = .ok (.ifCond .eq 12, 3) := by decide +kernel
theorem dX6_putGrid_9 : decode cX6_putGrid 9 = .ok (.iload_n 2, 1) := by decide +kernel
theorem dX6_putGrid_10 : decode cX6_putGrid 10 = .ok (.iconst 1, 1) := by decide +kernel
theorem dX6_putGrid_11 : decode cX6_putGrid 11 = .ok (.iconst 4, 1) := by decide +kernel
theorem dX6_putGrid_12 : decode cX6_putGrid 12 = .ok (.invokestatic 60, 3) := by decide +kernel
theorem dX6_putGrid_15 : decode cX6_putGrid 15 = .ok (.ifCond .ne 7, 3) := by decide +kernel
theorem dX6_putGrid_18 : decode cX6_putGrid 18 = .ok (.sipush (-10002), 3) := by decide +kernel
theorem dX6_putGrid_21 : decode cX6_putGrid 21 = .ok (.ireturn, 1) := by decide +kernel
theorem dX6_putGrid_22 : decode cX6_putGrid 22 = .ok (.aload_n 0, 1) := by decide +kernel
theorem dX6_putGrid_23 : decode cX6_putGrid 23 = .ok (.getfield 7, 3) := by decide +kernel
theorem dX6_putGrid_26 : decode cX6_putGrid 26 = .ok (.iconst 0, 1) := by decide +kernel
theorem dX6_putGrid_27 : decode cX6_putGrid 27 = .ok (.iaload, 1) := by decide +kernel
theorem dX6_putGrid_28 : decode cX6_putGrid 28 = .ok (.aload_n 0, 1) := by decide +kernel
theorem dX6_putGrid_29 : decode cX6_putGrid 29 = .ok (.getfield 7, 3) := by decide +kernel
theorem dX6_putGrid_32 : decode cX6_putGrid 32 = .ok (.iconst 1, 1) := by decide +kernel
theorem dX6_putGrid_33 : decode cX6_putGrid 33 = .ok (.iaload, 1) := by decide +kernel
theorem dX6_putGrid_34 : decode cX6_putGrid 34 = .ok (.imul, 1) := by decide +kernel
theorem dX6_putGrid_35 : decode cX6_putGrid 35 = .ok (.istore_n 3, 1) := by decide +kernel
theorem dX6_putGrid_36 : decode cX6_putGrid 36 = .ok (.aload_n 0, 1) := by decide +kernel
theorem dX6_putGrid_37 : decode cX6_putGrid 37 = .ok (.getfield 7, 3) := by decide +kernel
theorem dX6_putGrid_40 : decode cX6_putGrid 40 = .ok (.iconst 0, 1) := by decide +kernel
theorem dX6_putGrid_41 : decode cX6_putGrid 41 = .ok (.iload_n 1, 1) := by decide +kernel
theorem dX6_putGrid_42 : decode cX6_putGrid 42 = .ok (.iastore, 1) := by decide +kernel
theorem dX6_putGrid_43 : decode cX6_putGrid 43 = .ok (.aload_n 0, 1) := by decide +kernel
theorem dX6_putGrid_44 : decode cX6_putGrid 44 = .ok (.getfield 7, 3) := by decide +kernel
theorem dX6_putGrid_47 : decode cX6_putGrid 47 = .ok (.iconst 1, 1) := by decide +kernel
theorem dX6_putGrid_48 : decode cX6_putGrid 48 = .ok (.iload_n 2, 1) := by decide +kernel
theorem dX6_putGrid_49 : decode cX6_putGrid 49 = .ok (.iastore, 1) := by decide +kernel
theorem dX6_putGrid_50 : decode cX6_putGrid 50 = .ok (.bipush 11, 2) := by decide +kernel
theorem dX6_putGrid_52 : decode cX6_putGrid 52 = .ok (.istore 4, 2) := by decide +kernel
theorem dX6_putGrid_54 : decode cX6_putGrid 54 = .ok (.iload 4, 2) := by decide +kernel
theorem dX6_putGrid_56 : decode cX6_putGrid 56 = .ok (.sipush 395, 3) := by decide +kernel
theorem dX6_putGrid_59 : decode cX6_putGrid 59 = .ok (.if_icmp .ge 17, 3) := by decide +kernel
theorem dX6_putGrid_62 : decode cX6_putGrid 62 = .ok (.aload_n 0, 1) := by decide +kernel
theorem dX6_putGrid_63 : decode cX6_putGrid 63 = .ok (.getfield 7, 3) := by decide +kernel
theorem dX6_putGrid_66 : decode cX6_putGrid 66 = .ok (.iload 4, 2) := by decide +kernel
theorem dX6_putGrid_68 : decode cX6_putGrid 68 = .ok (.iconst 0, 1) := by decide +kernel
theorem dX6_putGrid_69 : decode cX6_putGrid 69 = .ok (.iastore, 1) := by decide +kernel
theorem dX6_putGrid_70 : decode cX6_putGrid 70 = .ok (.iinc 4 1, 3) := by decide +kernel
theorem dX6_putGrid_73 : decode cX6_putGrid 73 = .ok (.goto (-19), 3) := by decide +kernel
theorem dX6_putGrid_76 : decode cX6_putGrid 76 = .ok (.iload_n 3, 1) := by decide +kernel
theorem dX6_putGrid_77 : decode cX6_putGrid 77 = .ok (.ireturn, 1) := by decide +kernel
theorem dX6_putWave_0 : decode cX6_putWave 0 = .ok (.iload_n 1, 1) := by decide +kernel
theorem dX6_putWave_1 : decode cX6_putWave 1 = .ok (.iconst 0, 1) := by decide +kernel
theorem dX6_putWave_2 : decode cX6_putWave 2 = .ok (.iconst 2, 1) := by decide +kernel
theorem dX6_putWave_3 : decode cX6_putWave 3 = .ok (.invokestatic 60, 3) := by decide +kernel
theorem dX6_putWave_6 : decode cX6_putWave 6 = .ok (.ifCond .eq 15, 3) := by decide +kernel
theorem dX6_putWave_9 : decode cX6_putWave 9 = .ok (.iload_n 2, 1) := by decide +kernel
theorem dX6_putWave_10 : decode cX6_putWave 10 = .ok (.bipush 10, 2) := by decide +kernel
theorem dX6_putWave_12 : decode cX6_putWave 12 = .ok (.sipush 2000, 3) := by decide +kernel
theorem dX6_putWave_15 : decode cX6_putWave 15 = .ok (.invokestatic 60, 3) := by decide +kernel
theorem dX6_putWave_18 : decode cX6_putWave 18 = .ok (.ifCond .ne 7, 3) := by decide +kernel
theorem dX6_putWave_21 : decode cX6_putWave 21 = .ok (.sipush (-10002), 3) := by decide +kernel
theorem dX6_putWave_24 : decode cX6_putWave 24 = .ok (.ireturn, 1) := by decide +kernel
theorem dX6_putWave_25 : decode cX6_putWave 25 = .ok (.aload_n 0, 1) := by decide +kernel
theorem dX6_putWave_26 : decode cX6_putWave 26 = .ok (.getfield 7, 3) := by decide +kernel
theorem dX6_putWave_29 : decode cX6_putWave 29 = .ok (.iconst 2, 1) := by decide +kernel
theorem dX6_putWave_30 : decode cX6_putWave 30 = .ok (.iload_n 1, 1) := by decide +kernel
theorem dX6_putWave_31 : decode cX6_putWave 31 = .ok (.iadd, 1) := by decide +kernel
theorem dX6_putWave_32 : decode cX6_putWave 32 = .ok (.iaload, 1) := by decide +kernel
theorem dX6_putWave_33 : decode cX6_putWave 33 = .ok (.istore_n 3, 1) := by decide +kernel
theorem dX6_putWave_34 : decode cX6_putWave 34 = .ok (.aload_n 0, 1) := by decide +kernel
theorem dX6_putWave_35 : decode cX6_putWave 35 = .ok (.getfield 7, 3) := by decide +kernel
theorem dX6_putWave_38 : decode cX6_putWave 38 = .ok (.iconst 2, 1) := by decide +kernel
theorem dX6_putWave_39 : decode cX6_putWave 39 = .ok (.iload_n 1, 1) := by decide +kernel
theorem dX6_putWave_40 : decode cX6_putWave 40 = .ok (.iadd, 1) := by decide +kernel
theorem dX6_putWave_41 : decode cX6_putWave 41 = .ok (.iload_n 2, 1) := by decide +kernel
theorem dX6_putWave_42 : decode cX6_putWave 42 = .ok (.iastore, 1) := by decide +kernel
theorem dX6_putWave_43 : decode cX6_putWave 43 = .ok (.iload_n 3, 1) := by decide +kernel
theorem dX6_putWave_44 : decode cX6_putWave 44 = .ok (.ireturn, 1) := by decide +kernel
theorem dX6_maySet_0 : decode cX6_maySet 0 = .ok (.iload_n 0, 1) := by decide +kernel
theorem dX6_maySet_1 : decode cX6_maySet 1 = .ok (.tableswitch 93 0 5 #[39, 47, 56, 65, 75, 84], 39) := by decide +kernel
theorem dX6_maySet_40 : decode cX6_maySet 40 = .ok (.iload_n 1, 1) := by decide +kernel
theorem dX6_maySet_41 : decode cX6_maySet 41 = .ok (.iconst 0, 1) := by decide +kernel
theorem dX6_maySet_42 : decode cX6_maySet 42 = .ok (.bipush 50, 2) := by decide +kernel
theorem dX6_maySet_44 : decode cX6_maySet 44 = .ok (.invokestatic 60, 3) := by decide +kernel
theorem dX6_maySet_47 : decode cX6_maySet 47 = .ok (.ireturn, 1) := by decide +kernel
theorem dX6_maySet_48 : decode cX6_maySet 48 = .ok (.iload_n 1, 1) := by decide +kernel
theorem dX6_maySet_49 : decode cX6_maySet 49 = .ok (.iconst 0, 1) := by decide +kernel
theorem dX6_maySet_50 : decode cX6_maySet 50 = .ok (.sipush 2000, 3) := by decide +kernel
theorem dX6_maySet_53 : decode cX6_maySet 53 = .ok (.invokestatic 60, 3) := by decide +kernel
theorem dX6_maySet_56 : decode cX6_maySet 56 = .ok (.ireturn, 1) := by decide +kernel
theorem dX6_maySet_57 : decode cX6_maySet 57 = .ok (.iload_n 1, 1) := by decide +kernel
theorem dX6_maySet_58 : decode cX6_maySet 58 = .ok (.iconst 1, 1) := by decide +kernel
theorem dX6_maySet_59 : decode cX6_maySet 59 = .ok (.sipush 4095, 3) := by decide +kernel
theorem dX6_maySet_62 : decode cX6_maySet 62 = .ok (.invokestatic 60, 3) := by decide +kernel
theorem dX6_maySet_65 : decode cX6_maySet 65 = .ok (.ireturn, 1) := by decide +kernel
theorem dX6_maySet_66 : decode cX6_maySet 66 = .ok (.iload_n 1, 1) := by decide +kernel
theorem dX6_maySet_67 : decode cX6_maySet 67 = .ok (.bipush 100, 2) := by decide +kernel
theorem dX6_maySet_69 : decode cX6_maySet 69 = .ok (.sipush 9999, 3) := by decide +kernel
theorem dX6_maySet_72 : decode cX6_maySet 72 = .ok (.invokestatic 60, 3) := by decide +kernel
theorem dX6_maySet_75 : decode cX6_maySet 75 = .ok (.ireturn, 1) := by decide +kernel
theorem dX6_maySet_76 : decode cX6_maySet 76 = .ok (.iload_n 1, 1) := by decide +kernel
theorem dX6_maySet_77 : decode cX6_maySet 77 = .ok (.iconst 1, 1) := by decide +kernel
theorem dX6_maySet_78 : decode cX6_maySet 78 = .ok (.sipush 500, 3) := by decide +kernel
theorem dX6_maySet_81 : decode cX6_maySet 81 = .ok (.invokestatic 60, 3) := by decide +kernel
theorem dX6_maySet_84 : decode cX6_maySet 84 = .ok (.ireturn, 1) := by decide +kernel
theorem dX6_maySet_85 : decode cX6_maySet 85 = .ok (.iload_n 1, 1) := by decide +kernel
theorem dX6_maySet_86 : decode cX6_maySet 86 = .ok (.iconst 0, 1) := by decide +kernel
theorem dX6_maySet_87 : decode cX6_maySet 87 = .ok (.sipush 500, 3) := by decide +kernel
theorem dX6_maySet_90 : decode cX6_maySet 90 = .ok (.invokestatic 60, 3) := by decide +kernel
theorem dX6_maySet_93 : decode cX6_maySet 93 = .ok (.ireturn, 1) := by decide +kernel
theorem dX6_maySet_94 : decode cX6_maySet 94 = .ok (.iconst 0, 1) := by decide +kernel
theorem dX6_maySet_95 : decode cX6_maySet 95 = .ok (.ireturn, 1) := by decide +kernel
theorem dX6_putSetting_0 : decode cX6_putSetting 0 = .ok (.iload_n 1, 1) := by decide +kernel
theorem dX6_putSetting_1 : decode cX6_putSetting 1 = .ok (.iload_n 2, 1) := by decide +kernel
theorem dX6_putSetting_2 : decode cX6_putSetting 2 = .ok (.invokestatic 64, 3) := by decide +kernel
theorem dX6_putSetting_5 : decode cX6_putSetting 5 = .ok (.ifCond .ne 7, 3) := by decide +kernel
theorem dX6_putSetting_8 : decode cX6_putSetting 8 = .ok (.sipush (-10002), 3) := by decide +kernel
theorem dX6_putSetting_11 : decode cX6_putSetting 11 = .ok (.ireturn, 1) := by decide +kernel
theorem dX6_putSetting_12 : decode cX6_putSetting 12 = .ok (.aload_n 0, 1) := by decide +kernel
theorem dX6_putSetting_13 : decode cX6_putSetting 13 = .ok (.getfield 7, 3) := by decide +kernel
theorem dX6_putSetting_16 : decode cX6_putSetting 16 = .ok (.iconst 5, 1) := by decide +kernel
theorem dX6_putSetting_17 : decode cX6_putSetting 17 = .ok (.iload_n 1, 1) := by decide +kernel
theorem dX6_putSetting_18 : decode cX6_putSetting 18 = .ok (.iadd, 1) := by decide +kernel
theorem dX6_putSetting_19 : decode cX6_putSetting 19 = .ok (.iaload, 1) := by decide +kernel
theorem dX6_putSetting_20 : decode cX6_putSetting 20 = .ok (.istore_n 3, 1) := by decide +kernel
theorem dX6_putSetting_21 : decode cX6_putSetting 21 = .ok (.aload_n 0, 1) := by decide +kernel
theorem dX6_putSetting_22 : decode cX6_putSetting 22 = .ok (.getfield 7, 3) := by decide +kernel
theorem dX6_putSetting_25 : decode cX6_putSetting 25 = .ok (.iconst 5, 1) := by decide +kernel
theorem dX6_putSetting_26 : decode cX6_putSetting 26 = .ok (.iload_n 1, 1) := by decide +kernel
theorem dX6_putSetting_27 : decode cX6_putSetting 27 = .ok (.iadd, 1) := by decide +kernel
theorem dX6_putSetting_28 : decode cX6_putSetting 28 = .ok (.iload_n 2, 1) := by decide +kernel
theorem dX6_putSetting_29 : decode cX6_putSetting 29 = .ok (.iastore, 1) := by decide +kernel
theorem dX6_putSetting_30 : decode cX6_putSetting 30 = .ok (.iload_n 3, 1) := by decide +kernel
theorem dX6_putSetting_31 : decode cX6_putSetting 31 = .ok (.ireturn, 1) := by decide +kernel
theorem dX6_putSample_0 : decode cX6_putSample 0 = .ok (.aload_n 0, 1) := by decide +kernel
theorem dX6_putSample_1 : decode cX6_putSample 1 = .ok (.getfield 7, 3) := by decide +kernel
theorem dX6_putSample_4 : decode cX6_putSample 4 = .ok (.iload_n 1, 1) := by decide +kernel
theorem dX6_putSample_5 : decode cX6_putSample 5 = .ok (.iaload, 1) := by decide +kernel
theorem dX6_putSample_6 : decode cX6_putSample 6 = .ok (.istore_n 3, 1) := by decide +kernel
theorem dX6_putSample_7 : decode cX6_putSample 7 = .ok (.aload_n 0, 1) := by decide +kernel
theorem dX6_putSample_8 : decode cX6_putSample 8 = .ok (.getfield 7, 3) := by decide +kernel
theorem dX6_putSample_11 : decode cX6_putSample 11 = .ok (.iload_n 1, 1) := by decide +kernel
theorem dX6_putSample_12 : decode cX6_putSample 12 = .ok (.iload_n 2, 1) := by decide +kernel
theorem dX6_putSample_13 : decode cX6_putSample 13 = .ok (.iastore, 1) := by decide +kernel
theorem dX6_putSample_14 : decode cX6_putSample 14 = .ok (.iload_n 3, 1) := by decide +kernel
theorem dX6_putSample_15 : decode cX6_putSample 15 = .ok (.ireturn, 1) := by decide +kernel
theorem dX6_echoParts_0 : decode cX6_echoParts 0 = .ok (.fload_n 1, 1) := by decide +kernel
theorem dX6_echoParts_1 : decode cX6_echoParts 1 = .ok (.fconst 1, 1) := by decide +kernel
theorem dX6_echoParts_2 : decode cX6_echoParts 2 = .ok (.fcmp .g, 1) := by decide +kernel
theorem dX6_echoParts_3 : decode cX6_echoParts 3 = .ok (.ifCond .ge 21, 3) := by decide +kernel
theorem dX6_echoParts_6 : decode cX6_echoParts 6 = .ok (.iload_n 0, 1) := by decide +kernel
theorem dX6_echoParts_7 : decode cX6_echoParts 7 = .ok (.i2f, 1) := by decide +kernel
theorem dX6_echoParts_8 : decode cX6_echoParts 8 = .ok (.fload_n 1, 1) := by decide +kernel
theorem dX6_echoParts_9 : decode cX6_echoParts 9 = .ok (.fmul, 1) := by decide +kernel
theorem dX6_echoParts_10 : decode cX6_echoParts 10 = .ok (.f2i, 1) := by decide +kernel
theorem dX6_echoParts_11 : decode cX6_echoParts 11 = .ok (.istore 4, 2) := by decide +kernel
theorem dX6_echoParts_13 : decode cX6_echoParts 13 = .ok (.iload_n 0, 1) := by decide +kernel
theorem dX6_echoParts_14 : decode cX6_echoParts 14 = .ok (.iload 4, 2) := by decide +kernel
theorem dX6_echoParts_16 : decode cX6_echoParts 16 = .ok (.isub, 1) := by decide +kernel
theorem dX6_echoParts_17 : decode cX6_echoParts 17 = .ok (.istore_n 2, 1) := by decide +kernel
theorem dX6_echoParts_18 : decode cX6_echoParts 18 = .ok (.iload 4, 2) := by decide +kernel
theorem dX6_echoParts_20 : decode cX6_echoParts 20 = .ok (.istore_n 3, 1) := by decide +kernel
theorem dX6_echoParts_21 : decode cX6_echoParts 21 = .ok (.goto 76, 3) := by decide +kernel
theorem dX6_echoParts_24 : decode cX6_echoParts 24 = .ok (.fload_n 1, 1) := by decide +kernel
theorem dX6_echoParts_25 : decode cX6_echoParts 25 = .ok (.fconst 2, 1) := by decide +kernel
theorem dX6_echoParts_26 : decode cX6_echoParts 26 = .ok (.fcmp .g, 1) := by decide +kernel
theorem dX6_echoParts_27 : decode cX6_echoParts 27 = .ok (.ifCond .ge 24, 3) := by decide +kernel
theorem dX6_echoParts_30 : decode cX6_echoParts 30 = .ok (.iload_n 0, 1) := by decide +kernel
theorem dX6_echoParts_31 : decode cX6_echoParts 31 = .ok (.i2f, 1) := by decide +kernel
theorem dX6_echoParts_32 : decode cX6_echoParts 32 = .ok (.fload_n 1, 1) := by decide +kernel
theorem dX6_echoParts_33 : decode cX6_echoParts 33 = .ok (.fconst 1, 1) := by decide +kernel
theorem dX6_echoParts_34 : decode cX6_echoParts 34 = .ok (.fsub, 1) := by decide +kernel
theorem dX6_echoParts_35 : decode cX6_echoParts 35 = .ok (.fmul, 1) := by decide +kernel
theorem dX6_echoParts_36 : decode cX6_echoParts 36 = .ok (.f2i, 1) := by decide +kernel
theorem dX6_echoParts_37 : decode cX6_echoParts 37 = .ok (.istore 4, 2) := by decide +kernel
theorem dX6_echoParts_39 : decode cX6_echoParts 39 = .ok (.iload 4, 2) := by decide +kernel
theorem dX6_echoParts_41 : decode cX6_echoParts 41 = .ok (.ineg, 1) := by decide +kernel
theorem dX6_echoParts_42 : decode cX6_echoParts 42 = .ok (.istore_n 2, 1) := by decide +kernel
theorem dX6_echoParts_43 : decode cX6_echoParts 43 = .ok (.iload_n 0, 1) := by decide +kernel
theorem dX6_echoParts_44 : decode cX6_echoParts 44 = .ok (.iload 4, 2) := by decide +kernel
theorem dX6_echoParts_46 : decode cX6_echoParts 46 = .ok (.isub, 1) := by decide +kernel
theorem dX6_echoParts_47 : decode cX6_echoParts 47 = .ok (.istore_n 3, 1) := by decide +kernel
theorem dX6_echoParts_48 : decode cX6_echoParts 48 = .ok (.goto 49, 3) := by decide +kernel
theorem dX6_echoParts_51 : decode cX6_echoParts 51 = .ok (.fload_n 1, 1) := by decide +kernel
theorem dX6_echoParts_52 : decode cX6_echoParts 52 = .ok (.ldc 68, 2) := by decide +kernel
theorem dX6_echoParts_54 : decode cX6_echoParts 54 = .ok (.fcmp .g, 1) := by decide +kernel
theorem dX6_echoParts_55 : decode cX6_echoParts 55 = .ok (.ifCond .ge 24, 3) := by decide +kernel
theorem dX6_echoParts_58 : decode cX6_echoParts 58 = .ok (.iload_n 0, 1) := by decide +kernel
theorem dX6_echoParts_59 : decode cX6_echoParts 59 = .ok (.i2f, 1) := by decide +kernel
theorem dX6_echoParts_60 : decode cX6_echoParts 60 = .ok (.fload_n 1, 1) := by decide +kernel
theorem dX6_echoParts_61 : decode cX6_echoParts 61 = .ok (.fconst 2, 1) := by decide +kernel
theorem dX6_echoParts_62 : decode cX6_echoParts 62 = .ok (.fsub, 1) := by decide +kernel
theorem dX6_echoParts_63 : decode cX6_echoParts 63 = .ok (.fmul, 1) := by decide +kernel
theorem dX6_echoParts_64 : decode cX6_echoParts 64 = .ok (.f2i, 1) := by decide +kernel
theorem dX6_echoParts_65 : decode cX6_echoParts 65 = .ok (.istore 4, 2) := by decide +kernel
theorem dX6_echoParts_67 : decode cX6_echoParts 67 = .ok (.iload 4, 2) := by decide +kernel
theorem dX6_echoParts_69 : decode cX6_echoParts 69 = .ok (.iload_n 0, 1) := by decide +kernel
theorem dX6_echoParts_70 : decode cX6_echoParts 70 = .ok (.isub, 1) := by decide +kernel
theorem dX6_echoParts_71 : decode cX6_echoParts 71 = .ok (.istore_n 2, 1) := by decide +kernel
theorem dX6_echoParts_72 : decode cX6_echoParts 72 = .ok (.iload 4, 2) := by decide +kernel
theorem dX6_echoParts_74 : decode cX6_echoParts 74 = .ok (.ineg, 1) := by decide +kernel
theorem dX6_echoParts_75 : decode cX6_echoParts 75 = .ok (.istore_n 3, 1) := by decide +kernel
theorem dX6_echoParts_76 : decode cX6_echoParts 76 = .ok (.goto 21, 3) := by decide +kernel
theorem dX6_echoParts_79 : decode cX6_echoParts 79 = .ok (.iload_n 0, 1) := by decide +kernel
theorem dX6_echoParts_80 : decode cX6_echoParts 80 = .ok (.i2f, 1) := by decide +kernel
theorem dX6_echoParts_81 : decode cX6_echoParts 81 = .ok (.fload_n 1, 1) := by decide +kernel
theorem dX6_echoParts_82 : decode cX6_echoParts 82 = .ok (.ldc 68, 2) := by decide +kernel
theorem dX6_echoParts_84 : decode cX6_echoParts 84 = .ok (.fsub, 1) := by decide +kernel
theorem dX6_echoParts_85 : decode cX6_echoParts 85 = .ok (.fmul, 1) := by decide +kernel
theorem dX6_echoParts_86 : decode cX6_echoParts 86 = .ok (.f2i, 1) := by decide +kernel
theorem dX6_echoParts_87 : decode cX6_echoParts 87 = .ok (.istore 4, 2) := by decide +kernel
theorem dX6_echoParts_89 : decode cX6_echoParts 89 = .ok (.iload 4, 2) := by decide +kernel
theorem dX6_echoParts_91 : decode cX6_echoParts 91 = .ok (.istore_n 2, 1) := by decide +kernel
theorem dX6_echoParts_92 : decode cX6_echoParts 92 = .ok (.iload 4, 2) := by decide +kernel
theorem dX6_echoParts_94 : decode cX6_echoParts 94 = .ok (.iload_n 0, 1) := by decide +kernel
theorem dX6_echoParts_95 : decode cX6_echoParts 95 = .ok (.isub, 1) := by decide +kernel
theorem dX6_echoParts_96 : decode cX6_echoParts 96 = .ok (.istore_n 3, 1) := by decide +kernel
theorem dX6_echoParts_97 : decode cX6_echoParts 97 = .ok (.sipush 4096, 3) := by decide +kernel
theorem dX6_echoParts_100 : decode cX6_echoParts 100 = .ok (.iload_n 2, 1) := by decide +kernel
theorem dX6_echoParts_101 : decode cX6_echoParts 101 = .ok (.sipush 1024, 3) := by decide +kernel
theorem dX6_echoParts_104 : decode cX6_echoParts 104 = .ok (.iadd, 1) := by decide +kernel
theorem dX6_echoParts_105 : decode cX6_echoParts 105 = .ok (.imul, 1) := by decide +kernel
theorem dX6_echoParts_106 : decode cX6_echoParts 106 = .ok (.iload_n 3, 1) := by decide +kernel
theorem dX6_echoParts_107 : decode cX6_echoParts 107 = .ok (.iadd, 1) := by decide +kernel
theorem dX6_echoParts_108 : decode cX6_echoParts 108 = .ok (.sipush 1024, 3) := by decide +kernel
theorem dX6_echoParts_111 : decode cX6_echoParts 111 = .ok (.iadd, 1) := by decide +kernel
theorem dX6_echoParts_112 : decode cX6_echoParts 112 = .ok (.ireturn, 1) := by decide +kernel
theorem dX6_putEcho_0 : decode cX6_putEcho 0 = .ok (.aload_n 0, 1) := by decide +kernel
theorem dX6_putEcho_1 : decode cX6_putEcho 1 = .ok (.iload_n 1, 1) := by decide +kernel
theorem dX6_putEcho_2 : decode cX6_putEcho 2 = .ok (.iload_n 2, 1) := by decide +kernel
theorem dX6_putEcho_3 : decode cX6_putEcho 3 = .ok (.iload_n 3, 1) := by decide +kernel
theorem dX6_putEcho_4 : decode cX6_putEcho 4 = .ok (.invokevirtual 69, 3) := by decide +kernel
theorem dX6_putEcho_7 : decode cX6_putEcho 7 = .ok (.ifCond .eq 27, 3) := by decide +kernel
theorem dX6_putEcho_10 : decode cX6_putEcho 10 = .ok (.iload 4, 2) := by decide +kernel
theorem dX6_putEcho_12 : decode cX6_putEcho 12 = .ok (.iconst 0, 1) := by decide +kernel
theorem dX6_putEcho_13 : decode cX6_putEcho 13 = .ok (.sipush 9999, 3) := by decide +kernel
theorem dX6_putEcho_16 : decode cX6_putEcho 16 = .ok (.invokestatic 60, 3) := by decide +kernel
theorem dX6_putEcho_19 : decode cX6_putEcho 19 = .ok (.ifCond .eq 15, 3) := by decide +kernel
theorem dX6_putEcho_22 : decode cX6_putEcho 22 = .ok (.iload 5, 2) := by decide +kernel
theorem dX6_putEcho_24 : decode cX6_putEcho 24 = .ok (.iconst 1, 1) := by decide +kernel
theorem dX6_putEcho_25 : decode cX6_putEcho 25 = .ok (.sipush 1000, 3) := by decide +kernel
theorem dX6_putEcho_28 : decode cX6_putEcho 28 = .ok (.invokestatic 60, 3) := by decide +kernel
theorem dX6_putEcho_31 : decode cX6_putEcho 31 = .ok (.ifCond .ne 7, 3) := by decide +kernel
theorem dX6_putEcho_34 : decode cX6_putEcho 34 = .ok (.sipush (-10002), 3) := by decide +kernel
theorem dX6_putEcho_37 : decode cX6_putEcho 37 = .ok (.ireturn, 1) := by decide +kernel
theorem dX6_putEcho_38 : decode cX6_putEcho 38 = .ok (.iload_n 1, 1) := by decide +kernel
theorem dX6_putEcho_39 : decode cX6_putEcho 39 = .ok (.iload_n 2, 1) := by decide +kernel
theorem dX6_putEcho_40 : decode cX6_putEcho 40 = .ok (.iload_n 3, 1) := by decide +kernel
theorem dX6_putEcho_41 : decode cX6_putEcho 41 = .ok (.invokestatic 72, 3) := by decide +kernel
theorem dX6_putEcho_44 : decode cX6_putEcho 44 = .ok (.istore 6, 2) := by decide +kernel
theorem dX6_putEcho_46 : decode cX6_putEcho 46 = .ok (.iconst 0, 1) := by decide +kernel
theorem dX6_putEcho_47 : decode cX6_putEcho 47 = .ok (.istore 7, 2) := by decide +kernel
theorem dX6_putEcho_49 : decode cX6_putEcho 49 = .ok (.iload 7, 2) := by decide +kernel
theorem dX6_putEcho_51 : decode cX6_putEcho 51 = .ok (.iconst 3, 1) := by decide +kernel
theorem dX6_putEcho_52 : decode cX6_putEcho 52 = .ok (.if_icmp .ge 152, 3) := by decide +kernel
theorem dX6_putEcho_55 : decode cX6_putEcho 55 = .ok (.aload_n 0, 1) := by decide +kernel
theorem dX6_putEcho_56 : decode cX6_putEcho 56 = .ok (.getfield 7, 3) := by decide +kernel
theorem dX6_putEcho_59 : decode cX6_putEcho 59 = .ok (.iconst 2, 1) := by decide +kernel
theorem dX6_putEcho_60 : decode cX6_putEcho 60 = .ok (.iload 7, 2) := by decide +kernel
theorem dX6_putEcho_62 : decode cX6_putEcho 62 = .ok (.iadd, 1) := by decide +kernel
theorem dX6_putEcho_63 : decode cX6_putEcho 63 = .ok (.iaload, 1) := by decide +kernel
theorem dX6_putEcho_64 : decode cX6_putEcho 64 = .ok (.istore 8, 2) := by decide +kernel
theorem dX6_putEcho_66 : decode cX6_putEcho 66 = .ok (.iload 4, 2) := by decide +kernel
theorem dX6_putEcho_68 : decode cX6_putEcho 68 = .ok (.iload 8, 2) := by decide +kernel
theorem dX6_putEcho_70 : decode cX6_putEcho 70 = .ok (.irem, 1) := by decide +kernel
theorem dX6_putEcho_71 : decode cX6_putEcho 71 = .ok (.istore 9, 2) := by decide +kernel
theorem dX6_putEcho_73 : decode cX6_putEcho 73 = .ok (.ldc 76, 2) := by decide +kernel
theorem dX6_putEcho_75 : decode cX6_putEcho 75 = .ok (.iload 9, 2) := by decide +kernel
theorem dX6_putEcho_77 : decode cX6_putEcho 77 = .ok (.i2f, 1) := by decide +kernel
theorem dX6_putEcho_78 : decode cX6_putEcho 78 = .ok (.fmul, 1) := by decide +kernel
theorem dX6_putEcho_79 : decode cX6_putEcho 79 = .ok (.iload 8, 2) := by decide +kernel
theorem dX6_putEcho_81 : decode cX6_putEcho 81 = .ok (.i2f, 1) := by decide +kernel
theorem dX6_putEcho_82 : decode cX6_putEcho 82 = .ok (.fdiv, 1) := by decide +kernel
theorem dX6_putEcho_83 : decode cX6_putEcho 83 = .ok (.fstore 10, 2) := by decide +kernel
theorem dX6_putEcho_85 : decode cX6_putEcho 85 = .ok (.iload 5, 2) := by decide +kernel
theorem dX6_putEcho_87 : decode cX6_putEcho 87 = .ok (.fload 10, 2) := by decide +kernel
theorem dX6_putEcho_89 : decode cX6_putEcho 89 = .ok (.invokestatic 77, 3) := by decide +kernel
theorem dX6_putEcho_92 : decode cX6_putEcho 92 = .ok (.istore 11, 2) := by decide +kernel
theorem dX6_putEcho_94 : decode cX6_putEcho 94 = .ok (.iload 11, 2) := by decide +kernel
theorem dX6_putEcho_96 : decode cX6_putEcho 96 = .ok (.sipush 4096, 3) := by decide +kernel
theorem dX6_putEcho_99 : decode cX6_putEcho 99 = .ok (.idiv, 1) := by decide +kernel
theorem dX6_putEcho_100 : decode cX6_putEcho 100 = .ok (.sipush 1024, 3) := by decide +kernel
theorem dX6_putEcho_103 : decode cX6_putEcho 103 = .ok (.isub, 1) := by decide +kernel
theorem dX6_putEcho_104 : decode cX6_putEcho 104 = .ok (.istore 12, 2) := by decide +kernel
theorem dX6_putEcho_106 : decode cX6_putEcho 106 = .ok (.iload 11, 2) := by decide +kernel
theorem dX6_putEcho_108 : decode cX6_putEcho 108 = .ok (.sipush 4096, 3) := by decide +kernel
theorem dX6_putEcho_111 : decode cX6_putEcho 111 = .ok (.irem, 1) := by decide +kernel
theorem dX6_putEcho_112 : decode cX6_putEcho 112 = .ok (.sipush 1024, 3) := by decide +kernel
theorem dX6_putEcho_115 : decode cX6_putEcho 115 = .ok (.isub, 1) := by decide +kernel
theorem dX6_putEcho_116 : decode cX6_putEcho 116 = .ok (.istore 13, 2) := by decide +kernel
theorem dX6_putEcho_118 : decode cX6_putEcho 118 = .ok (.iload 12, 2) := by decide +kernel
theorem dX6_putEcho_120 : decode cX6_putEcho 120 = .ok (.ifCond .le 19, 3) := by decide +kernel
theorem dX6_putEcho_123 : decode cX6_putEcho 123 = .ok (.aload_n 0, 1) := by decide +kernel
theorem dX6_putEcho_124 : decode cX6_putEcho 124 = .ok (.iload 6, 2) := by decide +kernel
theorem dX6_putEcho_126 : decode cX6_putEcho 126 = .ok (.iconst 4, 1) := by decide +kernel
theorem dX6_putEcho_127 : decode cX6_putEcho 127 = .ok (.iload 7, 2) := by decide +kernel
theorem dX6_putEcho_129 : decode cX6_putEcho 129 = .ok (.imul, 1) := by decide +kernel
theorem dX6_putEcho_130 : decode cX6_putEcho 130 = .ok (.iadd, 1) := by decide +kernel
theorem dX6_putEcho_131 : decode cX6_putEcho 131 = .ok (.iload 12, 2) := by decide +kernel
theorem dX6_putEcho_133 : decode cX6_putEcho 133 = .ok (.invokevirtual 81, 3) := by decide +kernel
theorem dX6_putEcho_136 : decode cX6_putEcho 136 = .ok (.goto 19, 3) := by decide +kernel
theorem dX6_putEcho_139 : decode cX6_putEcho 139 = .ok (.aload_n 0, 1) := by decide +kernel
theorem dX6_putEcho_140 : decode cX6_putEcho 140 = .ok (.iload 6, 2) := by decide +kernel
theorem dX6_putEcho_142 : decode cX6_putEcho 142 = .ok (.iconst 4, 1) := by decide +kernel
theorem dX6_putEcho_143 : decode cX6_putEcho 143 = .ok (.iload 7, 2) := by decide +kernel
theorem dX6_putEcho_145 : decode cX6_putEcho 145 = .ok (.imul, 1) := by decide +kernel
theorem dX6_putEcho_146 : decode cX6_putEcho 146 = .ok (.iadd, 1) := by decide +kernel
theorem dX6_putEcho_147 : decode cX6_putEcho 147 = .ok (.iconst 2, 1) := by decide +kernel
theorem dX6_putEcho_148 : decode cX6_putEcho 148 = .ok (.iadd, 1) := by decide +kernel
theorem dX6_putEcho_149 : decode cX6_putEcho 149 = .ok (.iload 12, 2) := by decide +kernel
theorem dX6_putEcho_151 : decode cX6_putEcho 151 = .ok (.ineg, 1) := by decide +kernel
theorem dX6_putEcho_152 : decode cX6_putEcho 152 = .ok (.invokevirtual 81, 3) := by decide +kernel
theorem dX6_putEcho_155 : decode cX6_putEcho 155 = .ok (.istore 14, 2) := by decide +kernel
theorem dX6_putEcho_157 : decode cX6_putEcho 157 = .ok (.iload 13, 2) := by decide +kernel
theorem dX6_putEcho_159 : decode cX6_putEcho 159 = .ok (.ifCond .le 21, 3) := by decide +kernel
theorem dX6_putEcho_162 : decode cX6_putEcho 162 = .ok (.aload_n 0, 1) := by decide +kernel
theorem dX6_putEcho_163 : decode cX6_putEcho 163 = .ok (.iload 6, 2) := by decide +kernel
theorem dX6_putEcho_165 : decode cX6_putEcho 165 = .ok (.iconst 4, 1) := by decide +kernel
theorem dX6_putEcho_166 : decode cX6_putEcho 166 = .ok (.iload 7, 2) := by decide +kernel
theorem dX6_putEcho_168 : decode cX6_putEcho 168 = .ok (.imul, 1) := by decide +kernel
theorem dX6_putEcho_169 : decode cX6_putEcho 169 = .ok (.iadd, 1) := by decide +kernel
theorem dX6_putEcho_170 : decode cX6_putEcho 170 = .ok (.iconst 1, 1) := by decide +kernel
theorem dX6_putEcho_171 : decode cX6_putEcho 171 = .ok (.iadd, 1) := by decide +kernel
theorem dX6_putEcho_172 : decode cX6_putEcho 172 = .ok (.iload 13, 2) := by decide +kernel
theorem dX6_putEcho_174 : decode cX6_putEcho 174 = .ok (.invokevirtual 81, 3) := by decide +kernel
theorem dX6_putEcho_177 : decode cX6_putEcho 177 = .ok (.goto 19, 3) := by decide +kernel
theorem dX6_putEcho_180 : decode cX6_putEcho 180 = .ok (.aload_n 0, 1) := by decide +kernel
theorem dX6_putEcho_181 : decode cX6_putEcho 181 = .ok (.iload 6, 2) := by decide +kernel
theorem dX6_putEcho_183 : decode cX6_putEcho 183 = .ok (.iconst 4, 1) := by decide +kernel
theorem dX6_putEcho_184 : decode cX6_putEcho 184 = .ok (.iload 7, 2) := by decide +kernel
theorem dX6_putEcho_186 : decode cX6_putEcho 186 = .ok (.imul, 1) := by decide +kernel
theorem dX6_putEcho_187 : decode cX6_putEcho 187 = .ok (.iadd, 1) := by decide +kernel
theorem dX6_putEcho_188 : decode cX6_putEcho 188 = .ok (.iconst 3, 1) := by decide +kernel
theorem dX6_putEcho_189 : decode cX6_putEcho 189 = .ok (.iadd, 1) := by decide +kernel
theorem dX6_putEcho_190 : decode cX6_putEcho 190 = .ok (.iload 13, 2) := by decide +kernel
theorem dX6_putEcho_192 : decode cX6_putEcho 192 = .ok (.ineg, 1) := by decide +kernel
theorem dX6_putEcho_193 : decode cX6_putEcho 193 = .ok (.invokevirtual 81, 3) := by decide +kernel
theorem dX6_putEcho_196 : decode cX6_putEcho 196 = .ok (.istore 14, 2) := by decide +kernel
theorem dX6_putEcho_198 : decode cX6_putEcho 198 = .ok (.iinc 7 1, 3) := by decide +kernel
theorem dX6_putEcho_201 : decode cX6_putEcho 201 = .ok (.goto (-152), 3) := by decide +kernel
theorem dX6_putEcho_204 : decode cX6_putEcho 204 = .ok (.aload_n 0, 1) := by decide +kernel
theorem dX6_putEcho_205 : decode cX6_putEcho 205 = .ok (.iload 6, 2) := by decide +kernel
theorem dX6_putEcho_207 : decode cX6_putEcho 207 = .ok (.invokevirtual 85, 3) := by decide +kernel
theorem dX6_putEcho_210 : decode cX6_putEcho 210 = .ok (.ireturn, 1) := by decide +kernel
theorem dX6_putShine_0 : decode cX6_putShine 0 = .ok (.aload_n 0, 1) := by decide +kernel
theorem dX6_putShine_1 : decode cX6_putShine 1 = .ok (.iload_n 1, 1) := by decide +kernel
theorem dX6_putShine_2 : decode cX6_putShine 2 = .ok (.iload_n 2, 1) := by decide +kernel
theorem dX6_putShine_3 : decode cX6_putShine 3 = .ok (.iload_n 3, 1) := by decide +kernel
theorem dX6_putShine_4 : decode cX6_putShine 4 = .ok (.invokevirtual 69, 3) := by decide +kernel
theorem dX6_putShine_7 : decode cX6_putShine 7 = .ok (.ifCond .eq 15, 3) := by decide +kernel
theorem dX6_putShine_10 : decode cX6_putShine 10 = .ok (.iload 4, 2) := by decide +kernel
theorem dX6_putShine_12 : decode cX6_putShine 12 = .ok (.iconst 1, 1) := by decide +kernel
theorem dX6_putShine_13 : decode cX6_putShine 13 = .ok (.sipush 4095, 3) := by decide +kernel
theorem dX6_putShine_16 : decode cX6_putShine 16 = .ok (.invokestatic 60, 3) := by decide +kernel
theorem dX6_putShine_19 : decode cX6_putShine 19 = .ok (.ifCond .ne 7, 3) := by decide +kernel
theorem dX6_putShine_22 : decode cX6_putShine 22 = .ok (.sipush (-10002), 3) := by decide +kernel
theorem dX6_putShine_25 : decode cX6_putShine 25 = .ok (.ireturn, 1) := by decide +kernel
theorem dX6_putShine_26 : decode cX6_putShine 26 = .ok (.iload_n 1, 1) := by decide +kernel
theorem dX6_putShine_27 : decode cX6_putShine 27 = .ok (.iload_n 2, 1) := by decide +kernel
theorem dX6_putShine_28 : decode cX6_putShine 28 = .ok (.iload_n 3, 1) := by decide +kernel
theorem dX6_putShine_29 : decode cX6_putShine 29 = .ok (.invokestatic 72, 3) := by decide +kernel
theorem dX6_putShine_32 : decode cX6_putShine 32 = .ok (.istore 5, 2) := by decide +kernel
theorem dX6_putShine_34 : decode cX6_putShine 34 = .ok (.iconst 0, 1) := by decide +kernel
theorem dX6_putShine_35 : decode cX6_putShine 35 = .ok (.istore 6, 2) := by decide +kernel
theorem dX6_putShine_37 : decode cX6_putShine 37 = .ok (.iconst 0, 1) := by decide +kernel
theorem dX6_putShine_38 : decode cX6_putShine 38 = .ok (.istore 7, 2) := by decide +kernel
theorem dX6_putShine_40 : decode cX6_putShine 40 = .ok (.iload 7, 2) := by decide +kernel
theorem dX6_putShine_42 : decode cX6_putShine 42 = .ok (.bipush 12, 2) := by decide +kernel
theorem dX6_putShine_44 : decode cX6_putShine 44 = .ok (.if_icmp .ge 36, 3) := by decide +kernel
theorem dX6_putShine_47 : decode cX6_putShine 47 = .ok (.iload 6, 2) := by decide +kernel
theorem dX6_putShine_49 : decode cX6_putShine 49 = .ok (.aload_n 0, 1) := by decide +kernel
theorem dX6_putShine_50 : decode cX6_putShine 50 = .ok (.iload 5, 2) := by decide +kernel
theorem dX6_putShine_52 : decode cX6_putShine 52 = .ok (.iload 7, 2) := by decide +kernel
theorem dX6_putShine_54 : decode cX6_putShine 54 = .ok (.iadd, 1) := by decide +kernel
theorem dX6_putShine_55 : decode cX6_putShine 55 = .ok (.iload 4, 2) := by decide +kernel
theorem dX6_putShine_57 : decode cX6_putShine 57 = .ok (.invokevirtual 81, 3) := by decide +kernel
theorem dX6_putShine_60 : decode cX6_putShine 60 = .ok (.sipush 4095, 3) := by decide +kernel
theorem dX6_putShine_63 : decode cX6_putShine 63 = .ok (.if_icmp .ne 7, 3) := by decide +kernel
theorem dX6_putShine_66 : decode cX6_putShine 66 = .ok (.iconst 1, 1) := by decide +kernel
theorem dX6_putShine_67 : decode cX6_putShine 67 = .ok (.goto 4, 3) := by decide +kernel
theorem dX6_putShine_70 : decode cX6_putShine 70 = .ok (.iconst 0, 1) := by decide +kernel
theorem dX6_putShine_71 : decode cX6_putShine 71 = .ok (.iadd, 1) := by decide +kernel
theorem dX6_putShine_72 : decode cX6_putShine 72 = .ok (.istore 6, 2) := by decide +kernel
theorem dX6_putShine_74 : decode cX6_putShine 74 = .ok (.iinc 7 1, 3) := by decide +kernel
theorem dX6_putShine_77 : decode cX6_putShine 77 = .ok (.goto (-37), 3) := by decide +kernel
theorem dX6_putShine_80 : decode cX6_putShine 80 = .ok (.iload 6, 2) := by decide +kernel
theorem dX6_putShine_82 : decode cX6_putShine 82 = .ok (.ireturn, 1) := by decide +kernel
theorem dX6_putClear_0 : decode cX6_putClear 0 = .ok (.aload_n 0, 1) := by decide +kernel
theorem dX6_putClear_1 : decode cX6_putClear 1 = .ok (.iload_n 1, 1) := by decide +kernel
theorem dX6_putClear_2 : decode cX6_putClear 2 = .ok (.iload_n 2, 1) := by decide +kernel
theorem dX6_putClear_3 : decode cX6_putClear 3 = .ok (.iload_n 3, 1) := by decide +kernel
theorem dX6_putClear_4 : decode cX6_putClear 4 = .ok (.invokevirtual 69, 3) := by decide +kernel
theorem dX6_putClear_7 : decode cX6_putClear 7 = .ok (.ifCond .ne 7, 3) := by decide +kernel
theorem dX6_putClear_10 : decode cX6_putClear 10 = .ok (.sipush (-10002), 3) := by decide +kernel
theorem dX6_putClear_13 : decode cX6_putClear 13 = .ok (.ireturn, 1) := by decide +kernel
theorem dX6_putClear_14 : decode cX6_putClear 14 = .ok (.iload_n 1, 1) := by decide +kernel
theorem dX6_putClear_15 : decode cX6_putClear 15 = .ok (.iload_n 2, 1) := by decide +kernel
theorem dX6_putClear_16 : decode cX6_putClear 16 = .ok (.iload_n 3, 1) := by decide +kernel
theorem dX6_putClear_17 : decode cX6_putClear 17 = .ok (.invokestatic 72, 3) := by decide +kernel
theorem dX6_putClear_20 : decode cX6_putClear 20 = .ok (.istore 4, 2) := by decide +kernel
theorem dX6_putClear_22 : decode cX6_putClear 22 = .ok (.iconst 0, 1) := by decide +kernel
theorem dX6_putClear_23 : decode cX6_putClear 23 = .ok (.istore 5, 2) := by decide +kernel
theorem dX6_putClear_25 : decode cX6_putClear 25 = .ok (.iconst 0, 1) := by decide +kernel
theorem dX6_putClear_26 : decode cX6_putClear 26 = .ok (.istore 6, 2) := by decide +kernel
theorem dX6_putClear_28 : decode cX6_putClear 28 = .ok (.iload 6, 2) := by decide +kernel
theorem dX6_putClear_30 : decode cX6_putClear 30 = .ok (.bipush 12, 2) := by decide +kernel
theorem dX6_putClear_32 : decode cX6_putClear 32 = .ok (.if_icmp .ge 43, 3) := by decide +kernel
theorem dX6_putClear_35 : decode cX6_putClear 35 = .ok (.iload 5, 2) := by decide +kernel
theorem dX6_putClear_37 : decode cX6_putClear 37 = .ok (.aload_n 0, 1) := by decide +kernel
theorem dX6_putClear_38 : decode cX6_putClear 38 = .ok (.getfield 7, 3) := by decide +kernel
theorem dX6_putClear_41 : decode cX6_putClear 41 = .ok (.iload 4, 2) := by decide +kernel
theorem dX6_putClear_43 : decode cX6_putClear 43 = .ok (.iload 6, 2) := by decide +kernel
theorem dX6_putClear_45 : decode cX6_putClear 45 = .ok (.iadd, 1) := by decide +kernel
theorem dX6_putClear_46 : decode cX6_putClear 46 = .ok (.iaload, 1) := by decide +kernel
theorem dX6_putClear_47 : decode cX6_putClear 47 = .ok (.ifCond .ne 7, 3) := by decide +kernel
theorem dX6_putClear_50 : decode cX6_putClear 50 = .ok (.iconst 0, 1) := by decide +kernel
theorem dX6_putClear_51 : decode cX6_putClear 51 = .ok (.goto 4, 3) := by decide +kernel
theorem dX6_putClear_54 : decode cX6_putClear 54 = .ok (.iconst 1, 1) := by decide +kernel
theorem dX6_putClear_55 : decode cX6_putClear 55 = .ok (.iadd, 1) := by decide +kernel
theorem dX6_putClear_56 : decode cX6_putClear 56 = .ok (.istore 5, 2) := by decide +kernel
theorem dX6_putClear_58 : decode cX6_putClear 58 = .ok (.aload_n 0, 1) := by decide +kernel
theorem dX6_putClear_59 : decode cX6_putClear 59 = .ok (.getfield 7, 3) := by decide +kernel
theorem dX6_putClear_62 : decode cX6_putClear 62 = .ok (.iload 4, 2) := by decide +kernel
theorem dX6_putClear_64 : decode cX6_putClear 64 = .ok (.iload 6, 2) := by decide +kernel
theorem dX6_putClear_66 : decode cX6_putClear 66 = .ok (.iadd, 1) := by decide +kernel
theorem dX6_putClear_67 : decode cX6_putClear 67 = .ok (.iconst 0, 1) := by decide +kernel
theorem dX6_putClear_68 : decode cX6_putClear 68 = .ok (.iastore, 1) := by decide +kernel
theorem dX6_putClear_69 : decode cX6_putClear 69 = .ok (.iinc 6 1, 3) := by decide +kernel
theorem dX6_putClear_72 : decode cX6_putClear 72 = .ok (.goto (-44), 3) := by decide +kernel
theorem dX6_putClear_75 : decode cX6_putClear 75 = .ok (.iload 5, 2) := by decide +kernel
theorem dX6_putClear_77 : decode cX6_putClear 77 = .ok (.ireturn, 1) := by decide +kernel
theorem dX6_grid_0 : decode cX6_grid 0 = .ok (.aload_n 0, 1) := by decide +kernel
theorem dX6_grid_1 : decode cX6_grid 1 = .ok (.invokevirtual 89, 3) := by decide +kernel
theorem dX6_grid_4 : decode cX6_grid 4 = .ok (.aload_n 0, 1) := by decide +kernel
theorem dX6_grid_5 : decode cX6_grid 5 = .ok (.aload_n 0, 1) := by decide +kernel
theorem dX6_grid_6 : decode cX6_grid 6 = .ok (.iload_n 1, 1) := by decide +kernel
theorem dX6_grid_7 : decode cX6_grid 7 = .ok (.iload_n 2, 1) := by decide +kernel
theorem dX6_grid_8 : decode cX6_grid 8 = .ok (.invokevirtual 92, 3) := by decide +kernel
theorem dX6_grid_11 : decode cX6_grid 11 = .ok (.invokevirtual 95, 3) := by decide +kernel
theorem dX6_grid_14 : decode cX6_grid 14 = .ok (.ireturn, 1) := by decide +kernel
theorem dX6_wave_0 : decode cX6_wave 0 = .ok (.aload_n 0, 1) := by decide +kernel
theorem dX6_wave_1 : decode cX6_wave 1 = .ok (.invokevirtual 89, 3) := by decide +kernel
theorem dX6_wave_4 : decode cX6_wave 4 = .ok (.aload_n 0, 1) := by decide +kernel
theorem dX6_wave_5 : decode cX6_wave 5 = .ok (.aload_n 0, 1) := by decide +kernel
theorem dX6_wave_6 : decode cX6_wave 6 = .ok (.iload_n 1, 1) := by decide +kernel
theorem dX6_wave_7 : decode cX6_wave 7 = .ok (.iload_n 2, 1) := by decide +kernel
theorem dX6_wave_8 : decode cX6_wave 8 = .ok (.invokevirtual 98, 3) := by decide +kernel
theorem dX6_wave_11 : decode cX6_wave 11 = .ok (.invokevirtual 95, 3) := by decide +kernel
theorem dX6_wave_14 : decode cX6_wave 14 = .ok (.ireturn, 1) := by decide +kernel
theorem dX6_sets_0 : decode cX6_sets 0 = .ok (.aload_n 0, 1) := by decide +kernel
theorem dX6_sets_1 : decode cX6_sets 1 = .ok (.invokevirtual 89, 3) := by decide +kernel
theorem dX6_sets_4 : decode cX6_sets 4 = .ok (.aload_n 0, 1) := by decide +kernel
theorem dX6_sets_5 : decode cX6_sets 5 = .ok (.aload_n 0, 1) := by decide +kernel
theorem dX6_sets_6 : decode cX6_sets 6 = .ok (.iload_n 1, 1) := by decide +kernel
theorem dX6_sets_7 : decode cX6_sets 7 = .ok (.iload_n 2, 1) := by decide +kernel
theorem dX6_sets_8 : decode cX6_sets 8 = .ok (.invokevirtual 101, 3) := by decide +kernel
theorem dX6_sets_11 : decode cX6_sets 11 = .ok (.invokevirtual 95, 3) := by decide +kernel
theorem dX6_sets_14 : decode cX6_sets 14 = .ok (.ireturn, 1) := by decide +kernel
theorem dX6_sample_0 : decode cX6_sample 0 = .ok (.aload_n 0, 1) := by decide +kernel
theorem dX6_sample_1 : decode cX6_sample 1 = .ok (.iload_n 1, 1) := by decide +kernel
theorem dX6_sample_2 : decode cX6_sample 2 = .ok (.iload_n 2, 1) := by decide +kernel
theorem dX6_sample_3 : decode cX6_sample 3 = .ok (.iload_n 3, 1) := by decide +kernel
theorem dX6_sample_4 : decode cX6_sample 4 = .ok (.invokevirtual 69, 3) := by decide +kernel
theorem dX6_sample_7 : decode cX6_sample 7 = .ok (.ifCond .eq 39, 3) := by decide +kernel
theorem dX6_sample_10 : decode cX6_sample 10 = .ok (.iload 4, 2) := by decide +kernel
theorem dX6_sample_12 : decode cX6_sample 12 = .ok (.iconst 0, 1) := by decide +kernel
theorem dX6_sample_13 : decode cX6_sample 13 = .ok (.iconst 2, 1) := by decide +kernel
theorem dX6_sample_14 : decode cX6_sample 14 = .ok (.invokestatic 60, 3) := by decide +kernel
theorem dX6_sample_17 : decode cX6_sample 17 = .ok (.ifCond .eq 29, 3) := by decide +kernel
theorem dX6_sample_20 : decode cX6_sample 20 = .ok (.iload 5, 2) := by decide +kernel
theorem dX6_sample_22 : decode cX6_sample 22 = .ok (.iconst 0, 1) := by decide +kernel
theorem dX6_sample_23 : decode cX6_sample 23 = .ok (.iconst 3, 1) := by decide +kernel
theorem dX6_sample_24 : decode cX6_sample 24 = .ok (.invokestatic 60, 3) := by decide +kernel
theorem dX6_sample_27 : decode cX6_sample 27 = .ok (.ifCond .eq 19, 3) := by decide +kernel
theorem dX6_sample_30 : decode cX6_sample 30 = .ok (.iload 6, 2) := by decide +kernel
theorem dX6_sample_32 : decode cX6_sample 32 = .ok (.iconst 0, 1) := by decide +kernel
theorem dX6_sample_33 : decode cX6_sample 33 = .ok (.sipush 4095, 3) := by decide +kernel
theorem dX6_sample_36 : decode cX6_sample 36 = .ok (.invokestatic 60, 3) := by decide +kernel
theorem dX6_sample_39 : decode cX6_sample 39 = .ok (.ifCond .eq 7, 3) := by decide +kernel
theorem dX6_sample_42 : decode cX6_sample 42 = .ok (.iconst 1, 1) := by decide +kernel
theorem dX6_sample_43 : decode cX6_sample 43 = .ok (.goto 4, 3) := by decide +kernel
theorem dX6_sample_46 : decode cX6_sample 46 = .ok (.iconst 0, 1) := by decide +kernel
theorem dX6_sample_47 : decode cX6_sample 47 = .ok (.istore 7, 2) := by decide +kernel
theorem dX6_sample_49 : decode cX6_sample 49 = .ok (.aload_n 0, 1) := by decide +kernel
theorem dX6_sample_50 : decode cX6_sample 50 = .ok (.invokevirtual 89, 3) := by decide +kernel
theorem dX6_sample_53 : decode cX6_sample 53 = .ok (.aload_n 0, 1) := by decide +kernel
theorem dX6_sample_54 : decode cX6_sample 54 = .ok (.iload 7, 2) := by decide +kernel
theorem dX6_sample_56 : decode cX6_sample 56 = .ok (.ifCond .eq 26, 3) := by decide +kernel
theorem dX6_sample_59 : decode cX6_sample 59 = .ok (.aload_n 0, 1) := by decide +kernel
theorem dX6_sample_60 : decode cX6_sample 60 = .ok (.iload_n 1, 1) := by decide +kernel
theorem dX6_sample_61 : decode cX6_sample 61 = .ok (.iload_n 2, 1) := by decide +kernel
theorem dX6_sample_62 : decode cX6_sample 62 = .ok (.iload_n 3, 1) := by decide +kernel
theorem dX6_sample_63 : decode cX6_sample 63 = .ok (.invokestatic 72, 3) := by decide +kernel
theorem dX6_sample_66 : decode cX6_sample 66 = .ok (.iconst 4, 1) := by decide +kernel
theorem dX6_sample_67 : decode cX6_sample 67 = .ok (.iload 4, 2) := by decide +kernel
theorem dX6_sample_69 : decode cX6_sample 69 = .ok (.imul, 1) := by decide +kernel
theorem dX6_sample_70 : decode cX6_sample 70 = .ok (.iadd, 1) := by decide +kernel
theorem dX6_sample_71 : decode cX6_sample 71 = .ok (.iload 5, 2) := by decide +kernel
theorem dX6_sample_73 : decode cX6_sample 73 = .ok (.iadd, 1) := by decide +kernel
theorem dX6_sample_74 : decode cX6_sample 74 = .ok (.iload 6, 2) := by decide +kernel
theorem dX6_sample_76 : decode cX6_sample 76 = .ok (.invokevirtual 104, 3) := by decide +kernel
theorem dX6_sample_79 : decode cX6_sample 79 = .ok (.goto 6, 3) := by decide +kernel
theorem dX6_sample_82 : decode cX6_sample 82 = .ok (.sipush (-10002), 3) := by decide +kernel
theorem dX6_sample_85 : decode cX6_sample 85 = .ok (.invokevirtual 95, 3) := by decide +kernel
theorem dX6_sample_88 : decode cX6_sample 88 = .ok (.ireturn, 1) := by decide +kernel
theorem dX6_echo_0 : decode cX6_echo 0 = .ok (.aload_n 0, 1) := by decide +kernel
theorem dX6_echo_1 : decode cX6_echo 1 = .ok (.invokevirtual 89, 3) := by decide +kernel
theorem dX6_echo_4 : decode cX6_echo 4 = .ok (.aload_n 0, 1) := by decide +kernel
theorem dX6_echo_5 : decode cX6_echo 5 = .ok (.aload_n 0, 1) := by decide +kernel
theorem dX6_echo_6 : decode cX6_echo 6 = .ok (.iload_n 1, 1) := by decide +kernel
theorem dX6_echo_7 : decode cX6_echo 7 = .ok (.iload_n 2, 1) := by decide +kernel
theorem dX6_echo_8 : decode cX6_echo 8 = .ok (.iload_n 3, 1) := by decide +kernel
theorem dX6_echo_9 : decode cX6_echo 9 = .ok (.iload 4, 2) := by decide +kernel
theorem dX6_echo_11 : decode cX6_echo 11 = .ok (.iload 5, 2) := by decide +kernel
theorem dX6_echo_13 : decode cX6_echo 13 = .ok (.invokevirtual 107, 3) := by decide +kernel
theorem dX6_echo_16 : decode cX6_echo 16 = .ok (.invokevirtual 95, 3) := by decide +kernel
theorem dX6_echo_19 : decode cX6_echo 19 = .ok (.ireturn, 1) := by decide +kernel
theorem dX6_shines_0 : decode cX6_shines 0 = .ok (.aload_n 0, 1) := by decide +kernel
theorem dX6_shines_1 : decode cX6_shines 1 = .ok (.invokevirtual 89, 3) := by decide +kernel
theorem dX6_shines_4 : decode cX6_shines 4 = .ok (.aload_n 0, 1) := by decide +kernel
theorem dX6_shines_5 : decode cX6_shines 5 = .ok (.aload_n 0, 1) := by decide +kernel
theorem dX6_shines_6 : decode cX6_shines 6 = .ok (.iload_n 1, 1) := by decide +kernel
theorem dX6_shines_7 : decode cX6_shines 7 = .ok (.iload_n 2, 1) := by decide +kernel
theorem dX6_shines_8 : decode cX6_shines 8 = .ok (.iload_n 3, 1) := by decide +kernel
theorem dX6_shines_9 : decode cX6_shines 9 = .ok (.iload 4, 2) := by decide +kernel
theorem dX6_shines_11 : decode cX6_shines 11 = .ok (.invokevirtual 111, 3) := by decide +kernel
theorem dX6_shines_14 : decode cX6_shines 14 = .ok (.invokevirtual 95, 3) := by decide +kernel
theorem dX6_shines_17 : decode cX6_shines 17 = .ok (.ireturn, 1) := by decide +kernel
theorem dX6_clears_0 : decode cX6_clears 0 = .ok (.aload_n 0, 1) := by decide +kernel
theorem dX6_clears_1 : decode cX6_clears 1 = .ok (.invokevirtual 89, 3) := by decide +kernel
theorem dX6_clears_4 : decode cX6_clears 4 = .ok (.aload_n 0, 1) := by decide +kernel
theorem dX6_clears_5 : decode cX6_clears 5 = .ok (.aload_n 0, 1) := by decide +kernel
theorem dX6_clears_6 : decode cX6_clears 6 = .ok (.iload_n 1, 1) := by decide +kernel
theorem dX6_clears_7 : decode cX6_clears 7 = .ok (.iload_n 2, 1) := by decide +kernel
theorem dX6_clears_8 : decode cX6_clears 8 = .ok (.iload_n 3, 1) := by decide +kernel
theorem dX6_clears_9 : decode cX6_clears 9 = .ok (.invokevirtual 115, 3) := by decide +kernel
theorem dX6_clears_12 : decode cX6_clears 12 = .ok (.invokevirtual 95, 3) := by decide +kernel
theorem dX6_clears_15 : decode cX6_clears 15 = .ok (.ireturn, 1) := by decide +kernel
theorem dX6_acrossOf_0 : decode cX6_acrossOf 0 = .ok (.aload_n 0, 1) := by decide +kernel
theorem dX6_acrossOf_1 : decode cX6_acrossOf 1 = .ok (.getfield 7, 3) := by decide +kernel
theorem dX6_acrossOf_4 : decode cX6_acrossOf 4 = .ok (.iload_n 1, 1) := by decide +kernel
theorem dX6_acrossOf_5 : decode cX6_acrossOf 5 = .ok (.iaload, 1) := by decide +kernel
theorem dX6_acrossOf_6 : decode cX6_acrossOf 6 = .ok (.aload_n 0, 1) := by decide +kernel
theorem dX6_acrossOf_7 : decode cX6_acrossOf 7 = .ok (.getfield 7, 3) := by decide +kernel
theorem dX6_acrossOf_10 : decode cX6_acrossOf 10 = .ok (.iload_n 1, 1) := by decide +kernel
theorem dX6_acrossOf_11 : decode cX6_acrossOf 11 = .ok (.iconst 2, 1) := by decide +kernel
theorem dX6_acrossOf_12 : decode cX6_acrossOf 12 = .ok (.iadd, 1) := by decide +kernel
theorem dX6_acrossOf_13 : decode cX6_acrossOf 13 = .ok (.iaload, 1) := by decide +kernel
theorem dX6_acrossOf_14 : decode cX6_acrossOf 14 = .ok (.isub, 1) := by decide +kernel
theorem dX6_acrossOf_15 : decode cX6_acrossOf 15 = .ok (.ireturn, 1) := by decide +kernel
theorem dX6_downOf_0 : decode cX6_downOf 0 = .ok (.aload_n 0, 1) := by decide +kernel
theorem dX6_downOf_1 : decode cX6_downOf 1 = .ok (.getfield 7, 3) := by decide +kernel
theorem dX6_downOf_4 : decode cX6_downOf 4 = .ok (.iload_n 1, 1) := by decide +kernel
theorem dX6_downOf_5 : decode cX6_downOf 5 = .ok (.iconst 1, 1) := by decide +kernel
theorem dX6_downOf_6 : decode cX6_downOf 6 = .ok (.iadd, 1) := by decide +kernel
theorem dX6_downOf_7 : decode cX6_downOf 7 = .ok (.iaload, 1) := by decide +kernel
theorem dX6_downOf_8 : decode cX6_downOf 8 = .ok (.aload_n 0, 1) := by decide +kernel
theorem dX6_downOf_9 : decode cX6_downOf 9 = .ok (.getfield 7, 3) := by decide +kernel
theorem dX6_downOf_12 : decode cX6_downOf 12 = .ok (.iload_n 1, 1) := by decide +kernel
theorem dX6_downOf_13 : decode cX6_downOf 13 = .ok (.iconst 3, 1) := by decide +kernel
theorem dX6_downOf_14 : decode cX6_downOf 14 = .ok (.iadd, 1) := by decide +kernel
theorem dX6_downOf_15 : decode cX6_downOf 15 = .ok (.iaload, 1) := by decide +kernel
theorem dX6_downOf_16 : decode cX6_downOf 16 = .ok (.isub, 1) := by decide +kernel
theorem dX6_downOf_17 : decode cX6_downOf 17 = .ok (.ireturn, 1) := by decide +kernel
theorem dX6_size_0 : decode cX6_size 0 = .ok (.iload_n 0, 1) := by decide +kernel
theorem dX6_size_1 : decode cX6_size 1 = .ok (.ifCond .ge 8, 3) := by decide +kernel
theorem dX6_size_4 : decode cX6_size 4 = .ok (.iload_n 0, 1) := by decide +kernel
theorem dX6_size_5 : decode cX6_size 5 = .ok (.ineg, 1) := by decide +kernel
theorem dX6_size_6 : decode cX6_size 6 = .ok (.goto 4, 3) := by decide +kernel
theorem dX6_size_9 : decode cX6_size 9 = .ok (.iload_n 0, 1) := by decide +kernel
theorem dX6_size_10 : decode cX6_size 10 = .ok (.ireturn, 1) := by decide +kernel
theorem dX6_sumOf_0 : decode cX6_sumOf 0 = .ok (.aload_n 0, 1) := by decide +kernel
theorem dX6_sumOf_1 : decode cX6_sumOf 1 = .ok (.iload_n 1, 1) := by decide +kernel
theorem dX6_sumOf_2 : decode cX6_sumOf 2 = .ok (.invokevirtual 118, 3) := by decide +kernel
theorem dX6_sumOf_5 : decode cX6_sumOf 5 = .ok (.invokestatic 121, 3) := by decide +kernel
theorem dX6_sumOf_8 : decode cX6_sumOf 8 = .ok (.aload_n 0, 1) := by decide +kernel
theorem dX6_sumOf_9 : decode cX6_sumOf 9 = .ok (.iload_n 1, 1) := by decide +kernel
theorem dX6_sumOf_10 : decode cX6_sumOf 10 = .ok (.invokevirtual 124, 3) := by decide +kernel
theorem dX6_sumOf_13 : decode cX6_sumOf 13 = .ok (.invokestatic 121, 3) := by decide +kernel
theorem dX6_sumOf_16 : decode cX6_sumOf 16 = .ok (.iadd, 1) := by decide +kernel
theorem dX6_sumOf_17 : decode cX6_sumOf 17 = .ok (.ireturn, 1) := by decide +kernel
theorem dX6_strengthOf_0 : decode cX6_strengthOf 0 = .ok (.aload_n 0, 1) := by decide +kernel
theorem dX6_strengthOf_1 : decode cX6_strengthOf 1 = .ok (.iload_n 1, 1) := by decide +kernel
theorem dX6_strengthOf_2 : decode cX6_strengthOf 2 = .ok (.invokevirtual 127, 3) := by decide +kernel
theorem dX6_strengthOf_5 : decode cX6_strengthOf 5 = .ok (.i2f, 1) := by decide +kernel
theorem dX6_strengthOf_6 : decode cX6_strengthOf 6 = .ok (.fconst 2, 1) := by decide +kernel
theorem dX6_strengthOf_7 : decode cX6_strengthOf 7 = .ok (.fdiv, 1) := by decide +kernel
theorem dX6_strengthOf_8 : decode cX6_strengthOf 8 = .ok (.freturn, 1) := by decide +kernel
theorem dX6_phaseOf_0 : decode cX6_phaseOf 0 = .ok (.aload_n 0, 1) := by decide +kernel
theorem dX6_phaseOf_1 : decode cX6_phaseOf 1 = .ok (.iload_n 1, 1) := by decide +kernel
theorem dX6_phaseOf_2 : decode cX6_phaseOf 2 = .ok (.invokevirtual 127, 3) := by decide +kernel
theorem dX6_phaseOf_5 : decode cX6_phaseOf 5 = .ok (.ifCond .ne 6, 3) := by decide +kernel
theorem dX6_phaseOf_8 : decode cX6_phaseOf 8 = .ok (.ldc 130, 2) := by decide +kernel
theorem dX6_phaseOf_10 : decode cX6_phaseOf 10 = .ok (.freturn, 1) := by decide +kernel
theorem dX6_phaseOf_11 : decode cX6_phaseOf 11 = .ok (.aload_n 0, 1) := by decide +kernel
theorem dX6_phaseOf_12 : decode cX6_phaseOf 12 = .ok (.iload_n 1, 1) := by decide +kernel
theorem dX6_phaseOf_13 : decode cX6_phaseOf 13 = .ok (.invokevirtual 124, 3) := by decide +kernel
theorem dX6_phaseOf_16 : decode cX6_phaseOf 16 = .ok (.i2f, 1) := by decide +kernel
theorem dX6_phaseOf_17 : decode cX6_phaseOf 17 = .ok (.aload_n 0, 1) := by decide +kernel
theorem dX6_phaseOf_18 : decode cX6_phaseOf 18 = .ok (.iload_n 1, 1) := by decide +kernel
theorem dX6_phaseOf_19 : decode cX6_phaseOf 19 = .ok (.invokevirtual 127, 3) := by decide +kernel
theorem dX6_phaseOf_22 : decode cX6_phaseOf 22 = .ok (.i2f, 1) := by decide +kernel
theorem dX6_phaseOf_23 : decode cX6_phaseOf 23 = .ok (.fdiv, 1) := by decide +kernel
theorem dX6_phaseOf_24 : decode cX6_phaseOf 24 = .ok (.fstore_n 2, 1) := by decide +kernel
theorem dX6_phaseOf_25 : decode cX6_phaseOf 25 = .ok (.aload_n 0, 1) := by decide +kernel
theorem dX6_phaseOf_26 : decode cX6_phaseOf 26 = .ok (.iload_n 1, 1) := by decide +kernel
theorem dX6_phaseOf_27 : decode cX6_phaseOf 27 = .ok (.invokevirtual 118, 3) := by decide +kernel
theorem dX6_phaseOf_30 : decode cX6_phaseOf 30 = .ok (.ifCond .ge 7, 3) := by decide +kernel
theorem dX6_phaseOf_33 : decode cX6_phaseOf 33 = .ok (.fconst 2, 1) := by decide +kernel
theorem dX6_phaseOf_34 : decode cX6_phaseOf 34 = .ok (.fload_n 2, 1) := by decide +kernel
theorem dX6_phaseOf_35 : decode cX6_phaseOf 35 = .ok (.fsub, 1) := by decide +kernel
theorem dX6_phaseOf_36 : decode cX6_phaseOf 36 = .ok (.freturn, 1) := by decide +kernel
theorem dX6_phaseOf_37 : decode cX6_phaseOf 37 = .ok (.aload_n 0, 1) := by decide +kernel
theorem dX6_phaseOf_38 : decode cX6_phaseOf 38 = .ok (.iload_n 1, 1) := by decide +kernel
theorem dX6_phaseOf_39 : decode cX6_phaseOf 39 = .ok (.invokevirtual 124, 3) := by decide +kernel
theorem dX6_phaseOf_42 : decode cX6_phaseOf 42 = .ok (.ifCond .lt 7, 3) := by decide +kernel
theorem dX6_phaseOf_45 : decode cX6_phaseOf 45 = .ok (.fload_n 2, 1) := by decide +kernel
theorem dX6_phaseOf_46 : decode cX6_phaseOf 46 = .ok (.goto 7, 3) := by decide +kernel
theorem dX6_phaseOf_49 : decode cX6_phaseOf 49 = .ok (.ldc 76, 2) := by decide +kernel
theorem dX6_phaseOf_51 : decode cX6_phaseOf 51 = .ok (.fload_n 2, 1) := by decide +kernel
theorem dX6_phaseOf_52 : decode cX6_phaseOf 52 = .ok (.fadd, 1) := by decide +kernel
theorem dX6_phaseOf_53 : decode cX6_phaseOf 53 = .ok (.freturn, 1) := by decide +kernel
theorem dX6_residueOf_0 : decode cX6_residueOf 0 = .ok (.aload_n 0, 1) := by decide +kernel
theorem dX6_residueOf_1 : decode cX6_residueOf 1 = .ok (.iload_n 1, 1) := by decide +kernel
theorem dX6_residueOf_2 : decode cX6_residueOf 2 = .ok (.invokevirtual 131, 3) := by decide +kernel
theorem dX6_residueOf_5 : decode cX6_residueOf 5 = .ok (.fstore_n 3, 1) := by decide +kernel
theorem dX6_residueOf_6 : decode cX6_residueOf 6 = .ok (.fload_n 3, 1) := by decide +kernel
theorem dX6_residueOf_7 : decode cX6_residueOf 7 = .ok (.iload_n 2, 1) := by decide +kernel
theorem dX6_residueOf_8 : decode cX6_residueOf 8 = .ok (.i2f, 1) := by decide +kernel
theorem dX6_residueOf_9 : decode cX6_residueOf 9 = .ok (.fmul, 1) := by decide +kernel
theorem dX6_residueOf_10 : decode cX6_residueOf 10 = .ok (.fstore 4, 2) := by decide +kernel
theorem dX6_residueOf_12 : decode cX6_residueOf 12 = .ok (.fload 4, 2) := by decide +kernel
theorem dX6_residueOf_14 : decode cX6_residueOf 14 = .ok (.ldc 76, 2) := by decide +kernel
theorem dX6_residueOf_16 : decode cX6_residueOf 16 = .ok (.fdiv, 1) := by decide +kernel
theorem dX6_residueOf_17 : decode cX6_residueOf 17 = .ok (.ldc 135, 2) := by decide +kernel
theorem dX6_residueOf_19 : decode cX6_residueOf 19 = .ok (.fadd, 1) := by decide +kernel
theorem dX6_residueOf_20 : decode cX6_residueOf 20 = .ok (.f2i, 1) := by decide +kernel
theorem dX6_residueOf_21 : decode cX6_residueOf 21 = .ok (.iload_n 2, 1) := by decide +kernel
theorem dX6_residueOf_22 : decode cX6_residueOf 22 = .ok (.irem, 1) := by decide +kernel
theorem dX6_residueOf_23 : decode cX6_residueOf 23 = .ok (.ireturn, 1) := by decide +kernel
theorem dX6_awayOf_0 : decode cX6_awayOf 0 = .ok (.iload_n 0, 1) := by decide +kernel
theorem dX6_awayOf_1 : decode cX6_awayOf 1 = .ok (.iload_n 1, 1) := by decide +kernel
theorem dX6_awayOf_2 : decode cX6_awayOf 2 = .ok (.isub, 1) := by decide +kernel
theorem dX6_awayOf_3 : decode cX6_awayOf 3 = .ok (.iload_n 2, 1) := by decide +kernel
theorem dX6_awayOf_4 : decode cX6_awayOf 4 = .ok (.irem, 1) := by decide +kernel
theorem dX6_awayOf_5 : decode cX6_awayOf 5 = .ok (.istore_n 3, 1) := by decide +kernel
theorem dX6_awayOf_6 : decode cX6_awayOf 6 = .ok (.iload_n 3, 1) := by decide +kernel
theorem dX6_awayOf_7 : decode cX6_awayOf 7 = .ok (.ifCond .ge 9, 3) := by decide +kernel
theorem dX6_awayOf_10 : decode cX6_awayOf 10 = .ok (.iload_n 3, 1) := by decide +kernel
theorem dX6_awayOf_11 : decode cX6_awayOf 11 = .ok (.iload_n 2, 1) := by decide +kernel
theorem dX6_awayOf_12 : decode cX6_awayOf 12 = .ok (.iadd, 1) := by decide +kernel
theorem dX6_awayOf_13 : decode cX6_awayOf 13 = .ok (.goto 4, 3) := by decide +kernel
theorem dX6_awayOf_16 : decode cX6_awayOf 16 = .ok (.iload_n 3, 1) := by decide +kernel
theorem dX6_awayOf_17 : decode cX6_awayOf 17 = .ok (.istore_n 3, 1) := by decide +kernel
theorem dX6_awayOf_18 : decode cX6_awayOf 18 = .ok (.iload_n 3, 1) := by decide +kernel
theorem dX6_awayOf_19 : decode cX6_awayOf 19 = .ok (.iload_n 2, 1) := by decide +kernel
theorem dX6_awayOf_20 : decode cX6_awayOf 20 = .ok (.iload_n 3, 1) := by decide +kernel
theorem dX6_awayOf_21 : decode cX6_awayOf 21 = .ok (.isub, 1) := by decide +kernel
theorem dX6_awayOf_22 : decode cX6_awayOf 22 = .ok (.if_icmp .ge 7, 3) := by decide +kernel
theorem dX6_awayOf_25 : decode cX6_awayOf 25 = .ok (.iload_n 3, 1) := by decide +kernel
theorem dX6_awayOf_26 : decode cX6_awayOf 26 = .ok (.goto 6, 3) := by decide +kernel
theorem dX6_awayOf_29 : decode cX6_awayOf 29 = .ok (.iload_n 2, 1) := by decide +kernel
theorem dX6_awayOf_30 : decode cX6_awayOf 30 = .ok (.iload_n 3, 1) := by decide +kernel
theorem dX6_awayOf_31 : decode cX6_awayOf 31 = .ok (.isub, 1) := by decide +kernel
theorem dX6_awayOf_32 : decode cX6_awayOf 32 = .ok (.ireturn, 1) := by decide +kernel
theorem dX6_isRate_0 : decode cX6_isRate 0 = .ok (.aload_n 0, 1) := by decide +kernel
theorem dX6_isRate_1 : decode cX6_isRate 1 = .ok (.iload_n 1, 1) := by decide +kernel
theorem dX6_isRate_2 : decode cX6_isRate 2 = .ok (.iload_n 2, 1) := by decide +kernel
theorem dX6_isRate_3 : decode cX6_isRate 3 = .ok (.iload_n 3, 1) := by decide +kernel
theorem dX6_isRate_4 : decode cX6_isRate 4 = .ok (.invokevirtual 69, 3) := by decide +kernel
theorem dX6_isRate_7 : decode cX6_isRate 7 = .ok (.ifCond .eq 17, 3) := by decide +kernel
theorem dX6_isRate_10 : decode cX6_isRate 10 = .ok (.iload 4, 2) := by decide +kernel
theorem dX6_isRate_12 : decode cX6_isRate 12 = .ok (.iconst 0, 1) := by decide +kernel
theorem dX6_isRate_13 : decode cX6_isRate 13 = .ok (.iconst 2, 1) := by decide +kernel
theorem dX6_isRate_14 : decode cX6_isRate 14 = .ok (.invokestatic 60, 3) := by decide +kernel
theorem dX6_isRate_17 : decode cX6_isRate 17 = .ok (.ifCond .eq 7, 3) := by decide +kernel
theorem dX6_isRate_20 : decode cX6_isRate 20 = .ok (.iconst 1, 1) := by decide +kernel
theorem dX6_isRate_21 : decode cX6_isRate 21 = .ok (.goto 4, 3) := by decide +kernel
theorem dX6_isRate_24 : decode cX6_isRate 24 = .ok (.iconst 0, 1) := by decide +kernel
theorem dX6_isRate_25 : decode cX6_isRate 25 = .ok (.ireturn, 1) := by decide +kernel
theorem dX6_raw_0 : decode cX6_raw 0 = .ok (.aload_n 0, 1) := by decide +kernel
theorem dX6_raw_1 : decode cX6_raw 1 = .ok (.iload_n 1, 1) := by decide +kernel
theorem dX6_raw_2 : decode cX6_raw 2 = .ok (.iload_n 2, 1) := by decide +kernel
theorem dX6_raw_3 : decode cX6_raw 3 = .ok (.iload_n 3, 1) := by decide +kernel
theorem dX6_raw_4 : decode cX6_raw 4 = .ok (.iload 4, 2) := by decide +kernel
theorem dX6_raw_6 : decode cX6_raw 6 = .ok (.invokevirtual 136, 3) := by decide +kernel
theorem dX6_raw_9 : decode cX6_raw 9 = .ok (.ifCond .eq 35, 3) := by decide +kernel
theorem dX6_raw_12 : decode cX6_raw 12 = .ok (.iload 5, 2) := by decide +kernel
theorem dX6_raw_14 : decode cX6_raw 14 = .ok (.iconst 0, 1) := by decide +kernel
theorem dX6_raw_15 : decode cX6_raw 15 = .ok (.iconst 3, 1) := by decide +kernel
theorem dX6_raw_16 : decode cX6_raw 16 = .ok (.invokestatic 60, 3) := by decide +kernel
theorem dX6_raw_19 : decode cX6_raw 19 = .ok (.ifCond .eq 25, 3) := by decide +kernel
theorem dX6_raw_22 : decode cX6_raw 22 = .ok (.aload_n 0, 1) := by decide +kernel
theorem dX6_raw_23 : decode cX6_raw 23 = .ok (.getfield 7, 3) := by decide +kernel
theorem dX6_raw_26 : decode cX6_raw 26 = .ok (.iload_n 1, 1) := by decide +kernel
theorem dX6_raw_27 : decode cX6_raw 27 = .ok (.iload_n 2, 1) := by decide +kernel
theorem dX6_raw_28 : decode cX6_raw 28 = .ok (.iload_n 3, 1) := by decide +kernel
theorem dX6_raw_29 : decode cX6_raw 29 = .ok (.invokestatic 72, 3) := by decide +kernel
theorem dX6_raw_32 : decode cX6_raw 32 = .ok (.iconst 4, 1) := by decide +kernel
theorem dX6_raw_33 : decode cX6_raw 33 = .ok (.iload 4, 2) := by decide +kernel
theorem dX6_raw_35 : decode cX6_raw 35 = .ok (.imul, 1) := by decide +kernel
theorem dX6_raw_36 : decode cX6_raw 36 = .ok (.iadd, 1) := by decide +kernel
theorem dX6_raw_37 : decode cX6_raw 37 = .ok (.iload 5, 2) := by decide +kernel
theorem dX6_raw_39 : decode cX6_raw 39 = .ok (.iadd, 1) := by decide +kernel
theorem dX6_raw_40 : decode cX6_raw 40 = .ok (.iaload, 1) := by decide +kernel
theorem dX6_raw_41 : decode cX6_raw 41 = .ok (.goto 7, 3) := by decide +kernel
theorem dX6_raw_44 : decode cX6_raw 44 = .ok (.aload_n 0, 1) := by decide +kernel
theorem dX6_raw_45 : decode cX6_raw 45 = .ok (.invokevirtual 54, 3) := by decide +kernel
theorem dX6_raw_48 : decode cX6_raw 48 = .ok (.ireturn, 1) := by decide +kernel
theorem dX6_of_0 : decode cX6_of 0 = .ok (.aload_n 0, 1) := by decide +kernel
theorem dX6_of_1 : decode cX6_of 1 = .ok (.iload_n 1, 1) := by decide +kernel
theorem dX6_of_2 : decode cX6_of 2 = .ok (.iload_n 2, 1) := by decide +kernel
theorem dX6_of_3 : decode cX6_of 3 = .ok (.iload_n 3, 1) := by decide +kernel
theorem dX6_of_4 : decode cX6_of 4 = .ok (.iload 4, 2) := by decide +kernel
theorem dX6_of_6 : decode cX6_of 6 = .ok (.invokevirtual 136, 3) := by decide +kernel
theorem dX6_of_9 : decode cX6_of 9 = .ok (.ifCond .eq 13, 3) := by decide +kernel
theorem dX6_of_12 : decode cX6_of 12 = .ok (.iload 5, 2) := by decide +kernel
theorem dX6_of_14 : decode cX6_of 14 = .ok (.iconst 0, 1) := by decide +kernel
theorem dX6_of_15 : decode cX6_of 15 = .ok (.iconst 3, 1) := by decide +kernel
theorem dX6_of_16 : decode cX6_of 16 = .ok (.invokestatic 60, 3) := by decide +kernel
theorem dX6_of_19 : decode cX6_of 19 = .ok (.ifCond .ne 8, 3) := by decide +kernel
theorem dX6_of_22 : decode cX6_of 22 = .ok (.aload_n 0, 1) := by decide +kernel
theorem dX6_of_23 : decode cX6_of 23 = .ok (.invokevirtual 54, 3) := by decide +kernel
theorem dX6_of_26 : decode cX6_of 26 = .ok (.ireturn, 1) := by decide +kernel
theorem dX6_of_27 : decode cX6_of 27 = .ok (.iload_n 1, 1) := by decide +kernel
theorem dX6_of_28 : decode cX6_of 28 = .ok (.iload_n 2, 1) := by decide +kernel
theorem dX6_of_29 : decode cX6_of 29 = .ok (.iload_n 3, 1) := by decide +kernel
theorem dX6_of_30 : decode cX6_of 30 = .ok (.invokestatic 72, 3) := by decide +kernel
theorem dX6_of_33 : decode cX6_of 33 = .ok (.iconst 4, 1) := by decide +kernel
theorem dX6_of_34 : decode cX6_of 34 = .ok (.iload 4, 2) := by decide +kernel
theorem dX6_of_36 : decode cX6_of 36 = .ok (.imul, 1) := by decide +kernel
theorem dX6_of_37 : decode cX6_of 37 = .ok (.iadd, 1) := by decide +kernel
theorem dX6_of_38 : decode cX6_of 38 = .ok (.istore 6, 2) := by decide +kernel
theorem dX6_of_40 : decode cX6_of 40 = .ok (.iload 5, 2) := by decide +kernel
theorem dX6_of_42 : decode cX6_of 42 = .ok (.tableswitch 47 0 2 #[26, 33, 40], 26) := by decide +kernel
theorem dX6_of_68 : decode cX6_of 68 = .ok (.aload_n 0, 1) := by decide +kernel
theorem dX6_of_69 : decode cX6_of 69 = .ok (.iload 6, 2) := by decide +kernel
theorem dX6_of_71 : decode cX6_of 71 = .ok (.invokevirtual 118, 3) := by decide +kernel
theorem dX6_of_74 : decode cX6_of 74 = .ok (.ireturn, 1) := by decide +kernel
theorem dX6_of_75 : decode cX6_of 75 = .ok (.aload_n 0, 1) := by decide +kernel
theorem dX6_of_76 : decode cX6_of 76 = .ok (.iload 6, 2) := by decide +kernel
theorem dX6_of_78 : decode cX6_of 78 = .ok (.invokevirtual 124, 3) := by decide +kernel
theorem dX6_of_81 : decode cX6_of 81 = .ok (.ireturn, 1) := by decide +kernel
theorem dX6_of_82 : decode cX6_of 82 = .ok (.aload_n 0, 1) := by decide +kernel
theorem dX6_of_83 : decode cX6_of 83 = .ok (.iload 6, 2) := by decide +kernel
theorem dX6_of_85 : decode cX6_of 85 = .ok (.invokevirtual 127, 3) := by decide +kernel
theorem dX6_of_88 : decode cX6_of 88 = .ok (.ireturn, 1) := by decide +kernel
theorem dX6_of_89 : decode cX6_of 89 = .ok (.aload_n 0, 1) := by decide +kernel
theorem dX6_of_90 : decode cX6_of 90 = .ok (.iload 6, 2) := by decide +kernel
theorem dX6_of_92 : decode cX6_of 92 = .ok (.invokevirtual 127, 3) := by decide +kernel
theorem dX6_of_95 : decode cX6_of 95 = .ok (.ifCond .ne 9, 3) := by decide +kernel
theorem dX6_of_98 : decode cX6_of 98 = .ok (.sipush (-10001), 3) := by decide +kernel
theorem dX6_of_101 : decode cX6_of 101 = .ok (.goto 18, 3) := by decide +kernel
theorem dX6_of_104 : decode cX6_of 104 = .ok (.aload_n 0, 1) := by decide +kernel
theorem dX6_of_105 : decode cX6_of 105 = .ok (.iload 6, 2) := by decide +kernel
theorem dX6_of_107 : decode cX6_of 107 = .ok (.aload_n 0, 1) := by decide +kernel
theorem dX6_of_108 : decode cX6_of 108 = .ok (.getfield 7, 3) := by decide +kernel
theorem dX6_of_111 : decode cX6_of 111 = .ok (.iconst 2, 1) := by decide +kernel
theorem dX6_of_112 : decode cX6_of 112 = .ok (.iload 4, 2) := by decide +kernel
theorem dX6_of_114 : decode cX6_of 114 = .ok (.iadd, 1) := by decide +kernel
theorem dX6_of_115 : decode cX6_of 115 = .ok (.iaload, 1) := by decide +kernel
theorem dX6_of_116 : decode cX6_of 116 = .ok (.invokevirtual 140, 3) := by decide +kernel
theorem dX6_of_119 : decode cX6_of 119 = .ok (.ireturn, 1) := by decide +kernel
theorem dX6_bits_0 : decode cX6_bits 0 = .ok (.aload_n 0, 1) := by decide +kernel
theorem dX6_bits_1 : decode cX6_bits 1 = .ok (.iload_n 1, 1) := by decide +kernel
theorem dX6_bits_2 : decode cX6_bits 2 = .ok (.iload_n 2, 1) := by decide +kernel
theorem dX6_bits_3 : decode cX6_bits 3 = .ok (.iload_n 3, 1) := by decide +kernel
theorem dX6_bits_4 : decode cX6_bits 4 = .ok (.iload 4, 2) := by decide +kernel
theorem dX6_bits_6 : decode cX6_bits 6 = .ok (.invokevirtual 136, 3) := by decide +kernel
theorem dX6_bits_9 : decode cX6_bits 9 = .ok (.ifCond .eq 13, 3) := by decide +kernel
theorem dX6_bits_12 : decode cX6_bits 12 = .ok (.iload 5, 2) := by decide +kernel
theorem dX6_bits_14 : decode cX6_bits 14 = .ok (.iconst 0, 1) := by decide +kernel
theorem dX6_bits_15 : decode cX6_bits 15 = .ok (.iconst 1, 1) := by decide +kernel
theorem dX6_bits_16 : decode cX6_bits 16 = .ok (.invokestatic 60, 3) := by decide +kernel
theorem dX6_bits_19 : decode cX6_bits 19 = .ok (.ifCond .ne 8, 3) := by decide +kernel
theorem dX6_bits_22 : decode cX6_bits 22 = .ok (.aload_n 0, 1) := by decide +kernel
theorem dX6_bits_23 : decode cX6_bits 23 = .ok (.invokevirtual 54, 3) := by decide +kernel
theorem dX6_bits_26 : decode cX6_bits 26 = .ok (.ireturn, 1) := by decide +kernel
theorem dX6_bits_27 : decode cX6_bits 27 = .ok (.iload_n 1, 1) := by decide +kernel
theorem dX6_bits_28 : decode cX6_bits 28 = .ok (.iload_n 2, 1) := by decide +kernel
theorem dX6_bits_29 : decode cX6_bits 29 = .ok (.iload_n 3, 1) := by decide +kernel
theorem dX6_bits_30 : decode cX6_bits 30 = .ok (.invokestatic 72, 3) := by decide +kernel
theorem dX6_bits_33 : decode cX6_bits 33 = .ok (.iconst 4, 1) := by decide +kernel
theorem dX6_bits_34 : decode cX6_bits 34 = .ok (.iload 4, 2) := by decide +kernel
theorem dX6_bits_36 : decode cX6_bits 36 = .ok (.imul, 1) := by decide +kernel
theorem dX6_bits_37 : decode cX6_bits 37 = .ok (.iadd, 1) := by decide +kernel
theorem dX6_bits_38 : decode cX6_bits 38 = .ok (.istore 6, 2) := by decide +kernel
theorem dX6_bits_40 : decode cX6_bits 40 = .ok (.iload 5, 2) := by decide +kernel
theorem dX6_bits_42 : decode cX6_bits 42 = .ok (.ifCond .ne 12, 3) := by decide +kernel
theorem dX6_bits_45 : decode cX6_bits 45 = .ok (.aload_n 0, 1) := by decide +kernel
theorem dX6_bits_46 : decode cX6_bits 46 = .ok (.iload 6, 2) := by decide +kernel
theorem dX6_bits_48 : decode cX6_bits 48 = .ok (.invokevirtual 143, 3) := by decide +kernel
theorem dX6_bits_51 : decode cX6_bits 51 = .ok (.goto 9, 3) := by decide +kernel
theorem dX6_bits_54 : decode cX6_bits 54 = .ok (.aload_n 0, 1) := by decide +kernel
theorem dX6_bits_55 : decode cX6_bits 55 = .ok (.iload 6, 2) := by decide +kernel
theorem dX6_bits_57 : decode cX6_bits 57 = .ok (.invokevirtual 131, 3) := by decide +kernel
theorem dX6_bits_60 : decode cX6_bits 60 = .ok (.invokestatic 146, 3) := by decide +kernel
theorem dX6_bits_63 : decode cX6_bits 63 = .ok (.ireturn, 1) := by decide +kernel
theorem dX6_away_0 : decode cX6_away 0 = .ok (.aload_n 0, 1) := by decide +kernel
theorem dX6_away_1 : decode cX6_away 1 = .ok (.iload_n 1, 1) := by decide +kernel
theorem dX6_away_2 : decode cX6_away 2 = .ok (.iload_n 2, 1) := by decide +kernel
theorem dX6_away_3 : decode cX6_away 3 = .ok (.iload_n 3, 1) := by decide +kernel
theorem dX6_away_4 : decode cX6_away 4 = .ok (.iload 4, 2) := by decide +kernel
theorem dX6_away_6 : decode cX6_away 6 = .ok (.invokevirtual 136, 3) := by decide +kernel
theorem dX6_away_9 : decode cX6_away 9 = .ok (.ifCond .eq 15, 3) := by decide +kernel
theorem dX6_away_12 : decode cX6_away 12 = .ok (.iload 5, 2) := by decide +kernel
theorem dX6_away_14 : decode cX6_away 14 = .ok (.iconst 0, 1) := by decide +kernel
theorem dX6_away_15 : decode cX6_away 15 = .ok (.sipush 9999, 3) := by decide +kernel
theorem dX6_away_18 : decode cX6_away 18 = .ok (.invokestatic 60, 3) := by decide +kernel
theorem dX6_away_21 : decode cX6_away 21 = .ok (.ifCond .ne 8, 3) := by decide +kernel
theorem dX6_away_24 : decode cX6_away 24 = .ok (.aload_n 0, 1) := by decide +kernel
theorem dX6_away_25 : decode cX6_away 25 = .ok (.invokevirtual 54, 3) := by decide +kernel
theorem dX6_away_28 : decode cX6_away 28 = .ok (.ireturn, 1) := by decide +kernel
theorem dX6_away_29 : decode cX6_away 29 = .ok (.iload_n 1, 1) := by decide +kernel
theorem dX6_away_30 : decode cX6_away 30 = .ok (.iload_n 2, 1) := by decide +kernel
theorem dX6_away_31 : decode cX6_away 31 = .ok (.iload_n 3, 1) := by decide +kernel
theorem dX6_away_32 : decode cX6_away 32 = .ok (.invokestatic 72, 3) := by decide +kernel
theorem dX6_away_35 : decode cX6_away 35 = .ok (.iconst 4, 1) := by decide +kernel
theorem dX6_away_36 : decode cX6_away 36 = .ok (.iload 4, 2) := by decide +kernel
theorem dX6_away_38 : decode cX6_away 38 = .ok (.imul, 1) := by decide +kernel
theorem dX6_away_39 : decode cX6_away 39 = .ok (.iadd, 1) := by decide +kernel
theorem dX6_away_40 : decode cX6_away 40 = .ok (.istore 6, 2) := by decide +kernel
theorem dX6_away_42 : decode cX6_away 42 = .ok (.aload_n 0, 1) := by decide +kernel
theorem dX6_away_43 : decode cX6_away 43 = .ok (.getfield 7, 3) := by decide +kernel
theorem dX6_away_46 : decode cX6_away 46 = .ok (.iconst 2, 1) := by decide +kernel
theorem dX6_away_47 : decode cX6_away 47 = .ok (.iload 4, 2) := by decide +kernel
theorem dX6_away_49 : decode cX6_away 49 = .ok (.iadd, 1) := by decide +kernel
theorem dX6_away_50 : decode cX6_away 50 = .ok (.iaload, 1) := by decide +kernel
theorem dX6_away_51 : decode cX6_away 51 = .ok (.istore 7, 2) := by decide +kernel
theorem dX6_away_53 : decode cX6_away 53 = .ok (.aload_n 0, 1) := by decide +kernel
theorem dX6_away_54 : decode cX6_away 54 = .ok (.iload 6, 2) := by decide +kernel
theorem dX6_away_56 : decode cX6_away 56 = .ok (.invokevirtual 127, 3) := by decide +kernel
theorem dX6_away_59 : decode cX6_away 59 = .ok (.ifCond .ne 10, 3) := by decide +kernel
theorem dX6_away_62 : decode cX6_away 62 = .ok (.aload_n 0, 1) := by decide +kernel
theorem dX6_away_63 : decode cX6_away 63 = .ok (.invokevirtual 50, 3) := by decide +kernel
theorem dX6_away_66 : decode cX6_away 66 = .ok (.goto 18, 3) := by decide +kernel
theorem dX6_away_69 : decode cX6_away 69 = .ok (.iload 5, 2) := by decide +kernel
theorem dX6_away_71 : decode cX6_away 71 = .ok (.aload_n 0, 1) := by decide +kernel
theorem dX6_away_72 : decode cX6_away 72 = .ok (.iload 6, 2) := by decide +kernel
theorem dX6_away_74 : decode cX6_away 74 = .ok (.iload 7, 2) := by decide +kernel
theorem dX6_away_76 : decode cX6_away 76 = .ok (.invokevirtual 140, 3) := by decide +kernel
theorem dX6_away_79 : decode cX6_away 79 = .ok (.iload 7, 2) := by decide +kernel
theorem dX6_away_81 : decode cX6_away 81 = .ok (.invokestatic 152, 3) := by decide +kernel
theorem dX6_away_84 : decode cX6_away 84 = .ok (.ireturn, 1) := by decide +kernel
theorem dX6_isBright_0 : decode cX6_isBright 0 = .ok (.iconst 0, 1) := by decide +kernel
theorem dX6_isBright_1 : decode cX6_isBright 1 = .ok (.istore_n 2, 1) := by decide +kernel
theorem dX6_isBright_2 : decode cX6_isBright 2 = .ok (.iconst 0, 1) := by decide +kernel
theorem dX6_isBright_3 : decode cX6_isBright 3 = .ok (.istore_n 3, 1) := by decide +kernel
theorem dX6_isBright_4 : decode cX6_isBright 4 = .ok (.iload_n 3, 1) := by decide +kernel
theorem dX6_isBright_5 : decode cX6_isBright 5 = .ok (.bipush 12, 2) := by decide +kernel
theorem dX6_isBright_7 : decode cX6_isBright 7 = .ok (.if_icmp .ge 37, 3) := by decide +kernel
theorem dX6_isBright_10 : decode cX6_isBright 10 = .ok (.iload_n 2, 1) := by decide +kernel
theorem dX6_isBright_11 : decode cX6_isBright 11 = .ok (.ifCond .ne 21, 3) := by decide +kernel
theorem dX6_isBright_14 : decode cX6_isBright 14 = .ok (.aload_n 0, 1) := by decide +kernel
theorem dX6_isBright_15 : decode cX6_isBright 15 = .ok (.getfield 7, 3) := by decide +kernel
theorem dX6_isBright_18 : decode cX6_isBright 18 = .ok (.iload_n 1, 1) := by decide +kernel
theorem dX6_isBright_19 : decode cX6_isBright 19 = .ok (.iload_n 3, 1) := by decide +kernel
theorem dX6_isBright_20 : decode cX6_isBright 20 = .ok (.iadd, 1) := by decide +kernel
theorem dX6_isBright_21 : decode cX6_isBright 21 = .ok (.iaload, 1) := by decide +kernel
theorem dX6_isBright_22 : decode cX6_isBright 22 = .ok (.aload_n 0, 1) := by decide +kernel
theorem dX6_isBright_23 : decode cX6_isBright 23 = .ok (.getfield 7, 3) := by decide +kernel
theorem dX6_isBright_26 : decode cX6_isBright 26 = .ok (.bipush 7, 2) := by decide +kernel
theorem dX6_isBright_28 : decode cX6_isBright 28 = .ok (.iaload, 1) := by decide +kernel
theorem dX6_isBright_29 : decode cX6_isBright 29 = .ok (.if_icmp .lt 7, 3) := by decide +kernel
theorem dX6_isBright_32 : decode cX6_isBright 32 = .ok (.iconst 1, 1) := by decide +kernel
theorem dX6_isBright_33 : decode cX6_isBright 33 = .ok (.goto 4, 3) := by decide +kernel
theorem dX6_isBright_36 : decode cX6_isBright 36 = .ok (.iconst 0, 1) := by decide +kernel
theorem dX6_isBright_37 : decode cX6_isBright 37 = .ok (.istore_n 2, 1) := by decide +kernel
theorem dX6_isBright_38 : decode cX6_isBright 38 = .ok (.iinc 3 1, 3) := by decide +kernel
theorem dX6_isBright_41 : decode cX6_isBright 41 = .ok (.goto (-37), 3) := by decide +kernel
theorem dX6_isBright_44 : decode cX6_isBright 44 = .ok (.iload_n 2, 1) := by decide +kernel
theorem dX6_isBright_45 : decode cX6_isBright 45 = .ok (.ireturn, 1) := by decide +kernel
theorem dX6_isDark_0 : decode cX6_isDark 0 = .ok (.iconst 0, 1) := by decide +kernel
theorem dX6_isDark_1 : decode cX6_isDark 1 = .ok (.istore_n 2, 1) := by decide +kernel
theorem dX6_isDark_2 : decode cX6_isDark 2 = .ok (.iconst 0, 1) := by decide +kernel
theorem dX6_isDark_3 : decode cX6_isDark 3 = .ok (.istore_n 3, 1) := by decide +kernel
theorem dX6_isDark_4 : decode cX6_isDark 4 = .ok (.iload_n 3, 1) := by decide +kernel
theorem dX6_isDark_5 : decode cX6_isDark 5 = .ok (.iconst 3, 1) := by decide +kernel
theorem dX6_isDark_6 : decode cX6_isDark 6 = .ok (.if_icmp .ge 52, 3) := by decide +kernel
theorem dX6_isDark_9 : decode cX6_isDark 9 = .ok (.iload_n 2, 1) := by decide +kernel
theorem dX6_isDark_10 : decode cX6_isDark 10 = .ok (.ifCond .ne 36, 3) := by decide +kernel
theorem dX6_isDark_13 : decode cX6_isDark 13 = .ok (.aload_n 0, 1) := by decide +kernel
theorem dX6_isDark_14 : decode cX6_isDark 14 = .ok (.iload_n 1, 1) := by decide +kernel
theorem dX6_isDark_15 : decode cX6_isDark 15 = .ok (.iconst 4, 1) := by decide +kernel
theorem dX6_isDark_16 : decode cX6_isDark 16 = .ok (.iload_n 3, 1) := by decide +kernel
theorem dX6_isDark_17 : decode cX6_isDark 17 = .ok (.imul, 1) := by decide +kernel
theorem dX6_isDark_18 : decode cX6_isDark 18 = .ok (.iadd, 1) := by decide +kernel
theorem dX6_isDark_19 : decode cX6_isDark 19 = .ok (.invokevirtual 127, 3) := by decide +kernel
theorem dX6_isDark_22 : decode cX6_isDark 22 = .ok (.ifCond .eq 24, 3) := by decide +kernel
theorem dX6_isDark_25 : decode cX6_isDark 25 = .ok (.aload_n 0, 1) := by decide +kernel
theorem dX6_isDark_26 : decode cX6_isDark 26 = .ok (.iload_n 1, 1) := by decide +kernel
theorem dX6_isDark_27 : decode cX6_isDark 27 = .ok (.iconst 4, 1) := by decide +kernel
theorem dX6_isDark_28 : decode cX6_isDark 28 = .ok (.iload_n 3, 1) := by decide +kernel
theorem dX6_isDark_29 : decode cX6_isDark 29 = .ok (.imul, 1) := by decide +kernel
theorem dX6_isDark_30 : decode cX6_isDark 30 = .ok (.iadd, 1) := by decide +kernel
theorem dX6_isDark_31 : decode cX6_isDark 31 = .ok (.invokevirtual 143, 3) := by decide +kernel
theorem dX6_isDark_34 : decode cX6_isDark 34 = .ok (.aload_n 0, 1) := by decide +kernel
theorem dX6_isDark_35 : decode cX6_isDark 35 = .ok (.getfield 7, 3) := by decide +kernel
theorem dX6_isDark_38 : decode cX6_isDark 38 = .ok (.bipush 6, 2) := by decide +kernel
theorem dX6_isDark_40 : decode cX6_isDark 40 = .ok (.iaload, 1) := by decide +kernel
theorem dX6_isDark_41 : decode cX6_isDark 41 = .ok (.i2f, 1) := by decide +kernel
theorem dX6_isDark_42 : decode cX6_isDark 42 = .ok (.fcmp .g, 1) := by decide +kernel
theorem dX6_isDark_43 : decode cX6_isDark 43 = .ok (.ifCond .ge 7, 3) := by decide +kernel
theorem dX6_isDark_46 : decode cX6_isDark 46 = .ok (.iconst 1, 1) := by decide +kernel
theorem dX6_isDark_47 : decode cX6_isDark 47 = .ok (.goto 4, 3) := by decide +kernel
theorem dX6_isDark_50 : decode cX6_isDark 50 = .ok (.iconst 0, 1) := by decide +kernel
theorem dX6_isDark_51 : decode cX6_isDark 51 = .ok (.istore_n 2, 1) := by decide +kernel
theorem dX6_isDark_52 : decode cX6_isDark 52 = .ok (.iinc 3 1, 3) := by decide +kernel
theorem dX6_isDark_55 : decode cX6_isDark 55 = .ok (.goto (-51), 3) := by decide +kernel
theorem dX6_isDark_58 : decode cX6_isDark 58 = .ok (.iload_n 2, 1) := by decide +kernel
theorem dX6_isDark_59 : decode cX6_isDark 59 = .ok (.ireturn, 1) := by decide +kernel
theorem dX6_bestOf_0 : decode cX6_bestOf 0 = .ok (.sipush (-10001), 3) := by decide +kernel
theorem dX6_bestOf_3 : decode cX6_bestOf 3 = .ok (.istore_n 2, 1) := by decide +kernel
theorem dX6_bestOf_4 : decode cX6_bestOf 4 = .ok (.iconst 0, 1) := by decide +kernel
theorem dX6_bestOf_5 : decode cX6_bestOf 5 = .ok (.istore_n 3, 1) := by decide +kernel
theorem dX6_bestOf_6 : decode cX6_bestOf 6 = .ok (.aload_n 0, 1) := by decide +kernel
theorem dX6_bestOf_7 : decode cX6_bestOf 7 = .ok (.sipush (-10001), 3) := by decide +kernel
theorem dX6_bestOf_10 : decode cX6_bestOf 10 = .ok (.putfield 155, 3) := by decide +kernel
theorem dX6_bestOf_13 : decode cX6_bestOf 13 = .ok (.aload_n 0, 1) := by decide +kernel
theorem dX6_bestOf_14 : decode cX6_bestOf 14 = .ok (.sipush (-10001), 3) := by decide +kernel
theorem dX6_bestOf_17 : decode cX6_bestOf 17 = .ok (.putfield 158, 3) := by decide +kernel
theorem dX6_bestOf_20 : decode cX6_bestOf 20 = .ok (.iconst 0, 1) := by decide +kernel
theorem dX6_bestOf_21 : decode cX6_bestOf 21 = .ok (.istore 4, 2) := by decide +kernel
theorem dX6_bestOf_23 : decode cX6_bestOf 23 = .ok (.iload 4, 2) := by decide +kernel
theorem dX6_bestOf_25 : decode cX6_bestOf 25 = .ok (.aload_n 0, 1) := by decide +kernel
theorem dX6_bestOf_26 : decode cX6_bestOf 26 = .ok (.getfield 7, 3) := by decide +kernel
theorem dX6_bestOf_29 : decode cX6_bestOf 29 = .ok (.bipush 8, 2) := by decide +kernel
theorem dX6_bestOf_31 : decode cX6_bestOf 31 = .ok (.iaload, 1) := by decide +kernel
theorem dX6_bestOf_32 : decode cX6_bestOf 32 = .ok (.if_icmp .gt 149, 3) := by decide +kernel
theorem dX6_bestOf_35 : decode cX6_bestOf 35 = .ok (.iconst 1, 1) := by decide +kernel
theorem dX6_bestOf_36 : decode cX6_bestOf 36 = .ok (.istore 5, 2) := by decide +kernel
theorem dX6_bestOf_38 : decode cX6_bestOf 38 = .ok (.iconst 0, 1) := by decide +kernel
theorem dX6_bestOf_39 : decode cX6_bestOf 39 = .ok (.istore 6, 2) := by decide +kernel
theorem dX6_bestOf_41 : decode cX6_bestOf 41 = .ok (.iconst 0, 1) := by decide +kernel
theorem dX6_bestOf_42 : decode cX6_bestOf 42 = .ok (.istore 7, 2) := by decide +kernel
theorem dX6_bestOf_44 : decode cX6_bestOf 44 = .ok (.iload 7, 2) := by decide +kernel
theorem dX6_bestOf_46 : decode cX6_bestOf 46 = .ok (.iconst 3, 1) := by decide +kernel
theorem dX6_bestOf_47 : decode cX6_bestOf 47 = .ok (.if_icmp .ge 75, 3) := by decide +kernel
theorem dX6_bestOf_50 : decode cX6_bestOf 50 = .ok (.iload 5, 2) := by decide +kernel
theorem dX6_bestOf_52 : decode cX6_bestOf 52 = .ok (.ifCond .eq 70, 3) := by decide +kernel
theorem dX6_bestOf_55 : decode cX6_bestOf 55 = .ok (.iload_n 1, 1) := by decide +kernel
theorem dX6_bestOf_56 : decode cX6_bestOf 56 = .ok (.iload 7, 2) := by decide +kernel
theorem dX6_bestOf_58 : decode cX6_bestOf 58 = .ok (.ishr, 1) := by decide +kernel
theorem dX6_bestOf_59 : decode cX6_bestOf 59 = .ok (.iconst 1, 1) := by decide +kernel
theorem dX6_bestOf_60 : decode cX6_bestOf 60 = .ok (.iand, 1) := by decide +kernel
theorem dX6_bestOf_61 : decode cX6_bestOf 61 = .ok (.iconst 1, 1) := by decide +kernel
theorem dX6_bestOf_62 : decode cX6_bestOf 62 = .ok (.if_icmp .ne 54, 3) := by decide +kernel
theorem dX6_bestOf_65 : decode cX6_bestOf 65 = .ok (.iload 4, 2) := by decide +kernel
theorem dX6_bestOf_67 : decode cX6_bestOf 67 = .ok (.aload_n 0, 1) := by decide +kernel
theorem dX6_bestOf_68 : decode cX6_bestOf 68 = .ok (.getfield 25, 3) := by decide +kernel
theorem dX6_bestOf_71 : decode cX6_bestOf 71 = .ok (.iload 7, 2) := by decide +kernel
theorem dX6_bestOf_73 : decode cX6_bestOf 73 = .ok (.iaload, 1) := by decide +kernel
theorem dX6_bestOf_74 : decode cX6_bestOf 74 = .ok (.aload_n 0, 1) := by decide +kernel
theorem dX6_bestOf_75 : decode cX6_bestOf 75 = .ok (.getfield 7, 3) := by decide +kernel
theorem dX6_bestOf_78 : decode cX6_bestOf 78 = .ok (.iconst 2, 1) := by decide +kernel
theorem dX6_bestOf_79 : decode cX6_bestOf 79 = .ok (.iload 7, 2) := by decide +kernel
theorem dX6_bestOf_81 : decode cX6_bestOf 81 = .ok (.iadd, 1) := by decide +kernel
theorem dX6_bestOf_82 : decode cX6_bestOf 82 = .ok (.iaload, 1) := by decide +kernel
theorem dX6_bestOf_83 : decode cX6_bestOf 83 = .ok (.invokestatic 152, 3) := by decide +kernel
theorem dX6_bestOf_86 : decode cX6_bestOf 86 = .ok (.istore 8, 2) := by decide +kernel
theorem dX6_bestOf_88 : decode cX6_bestOf 88 = .ok (.iload 8, 2) := by decide +kernel
theorem dX6_bestOf_90 : decode cX6_bestOf 90 = .ok (.aload_n 0, 1) := by decide +kernel
theorem dX6_bestOf_91 : decode cX6_bestOf 91 = .ok (.getfield 7, 3) := by decide +kernel
theorem dX6_bestOf_94 : decode cX6_bestOf 94 = .ok (.iconst 5, 1) := by decide +kernel
theorem dX6_bestOf_95 : decode cX6_bestOf 95 = .ok (.iaload, 1) := by decide +kernel
theorem dX6_bestOf_96 : decode cX6_bestOf 96 = .ok (.if_icmp .gt 7, 3) := by decide +kernel
theorem dX6_bestOf_99 : decode cX6_bestOf 99 = .ok (.iconst 1, 1) := by decide +kernel
theorem dX6_bestOf_100 : decode cX6_bestOf 100 = .ok (.goto 4, 3) := by decide +kernel
theorem dX6_bestOf_103 : decode cX6_bestOf 103 = .ok (.iconst 0, 1) := by decide +kernel
theorem dX6_bestOf_104 : decode cX6_bestOf 104 = .ok (.istore 5, 2) := by decide +kernel
theorem dX6_bestOf_106 : decode cX6_bestOf 106 = .ok (.iload 6, 2) := by decide +kernel
theorem dX6_bestOf_108 : decode cX6_bestOf 108 = .ok (.iload 8, 2) := by decide +kernel
theorem dX6_bestOf_110 : decode cX6_bestOf 110 = .ok (.iload 8, 2) := by decide +kernel
theorem dX6_bestOf_112 : decode cX6_bestOf 112 = .ok (.imul, 1) := by decide +kernel
theorem dX6_bestOf_113 : decode cX6_bestOf 113 = .ok (.iadd, 1) := by decide +kernel
theorem dX6_bestOf_114 : decode cX6_bestOf 114 = .ok (.istore 6, 2) := by decide +kernel
theorem dX6_bestOf_116 : decode cX6_bestOf 116 = .ok (.iinc 7 1, 3) := by decide +kernel
theorem dX6_bestOf_119 : decode cX6_bestOf 119 = .ok (.goto (-75), 3) := by decide +kernel
theorem dX6_bestOf_122 : decode cX6_bestOf 122 = .ok (.iload 5, 2) := by decide +kernel
theorem dX6_bestOf_124 : decode cX6_bestOf 124 = .ok (.ifCond .eq 51, 3) := by decide +kernel
theorem dX6_bestOf_127 : decode cX6_bestOf 127 = .ok (.aload_n 0, 1) := by decide +kernel
theorem dX6_bestOf_128 : decode cX6_bestOf 128 = .ok (.aload_n 0, 1) := by decide +kernel
theorem dX6_bestOf_129 : decode cX6_bestOf 129 = .ok (.getfield 155, 3) := by decide +kernel
theorem dX6_bestOf_132 : decode cX6_bestOf 132 = .ok (.sipush (-10001), 3) := by decide +kernel
theorem dX6_bestOf_135 : decode cX6_bestOf 135 = .ok (.if_icmp .ne 8, 3) := by decide +kernel
theorem dX6_bestOf_138 : decode cX6_bestOf 138 = .ok (.iload 4, 2) := by decide +kernel
theorem dX6_bestOf_140 : decode cX6_bestOf 140 = .ok (.goto 7, 3) := by decide +kernel
theorem dX6_bestOf_143 : decode cX6_bestOf 143 = .ok (.aload_n 0, 1) := by decide +kernel
theorem dX6_bestOf_144 : decode cX6_bestOf 144 = .ok (.getfield 155, 3) := by decide +kernel
theorem dX6_bestOf_147 : decode cX6_bestOf 147 = .ok (.putfield 155, 3) := by decide +kernel
theorem dX6_bestOf_150 : decode cX6_bestOf 150 = .ok (.aload_n 0, 1) := by decide +kernel
theorem dX6_bestOf_151 : decode cX6_bestOf 151 = .ok (.iload 4, 2) := by decide +kernel
theorem dX6_bestOf_153 : decode cX6_bestOf 153 = .ok (.putfield 158, 3) := by decide +kernel
theorem dX6_bestOf_156 : decode cX6_bestOf 156 = .ok (.iload_n 2, 1) := by decide +kernel
theorem dX6_bestOf_157 : decode cX6_bestOf 157 = .ok (.sipush (-10001), 3) := by decide +kernel
theorem dX6_bestOf_160 : decode cX6_bestOf 160 = .ok (.if_icmp .eq 9, 3) := by decide +kernel
theorem dX6_bestOf_163 : decode cX6_bestOf 163 = .ok (.iload 6, 2) := by decide +kernel
theorem dX6_bestOf_165 : decode cX6_bestOf 165 = .ok (.iload_n 3, 1) := by decide +kernel
theorem dX6_bestOf_166 : decode cX6_bestOf 166 = .ok (.if_icmp .ge 9, 3) := by decide +kernel
theorem dX6_bestOf_169 : decode cX6_bestOf 169 = .ok (.iload 4, 2) := by decide +kernel
theorem dX6_bestOf_171 : decode cX6_bestOf 171 = .ok (.istore_n 2, 1) := by decide +kernel
theorem dX6_bestOf_172 : decode cX6_bestOf 172 = .ok (.iload 6, 2) := by decide +kernel
theorem dX6_bestOf_174 : decode cX6_bestOf 174 = .ok (.istore_n 3, 1) := by decide +kernel
theorem dX6_bestOf_175 : decode cX6_bestOf 175 = .ok (.iinc 4 1, 3) := by decide +kernel
theorem dX6_bestOf_178 : decode cX6_bestOf 178 = .ok (.goto (-155), 3) := by decide +kernel
theorem dX6_bestOf_181 : decode cX6_bestOf 181 = .ok (.iload_n 2, 1) := by decide +kernel
theorem dX6_bestOf_182 : decode cX6_bestOf 182 = .ok (.ireturn, 1) := by decide +kernel
theorem dX6_widens_0 : decode cX6_widens 0 = .ok (.aload_n 0, 1) := by decide +kernel
theorem dX6_widens_1 : decode cX6_widens 1 = .ok (.iload_n 1, 1) := by decide +kernel
theorem dX6_widens_2 : decode cX6_widens 2 = .ok (.sipush (-10001), 3) := by decide +kernel
theorem dX6_widens_5 : decode cX6_widens 5 = .ok (.if_icmp .eq 25, 3) := by decide +kernel
theorem dX6_widens_8 : decode cX6_widens 8 = .ok (.aload_n 0, 1) := by decide +kernel
theorem dX6_widens_9 : decode cX6_widens 9 = .ok (.getfield 161, 3) := by decide +kernel
theorem dX6_widens_12 : decode cX6_widens 12 = .ok (.sipush (-10001), 3) := by decide +kernel
theorem dX6_widens_15 : decode cX6_widens 15 = .ok (.if_icmp .eq 11, 3) := by decide +kernel
theorem dX6_widens_18 : decode cX6_widens 18 = .ok (.iload_n 1, 1) := by decide +kernel
theorem dX6_widens_19 : decode cX6_widens 19 = .ok (.aload_n 0, 1) := by decide +kernel
theorem dX6_widens_20 : decode cX6_widens 20 = .ok (.getfield 161, 3) := by decide +kernel
theorem dX6_widens_23 : decode cX6_widens 23 = .ok (.if_icmp .ge 7, 3) := by decide +kernel
theorem dX6_widens_26 : decode cX6_widens 26 = .ok (.iload_n 1, 1) := by decide +kernel
theorem dX6_widens_27 : decode cX6_widens 27 = .ok (.goto 7, 3) := by decide +kernel
theorem dX6_widens_30 : decode cX6_widens 30 = .ok (.aload_n 0, 1) := by decide +kernel
theorem dX6_widens_31 : decode cX6_widens 31 = .ok (.getfield 161, 3) := by decide +kernel
theorem dX6_widens_34 : decode cX6_widens 34 = .ok (.putfield 161, 3) := by decide +kernel
theorem dX6_widens_37 : decode cX6_widens 37 = .ok (.aload_n 0, 1) := by decide +kernel
theorem dX6_widens_38 : decode cX6_widens 38 = .ok (.iload_n 1, 1) := by decide +kernel
theorem dX6_widens_39 : decode cX6_widens 39 = .ok (.sipush (-10001), 3) := by decide +kernel
theorem dX6_widens_42 : decode cX6_widens 42 = .ok (.if_icmp .eq 25, 3) := by decide +kernel
theorem dX6_widens_45 : decode cX6_widens 45 = .ok (.aload_n 0, 1) := by decide +kernel
theorem dX6_widens_46 : decode cX6_widens 46 = .ok (.getfield 164, 3) := by decide +kernel
theorem dX6_widens_49 : decode cX6_widens 49 = .ok (.sipush (-10001), 3) := by decide +kernel
theorem dX6_widens_52 : decode cX6_widens 52 = .ok (.if_icmp .eq 11, 3) := by decide +kernel
theorem dX6_widens_55 : decode cX6_widens 55 = .ok (.iload_n 1, 1) := by decide +kernel
theorem dX6_widens_56 : decode cX6_widens 56 = .ok (.aload_n 0, 1) := by decide +kernel
theorem dX6_widens_57 : decode cX6_widens 57 = .ok (.getfield 164, 3) := by decide +kernel
theorem dX6_widens_60 : decode cX6_widens 60 = .ok (.if_icmp .le 7, 3) := by decide +kernel
theorem dX6_widens_63 : decode cX6_widens 63 = .ok (.iload_n 1, 1) := by decide +kernel
theorem dX6_widens_64 : decode cX6_widens 64 = .ok (.goto 7, 3) := by decide +kernel
theorem dX6_widens_67 : decode cX6_widens 67 = .ok (.aload_n 0, 1) := by decide +kernel
theorem dX6_widens_68 : decode cX6_widens 68 = .ok (.getfield 164, 3) := by decide +kernel
theorem dX6_widens_71 : decode cX6_widens 71 = .ok (.putfield 164, 3) := by decide +kernel
theorem dX6_widens_74 : decode cX6_widens 74 = .ok (.return_, 1) := by decide +kernel
theorem dX6_looksAt_0 : decode cX6_looksAt 0 = .ok (.aload_n 0, 1) := by decide +kernel
theorem dX6_looksAt_1 : decode cX6_looksAt 1 = .ok (.sipush (-10001), 3) := by decide +kernel
theorem dX6_looksAt_4 : decode cX6_looksAt 4 = .ok (.putfield 167, 3) := by decide +kernel
theorem dX6_looksAt_7 : decode cX6_looksAt 7 = .ok (.aload_n 0, 1) := by decide +kernel
theorem dX6_looksAt_8 : decode cX6_looksAt 8 = .ok (.sipush (-10001), 3) := by decide +kernel
theorem dX6_looksAt_11 : decode cX6_looksAt 11 = .ok (.putfield 161, 3) := by decide +kernel
theorem dX6_looksAt_14 : decode cX6_looksAt 14 = .ok (.aload_n 0, 1) := by decide +kernel
theorem dX6_looksAt_15 : decode cX6_looksAt 15 = .ok (.sipush (-10001), 3) := by decide +kernel
theorem dX6_looksAt_18 : decode cX6_looksAt 18 = .ok (.putfield 164, 3) := by decide +kernel
theorem dX6_looksAt_21 : decode cX6_looksAt 21 = .ok (.aload_n 0, 1) := by decide +kernel
theorem dX6_looksAt_22 : decode cX6_looksAt 22 = .ok (.iload_n 1, 1) := by decide +kernel
theorem dX6_looksAt_23 : decode cX6_looksAt 23 = .ok (.invokevirtual 170, 3) := by decide +kernel
theorem dX6_looksAt_26 : decode cX6_looksAt 26 = .ok (.ifCond .eq 9, 3) := by decide +kernel
theorem dX6_looksAt_29 : decode cX6_looksAt 29 = .ok (.aload_n 0, 1) := by decide +kernel
theorem dX6_looksAt_30 : decode cX6_looksAt 30 = .ok (.iconst 1, 1) := by decide +kernel
theorem dX6_looksAt_31 : decode cX6_looksAt 31 = .ok (.putfield 174, 3) := by decide +kernel
theorem dX6_looksAt_34 : decode cX6_looksAt 34 = .ok (.return_, 1) := by decide +kernel
theorem dX6_looksAt_35 : decode cX6_looksAt 35 = .ok (.aload_n 0, 1) := by decide +kernel
theorem dX6_looksAt_36 : decode cX6_looksAt 36 = .ok (.iload_n 1, 1) := by decide +kernel
theorem dX6_looksAt_37 : decode cX6_looksAt 37 = .ok (.invokevirtual 177, 3) := by decide +kernel
theorem dX6_looksAt_40 : decode cX6_looksAt 40 = .ok (.ifCond .eq 9, 3) := by decide +kernel
theorem dX6_looksAt_43 : decode cX6_looksAt 43 = .ok (.aload_n 0, 1) := by decide +kernel
theorem dX6_looksAt_44 : decode cX6_looksAt 44 = .ok (.iconst 2, 1) := by decide +kernel
theorem dX6_looksAt_45 : decode cX6_looksAt 45 = .ok (.putfield 174, 3) := by decide +kernel
theorem dX6_looksAt_48 : decode cX6_looksAt 48 = .ok (.return_, 1) := by decide +kernel
theorem dX6_looksAt_49 : decode cX6_looksAt 49 = .ok (.iconst 0, 1) := by decide +kernel
theorem dX6_looksAt_50 : decode cX6_looksAt 50 = .ok (.istore_n 2, 1) := by decide +kernel
theorem dX6_looksAt_51 : decode cX6_looksAt 51 = .ok (.iload_n 2, 1) := by decide +kernel
theorem dX6_looksAt_52 : decode cX6_looksAt 52 = .ok (.iconst 3, 1) := by decide +kernel
theorem dX6_looksAt_53 : decode cX6_looksAt 53 = .ok (.if_icmp .ge 32, 3) := by decide +kernel
theorem dX6_looksAt_56 : decode cX6_looksAt 56 = .ok (.aload_n 0, 1) := by decide +kernel
theorem dX6_looksAt_57 : decode cX6_looksAt 57 = .ok (.getfield 25, 3) := by decide +kernel
theorem dX6_looksAt_60 : decode cX6_looksAt 60 = .ok (.iload_n 2, 1) := by decide +kernel
theorem dX6_looksAt_61 : decode cX6_looksAt 61 = .ok (.aload_n 0, 1) := by decide +kernel
theorem dX6_looksAt_62 : decode cX6_looksAt 62 = .ok (.iload_n 1, 1) := by decide +kernel
theorem dX6_looksAt_63 : decode cX6_looksAt 63 = .ok (.iconst 4, 1) := by decide +kernel
theorem dX6_looksAt_64 : decode cX6_looksAt 64 = .ok (.iload_n 2, 1) := by decide +kernel
theorem dX6_looksAt_65 : decode cX6_looksAt 65 = .ok (.imul, 1) := by decide +kernel
theorem dX6_looksAt_66 : decode cX6_looksAt 66 = .ok (.iadd, 1) := by decide +kernel
theorem dX6_looksAt_67 : decode cX6_looksAt 67 = .ok (.aload_n 0, 1) := by decide +kernel
theorem dX6_looksAt_68 : decode cX6_looksAt 68 = .ok (.getfield 7, 3) := by decide +kernel
theorem dX6_looksAt_71 : decode cX6_looksAt 71 = .ok (.iconst 2, 1) := by decide +kernel
theorem dX6_looksAt_72 : decode cX6_looksAt 72 = .ok (.iload_n 2, 1) := by decide +kernel
theorem dX6_looksAt_73 : decode cX6_looksAt 73 = .ok (.iadd, 1) := by decide +kernel
theorem dX6_looksAt_74 : decode cX6_looksAt 74 = .ok (.iaload, 1) := by decide +kernel
theorem dX6_looksAt_75 : decode cX6_looksAt 75 = .ok (.invokevirtual 140, 3) := by decide +kernel
theorem dX6_looksAt_78 : decode cX6_looksAt 78 = .ok (.iastore, 1) := by decide +kernel
theorem dX6_looksAt_79 : decode cX6_looksAt 79 = .ok (.iinc 2 1, 3) := by decide +kernel
theorem dX6_looksAt_82 : decode cX6_looksAt 82 = .ok (.goto (-31), 3) := by decide +kernel
theorem dX6_looksAt_85 : decode cX6_looksAt 85 = .ok (.aload_n 0, 1) := by decide +kernel
theorem dX6_looksAt_86 : decode cX6_looksAt 86 = .ok (.bipush 7, 2) := by decide +kernel
theorem dX6_looksAt_88 : decode cX6_looksAt 88 = .ok (.invokevirtual 180, 3) := by decide +kernel
theorem dX6_looksAt_91 : decode cX6_looksAt 91 = .ok (.istore_n 2, 1) := by decide +kernel
theorem dX6_looksAt_92 : decode cX6_looksAt 92 = .ok (.iload_n 2, 1) := by decide +kernel
theorem dX6_looksAt_93 : decode cX6_looksAt 93 = .ok (.sipush (-10001), 3) := by decide +kernel
theorem dX6_looksAt_96 : decode cX6_looksAt 96 = .ok (.if_icmp .eq 60, 3) := by decide +kernel
theorem dX6_looksAt_99 : decode cX6_looksAt 99 = .ok (.iconst 2, 1) := by decide +kernel
theorem dX6_looksAt_100 : decode cX6_looksAt 100 = .ok (.aload_n 0, 1) := by decide +kernel
theorem dX6_looksAt_101 : decode cX6_looksAt 101 = .ok (.getfield 7, 3) := by decide +kernel
theorem dX6_looksAt_104 : decode cX6_looksAt 104 = .ok (.iconst 5, 1) := by decide +kernel
theorem dX6_looksAt_105 : decode cX6_looksAt 105 = .ok (.iaload, 1) := by decide +kernel
theorem dX6_looksAt_106 : decode cX6_looksAt 106 = .ok (.imul, 1) := by decide +kernel
theorem dX6_looksAt_107 : decode cX6_looksAt 107 = .ok (.istore_n 3, 1) := by decide +kernel
theorem dX6_looksAt_108 : decode cX6_looksAt 108 = .ok (.aload_n 0, 1) := by decide +kernel
theorem dX6_looksAt_109 : decode cX6_looksAt 109 = .ok (.iload_n 2, 1) := by decide +kernel
theorem dX6_looksAt_110 : decode cX6_looksAt 110 = .ok (.aload_n 0, 1) := by decide +kernel
theorem dX6_looksAt_111 : decode cX6_looksAt 111 = .ok (.getfield 155, 3) := by decide +kernel
theorem dX6_looksAt_114 : decode cX6_looksAt 114 = .ok (.isub, 1) := by decide +kernel
theorem dX6_looksAt_115 : decode cX6_looksAt 115 = .ok (.iload_n 3, 1) := by decide +kernel
theorem dX6_looksAt_116 : decode cX6_looksAt 116 = .ok (.if_icmp .gt 17, 3) := by decide +kernel
theorem dX6_looksAt_119 : decode cX6_looksAt 119 = .ok (.aload_n 0, 1) := by decide +kernel
theorem dX6_looksAt_120 : decode cX6_looksAt 120 = .ok (.getfield 158, 3) := by decide +kernel
theorem dX6_looksAt_123 : decode cX6_looksAt 123 = .ok (.iload_n 2, 1) := by decide +kernel
theorem dX6_looksAt_124 : decode cX6_looksAt 124 = .ok (.isub, 1) := by decide +kernel
theorem dX6_looksAt_125 : decode cX6_looksAt 125 = .ok (.iload_n 3, 1) := by decide +kernel
theorem dX6_looksAt_126 : decode cX6_looksAt 126 = .ok (.if_icmp .gt 7, 3) := by decide +kernel
theorem dX6_looksAt_129 : decode cX6_looksAt 129 = .ok (.iconst 0, 1) := by decide +kernel
theorem dX6_looksAt_130 : decode cX6_looksAt 130 = .ok (.goto 4, 3) := by decide +kernel
theorem dX6_looksAt_133 : decode cX6_looksAt 133 = .ok (.iconst 3, 1) := by decide +kernel
theorem dX6_looksAt_134 : decode cX6_looksAt 134 = .ok (.putfield 174, 3) := by decide +kernel
theorem dX6_looksAt_137 : decode cX6_looksAt 137 = .ok (.aload_n 0, 1) := by decide +kernel
theorem dX6_looksAt_138 : decode cX6_looksAt 138 = .ok (.aload_n 0, 1) := by decide +kernel
theorem dX6_looksAt_139 : decode cX6_looksAt 139 = .ok (.getfield 174, 3) := by decide +kernel
theorem dX6_looksAt_142 : decode cX6_looksAt 142 = .ok (.ifCond .ne 7, 3) := by decide +kernel
theorem dX6_looksAt_145 : decode cX6_looksAt 145 = .ok (.iload_n 2, 1) := by decide +kernel
theorem dX6_looksAt_146 : decode cX6_looksAt 146 = .ok (.goto 6, 3) := by decide +kernel
theorem dX6_looksAt_149 : decode cX6_looksAt 149 = .ok (.sipush (-10001), 3) := by decide +kernel
theorem dX6_looksAt_152 : decode cX6_looksAt 152 = .ok (.putfield 167, 3) := by decide +kernel
theorem dX6_looksAt_155 : decode cX6_looksAt 155 = .ok (.return_, 1) := by decide +kernel
theorem dX6_looksAt_156 : decode cX6_looksAt 156 = .ok (.aload_n 0, 1) := by decide +kernel
theorem dX6_looksAt_157 : decode cX6_looksAt 157 = .ok (.aload_n 0, 1) := by decide +kernel
theorem dX6_looksAt_158 : decode cX6_looksAt 158 = .ok (.iconst 3, 1) := by decide +kernel
theorem dX6_looksAt_159 : decode cX6_looksAt 159 = .ok (.invokevirtual 180, 3) := by decide +kernel
theorem dX6_looksAt_162 : decode cX6_looksAt 162 = .ok (.invokevirtual 183, 3) := by decide +kernel
theorem dX6_looksAt_165 : decode cX6_looksAt 165 = .ok (.aload_n 0, 1) := by decide +kernel
theorem dX6_looksAt_166 : decode cX6_looksAt 166 = .ok (.aload_n 0, 1) := by decide +kernel
theorem dX6_looksAt_167 : decode cX6_looksAt 167 = .ok (.iconst 5, 1) := by decide +kernel
theorem dX6_looksAt_168 : decode cX6_looksAt 168 = .ok (.invokevirtual 180, 3) := by decide +kernel
theorem dX6_looksAt_171 : decode cX6_looksAt 171 = .ok (.invokevirtual 183, 3) := by decide +kernel
theorem dX6_looksAt_174 : decode cX6_looksAt 174 = .ok (.aload_n 0, 1) := by decide +kernel
theorem dX6_looksAt_175 : decode cX6_looksAt 175 = .ok (.aload_n 0, 1) := by decide +kernel
theorem dX6_looksAt_176 : decode cX6_looksAt 176 = .ok (.bipush 6, 2) := by decide +kernel
theorem dX6_looksAt_178 : decode cX6_looksAt 178 = .ok (.invokevirtual 180, 3) := by decide +kernel
theorem dX6_looksAt_181 : decode cX6_looksAt 181 = .ok (.invokevirtual 183, 3) := by decide +kernel
theorem dX6_looksAt_184 : decode cX6_looksAt 184 = .ok (.aload_n 0, 1) := by decide +kernel
theorem dX6_looksAt_185 : decode cX6_looksAt 185 = .ok (.aload_n 0, 1) := by decide +kernel
theorem dX6_looksAt_186 : decode cX6_looksAt 186 = .ok (.getfield 161, 3) := by decide +kernel
theorem dX6_looksAt_189 : decode cX6_looksAt 189 = .ok (.sipush (-10001), 3) := by decide +kernel
theorem dX6_looksAt_192 : decode cX6_looksAt 192 = .ok (.if_icmp .ne 7, 3) := by decide +kernel
theorem dX6_looksAt_195 : decode cX6_looksAt 195 = .ok (.iconst 5, 1) := by decide +kernel
theorem dX6_looksAt_196 : decode cX6_looksAt 196 = .ok (.goto 4, 3) := by decide +kernel
theorem dX6_looksAt_199 : decode cX6_looksAt 199 = .ok (.iconst 4, 1) := by decide +kernel
theorem dX6_looksAt_200 : decode cX6_looksAt 200 = .ok (.putfield 174, 3) := by decide +kernel
theorem dX6_looksAt_203 : decode cX6_looksAt 203 = .ok (.return_, 1) := by decide +kernel
theorem dX6_looksAtAll_0 : decode cX6_looksAtAll 0 = .ok (.iconst 0, 1) := by decide +kernel
theorem dX6_looksAtAll_1 : decode cX6_looksAtAll 1 = .ok (.istore_n 2, 1) := by decide +kernel
theorem dX6_looksAtAll_2 : decode cX6_looksAtAll 2 = .ok (.iload_n 2, 1) := by decide +kernel
theorem dX6_looksAtAll_3 : decode cX6_looksAtAll 3 = .ok (.aload_n 0, 1) := by decide +kernel
theorem dX6_looksAtAll_4 : decode cX6_looksAtAll 4 = .ok (.getfield 7, 3) := by decide +kernel
theorem dX6_looksAtAll_7 : decode cX6_looksAtAll 7 = .ok (.iconst 1, 1) := by decide +kernel
theorem dX6_looksAtAll_8 : decode cX6_looksAtAll 8 = .ok (.iaload, 1) := by decide +kernel
theorem dX6_looksAtAll_9 : decode cX6_looksAtAll 9 = .ok (.if_icmp .ge 93, 3) := by decide +kernel
theorem dX6_looksAtAll_12 : decode cX6_looksAtAll 12 = .ok (.iconst 0, 1) := by decide +kernel
theorem dX6_looksAtAll_13 : decode cX6_looksAtAll 13 = .ok (.istore_n 3, 1) := by decide +kernel
theorem dX6_looksAtAll_14 : decode cX6_looksAtAll 14 = .ok (.iload_n 3, 1) := by decide +kernel
theorem dX6_looksAtAll_15 : decode cX6_looksAtAll 15 = .ok (.aload_n 0, 1) := by decide +kernel
theorem dX6_looksAtAll_16 : decode cX6_looksAtAll 16 = .ok (.getfield 7, 3) := by decide +kernel
theorem dX6_looksAtAll_19 : decode cX6_looksAtAll 19 = .ok (.iconst 0, 1) := by decide +kernel
theorem dX6_looksAtAll_20 : decode cX6_looksAtAll 20 = .ok (.iaload, 1) := by decide +kernel
theorem dX6_looksAtAll_21 : decode cX6_looksAtAll 21 = .ok (.if_icmp .ge 75, 3) := by decide +kernel
theorem dX6_looksAtAll_24 : decode cX6_looksAtAll 24 = .ok (.aload_n 0, 1) := by decide +kernel
theorem dX6_looksAtAll_25 : decode cX6_looksAtAll 25 = .ok (.iload_n 1, 1) := by decide +kernel
theorem dX6_looksAtAll_26 : decode cX6_looksAtAll 26 = .ok (.iload_n 3, 1) := by decide +kernel
theorem dX6_looksAtAll_27 : decode cX6_looksAtAll 27 = .ok (.iload_n 2, 1) := by decide +kernel
theorem dX6_looksAtAll_28 : decode cX6_looksAtAll 28 = .ok (.invokestatic 72, 3) := by decide +kernel
theorem dX6_looksAtAll_31 : decode cX6_looksAtAll 31 = .ok (.invokevirtual 187, 3) := by decide +kernel
theorem dX6_looksAtAll_34 : decode cX6_looksAtAll 34 = .ok (.aload_n 0, 1) := by decide +kernel
theorem dX6_looksAtAll_35 : decode cX6_looksAtAll 35 = .ok (.getfield 28, 3) := by decide +kernel
theorem dX6_looksAtAll_38 : decode cX6_looksAtAll 38 = .ok (.iconst 4, 1) := by decide +kernel
theorem dX6_looksAtAll_39 : decode cX6_looksAtAll 39 = .ok (.iload_n 2, 1) := by decide +kernel
theorem dX6_looksAtAll_40 : decode cX6_looksAtAll 40 = .ok (.imul, 1) := by decide +kernel
theorem dX6_looksAtAll_41 : decode cX6_looksAtAll 41 = .ok (.iload_n 3, 1) := by decide +kernel
theorem dX6_looksAtAll_42 : decode cX6_looksAtAll 42 = .ok (.iadd, 1) := by decide +kernel
theorem dX6_looksAtAll_43 : decode cX6_looksAtAll 43 = .ok (.aload_n 0, 1) := by decide +kernel
theorem dX6_looksAtAll_44 : decode cX6_looksAtAll 44 = .ok (.getfield 174, 3) := by decide +kernel
theorem dX6_looksAtAll_47 : decode cX6_looksAtAll 47 = .ok (.iastore, 1) := by decide +kernel
theorem dX6_looksAtAll_48 : decode cX6_looksAtAll 48 = .ok (.aload_n 0, 1) := by decide +kernel
theorem dX6_looksAtAll_49 : decode cX6_looksAtAll 49 = .ok (.getfield 31, 3) := by decide +kernel
theorem dX6_looksAtAll_52 : decode cX6_looksAtAll 52 = .ok (.iconst 4, 1) := by decide +kernel
theorem dX6_looksAtAll_53 : decode cX6_looksAtAll 53 = .ok (.iload_n 2, 1) := by decide +kernel
theorem dX6_looksAtAll_54 : decode cX6_looksAtAll 54 = .ok (.imul, 1) := by decide +kernel
theorem dX6_looksAtAll_55 : decode cX6_looksAtAll 55 = .ok (.iload_n 3, 1) := by decide +kernel
theorem dX6_looksAtAll_56 : decode cX6_looksAtAll 56 = .ok (.iadd, 1) := by decide +kernel
theorem dX6_looksAtAll_57 : decode cX6_looksAtAll 57 = .ok (.aload_n 0, 1) := by decide +kernel
theorem dX6_looksAtAll_58 : decode cX6_looksAtAll 58 = .ok (.getfield 167, 3) := by decide +kernel
theorem dX6_looksAtAll_61 : decode cX6_looksAtAll 61 = .ok (.iastore, 1) := by decide +kernel
theorem dX6_looksAtAll_62 : decode cX6_looksAtAll 62 = .ok (.aload_n 0, 1) := by decide +kernel
theorem dX6_looksAtAll_63 : decode cX6_looksAtAll 63 = .ok (.getfield 34, 3) := by decide +kernel
theorem dX6_looksAtAll_66 : decode cX6_looksAtAll 66 = .ok (.iconst 4, 1) := by decide +kernel
theorem dX6_looksAtAll_67 : decode cX6_looksAtAll 67 = .ok (.iload_n 2, 1) := by decide +kernel
theorem dX6_looksAtAll_68 : decode cX6_looksAtAll 68 = .ok (.imul, 1) := by decide +kernel
theorem dX6_looksAtAll_69 : decode cX6_looksAtAll 69 = .ok (.iload_n 3, 1) := by decide +kernel
theorem dX6_looksAtAll_70 : decode cX6_looksAtAll 70 = .ok (.iadd, 1) := by decide +kernel
theorem dX6_looksAtAll_71 : decode cX6_looksAtAll 71 = .ok (.aload_n 0, 1) := by decide +kernel
theorem dX6_looksAtAll_72 : decode cX6_looksAtAll 72 = .ok (.getfield 161, 3) := by decide +kernel
theorem dX6_looksAtAll_75 : decode cX6_looksAtAll 75 = .ok (.iastore, 1) := by decide +kernel
theorem dX6_looksAtAll_76 : decode cX6_looksAtAll 76 = .ok (.aload_n 0, 1) := by decide +kernel
theorem dX6_looksAtAll_77 : decode cX6_looksAtAll 77 = .ok (.getfield 37, 3) := by decide +kernel
theorem dX6_looksAtAll_80 : decode cX6_looksAtAll 80 = .ok (.iconst 4, 1) := by decide +kernel
theorem dX6_looksAtAll_81 : decode cX6_looksAtAll 81 = .ok (.iload_n 2, 1) := by decide +kernel
theorem dX6_looksAtAll_82 : decode cX6_looksAtAll 82 = .ok (.imul, 1) := by decide +kernel
theorem dX6_looksAtAll_83 : decode cX6_looksAtAll 83 = .ok (.iload_n 3, 1) := by decide +kernel
theorem dX6_looksAtAll_84 : decode cX6_looksAtAll 84 = .ok (.iadd, 1) := by decide +kernel
theorem dX6_looksAtAll_85 : decode cX6_looksAtAll 85 = .ok (.aload_n 0, 1) := by decide +kernel
theorem dX6_looksAtAll_86 : decode cX6_looksAtAll 86 = .ok (.getfield 164, 3) := by decide +kernel
theorem dX6_looksAtAll_89 : decode cX6_looksAtAll 89 = .ok (.iastore, 1) := by decide +kernel
theorem dX6_looksAtAll_90 : decode cX6_looksAtAll 90 = .ok (.iinc 3 1, 3) := by decide +kernel
theorem dX6_looksAtAll_93 : decode cX6_looksAtAll 93 = .ok (.goto (-79), 3) := by decide +kernel
theorem dX6_looksAtAll_96 : decode cX6_looksAtAll 96 = .ok (.iinc 2 1, 3) := by decide +kernel
theorem dX6_looksAtAll_99 : decode cX6_looksAtAll 99 = .ok (.goto (-97), 3) := by decide +kernel
theorem dX6_looksAtAll_102 : decode cX6_looksAtAll 102 = .ok (.return_, 1) := by decide +kernel
theorem dX6_wraps_0 : decode cX6_wraps 0 = .ok (.aload_n 0, 1) := by decide +kernel
theorem dX6_wraps_1 : decode cX6_wraps 1 = .ok (.iload_n 1, 1) := by decide +kernel
theorem dX6_wraps_2 : decode cX6_wraps 2 = .ok (.iload_n 2, 1) := by decide +kernel
theorem dX6_wraps_3 : decode cX6_wraps 3 = .ok (.iload_n 3, 1) := by decide +kernel
theorem dX6_wraps_4 : decode cX6_wraps 4 = .ok (.iload 4, 2) := by decide +kernel
theorem dX6_wraps_6 : decode cX6_wraps 6 = .ok (.invokevirtual 136, 3) := by decide +kernel
theorem dX6_wraps_9 : decode cX6_wraps 9 = .ok (.ifCond .ne 8, 3) := by decide +kernel
theorem dX6_wraps_12 : decode cX6_wraps 12 = .ok (.aload_n 0, 1) := by decide +kernel
theorem dX6_wraps_13 : decode cX6_wraps 13 = .ok (.invokevirtual 54, 3) := by decide +kernel
theorem dX6_wraps_16 : decode cX6_wraps 16 = .ok (.ireturn, 1) := by decide +kernel
theorem dX6_wraps_17 : decode cX6_wraps 17 = .ok (.aload_n 0, 1) := by decide +kernel
theorem dX6_wraps_18 : decode cX6_wraps 18 = .ok (.iload_n 1, 1) := by decide +kernel
theorem dX6_wraps_19 : decode cX6_wraps 19 = .ok (.iload_n 2, 1) := by decide +kernel
theorem dX6_wraps_20 : decode cX6_wraps 20 = .ok (.iload_n 3, 1) := by decide +kernel
theorem dX6_wraps_21 : decode cX6_wraps 21 = .ok (.invokestatic 72, 3) := by decide +kernel
theorem dX6_wraps_24 : decode cX6_wraps 24 = .ok (.invokevirtual 187, 3) := by decide +kernel
theorem dX6_wraps_27 : decode cX6_wraps 27 = .ok (.aload_n 0, 1) := by decide +kernel
theorem dX6_wraps_28 : decode cX6_wraps 28 = .ok (.getfield 174, 3) := by decide +kernel
theorem dX6_wraps_31 : decode cX6_wraps 31 = .ok (.ifCond .ne 20, 3) := by decide +kernel
theorem dX6_wraps_34 : decode cX6_wraps 34 = .ok (.aload_n 0, 1) := by decide +kernel
theorem dX6_wraps_35 : decode cX6_wraps 35 = .ok (.getfield 167, 3) := by decide +kernel
theorem dX6_wraps_38 : decode cX6_wraps 38 = .ok (.aload_n 0, 1) := by decide +kernel
theorem dX6_wraps_39 : decode cX6_wraps 39 = .ok (.getfield 7, 3) := by decide +kernel
theorem dX6_wraps_42 : decode cX6_wraps 42 = .ok (.iconst 2, 1) := by decide +kernel
theorem dX6_wraps_43 : decode cX6_wraps 43 = .ok (.iload 4, 2) := by decide +kernel
theorem dX6_wraps_45 : decode cX6_wraps 45 = .ok (.iadd, 1) := by decide +kernel
theorem dX6_wraps_46 : decode cX6_wraps 46 = .ok (.iaload, 1) := by decide +kernel
theorem dX6_wraps_47 : decode cX6_wraps 47 = .ok (.idiv, 1) := by decide +kernel
theorem dX6_wraps_48 : decode cX6_wraps 48 = .ok (.goto 7, 3) := by decide +kernel
theorem dX6_wraps_51 : decode cX6_wraps 51 = .ok (.aload_n 0, 1) := by decide +kernel
theorem dX6_wraps_52 : decode cX6_wraps 52 = .ok (.invokevirtual 50, 3) := by decide +kernel
theorem dX6_wraps_55 : decode cX6_wraps 55 = .ok (.ireturn, 1) := by decide +kernel
theorem dX6_mark_0 : decode cX6_mark 0 = .ok (.aload_n 0, 1) := by decide +kernel
theorem dX6_mark_1 : decode cX6_mark 1 = .ok (.iload_n 1, 1) := by decide +kernel
theorem dX6_mark_2 : decode cX6_mark 2 = .ok (.iload_n 2, 1) := by decide +kernel
theorem dX6_mark_3 : decode cX6_mark 3 = .ok (.iload_n 3, 1) := by decide +kernel
theorem dX6_mark_4 : decode cX6_mark 4 = .ok (.invokevirtual 69, 3) := by decide +kernel
theorem dX6_mark_7 : decode cX6_mark 7 = .ok (.ifCond .ne 8, 3) := by decide +kernel
theorem dX6_mark_10 : decode cX6_mark 10 = .ok (.aload_n 0, 1) := by decide +kernel
theorem dX6_mark_11 : decode cX6_mark 11 = .ok (.invokevirtual 54, 3) := by decide +kernel
theorem dX6_mark_14 : decode cX6_mark 14 = .ok (.ireturn, 1) := by decide +kernel
theorem dX6_mark_15 : decode cX6_mark 15 = .ok (.aload_n 0, 1) := by decide +kernel
theorem dX6_mark_16 : decode cX6_mark 16 = .ok (.iload_n 1, 1) := by decide +kernel
theorem dX6_mark_17 : decode cX6_mark 17 = .ok (.iload_n 2, 1) := by decide +kernel
theorem dX6_mark_18 : decode cX6_mark 18 = .ok (.iload_n 3, 1) := by decide +kernel
theorem dX6_mark_19 : decode cX6_mark 19 = .ok (.invokestatic 72, 3) := by decide +kernel
theorem dX6_mark_22 : decode cX6_mark 22 = .ok (.invokevirtual 187, 3) := by decide +kernel
theorem dX6_mark_25 : decode cX6_mark 25 = .ok (.aload_n 0, 1) := by decide +kernel
theorem dX6_mark_26 : decode cX6_mark 26 = .ok (.getfield 174, 3) := by decide +kernel
theorem dX6_mark_29 : decode cX6_mark 29 = .ok (.ireturn, 1) := by decide +kernel
theorem dX6_glowOf_0 : decode cX6_glowOf 0 = .ok (.aload_n 0, 1) := by decide +kernel
theorem dX6_glowOf_1 : decode cX6_glowOf 1 = .ok (.iload_n 1, 1) := by decide +kernel
theorem dX6_glowOf_2 : decode cX6_glowOf 2 = .ok (.invokevirtual 143, 3) := by decide +kernel
theorem dX6_glowOf_5 : decode cX6_glowOf 5 = .ok (.aload_n 0, 1) := by decide +kernel
theorem dX6_glowOf_6 : decode cX6_glowOf 6 = .ok (.iload_n 1, 1) := by decide +kernel
theorem dX6_glowOf_7 : decode cX6_glowOf 7 = .ok (.iconst 4, 1) := by decide +kernel
theorem dX6_glowOf_8 : decode cX6_glowOf 8 = .ok (.iadd, 1) := by decide +kernel
theorem dX6_glowOf_9 : decode cX6_glowOf 9 = .ok (.invokevirtual 143, 3) := by decide +kernel
theorem dX6_glowOf_12 : decode cX6_glowOf 12 = .ok (.fadd, 1) := by decide +kernel
theorem dX6_glowOf_13 : decode cX6_glowOf 13 = .ok (.aload_n 0, 1) := by decide +kernel
theorem dX6_glowOf_14 : decode cX6_glowOf 14 = .ok (.iload_n 1, 1) := by decide +kernel
theorem dX6_glowOf_15 : decode cX6_glowOf 15 = .ok (.bipush 8, 2) := by decide +kernel
theorem dX6_glowOf_17 : decode cX6_glowOf 17 = .ok (.iadd, 1) := by decide +kernel
theorem dX6_glowOf_18 : decode cX6_glowOf 18 = .ok (.invokevirtual 143, 3) := by decide +kernel
theorem dX6_glowOf_21 : decode cX6_glowOf 21 = .ok (.fadd, 1) := by decide +kernel
theorem dX6_glowOf_22 : decode cX6_glowOf 22 = .ok (.freturn, 1) := by decide +kernel
theorem dX6_weighs_0 : decode cX6_weighs 0 = .ok (.aload_n 0, 1) := by decide +kernel
theorem dX6_weighs_1 : decode cX6_weighs 1 = .ok (.iload_n 1, 1) := by decide +kernel
theorem dX6_weighs_2 : decode cX6_weighs 2 = .ok (.iload_n 2, 1) := by decide +kernel
theorem dX6_weighs_3 : decode cX6_weighs 3 = .ok (.iload_n 3, 1) := by decide +kernel
theorem dX6_weighs_4 : decode cX6_weighs 4 = .ok (.invokevirtual 69, 3) := by decide +kernel
theorem dX6_weighs_7 : decode cX6_weighs 7 = .ok (.ifCond .ne 4, 3) := by decide +kernel
theorem dX6_weighs_10 : decode cX6_weighs 10 = .ok (.return_, 1) := by decide +kernel
theorem dX6_weighs_11 : decode cX6_weighs 11 = .ok (.aload_n 0, 1) := by decide +kernel
theorem dX6_weighs_12 : decode cX6_weighs 12 = .ok (.iload_n 1, 1) := by decide +kernel
theorem dX6_weighs_13 : decode cX6_weighs 13 = .ok (.iload_n 2, 1) := by decide +kernel
theorem dX6_weighs_14 : decode cX6_weighs 14 = .ok (.iload_n 3, 1) := by decide +kernel
theorem dX6_weighs_15 : decode cX6_weighs 15 = .ok (.invokestatic 72, 3) := by decide +kernel
theorem dX6_weighs_18 : decode cX6_weighs 18 = .ok (.invokevirtual 187, 3) := by decide +kernel
theorem dX6_weighs_21 : decode cX6_weighs 21 = .ok (.aload_n 0, 1) := by decide +kernel
theorem dX6_weighs_22 : decode cX6_weighs 22 = .ok (.iload_n 1, 1) := by decide +kernel
theorem dX6_weighs_23 : decode cX6_weighs 23 = .ok (.iload_n 2, 1) := by decide +kernel
theorem dX6_weighs_24 : decode cX6_weighs 24 = .ok (.iload_n 3, 1) := by decide +kernel
theorem dX6_weighs_25 : decode cX6_weighs 25 = .ok (.invokestatic 72, 3) := by decide +kernel
theorem dX6_weighs_28 : decode cX6_weighs 28 = .ok (.invokevirtual 190, 3) := by decide +kernel
theorem dX6_weighs_31 : decode cX6_weighs 31 = .ok (.fload 4, 2) := by decide +kernel
theorem dX6_weighs_33 : decode cX6_weighs 33 = .ok (.fsub, 1) := by decide +kernel
theorem dX6_weighs_34 : decode cX6_weighs 34 = .ok (.fstore 5, 2) := by decide +kernel
theorem dX6_weighs_36 : decode cX6_weighs 36 = .ok (.fload 5, 2) := by decide +kernel
theorem dX6_weighs_38 : decode cX6_weighs 38 = .ok (.fconst 0, 1) := by decide +kernel
theorem dX6_weighs_39 : decode cX6_weighs 39 = .ok (.fcmp .g, 1) := by decide +kernel
theorem dX6_weighs_40 : decode cX6_weighs 40 = .ok (.ifCond .ge 9, 3) := by decide +kernel
theorem dX6_weighs_43 : decode cX6_weighs 43 = .ok (.fload 5, 2) := by decide +kernel
theorem dX6_weighs_45 : decode cX6_weighs 45 = .ok (.fneg, 1) := by decide +kernel
theorem dX6_weighs_46 : decode cX6_weighs 46 = .ok (.goto 5, 3) := by decide +kernel
theorem dX6_weighs_49 : decode cX6_weighs 49 = .ok (.fload 5, 2) := by decide +kernel
theorem dX6_weighs_51 : decode cX6_weighs 51 = .ok (.fstore 5, 2) := by decide +kernel
theorem dX6_weighs_53 : decode cX6_weighs 53 = .ok (.aload_n 0, 1) := by decide +kernel
theorem dX6_weighs_54 : decode cX6_weighs 54 = .ok (.getfield 174, 3) := by decide +kernel
theorem dX6_weighs_57 : decode cX6_weighs 57 = .ok (.ifCond .ne 70, 3) := by decide +kernel
theorem dX6_weighs_60 : decode cX6_weighs 60 = .ok (.fload 5, 2) := by decide +kernel
theorem dX6_weighs_62 : decode cX6_weighs 62 = .ok (.ldc 76, 2) := by decide +kernel
theorem dX6_weighs_64 : decode cX6_weighs 64 = .ok (.aload_n 0, 1) := by decide +kernel
theorem dX6_weighs_65 : decode cX6_weighs 65 = .ok (.getfield 7, 3) := by decide +kernel
theorem dX6_weighs_68 : decode cX6_weighs 68 = .ok (.bipush 9, 2) := by decide +kernel
theorem dX6_weighs_70 : decode cX6_weighs 70 = .ok (.iaload, 1) := by decide +kernel
theorem dX6_weighs_71 : decode cX6_weighs 71 = .ok (.i2f, 1) := by decide +kernel
theorem dX6_weighs_72 : decode cX6_weighs 72 = .ok (.fmul, 1) := by decide +kernel
theorem dX6_weighs_73 : decode cX6_weighs 73 = .ok (.fcmp .g, 1) := by decide +kernel
theorem dX6_weighs_74 : decode cX6_weighs 74 = .ok (.ifCond .gt 53, 3) := by decide +kernel
theorem dX6_weighs_77 : decode cX6_weighs 77 = .ok (.fconst 1, 1) := by decide +kernel
theorem dX6_weighs_78 : decode cX6_weighs 78 = .ok (.fconst 1, 1) := by decide +kernel
theorem dX6_weighs_79 : decode cX6_weighs 79 = .ok (.fload 5, 2) := by decide +kernel
theorem dX6_weighs_81 : decode cX6_weighs 81 = .ok (.aload_n 0, 1) := by decide +kernel
theorem dX6_weighs_82 : decode cX6_weighs 82 = .ok (.getfield 7, 3) := by decide +kernel
theorem dX6_weighs_85 : decode cX6_weighs 85 = .ok (.bipush 9, 2) := by decide +kernel
theorem dX6_weighs_87 : decode cX6_weighs 87 = .ok (.iaload, 1) := by decide +kernel
theorem dX6_weighs_88 : decode cX6_weighs 88 = .ok (.i2f, 1) := by decide +kernel
theorem dX6_weighs_89 : decode cX6_weighs 89 = .ok (.fdiv, 1) := by decide +kernel
theorem dX6_weighs_90 : decode cX6_weighs 90 = .ok (.fadd, 1) := by decide +kernel
theorem dX6_weighs_91 : decode cX6_weighs 91 = .ok (.fdiv, 1) := by decide +kernel
theorem dX6_weighs_92 : decode cX6_weighs 92 = .ok (.fstore 6, 2) := by decide +kernel
theorem dX6_weighs_94 : decode cX6_weighs 94 = .ok (.aload_n 0, 1) := by decide +kernel
theorem dX6_weighs_95 : decode cX6_weighs 95 = .ok (.aload_n 0, 1) := by decide +kernel
theorem dX6_weighs_96 : decode cX6_weighs 96 = .ok (.getfield 193, 3) := by decide +kernel
theorem dX6_weighs_99 : decode cX6_weighs 99 = .ok (.fload 6, 2) := by decide +kernel
theorem dX6_weighs_101 : decode cX6_weighs 101 = .ok (.fadd, 1) := by decide +kernel
theorem dX6_weighs_102 : decode cX6_weighs 102 = .ok (.putfield 193, 3) := by decide +kernel
theorem dX6_weighs_105 : decode cX6_weighs 105 = .ok (.aload_n 0, 1) := by decide +kernel
theorem dX6_weighs_106 : decode cX6_weighs 106 = .ok (.aload_n 0, 1) := by decide +kernel
theorem dX6_weighs_107 : decode cX6_weighs 107 = .ok (.getfield 197, 3) := by decide +kernel
theorem dX6_weighs_110 : decode cX6_weighs 110 = .ok (.fload 6, 2) := by decide +kernel
theorem dX6_weighs_112 : decode cX6_weighs 112 = .ok (.aload_n 0, 1) := by decide +kernel
theorem dX6_weighs_113 : decode cX6_weighs 113 = .ok (.getfield 167, 3) := by decide +kernel
theorem dX6_weighs_116 : decode cX6_weighs 116 = .ok (.i2f, 1) := by decide +kernel
theorem dX6_weighs_117 : decode cX6_weighs 117 = .ok (.fmul, 1) := by decide +kernel
theorem dX6_weighs_118 : decode cX6_weighs 118 = .ok (.fadd, 1) := by decide +kernel
theorem dX6_weighs_119 : decode cX6_weighs 119 = .ok (.putfield 197, 3) := by decide +kernel
theorem dX6_weighs_122 : decode cX6_weighs 122 = .ok (.aload_n 0, 1) := by decide +kernel
theorem dX6_weighs_123 : decode cX6_weighs 123 = .ok (.iconst 1, 1) := by decide +kernel
theorem dX6_weighs_124 : decode cX6_weighs 124 = .ok (.putfield 200, 3) := by decide +kernel
theorem dX6_weighs_127 : decode cX6_weighs 127 = .ok (.return_, 1) := by decide +kernel
theorem dX6_filledOf_0 : decode cX6_filledOf 0 = .ok (.aload_n 0, 1) := by decide +kernel
theorem dX6_filledOf_1 : decode cX6_filledOf 1 = .ok (.iload_n 1, 1) := by decide +kernel
theorem dX6_filledOf_2 : decode cX6_filledOf 2 = .ok (.iload_n 2, 1) := by decide +kernel
theorem dX6_filledOf_3 : decode cX6_filledOf 3 = .ok (.iload_n 3, 1) := by decide +kernel
theorem dX6_filledOf_4 : decode cX6_filledOf 4 = .ok (.invokestatic 72, 3) := by decide +kernel
theorem dX6_filledOf_7 : decode cX6_filledOf 7 = .ok (.invokevirtual 190, 3) := by decide +kernel
theorem dX6_filledOf_10 : decode cX6_filledOf 10 = .ok (.fstore 4, 2) := by decide +kernel
theorem dX6_filledOf_12 : decode cX6_filledOf 12 = .ok (.aload_n 0, 1) := by decide +kernel
theorem dX6_filledOf_13 : decode cX6_filledOf 13 = .ok (.fconst 0, 1) := by decide +kernel
theorem dX6_filledOf_14 : decode cX6_filledOf 14 = .ok (.putfield 193, 3) := by decide +kernel
theorem dX6_filledOf_17 : decode cX6_filledOf 17 = .ok (.aload_n 0, 1) := by decide +kernel
theorem dX6_filledOf_18 : decode cX6_filledOf 18 = .ok (.fconst 0, 1) := by decide +kernel
theorem dX6_filledOf_19 : decode cX6_filledOf 19 = .ok (.putfield 197, 3) := by decide +kernel
theorem dX6_filledOf_22 : decode cX6_filledOf 22 = .ok (.aload_n 0, 1) := by decide +kernel
theorem dX6_filledOf_23 : decode cX6_filledOf 23 = .ok (.iconst 0, 1) := by decide +kernel
theorem dX6_filledOf_24 : decode cX6_filledOf 24 = .ok (.putfield 200, 3) := by decide +kernel
theorem dX6_filledOf_27 : decode cX6_filledOf 27 = .ok (.aload_n 0, 1) := by decide +kernel
theorem dX6_filledOf_28 : decode cX6_filledOf 28 = .ok (.iload_n 1, 1) := by decide +kernel
theorem dX6_filledOf_29 : decode cX6_filledOf 29 = .ok (.iload_n 2, 1) := by decide +kernel
theorem dX6_filledOf_30 : decode cX6_filledOf 30 = .ok (.iload_n 3, 1) := by decide +kernel
theorem dX6_filledOf_31 : decode cX6_filledOf 31 = .ok (.iconst 1, 1) := by decide +kernel
theorem dX6_filledOf_32 : decode cX6_filledOf 32 = .ok (.isub, 1) := by decide +kernel
theorem dX6_filledOf_33 : decode cX6_filledOf 33 = .ok (.fload 4, 2) := by decide +kernel
theorem dX6_filledOf_35 : decode cX6_filledOf 35 = .ok (.invokevirtual 204, 3) := by decide +kernel
theorem dX6_filledOf_38 : decode cX6_filledOf 38 = .ok (.aload_n 0, 1) := by decide +kernel
theorem dX6_filledOf_39 : decode cX6_filledOf 39 = .ok (.iload_n 1, 1) := by decide +kernel
theorem dX6_filledOf_40 : decode cX6_filledOf 40 = .ok (.iload_n 2, 1) := by decide +kernel
theorem dX6_filledOf_41 : decode cX6_filledOf 41 = .ok (.iconst 1, 1) := by decide +kernel
theorem dX6_filledOf_42 : decode cX6_filledOf 42 = .ok (.iadd, 1) := by decide +kernel
theorem dX6_filledOf_43 : decode cX6_filledOf 43 = .ok (.iload_n 3, 1) := by decide +kernel
theorem dX6_filledOf_44 : decode cX6_filledOf 44 = .ok (.fload 4, 2) := by decide +kernel
theorem dX6_filledOf_46 : decode cX6_filledOf 46 = .ok (.invokevirtual 204, 3) := by decide +kernel
theorem dX6_filledOf_49 : decode cX6_filledOf 49 = .ok (.aload_n 0, 1) := by decide +kernel
theorem dX6_filledOf_50 : decode cX6_filledOf 50 = .ok (.iload_n 1, 1) := by decide +kernel
theorem dX6_filledOf_51 : decode cX6_filledOf 51 = .ok (.iload_n 2, 1) := by decide +kernel
theorem dX6_filledOf_52 : decode cX6_filledOf 52 = .ok (.iload_n 3, 1) := by decide +kernel
theorem dX6_filledOf_53 : decode cX6_filledOf 53 = .ok (.iconst 1, 1) := by decide +kernel
theorem dX6_filledOf_54 : decode cX6_filledOf 54 = .ok (.iadd, 1) := by decide +kernel
theorem dX6_filledOf_55 : decode cX6_filledOf 55 = .ok (.fload 4, 2) := by decide +kernel
theorem dX6_filledOf_57 : decode cX6_filledOf 57 = .ok (.invokevirtual 204, 3) := by decide +kernel
theorem dX6_filledOf_60 : decode cX6_filledOf 60 = .ok (.aload_n 0, 1) := by decide +kernel
theorem dX6_filledOf_61 : decode cX6_filledOf 61 = .ok (.iload_n 1, 1) := by decide +kernel
theorem dX6_filledOf_62 : decode cX6_filledOf 62 = .ok (.iload_n 2, 1) := by decide +kernel
theorem dX6_filledOf_63 : decode cX6_filledOf 63 = .ok (.iconst 1, 1) := by decide +kernel
theorem dX6_filledOf_64 : decode cX6_filledOf 64 = .ok (.isub, 1) := by decide +kernel
theorem dX6_filledOf_65 : decode cX6_filledOf 65 = .ok (.iload_n 3, 1) := by decide +kernel
theorem dX6_filledOf_66 : decode cX6_filledOf 66 = .ok (.fload 4, 2) := by decide +kernel
theorem dX6_filledOf_68 : decode cX6_filledOf 68 = .ok (.invokevirtual 204, 3) := by decide +kernel
theorem dX6_filledOf_71 : decode cX6_filledOf 71 = .ok (.aload_n 0, 1) := by decide +kernel
theorem dX6_filledOf_72 : decode cX6_filledOf 72 = .ok (.getfield 200, 3) := by decide +kernel
theorem dX6_filledOf_75 : decode cX6_filledOf 75 = .ok (.ifCond .eq 16, 3) := by decide +kernel
theorem dX6_filledOf_78 : decode cX6_filledOf 78 = .ok (.aload_n 0, 1) := by decide +kernel
theorem dX6_filledOf_79 : decode cX6_filledOf 79 = .ok (.getfield 197, 3) := by decide +kernel
theorem dX6_filledOf_82 : decode cX6_filledOf 82 = .ok (.aload_n 0, 1) := by decide +kernel
theorem dX6_filledOf_83 : decode cX6_filledOf 83 = .ok (.getfield 193, 3) := by decide +kernel
theorem dX6_filledOf_86 : decode cX6_filledOf 86 = .ok (.fdiv, 1) := by decide +kernel
theorem dX6_filledOf_87 : decode cX6_filledOf 87 = .ok (.f2i, 1) := by decide +kernel
theorem dX6_filledOf_88 : decode cX6_filledOf 88 = .ok (.goto 6, 3) := by decide +kernel
theorem dX6_filledOf_91 : decode cX6_filledOf 91 = .ok (.sipush (-10001), 3) := by decide +kernel
theorem dX6_filledOf_94 : decode cX6_filledOf 94 = .ok (.ireturn, 1) := by decide +kernel
theorem dX6_cell_0 : decode cX6_cell 0 = .ok (.aload_n 0, 1) := by decide +kernel
theorem dX6_cell_1 : decode cX6_cell 1 = .ok (.iload_n 1, 1) := by decide +kernel
theorem dX6_cell_2 : decode cX6_cell 2 = .ok (.iload_n 2, 1) := by decide +kernel
theorem dX6_cell_3 : decode cX6_cell 3 = .ok (.iload_n 3, 1) := by decide +kernel
theorem dX6_cell_4 : decode cX6_cell 4 = .ok (.invokevirtual 69, 3) := by decide +kernel
theorem dX6_cell_7 : decode cX6_cell 7 = .ok (.ifCond .eq 13, 3) := by decide +kernel
theorem dX6_cell_10 : decode cX6_cell 10 = .ok (.iload 4, 2) := by decide +kernel
theorem dX6_cell_12 : decode cX6_cell 12 = .ok (.iconst 0, 1) := by decide +kernel
theorem dX6_cell_13 : decode cX6_cell 13 = .ok (.iconst 3, 1) := by decide +kernel
theorem dX6_cell_14 : decode cX6_cell 14 = .ok (.invokestatic 60, 3) := by decide +kernel
theorem dX6_cell_17 : decode cX6_cell 17 = .ok (.ifCond .ne 8, 3) := by decide +kernel
theorem dX6_cell_20 : decode cX6_cell 20 = .ok (.aload_n 0, 1) := by decide +kernel
theorem dX6_cell_21 : decode cX6_cell 21 = .ok (.invokevirtual 54, 3) := by decide +kernel
theorem dX6_cell_24 : decode cX6_cell 24 = .ok (.ireturn, 1) := by decide +kernel
theorem dX6_cell_25 : decode cX6_cell 25 = .ok (.aload_n 0, 1) := by decide +kernel
theorem dX6_cell_26 : decode cX6_cell 26 = .ok (.iload_n 1, 1) := by decide +kernel
theorem dX6_cell_27 : decode cX6_cell 27 = .ok (.iload_n 2, 1) := by decide +kernel
theorem dX6_cell_28 : decode cX6_cell 28 = .ok (.iload_n 3, 1) := by decide +kernel
theorem dX6_cell_29 : decode cX6_cell 29 = .ok (.invokestatic 72, 3) := by decide +kernel
theorem dX6_cell_32 : decode cX6_cell 32 = .ok (.invokevirtual 187, 3) := by decide +kernel
theorem dX6_cell_35 : decode cX6_cell 35 = .ok (.iload 4, 2) := by decide +kernel
theorem dX6_cell_37 : decode cX6_cell 37 = .ok (.ifCond .ne 18, 3) := by decide +kernel
theorem dX6_cell_40 : decode cX6_cell 40 = .ok (.aload_n 0, 1) := by decide +kernel
theorem dX6_cell_41 : decode cX6_cell 41 = .ok (.getfield 174, 3) := by decide +kernel
theorem dX6_cell_44 : decode cX6_cell 44 = .ok (.ifCond .ne 7, 3) := by decide +kernel
theorem dX6_cell_47 : decode cX6_cell 47 = .ok (.iconst 1, 1) := by decide +kernel
theorem dX6_cell_48 : decode cX6_cell 48 = .ok (.goto 41, 3) := by decide +kernel
theorem dX6_cell_51 : decode cX6_cell 51 = .ok (.iconst 0, 1) := by decide +kernel
theorem dX6_cell_52 : decode cX6_cell 52 = .ok (.goto 37, 3) := by decide +kernel
theorem dX6_cell_55 : decode cX6_cell 55 = .ok (.iload 4, 2) := by decide +kernel
theorem dX6_cell_57 : decode cX6_cell 57 = .ok (.iconst 3, 1) := by decide +kernel
theorem dX6_cell_58 : decode cX6_cell 58 = .ok (.if_icmp .ne 18, 3) := by decide +kernel
theorem dX6_cell_61 : decode cX6_cell 61 = .ok (.aload_n 0, 1) := by decide +kernel
theorem dX6_cell_62 : decode cX6_cell 62 = .ok (.getfield 174, 3) := by decide +kernel
theorem dX6_cell_65 : decode cX6_cell 65 = .ok (.ifCond .eq 7, 3) := by decide +kernel
theorem dX6_cell_68 : decode cX6_cell 68 = .ok (.iconst 1, 1) := by decide +kernel
theorem dX6_cell_69 : decode cX6_cell 69 = .ok (.goto 20, 3) := by decide +kernel
theorem dX6_cell_72 : decode cX6_cell 72 = .ok (.iconst 0, 1) := by decide +kernel
theorem dX6_cell_73 : decode cX6_cell 73 = .ok (.goto 16, 3) := by decide +kernel
theorem dX6_cell_76 : decode cX6_cell 76 = .ok (.aload_n 0, 1) := by decide +kernel
theorem dX6_cell_77 : decode cX6_cell 77 = .ok (.getfield 174, 3) := by decide +kernel
theorem dX6_cell_80 : decode cX6_cell 80 = .ok (.iconst 4, 1) := by decide +kernel
theorem dX6_cell_81 : decode cX6_cell 81 = .ok (.if_icmp .ne 7, 3) := by decide +kernel
theorem dX6_cell_84 : decode cX6_cell 84 = .ok (.iconst 1, 1) := by decide +kernel
theorem dX6_cell_85 : decode cX6_cell 85 = .ok (.goto 4, 3) := by decide +kernel
theorem dX6_cell_88 : decode cX6_cell 88 = .ok (.iconst 0, 1) := by decide +kernel
theorem dX6_cell_89 : decode cX6_cell 89 = .ok (.istore 5, 2) := by decide +kernel
theorem dX6_cell_91 : decode cX6_cell 91 = .ok (.iload 5, 2) := by decide +kernel
theorem dX6_cell_93 : decode cX6_cell 93 = .ok (.ifCond .ne 8, 3) := by decide +kernel
theorem dX6_cell_96 : decode cX6_cell 96 = .ok (.aload_n 0, 1) := by decide +kernel
theorem dX6_cell_97 : decode cX6_cell 97 = .ok (.invokevirtual 50, 3) := by decide +kernel
theorem dX6_cell_100 : decode cX6_cell 100 = .ok (.ireturn, 1) := by decide +kernel
theorem dX6_cell_101 : decode cX6_cell 101 = .ok (.iload 4, 2) := by decide +kernel
theorem dX6_cell_103 : decode cX6_cell 103 = .ok (.ifCond .ne 10, 3) := by decide +kernel
theorem dX6_cell_106 : decode cX6_cell 106 = .ok (.aload_n 0, 1) := by decide +kernel
theorem dX6_cell_107 : decode cX6_cell 107 = .ok (.getfield 167, 3) := by decide +kernel
theorem dX6_cell_110 : decode cX6_cell 110 = .ok (.goto 36, 3) := by decide +kernel
theorem dX6_cell_113 : decode cX6_cell 113 = .ok (.iload 4, 2) := by decide +kernel
theorem dX6_cell_115 : decode cX6_cell 115 = .ok (.iconst 1, 1) := by decide +kernel
theorem dX6_cell_116 : decode cX6_cell 116 = .ok (.if_icmp .ne 10, 3) := by decide +kernel
theorem dX6_cell_119 : decode cX6_cell 119 = .ok (.aload_n 0, 1) := by decide +kernel
theorem dX6_cell_120 : decode cX6_cell 120 = .ok (.getfield 161, 3) := by decide +kernel
theorem dX6_cell_123 : decode cX6_cell 123 = .ok (.goto 23, 3) := by decide +kernel
theorem dX6_cell_126 : decode cX6_cell 126 = .ok (.iload 4, 2) := by decide +kernel
theorem dX6_cell_128 : decode cX6_cell 128 = .ok (.iconst 2, 1) := by decide +kernel
theorem dX6_cell_129 : decode cX6_cell 129 = .ok (.if_icmp .ne 10, 3) := by decide +kernel
theorem dX6_cell_132 : decode cX6_cell 132 = .ok (.aload_n 0, 1) := by decide +kernel
theorem dX6_cell_133 : decode cX6_cell 133 = .ok (.getfield 164, 3) := by decide +kernel
theorem dX6_cell_136 : decode cX6_cell 136 = .ok (.goto 10, 3) := by decide +kernel
theorem dX6_cell_139 : decode cX6_cell 139 = .ok (.aload_n 0, 1) := by decide +kernel
theorem dX6_cell_140 : decode cX6_cell 140 = .ok (.iload_n 1, 1) := by decide +kernel
theorem dX6_cell_141 : decode cX6_cell 141 = .ok (.iload_n 2, 1) := by decide +kernel
theorem dX6_cell_142 : decode cX6_cell 142 = .ok (.iload_n 3, 1) := by decide +kernel
theorem dX6_cell_143 : decode cX6_cell 143 = .ok (.invokevirtual 208, 3) := by decide +kernel
theorem dX6_cell_146 : decode cX6_cell 146 = .ok (.ireturn, 1) := by decide +kernel
theorem dX6_glow_0 : decode cX6_glow 0 = .ok (.aload_n 0, 1) := by decide +kernel
theorem dX6_glow_1 : decode cX6_glow 1 = .ok (.iload_n 1, 1) := by decide +kernel
theorem dX6_glow_2 : decode cX6_glow 2 = .ok (.iload_n 2, 1) := by decide +kernel
theorem dX6_glow_3 : decode cX6_glow 3 = .ok (.iload_n 3, 1) := by decide +kernel
theorem dX6_glow_4 : decode cX6_glow 4 = .ok (.invokevirtual 69, 3) := by decide +kernel
theorem dX6_glow_7 : decode cX6_glow 7 = .ok (.ifCond .eq 19, 3) := by decide +kernel
theorem dX6_glow_10 : decode cX6_glow 10 = .ok (.aload_n 0, 1) := by decide +kernel
theorem dX6_glow_11 : decode cX6_glow 11 = .ok (.iload_n 1, 1) := by decide +kernel
theorem dX6_glow_12 : decode cX6_glow 12 = .ok (.iload_n 2, 1) := by decide +kernel
theorem dX6_glow_13 : decode cX6_glow 13 = .ok (.iload_n 3, 1) := by decide +kernel
theorem dX6_glow_14 : decode cX6_glow 14 = .ok (.invokestatic 72, 3) := by decide +kernel
theorem dX6_glow_17 : decode cX6_glow 17 = .ok (.invokevirtual 190, 3) := by decide +kernel
theorem dX6_glow_20 : decode cX6_glow 20 = .ok (.invokestatic 146, 3) := by decide +kernel
theorem dX6_glow_23 : decode cX6_glow 23 = .ok (.goto 7, 3) := by decide +kernel
theorem dX6_glow_26 : decode cX6_glow 26 = .ok (.aload_n 0, 1) := by decide +kernel
theorem dX6_glow_27 : decode cX6_glow 27 = .ok (.invokevirtual 54, 3) := by decide +kernel
theorem dX6_glow_30 : decode cX6_glow 30 = .ok (.ireturn, 1) := by decide +kernel
theorem dX6_motionOf_0 : decode cX6_motionOf 0 = .ok (.aload_n 0, 1) := by decide +kernel
theorem dX6_motionOf_1 : decode cX6_motionOf 1 = .ok (.iconst 0, 1) := by decide +kernel
theorem dX6_motionOf_2 : decode cX6_motionOf 2 = .ok (.iload_n 1, 1) := by decide +kernel
theorem dX6_motionOf_3 : decode cX6_motionOf 3 = .ok (.iload_n 2, 1) := by decide +kernel
theorem dX6_motionOf_4 : decode cX6_motionOf 4 = .ok (.invokestatic 72, 3) := by decide +kernel
theorem dX6_motionOf_7 : decode cX6_motionOf 7 = .ok (.invokevirtual 187, 3) := by decide +kernel
theorem dX6_motionOf_10 : decode cX6_motionOf 10 = .ok (.aload_n 0, 1) := by decide +kernel
theorem dX6_motionOf_11 : decode cX6_motionOf 11 = .ok (.getfield 167, 3) := by decide +kernel
theorem dX6_motionOf_14 : decode cX6_motionOf 14 = .ok (.istore_n 3, 1) := by decide +kernel
theorem dX6_motionOf_15 : decode cX6_motionOf 15 = .ok (.aload_n 0, 1) := by decide +kernel
theorem dX6_motionOf_16 : decode cX6_motionOf 16 = .ok (.iconst 1, 1) := by decide +kernel
theorem dX6_motionOf_17 : decode cX6_motionOf 17 = .ok (.iload_n 1, 1) := by decide +kernel
theorem dX6_motionOf_18 : decode cX6_motionOf 18 = .ok (.iload_n 2, 1) := by decide +kernel
theorem dX6_motionOf_19 : decode cX6_motionOf 19 = .ok (.invokestatic 72, 3) := by decide +kernel
theorem dX6_motionOf_22 : decode cX6_motionOf 22 = .ok (.invokevirtual 187, 3) := by decide +kernel
theorem dX6_motionOf_25 : decode cX6_motionOf 25 = .ok (.iload_n 3, 1) := by decide +kernel
theorem dX6_motionOf_26 : decode cX6_motionOf 26 = .ok (.sipush (-10001), 3) := by decide +kernel
theorem dX6_motionOf_29 : decode cX6_motionOf 29 = .ok (.if_icmp .eq 13, 3) := by decide +kernel
theorem dX6_motionOf_32 : decode cX6_motionOf 32 = .ok (.aload_n 0, 1) := by decide +kernel
theorem dX6_motionOf_33 : decode cX6_motionOf 33 = .ok (.getfield 167, 3) := by decide +kernel
theorem dX6_motionOf_36 : decode cX6_motionOf 36 = .ok (.sipush (-10001), 3) := by decide +kernel
theorem dX6_motionOf_39 : decode cX6_motionOf 39 = .ok (.if_icmp .ne 9, 3) := by decide +kernel
theorem dX6_motionOf_42 : decode cX6_motionOf 42 = .ok (.sipush (-10001), 3) := by decide +kernel
theorem dX6_motionOf_45 : decode cX6_motionOf 45 = .ok (.goto 9, 3) := by decide +kernel
theorem dX6_motionOf_48 : decode cX6_motionOf 48 = .ok (.aload_n 0, 1) := by decide +kernel
theorem dX6_motionOf_49 : decode cX6_motionOf 49 = .ok (.getfield 167, 3) := by decide +kernel
theorem dX6_motionOf_52 : decode cX6_motionOf 52 = .ok (.iload_n 3, 1) := by decide +kernel
theorem dX6_motionOf_53 : decode cX6_motionOf 53 = .ok (.isub, 1) := by decide +kernel
theorem dX6_motionOf_54 : decode cX6_motionOf 54 = .ok (.ireturn, 1) := by decide +kernel
theorem dX6_motion_0 : decode cX6_motion 0 = .ok (.aload_n 0, 1) := by decide +kernel
theorem dX6_motion_1 : decode cX6_motion 1 = .ok (.iconst 0, 1) := by decide +kernel
theorem dX6_motion_2 : decode cX6_motion 2 = .ok (.iload_n 1, 1) := by decide +kernel
theorem dX6_motion_3 : decode cX6_motion 3 = .ok (.iload_n 2, 1) := by decide +kernel
theorem dX6_motion_4 : decode cX6_motion 4 = .ok (.invokevirtual 69, 3) := by decide +kernel
theorem dX6_motion_7 : decode cX6_motion 7 = .ok (.ifCond .ne 8, 3) := by decide +kernel
theorem dX6_motion_10 : decode cX6_motion 10 = .ok (.aload_n 0, 1) := by decide +kernel
theorem dX6_motion_11 : decode cX6_motion 11 = .ok (.invokevirtual 54, 3) := by decide +kernel
theorem dX6_motion_14 : decode cX6_motion 14 = .ok (.ireturn, 1) := by decide +kernel
theorem dX6_motion_15 : decode cX6_motion 15 = .ok (.aload_n 0, 1) := by decide +kernel
theorem dX6_motion_16 : decode cX6_motion 16 = .ok (.iload_n 1, 1) := by decide +kernel
theorem dX6_motion_17 : decode cX6_motion 17 = .ok (.iload_n 2, 1) := by decide +kernel
theorem dX6_motion_18 : decode cX6_motion 18 = .ok (.invokevirtual 211, 3) := by decide +kernel
theorem dX6_motion_21 : decode cX6_motion 21 = .ok (.istore_n 3, 1) := by decide +kernel
theorem dX6_motion_22 : decode cX6_motion 22 = .ok (.iload_n 3, 1) := by decide +kernel
theorem dX6_motion_23 : decode cX6_motion 23 = .ok (.sipush (-10001), 3) := by decide +kernel
theorem dX6_motion_26 : decode cX6_motion 26 = .ok (.if_icmp .ne 10, 3) := by decide +kernel
theorem dX6_motion_29 : decode cX6_motion 29 = .ok (.aload_n 0, 1) := by decide +kernel
theorem dX6_motion_30 : decode cX6_motion 30 = .ok (.invokevirtual 50, 3) := by decide +kernel
theorem dX6_motion_33 : decode cX6_motion 33 = .ok (.goto 4, 3) := by decide +kernel
theorem dX6_motion_36 : decode cX6_motion 36 = .ok (.iload_n 3, 1) := by decide +kernel
theorem dX6_motion_37 : decode cX6_motion 37 = .ok (.ireturn, 1) := by decide +kernel
theorem dX6_marks_0 : decode cX6_marks 0 = .ok (.iload_n 1, 1) := by decide +kernel
theorem dX6_marks_1 : decode cX6_marks 1 = .ok (.iconst 0, 1) := by decide +kernel
theorem dX6_marks_2 : decode cX6_marks 2 = .ok (.iconst 1, 1) := by decide +kernel
theorem dX6_marks_3 : decode cX6_marks 3 = .ok (.invokestatic 60, 3) := by decide +kernel
theorem dX6_marks_6 : decode cX6_marks 6 = .ok (.ifCond .eq 12, 3) := by decide +kernel
theorem dX6_marks_9 : decode cX6_marks 9 = .ok (.iload_n 2, 1) := by decide +kernel
theorem dX6_marks_10 : decode cX6_marks 10 = .ok (.iconst 0, 1) := by decide +kernel
theorem dX6_marks_11 : decode cX6_marks 11 = .ok (.iconst 5, 1) := by decide +kernel
theorem dX6_marks_12 : decode cX6_marks 12 = .ok (.invokestatic 60, 3) := by decide +kernel
theorem dX6_marks_15 : decode cX6_marks 15 = .ok (.ifCond .ne 8, 3) := by decide +kernel
theorem dX6_marks_18 : decode cX6_marks 18 = .ok (.aload_n 0, 1) := by decide +kernel
theorem dX6_marks_19 : decode cX6_marks 19 = .ok (.invokevirtual 54, 3) := by decide +kernel
theorem dX6_marks_22 : decode cX6_marks 22 = .ok (.ireturn, 1) := by decide +kernel
theorem dX6_marks_23 : decode cX6_marks 23 = .ok (.aload_n 0, 1) := by decide +kernel
theorem dX6_marks_24 : decode cX6_marks 24 = .ok (.iload_n 1, 1) := by decide +kernel
theorem dX6_marks_25 : decode cX6_marks 25 = .ok (.invokevirtual 214, 3) := by decide +kernel
theorem dX6_marks_28 : decode cX6_marks 28 = .ok (.iconst 0, 1) := by decide +kernel
theorem dX6_marks_29 : decode cX6_marks 29 = .ok (.istore_n 3, 1) := by decide +kernel
theorem dX6_marks_30 : decode cX6_marks 30 = .ok (.iconst 0, 1) := by decide +kernel
theorem dX6_marks_31 : decode cX6_marks 31 = .ok (.istore 4, 2) := by decide +kernel
theorem dX6_marks_33 : decode cX6_marks 33 = .ok (.iload 4, 2) := by decide +kernel
theorem dX6_marks_35 : decode cX6_marks 35 = .ok (.aload_n 0, 1) := by decide +kernel
theorem dX6_marks_36 : decode cX6_marks 36 = .ok (.getfield 7, 3) := by decide +kernel
theorem dX6_marks_39 : decode cX6_marks 39 = .ok (.iconst 1, 1) := by decide +kernel
theorem dX6_marks_40 : decode cX6_marks 40 = .ok (.iaload, 1) := by decide +kernel
theorem dX6_marks_41 : decode cX6_marks 41 = .ok (.if_icmp .ge 53, 3) := by decide +kernel
theorem dX6_marks_44 : decode cX6_marks 44 = .ok (.iconst 0, 1) := by decide +kernel
theorem dX6_marks_45 : decode cX6_marks 45 = .ok (.istore 5, 2) := by decide +kernel
theorem dX6_marks_47 : decode cX6_marks 47 = .ok (.iload 5, 2) := by decide +kernel
theorem dX6_marks_49 : decode cX6_marks 49 = .ok (.aload_n 0, 1) := by decide +kernel
theorem dX6_marks_50 : decode cX6_marks 50 = .ok (.getfield 7, 3) := by decide +kernel
theorem dX6_marks_53 : decode cX6_marks 53 = .ok (.iconst 0, 1) := by decide +kernel
theorem dX6_marks_54 : decode cX6_marks 54 = .ok (.iaload, 1) := by decide +kernel
theorem dX6_marks_55 : decode cX6_marks 55 = .ok (.if_icmp .ge 33, 3) := by decide +kernel
theorem dX6_marks_58 : decode cX6_marks 58 = .ok (.iload_n 3, 1) := by decide +kernel
theorem dX6_marks_59 : decode cX6_marks 59 = .ok (.aload_n 0, 1) := by decide +kernel
theorem dX6_marks_60 : decode cX6_marks 60 = .ok (.getfield 28, 3) := by decide +kernel
theorem dX6_marks_63 : decode cX6_marks 63 = .ok (.iconst 4, 1) := by decide +kernel
theorem dX6_marks_64 : decode cX6_marks 64 = .ok (.iload 4, 2) := by decide +kernel
theorem dX6_marks_66 : decode cX6_marks 66 = .ok (.imul, 1) := by decide +kernel
theorem dX6_marks_67 : decode cX6_marks 67 = .ok (.iload 5, 2) := by decide +kernel
theorem dX6_marks_69 : decode cX6_marks 69 = .ok (.iadd, 1) := by decide +kernel
theorem dX6_marks_70 : decode cX6_marks 70 = .ok (.iaload, 1) := by decide +kernel
theorem dX6_marks_71 : decode cX6_marks 71 = .ok (.iload_n 2, 1) := by decide +kernel
theorem dX6_marks_72 : decode cX6_marks 72 = .ok (.if_icmp .ne 7, 3) := by decide +kernel
theorem dX6_marks_75 : decode cX6_marks 75 = .ok (.iconst 1, 1) := by decide +kernel
theorem dX6_marks_76 : decode cX6_marks 76 = .ok (.goto 4, 3) := by decide +kernel
theorem dX6_marks_79 : decode cX6_marks 79 = .ok (.iconst 0, 1) := by decide +kernel
theorem dX6_marks_80 : decode cX6_marks 80 = .ok (.iadd, 1) := by decide +kernel
theorem dX6_marks_81 : decode cX6_marks 81 = .ok (.istore_n 3, 1) := by decide +kernel
theorem dX6_marks_82 : decode cX6_marks 82 = .ok (.iinc 5 1, 3) := by decide +kernel
theorem dX6_marks_85 : decode cX6_marks 85 = .ok (.goto (-38), 3) := by decide +kernel
theorem dX6_marks_88 : decode cX6_marks 88 = .ok (.iinc 4 1, 3) := by decide +kernel
theorem dX6_marks_91 : decode cX6_marks 91 = .ok (.goto (-58), 3) := by decide +kernel
theorem dX6_marks_94 : decode cX6_marks 94 = .ok (.iload_n 3, 1) := by decide +kernel
theorem dX6_marks_95 : decode cX6_marks 95 = .ok (.ireturn, 1) := by decide +kernel
theorem dX6_moved_0 : decode cX6_moved 0 = .ok (.iconst 0, 1) := by decide +kernel
theorem dX6_moved_1 : decode cX6_moved 1 = .ok (.istore_n 1, 1) := by decide +kernel
theorem dX6_moved_2 : decode cX6_moved 2 = .ok (.iconst 0, 1) := by decide +kernel
theorem dX6_moved_3 : decode cX6_moved 3 = .ok (.istore_n 2, 1) := by decide +kernel
theorem dX6_moved_4 : decode cX6_moved 4 = .ok (.iload_n 2, 1) := by decide +kernel
theorem dX6_moved_5 : decode cX6_moved 5 = .ok (.aload_n 0, 1) := by decide +kernel
theorem dX6_moved_6 : decode cX6_moved 6 = .ok (.getfield 7, 3) := by decide +kernel
theorem dX6_moved_9 : decode cX6_moved 9 = .ok (.iconst 1, 1) := by decide +kernel
theorem dX6_moved_10 : decode cX6_moved 10 = .ok (.iaload, 1) := by decide +kernel
theorem dX6_moved_11 : decode cX6_moved 11 = .ok (.if_icmp .ge 66, 3) := by decide +kernel
theorem dX6_moved_14 : decode cX6_moved 14 = .ok (.iconst 0, 1) := by decide +kernel
theorem dX6_moved_15 : decode cX6_moved 15 = .ok (.istore_n 3, 1) := by decide +kernel
theorem dX6_moved_16 : decode cX6_moved 16 = .ok (.iload_n 3, 1) := by decide +kernel
theorem dX6_moved_17 : decode cX6_moved 17 = .ok (.aload_n 0, 1) := by decide +kernel
theorem dX6_moved_18 : decode cX6_moved 18 = .ok (.getfield 7, 3) := by decide +kernel
theorem dX6_moved_21 : decode cX6_moved 21 = .ok (.iconst 0, 1) := by decide +kernel
theorem dX6_moved_22 : decode cX6_moved 22 = .ok (.iaload, 1) := by decide +kernel
theorem dX6_moved_23 : decode cX6_moved 23 = .ok (.if_icmp .ge 48, 3) := by decide +kernel
theorem dX6_moved_26 : decode cX6_moved 26 = .ok (.aload_n 0, 1) := by decide +kernel
theorem dX6_moved_27 : decode cX6_moved 27 = .ok (.iload_n 3, 1) := by decide +kernel
theorem dX6_moved_28 : decode cX6_moved 28 = .ok (.iload_n 2, 1) := by decide +kernel
theorem dX6_moved_29 : decode cX6_moved 29 = .ok (.invokevirtual 211, 3) := by decide +kernel
theorem dX6_moved_32 : decode cX6_moved 32 = .ok (.istore 4, 2) := by decide +kernel
theorem dX6_moved_34 : decode cX6_moved 34 = .ok (.iload_n 1, 1) := by decide +kernel
theorem dX6_moved_35 : decode cX6_moved 35 = .ok (.iload 4, 2) := by decide +kernel
theorem dX6_moved_37 : decode cX6_moved 37 = .ok (.sipush (-10001), 3) := by decide +kernel
theorem dX6_moved_40 : decode cX6_moved 40 = .ok (.if_icmp .eq 22, 3) := by decide +kernel
theorem dX6_moved_43 : decode cX6_moved 43 = .ok (.iload 4, 2) := by decide +kernel
theorem dX6_moved_45 : decode cX6_moved 45 = .ok (.invokestatic 121, 3) := by decide +kernel
theorem dX6_moved_48 : decode cX6_moved 48 = .ok (.aload_n 0, 1) := by decide +kernel
theorem dX6_moved_49 : decode cX6_moved 49 = .ok (.getfield 7, 3) := by decide +kernel
theorem dX6_moved_52 : decode cX6_moved 52 = .ok (.bipush 10, 2) := by decide +kernel
theorem dX6_moved_54 : decode cX6_moved 54 = .ok (.iaload, 1) := by decide +kernel
theorem dX6_moved_55 : decode cX6_moved 55 = .ok (.if_icmp .le 7, 3) := by decide +kernel
theorem dX6_moved_58 : decode cX6_moved 58 = .ok (.iconst 1, 1) := by decide +kernel
theorem dX6_moved_59 : decode cX6_moved 59 = .ok (.goto 4, 3) := by decide +kernel
theorem dX6_moved_62 : decode cX6_moved 62 = .ok (.iconst 0, 1) := by decide +kernel
theorem dX6_moved_63 : decode cX6_moved 63 = .ok (.iadd, 1) := by decide +kernel
theorem dX6_moved_64 : decode cX6_moved 64 = .ok (.istore_n 1, 1) := by decide +kernel
theorem dX6_moved_65 : decode cX6_moved 65 = .ok (.iinc 3 1, 3) := by decide +kernel
theorem dX6_moved_68 : decode cX6_moved 68 = .ok (.goto (-52), 3) := by decide +kernel
theorem dX6_moved_71 : decode cX6_moved 71 = .ok (.iinc 2 1, 3) := by decide +kernel
theorem dX6_moved_74 : decode cX6_moved 74 = .ok (.goto (-70), 3) := by decide +kernel
theorem dX6_moved_77 : decode cX6_moved 77 = .ok (.iload_n 1, 1) := by decide +kernel
theorem dX6_moved_78 : decode cX6_moved 78 = .ok (.ireturn, 1) := by decide +kernel
theorem dX6_meanOf_0 : decode cX6_meanOf 0 = .ok (.aload_n 0, 1) := by decide +kernel
theorem dX6_meanOf_1 : decode cX6_meanOf 1 = .ok (.iload_n 1, 1) := by decide +kernel
theorem dX6_meanOf_2 : decode cX6_meanOf 2 = .ok (.invokevirtual 214, 3) := by decide +kernel
theorem dX6_meanOf_5 : decode cX6_meanOf 5 = .ok (.iconst 0, 1) := by decide +kernel
theorem dX6_meanOf_6 : decode cX6_meanOf 6 = .ok (.istore_n 2, 1) := by decide +kernel
theorem dX6_meanOf_7 : decode cX6_meanOf 7 = .ok (.iconst 0, 1) := by decide +kernel
theorem dX6_meanOf_8 : decode cX6_meanOf 8 = .ok (.istore_n 3, 1) := by decide +kernel
theorem dX6_meanOf_9 : decode cX6_meanOf 9 = .ok (.iconst 0, 1) := by decide +kernel
theorem dX6_meanOf_10 : decode cX6_meanOf 10 = .ok (.istore 4, 2) := by decide +kernel
theorem dX6_meanOf_12 : decode cX6_meanOf 12 = .ok (.iload 4, 2) := by decide +kernel
theorem dX6_meanOf_14 : decode cX6_meanOf 14 = .ok (.aload_n 0, 1) := by decide +kernel
theorem dX6_meanOf_15 : decode cX6_meanOf 15 = .ok (.getfield 7, 3) := by decide +kernel
theorem dX6_meanOf_18 : decode cX6_meanOf 18 = .ok (.iconst 1, 1) := by decide +kernel
theorem dX6_meanOf_19 : decode cX6_meanOf 19 = .ok (.iaload, 1) := by decide +kernel
theorem dX6_meanOf_20 : decode cX6_meanOf 20 = .ok (.if_icmp .ge 88, 3) := by decide +kernel
theorem dX6_meanOf_23 : decode cX6_meanOf 23 = .ok (.iconst 0, 1) := by decide +kernel
theorem dX6_meanOf_24 : decode cX6_meanOf 24 = .ok (.istore 5, 2) := by decide +kernel
theorem dX6_meanOf_26 : decode cX6_meanOf 26 = .ok (.iload 5, 2) := by decide +kernel
theorem dX6_meanOf_28 : decode cX6_meanOf 28 = .ok (.aload_n 0, 1) := by decide +kernel
theorem dX6_meanOf_29 : decode cX6_meanOf 29 = .ok (.getfield 7, 3) := by decide +kernel
theorem dX6_meanOf_32 : decode cX6_meanOf 32 = .ok (.iconst 0, 1) := by decide +kernel
theorem dX6_meanOf_33 : decode cX6_meanOf 33 = .ok (.iaload, 1) := by decide +kernel
theorem dX6_meanOf_34 : decode cX6_meanOf 34 = .ok (.if_icmp .ge 68, 3) := by decide +kernel
theorem dX6_meanOf_37 : decode cX6_meanOf 37 = .ok (.aload_n 0, 1) := by decide +kernel
theorem dX6_meanOf_38 : decode cX6_meanOf 38 = .ok (.getfield 28, 3) := by decide +kernel
theorem dX6_meanOf_41 : decode cX6_meanOf 41 = .ok (.iconst 4, 1) := by decide +kernel
theorem dX6_meanOf_42 : decode cX6_meanOf 42 = .ok (.iload 4, 2) := by decide +kernel
theorem dX6_meanOf_44 : decode cX6_meanOf 44 = .ok (.imul, 1) := by decide +kernel
theorem dX6_meanOf_45 : decode cX6_meanOf 45 = .ok (.iload 5, 2) := by decide +kernel
theorem dX6_meanOf_47 : decode cX6_meanOf 47 = .ok (.iadd, 1) := by decide +kernel
theorem dX6_meanOf_48 : decode cX6_meanOf 48 = .ok (.iaload, 1) := by decide +kernel
theorem dX6_meanOf_49 : decode cX6_meanOf 49 = .ok (.ifCond .ne 7, 3) := by decide +kernel
theorem dX6_meanOf_52 : decode cX6_meanOf 52 = .ok (.iconst 1, 1) := by decide +kernel
theorem dX6_meanOf_53 : decode cX6_meanOf 53 = .ok (.goto 4, 3) := by decide +kernel
theorem dX6_meanOf_56 : decode cX6_meanOf 56 = .ok (.iconst 0, 1) := by decide +kernel
theorem dX6_meanOf_57 : decode cX6_meanOf 57 = .ok (.istore 6, 2) := by decide +kernel
theorem dX6_meanOf_59 : decode cX6_meanOf 59 = .ok (.iload_n 2, 1) := by decide +kernel
theorem dX6_meanOf_60 : decode cX6_meanOf 60 = .ok (.iload 6, 2) := by decide +kernel
theorem dX6_meanOf_62 : decode cX6_meanOf 62 = .ok (.ifCond .eq 18, 3) := by decide +kernel
theorem dX6_meanOf_65 : decode cX6_meanOf 65 = .ok (.aload_n 0, 1) := by decide +kernel
theorem dX6_meanOf_66 : decode cX6_meanOf 66 = .ok (.getfield 31, 3) := by decide +kernel
theorem dX6_meanOf_69 : decode cX6_meanOf 69 = .ok (.iconst 4, 1) := by decide +kernel
theorem dX6_meanOf_70 : decode cX6_meanOf 70 = .ok (.iload 4, 2) := by decide +kernel
theorem dX6_meanOf_72 : decode cX6_meanOf 72 = .ok (.imul, 1) := by decide +kernel
theorem dX6_meanOf_73 : decode cX6_meanOf 73 = .ok (.iload 5, 2) := by decide +kernel
theorem dX6_meanOf_75 : decode cX6_meanOf 75 = .ok (.iadd, 1) := by decide +kernel
theorem dX6_meanOf_76 : decode cX6_meanOf 76 = .ok (.iaload, 1) := by decide +kernel
theorem dX6_meanOf_77 : decode cX6_meanOf 77 = .ok (.goto 4, 3) := by decide +kernel
theorem dX6_meanOf_80 : decode cX6_meanOf 80 = .ok (.iconst 0, 1) := by decide +kernel
theorem dX6_meanOf_81 : decode cX6_meanOf 81 = .ok (.iadd, 1) := by decide +kernel
theorem dX6_meanOf_82 : decode cX6_meanOf 82 = .ok (.istore_n 2, 1) := by decide +kernel
theorem dX6_meanOf_83 : decode cX6_meanOf 83 = .ok (.iload_n 3, 1) := by decide +kernel
theorem dX6_meanOf_84 : decode cX6_meanOf 84 = .ok (.iload 6, 2) := by decide +kernel
theorem dX6_meanOf_86 : decode cX6_meanOf 86 = .ok (.ifCond .eq 7, 3) := by decide +kernel
theorem dX6_meanOf_89 : decode cX6_meanOf 89 = .ok (.iconst 1, 1) := by decide +kernel
theorem dX6_meanOf_90 : decode cX6_meanOf 90 = .ok (.goto 4, 3) := by decide +kernel
theorem dX6_meanOf_93 : decode cX6_meanOf 93 = .ok (.iconst 0, 1) := by decide +kernel
theorem dX6_meanOf_94 : decode cX6_meanOf 94 = .ok (.iadd, 1) := by decide +kernel
theorem dX6_meanOf_95 : decode cX6_meanOf 95 = .ok (.istore_n 3, 1) := by decide +kernel
theorem dX6_meanOf_96 : decode cX6_meanOf 96 = .ok (.iinc 5 1, 3) := by decide +kernel
theorem dX6_meanOf_99 : decode cX6_meanOf 99 = .ok (.goto (-73), 3) := by decide +kernel
theorem dX6_meanOf_102 : decode cX6_meanOf 102 = .ok (.iinc 4 1, 3) := by decide +kernel
theorem dX6_meanOf_105 : decode cX6_meanOf 105 = .ok (.goto (-93), 3) := by decide +kernel
theorem dX6_meanOf_108 : decode cX6_meanOf 108 = .ok (.iload_n 3, 1) := by decide +kernel
theorem dX6_meanOf_109 : decode cX6_meanOf 109 = .ok (.ifCond .ne 7, 3) := by decide +kernel
theorem dX6_meanOf_112 : decode cX6_meanOf 112 = .ok (.dconst 0, 1) := by decide +kernel
theorem dX6_meanOf_113 : decode cX6_meanOf 113 = .ok (.goto 8, 3) := by decide +kernel
theorem dX6_meanOf_116 : decode cX6_meanOf 116 = .ok (.iload_n 2, 1) := by decide +kernel
theorem dX6_meanOf_117 : decode cX6_meanOf 117 = .ok (.i2d, 1) := by decide +kernel
theorem dX6_meanOf_118 : decode cX6_meanOf 118 = .ok (.iload_n 3, 1) := by decide +kernel
theorem dX6_meanOf_119 : decode cX6_meanOf 119 = .ok (.i2d, 1) := by decide +kernel
theorem dX6_meanOf_120 : decode cX6_meanOf 120 = .ok (.ddiv, 1) := by decide +kernel
theorem dX6_meanOf_121 : decode cX6_meanOf 121 = .ok (.invokestatic 217, 3) := by decide +kernel
theorem dX6_meanOf_124 : decode cX6_meanOf 124 = .ok (.lreturn, 1) := by decide +kernel
theorem dX6_mean_0 : decode cX6_mean 0 = .ok (.iload_n 1, 1) := by decide +kernel
theorem dX6_mean_1 : decode cX6_mean 1 = .ok (.iconst 0, 1) := by decide +kernel
theorem dX6_mean_2 : decode cX6_mean 2 = .ok (.iconst 1, 1) := by decide +kernel
theorem dX6_mean_3 : decode cX6_mean 3 = .ok (.invokestatic 60, 3) := by decide +kernel
theorem dX6_mean_6 : decode cX6_mean 6 = .ok (.ifCond .eq 11, 3) := by decide +kernel
theorem dX6_mean_9 : decode cX6_mean 9 = .ok (.aload_n 0, 1) := by decide +kernel
theorem dX6_mean_10 : decode cX6_mean 10 = .ok (.iload_n 1, 1) := by decide +kernel
theorem dX6_mean_11 : decode cX6_mean 11 = .ok (.invokevirtual 223, 3) := by decide +kernel
theorem dX6_mean_14 : decode cX6_mean 14 = .ok (.goto 8, 3) := by decide +kernel
theorem dX6_mean_17 : decode cX6_mean 17 = .ok (.aload_n 0, 1) := by decide +kernel
theorem dX6_mean_18 : decode cX6_mean 18 = .ok (.invokevirtual 54, 3) := by decide +kernel
theorem dX6_mean_21 : decode cX6_mean 21 = .ok (.i2l, 1) := by decide +kernel
theorem dX6_mean_22 : decode cX6_mean 22 = .ok (.lreturn, 1) := by decide +kernel
theorem dX6_told_0 : decode cX6_told 0 = .ok (.iload_n 1, 1) := by decide +kernel
theorem dX6_told_1 : decode cX6_told 1 = .ok (.iconst 0, 1) := by decide +kernel
theorem dX6_told_2 : decode cX6_told 2 = .ok (.bipush 10, 2) := by decide +kernel
theorem dX6_told_4 : decode cX6_told 4 = .ok (.invokestatic 60, 3) := by decide +kernel
theorem dX6_told_7 : decode cX6_told 7 = .ok (.ifCond .eq 12, 3) := by decide +kernel
theorem dX6_told_10 : decode cX6_told 10 = .ok (.aload_n 0, 1) := by decide +kernel
theorem dX6_told_11 : decode cX6_told 11 = .ok (.getfield 7, 3) := by decide +kernel
theorem dX6_told_14 : decode cX6_told 14 = .ok (.iload_n 1, 1) := by decide +kernel
theorem dX6_told_15 : decode cX6_told 15 = .ok (.iaload, 1) := by decide +kernel
theorem dX6_told_16 : decode cX6_told 16 = .ok (.goto 7, 3) := by decide +kernel
theorem dX6_told_19 : decode cX6_told 19 = .ok (.aload_n 0, 1) := by decide +kernel
theorem dX6_told_20 : decode cX6_told 20 = .ok (.invokevirtual 54, 3) := by decide +kernel
theorem dX6_told_23 : decode cX6_told 23 = .ok (.ireturn, 1) := by decide +kernel
theorem dX6_type_0 : decode cX6_type 0 = .ok (.iload_n 1, 1) := by decide +kernel
theorem dX6_type_1 : decode cX6_type 1 = .ok (.iconst 0, 1) := by decide +kernel
theorem dX6_type_2 : decode cX6_type 2 = .ok (.bipush 127, 2) := by decide +kernel
theorem dX6_type_4 : decode cX6_type 4 = .ok (.invokestatic 60, 3) := by decide +kernel
theorem dX6_type_7 : decode cX6_type 7 = .ok (.ifCond .ne 8, 3) := by decide +kernel
theorem dX6_type_10 : decode cX6_type 10 = .ok (.aload_n 0, 1) := by decide +kernel
theorem dX6_type_11 : decode cX6_type 11 = .ok (.invokevirtual 54, 3) := by decide +kernel
theorem dX6_type_14 : decode cX6_type 14 = .ok (.ireturn, 1) := by decide +kernel
theorem dX6_type_15 : decode cX6_type 15 = .ok (.aload_n 0, 1) := by decide +kernel
theorem dX6_type_16 : decode cX6_type 16 = .ok (.getfield 227, 3) := by decide +kernel
theorem dX6_type_19 : decode cX6_type 19 = .ok (.sipush 150, 3) := by decide +kernel
theorem dX6_type_22 : decode cX6_type 22 = .ok (.if_icmp .ne 17, 3) := by decide +kernel
theorem dX6_type_25 : decode cX6_type 25 = .ok (.aload_n 0, 1) := by decide +kernel
theorem dX6_type_26 : decode cX6_type 26 = .ok (.getfield 19, 3) := by decide +kernel
theorem dX6_type_29 : decode cX6_type 29 = .ok (.iconst 2, 1) := by decide +kernel
theorem dX6_type_30 : decode cX6_type 30 = .ok (.dup2, 1) := by decide +kernel
theorem dX6_type_31 : decode cX6_type 31 = .ok (.iaload, 1) := by decide +kernel
theorem dX6_type_32 : decode cX6_type 32 = .ok (.iconst 1, 1) := by decide +kernel
theorem dX6_type_33 : decode cX6_type 33 = .ok (.iadd, 1) := by decide +kernel
theorem dX6_type_34 : decode cX6_type 34 = .ok (.iastore, 1) := by decide +kernel
theorem dX6_type_35 : decode cX6_type 35 = .ok (.sipush (-10004), 3) := by decide +kernel
theorem dX6_type_38 : decode cX6_type 38 = .ok (.ireturn, 1) := by decide +kernel
theorem dX6_type_39 : decode cX6_type 39 = .ok (.aload_n 0, 1) := by decide +kernel
theorem dX6_type_40 : decode cX6_type 40 = .ok (.getfield 22, 3) := by decide +kernel
theorem dX6_type_43 : decode cX6_type 43 = .ok (.aload_n 0, 1) := by decide +kernel
theorem dX6_type_44 : decode cX6_type 44 = .ok (.getfield 227, 3) := by decide +kernel
theorem dX6_type_47 : decode cX6_type 47 = .ok (.iload_n 1, 1) := by decide +kernel
theorem dX6_type_48 : decode cX6_type 48 = .ok (.iastore, 1) := by decide +kernel
theorem dX6_type_49 : decode cX6_type 49 = .ok (.aload_n 0, 1) := by decide +kernel
theorem dX6_type_50 : decode cX6_type 50 = .ok (.dup, 1) := by decide +kernel
theorem dX6_type_51 : decode cX6_type 51 = .ok (.getfield 227, 3) := by decide +kernel
theorem dX6_type_54 : decode cX6_type 54 = .ok (.iconst 1, 1) := by decide +kernel
theorem dX6_type_55 : decode cX6_type 55 = .ok (.iadd, 1) := by decide +kernel
theorem dX6_type_56 : decode cX6_type 56 = .ok (.putfield 227, 3) := by decide +kernel
theorem dX6_type_59 : decode cX6_type 59 = .ok (.aload_n 0, 1) := by decide +kernel
theorem dX6_type_60 : decode cX6_type 60 = .ok (.getfield 227, 3) := by decide +kernel
theorem dX6_type_63 : decode cX6_type 63 = .ok (.ireturn, 1) := by decide +kernel
theorem dX6_clear_0 : decode cX6_clear 0 = .ok (.aload_n 0, 1) := by decide +kernel
theorem dX6_clear_1 : decode cX6_clear 1 = .ok (.getfield 227, 3) := by decide +kernel
theorem dX6_clear_4 : decode cX6_clear 4 = .ok (.istore_n 1, 1) := by decide +kernel
theorem dX6_clear_5 : decode cX6_clear 5 = .ok (.aload_n 0, 1) := by decide +kernel
theorem dX6_clear_6 : decode cX6_clear 6 = .ok (.iconst 0, 1) := by decide +kernel
theorem dX6_clear_7 : decode cX6_clear 7 = .ok (.putfield 227, 3) := by decide +kernel
theorem dX6_clear_10 : decode cX6_clear 10 = .ok (.iload_n 1, 1) := by decide +kernel
theorem dX6_clear_11 : decode cX6_clear 11 = .ok (.ireturn, 1) := by decide +kernel
theorem dX6_isAt_0 : decode cX6_isAt 0 = .ok (.aload_n 0, 1) := by decide +kernel
theorem dX6_isAt_1 : decode cX6_isAt 1 = .ok (.getfield 230, 3) := by decide +kernel
theorem dX6_isAt_4 : decode cX6_isAt 4 = .ok (.aload_n 0, 1) := by decide +kernel
theorem dX6_isAt_5 : decode cX6_isAt 5 = .ok (.getfield 227, 3) := by decide +kernel
theorem dX6_isAt_8 : decode cX6_isAt 8 = .ok (.if_icmp .ge 24, 3) := by decide +kernel
theorem dX6_isAt_11 : decode cX6_isAt 11 = .ok (.aload_n 0, 1) := by decide +kernel
theorem dX6_isAt_12 : decode cX6_isAt 12 = .ok (.getfield 22, 3) := by decide +kernel
theorem dX6_isAt_15 : decode cX6_isAt 15 = .ok (.aload_n 0, 1) := by decide +kernel
theorem dX6_isAt_16 : decode cX6_isAt 16 = .ok (.getfield 230, 3) := by decide +kernel
theorem dX6_isAt_19 : decode cX6_isAt 19 = .ok (.iaload, 1) := by decide +kernel
theorem dX6_isAt_20 : decode cX6_isAt 20 = .ok (.iload_n 1, 1) := by decide +kernel
theorem dX6_isAt_21 : decode cX6_isAt 21 = .ok (.iload_n 2, 1) := by decide +kernel
theorem dX6_isAt_22 : decode cX6_isAt 22 = .ok (.invokestatic 60, 3) := by decide +kernel
theorem dX6_isAt_25 : decode cX6_isAt 25 = .ok (.ifCond .eq 7, 3) := by decide +kernel
theorem dX6_isAt_28 : decode cX6_isAt 28 = .ok (.iconst 1, 1) := by decide +kernel
theorem dX6_isAt_29 : decode cX6_isAt 29 = .ok (.goto 4, 3) := by decide +kernel
theorem dX6_isAt_32 : decode cX6_isAt 32 = .ok (.iconst 0, 1) := by decide +kernel
theorem dX6_isAt_33 : decode cX6_isAt 33 = .ok (.ireturn, 1) := by decide +kernel
theorem dX6_blanks_0 : decode cX6_blanks 0 = .ok (.aload_n 0, 1) := by decide +kernel
theorem dX6_blanks_1 : decode cX6_blanks 1 = .ok (.bipush 32, 2) := by decide +kernel
theorem dX6_blanks_3 : decode cX6_blanks 3 = .ok (.bipush 32, 2) := by decide +kernel
theorem dX6_blanks_5 : decode cX6_blanks 5 = .ok (.invokevirtual 233, 3) := by decide +kernel
theorem dX6_blanks_8 : decode cX6_blanks 8 = .ok (.ifCond .eq 16, 3) := by decide +kernel
theorem dX6_blanks_11 : decode cX6_blanks 11 = .ok (.aload_n 0, 1) := by decide +kernel
theorem dX6_blanks_12 : decode cX6_blanks 12 = .ok (.dup, 1) := by decide +kernel
theorem dX6_blanks_13 : decode cX6_blanks 13 = .ok (.getfield 230, 3) := by decide +kernel
theorem dX6_blanks_16 : decode cX6_blanks 16 = .ok (.iconst 1, 1) := by decide +kernel
theorem dX6_blanks_17 : decode cX6_blanks 17 = .ok (.iadd, 1) := by decide +kernel
theorem dX6_blanks_18 : decode cX6_blanks 18 = .ok (.putfield 230, 3) := by decide +kernel
theorem dX6_blanks_21 : decode cX6_blanks 21 = .ok (.goto (-21), 3) := by decide +kernel
theorem dX6_blanks_24 : decode cX6_blanks 24 = .ok (.return_, 1) := by decide +kernel
theorem dX6_fails_0 : decode cX6_fails 0 = .ok (.aload_n 0, 1) := by decide +kernel
theorem dX6_fails_1 : decode cX6_fails 1 = .ok (.iload_n 1, 1) := by decide +kernel
theorem dX6_fails_2 : decode cX6_fails 2 = .ok (.putfield 236, 3) := by decide +kernel
theorem dX6_fails_5 : decode cX6_fails 5 = .ok (.iconst 0, 1) := by decide +kernel
theorem dX6_fails_6 : decode cX6_fails 6 = .ok (.ireturn, 1) := by decide +kernel
theorem dX6_manyOf_0 : decode cX6_manyOf 0 = .ok (.iload_n 0, 1) := by decide +kernel
theorem dX6_manyOf_1 : decode cX6_manyOf 1 = .ok (.tableswitch 103 99 118 #[101, 103, 97, 103, 95, 103, 103, 103, 103, 99, 103, 103, 103, 103, 103, 103, 95, 103, 103, 95], 95) := by decide +kernel
theorem dX6_manyOf_96 : decode cX6_manyOf 96 = .ok (.iconst 2, 1) := by decide +kernel
theorem dX6_manyOf_97 : decode cX6_manyOf 97 = .ok (.ireturn, 1) := by decide +kernel
theorem dX6_manyOf_98 : decode cX6_manyOf 98 = .ok (.iconst 5, 1) := by decide +kernel
theorem dX6_manyOf_99 : decode cX6_manyOf 99 = .ok (.ireturn, 1) := by decide +kernel
theorem dX6_manyOf_100 : decode cX6_manyOf 100 = .ok (.iconst 4, 1) := by decide +kernel
theorem dX6_manyOf_101 : decode cX6_manyOf 101 = .ok (.ireturn, 1) := by decide +kernel
theorem dX6_manyOf_102 : decode cX6_manyOf 102 = .ok (.iconst 3, 1) := by decide +kernel
theorem dX6_manyOf_103 : decode cX6_manyOf 103 = .ok (.ireturn, 1) := by decide +kernel
theorem dX6_manyOf_104 : decode cX6_manyOf 104 = .ok (.sipush (-10001), 3) := by decide +kernel
theorem dX6_manyOf_107 : decode cX6_manyOf 107 = .ok (.ireturn, 1) := by decide +kernel
theorem dX6_takesNumber_0 : decode cX6_takesNumber 0 = .ok (.aload_n 0, 1) := by decide +kernel
theorem dX6_takesNumber_1 : decode cX6_takesNumber 1 = .ok (.invokevirtual 239, 3) := by decide +kernel
theorem dX6_takesNumber_4 : decode cX6_takesNumber 4 = .ok (.aload_n 0, 1) := by decide +kernel
theorem dX6_takesNumber_5 : decode cX6_takesNumber 5 = .ok (.getfield 230, 3) := by decide +kernel
theorem dX6_takesNumber_8 : decode cX6_takesNumber 8 = .ok (.istore_n 2, 1) := by decide +kernel
theorem dX6_takesNumber_9 : decode cX6_takesNumber 9 = .ok (.iconst 0, 1) := by decide +kernel
theorem dX6_takesNumber_10 : decode cX6_takesNumber 10 = .ok (.istore_n 3, 1) := by decide +kernel
theorem dX6_takesNumber_11 : decode cX6_takesNumber 11 = .ok (.aload_n 0, 1) := by decide +kernel
theorem dX6_takesNumber_12 : decode cX6_takesNumber 12 = .ok (.bipush 48, 2) := by decide +kernel
theorem dX6_takesNumber_14 : decode cX6_takesNumber 14 = .ok (.bipush 57, 2) := by decide +kernel
theorem dX6_takesNumber_16 : decode cX6_takesNumber 16 = .ok (.invokevirtual 233, 3) := by decide +kernel
theorem dX6_takesNumber_19 : decode cX6_takesNumber 19 = .ok (.ifCond .eq 53, 3) := by decide +kernel
theorem dX6_takesNumber_22 : decode cX6_takesNumber 22 = .ok (.aload_n 0, 1) := by decide +kernel
theorem dX6_takesNumber_23 : decode cX6_takesNumber 23 = .ok (.getfield 230, 3) := by decide +kernel
theorem dX6_takesNumber_26 : decode cX6_takesNumber 26 = .ok (.iload_n 2, 1) := by decide +kernel
theorem dX6_takesNumber_27 : decode cX6_takesNumber 27 = .ok (.iconst 4, 1) := by decide +kernel
theorem dX6_takesNumber_28 : decode cX6_takesNumber 28 = .ok (.iadd, 1) := by decide +kernel
theorem dX6_takesNumber_29 : decode cX6_takesNumber 29 = .ok (.if_icmp .ne 12, 3) := by decide +kernel
theorem dX6_takesNumber_32 : decode cX6_takesNumber 32 = .ok (.aload_n 0, 1) := by decide +kernel
theorem dX6_takesNumber_33 : decode cX6_takesNumber 33 = .ok (.aload_n 0, 1) := by decide +kernel
theorem dX6_takesNumber_34 : decode cX6_takesNumber 34 = .ok (.getfield 230, 3) := by decide +kernel
theorem dX6_takesNumber_37 : decode cX6_takesNumber 37 = .ok (.invokevirtual 242, 3) := by decide +kernel
theorem dX6_takesNumber_40 : decode cX6_takesNumber 40 = .ok (.ireturn, 1) := by decide +kernel
theorem dX6_takesNumber_41 : decode cX6_takesNumber 41 = .ok (.bipush 10, 2) := by decide +kernel
theorem dX6_takesNumber_43 : decode cX6_takesNumber 43 = .ok (.iload_n 3, 1) := by decide +kernel
theorem dX6_takesNumber_44 : decode cX6_takesNumber 44 = .ok (.imul, 1) := by decide +kernel
theorem dX6_takesNumber_45 : decode cX6_takesNumber 45 = .ok (.aload_n 0, 1) := by decide +kernel
theorem dX6_takesNumber_46 : decode cX6_takesNumber 46 = .ok (.getfield 22, 3) := by decide +kernel
theorem dX6_takesNumber_49 : decode cX6_takesNumber 49 = .ok (.aload_n 0, 1) := by decide +kernel
theorem dX6_takesNumber_50 : decode cX6_takesNumber 50 = .ok (.getfield 230, 3) := by decide +kernel
theorem dX6_takesNumber_53 : decode cX6_takesNumber 53 = .ok (.iaload, 1) := by decide +kernel
theorem dX6_takesNumber_54 : decode cX6_takesNumber 54 = .ok (.iadd, 1) := by decide +kernel
theorem dX6_takesNumber_55 : decode cX6_takesNumber 55 = .ok (.bipush 48, 2) := by decide +kernel
theorem dX6_takesNumber_57 : decode cX6_takesNumber 57 = .ok (.isub, 1) := by decide +kernel
theorem dX6_takesNumber_58 : decode cX6_takesNumber 58 = .ok (.istore_n 3, 1) := by decide +kernel
theorem dX6_takesNumber_59 : decode cX6_takesNumber 59 = .ok (.aload_n 0, 1) := by decide +kernel
theorem dX6_takesNumber_60 : decode cX6_takesNumber 60 = .ok (.dup, 1) := by decide +kernel
theorem dX6_takesNumber_61 : decode cX6_takesNumber 61 = .ok (.getfield 230, 3) := by decide +kernel
theorem dX6_takesNumber_64 : decode cX6_takesNumber 64 = .ok (.iconst 1, 1) := by decide +kernel
theorem dX6_takesNumber_65 : decode cX6_takesNumber 65 = .ok (.iadd, 1) := by decide +kernel
theorem dX6_takesNumber_66 : decode cX6_takesNumber 66 = .ok (.putfield 230, 3) := by decide +kernel
theorem dX6_takesNumber_69 : decode cX6_takesNumber 69 = .ok (.goto (-58), 3) := by decide +kernel
theorem dX6_takesNumber_72 : decode cX6_takesNumber 72 = .ok (.aload_n 0, 1) := by decide +kernel
theorem dX6_takesNumber_73 : decode cX6_takesNumber 73 = .ok (.getfield 43, 3) := by decide +kernel
theorem dX6_takesNumber_76 : decode cX6_takesNumber 76 = .ok (.iload_n 1, 1) := by decide +kernel
theorem dX6_takesNumber_77 : decode cX6_takesNumber 77 = .ok (.iload_n 3, 1) := by decide +kernel
theorem dX6_takesNumber_78 : decode cX6_takesNumber 78 = .ok (.iastore, 1) := by decide +kernel
theorem dX6_takesNumber_79 : decode cX6_takesNumber 79 = .ok (.aload_n 0, 1) := by decide +kernel
theorem dX6_takesNumber_80 : decode cX6_takesNumber 80 = .ok (.getfield 230, 3) := by decide +kernel
theorem dX6_takesNumber_83 : decode cX6_takesNumber 83 = .ok (.iload_n 2, 1) := by decide +kernel
theorem dX6_takesNumber_84 : decode cX6_takesNumber 84 = .ok (.if_icmp .gt 14, 3) := by decide +kernel
theorem dX6_takesNumber_87 : decode cX6_takesNumber 87 = .ok (.aload_n 0, 1) := by decide +kernel
theorem dX6_takesNumber_88 : decode cX6_takesNumber 88 = .ok (.aload_n 0, 1) := by decide +kernel
theorem dX6_takesNumber_89 : decode cX6_takesNumber 89 = .ok (.getfield 230, 3) := by decide +kernel
theorem dX6_takesNumber_92 : decode cX6_takesNumber 92 = .ok (.invokevirtual 242, 3) := by decide +kernel
theorem dX6_takesNumber_95 : decode cX6_takesNumber 95 = .ok (.ifCond .eq 7, 3) := by decide +kernel
theorem dX6_takesNumber_98 : decode cX6_takesNumber 98 = .ok (.iconst 1, 1) := by decide +kernel
theorem dX6_takesNumber_99 : decode cX6_takesNumber 99 = .ok (.goto 4, 3) := by decide +kernel
theorem dX6_takesNumber_102 : decode cX6_takesNumber 102 = .ok (.iconst 0, 1) := by decide +kernel
theorem dX6_takesNumber_103 : decode cX6_takesNumber 103 = .ok (.ireturn, 1) := by decide +kernel
theorem dX6_takesOrder_0 : decode cX6_takesOrder 0 = .ok (.aload_n 0, 1) := by decide +kernel
theorem dX6_takesOrder_1 : decode cX6_takesOrder 1 = .ok (.getfield 22, 3) := by decide +kernel
theorem dX6_takesOrder_4 : decode cX6_takesOrder 4 = .ok (.aload_n 0, 1) := by decide +kernel
theorem dX6_takesOrder_5 : decode cX6_takesOrder 5 = .ok (.getfield 230, 3) := by decide +kernel
theorem dX6_takesOrder_8 : decode cX6_takesOrder 8 = .ok (.iaload, 1) := by decide +kernel
theorem dX6_takesOrder_9 : decode cX6_takesOrder 9 = .ok (.istore_n 1, 1) := by decide +kernel
theorem dX6_takesOrder_10 : decode cX6_takesOrder 10 = .ok (.iload_n 1, 1) := by decide +kernel
theorem dX6_takesOrder_11 : decode cX6_takesOrder 11 = .ok (.invokestatic 245, 3) := by decide +kernel
theorem dX6_takesOrder_14 : decode cX6_takesOrder 14 = .ok (.istore_n 2, 1) := by decide +kernel
theorem dX6_takesOrder_15 : decode cX6_takesOrder 15 = .ok (.iload_n 2, 1) := by decide +kernel
theorem dX6_takesOrder_16 : decode cX6_takesOrder 16 = .ok (.sipush (-10001), 3) := by decide +kernel
theorem dX6_takesOrder_19 : decode cX6_takesOrder 19 = .ok (.if_icmp .ne 12, 3) := by decide +kernel
theorem dX6_takesOrder_22 : decode cX6_takesOrder 22 = .ok (.aload_n 0, 1) := by decide +kernel
theorem dX6_takesOrder_23 : decode cX6_takesOrder 23 = .ok (.aload_n 0, 1) := by decide +kernel
theorem dX6_takesOrder_24 : decode cX6_takesOrder 24 = .ok (.getfield 230, 3) := by decide +kernel
theorem dX6_takesOrder_27 : decode cX6_takesOrder 27 = .ok (.invokevirtual 242, 3) := by decide +kernel
theorem dX6_takesOrder_30 : decode cX6_takesOrder 30 = .ok (.ireturn, 1) := by decide +kernel
theorem dX6_takesOrder_31 : decode cX6_takesOrder 31 = .ok (.aload_n 0, 1) := by decide +kernel
theorem dX6_takesOrder_32 : decode cX6_takesOrder 32 = .ok (.getfield 40, 3) := by decide +kernel
theorem dX6_takesOrder_35 : decode cX6_takesOrder 35 = .ok (.aload_n 0, 1) := by decide +kernel
theorem dX6_takesOrder_36 : decode cX6_takesOrder 36 = .ok (.getfield 248, 3) := by decide +kernel
theorem dX6_takesOrder_39 : decode cX6_takesOrder 39 = .ok (.iload_n 1, 1) := by decide +kernel
theorem dX6_takesOrder_40 : decode cX6_takesOrder 40 = .ok (.iastore, 1) := by decide +kernel
theorem dX6_takesOrder_41 : decode cX6_takesOrder 41 = .ok (.aload_n 0, 1) := by decide +kernel
theorem dX6_takesOrder_42 : decode cX6_takesOrder 42 = .ok (.dup, 1) := by decide +kernel
theorem dX6_takesOrder_43 : decode cX6_takesOrder 43 = .ok (.getfield 230, 3) := by decide +kernel
theorem dX6_takesOrder_46 : decode cX6_takesOrder 46 = .ok (.iconst 1, 1) := by decide +kernel
theorem dX6_takesOrder_47 : decode cX6_takesOrder 47 = .ok (.iadd, 1) := by decide +kernel
theorem dX6_takesOrder_48 : decode cX6_takesOrder 48 = .ok (.putfield 230, 3) := by decide +kernel
theorem dX6_takesOrder_51 : decode cX6_takesOrder 51 = .ok (.iconst 0, 1) := by decide +kernel
theorem dX6_takesOrder_52 : decode cX6_takesOrder 52 = .ok (.istore_n 3, 1) := by decide +kernel
theorem dX6_takesOrder_53 : decode cX6_takesOrder 53 = .ok (.iload_n 3, 1) := by decide +kernel
theorem dX6_takesOrder_54 : decode cX6_takesOrder 54 = .ok (.iload_n 2, 1) := by decide +kernel
theorem dX6_takesOrder_55 : decode cX6_takesOrder 55 = .ok (.if_icmp .ge 26, 3) := by decide +kernel
theorem dX6_takesOrder_58 : decode cX6_takesOrder 58 = .ok (.aload_n 0, 1) := by decide +kernel
theorem dX6_takesOrder_59 : decode cX6_takesOrder 59 = .ok (.iconst 5, 1) := by decide +kernel
theorem dX6_takesOrder_60 : decode cX6_takesOrder 60 = .ok (.aload_n 0, 1) := by decide +kernel
theorem dX6_takesOrder_61 : decode cX6_takesOrder 61 = .ok (.getfield 248, 3) := by decide +kernel
theorem dX6_takesOrder_64 : decode cX6_takesOrder 64 = .ok (.imul, 1) := by decide +kernel
theorem dX6_takesOrder_65 : decode cX6_takesOrder 65 = .ok (.iload_n 3, 1) := by decide +kernel
theorem dX6_takesOrder_66 : decode cX6_takesOrder 66 = .ok (.iadd, 1) := by decide +kernel
theorem dX6_takesOrder_67 : decode cX6_takesOrder 67 = .ok (.invokevirtual 251, 3) := by decide +kernel
theorem dX6_takesOrder_70 : decode cX6_takesOrder 70 = .ok (.ifCond .ne 5, 3) := by decide +kernel
theorem dX6_takesOrder_73 : decode cX6_takesOrder 73 = .ok (.iconst 0, 1) := by decide +kernel
theorem dX6_takesOrder_74 : decode cX6_takesOrder 74 = .ok (.ireturn, 1) := by decide +kernel
theorem dX6_takesOrder_75 : decode cX6_takesOrder 75 = .ok (.iinc 3 1, 3) := by decide +kernel
theorem dX6_takesOrder_78 : decode cX6_takesOrder 78 = .ok (.goto (-25), 3) := by decide +kernel
theorem dX6_takesOrder_81 : decode cX6_takesOrder 81 = .ok (.aload_n 0, 1) := by decide +kernel
theorem dX6_takesOrder_82 : decode cX6_takesOrder 82 = .ok (.invokevirtual 239, 3) := by decide +kernel
theorem dX6_takesOrder_85 : decode cX6_takesOrder 85 = .ok (.aload_n 0, 1) := by decide +kernel
theorem dX6_takesOrder_86 : decode cX6_takesOrder 86 = .ok (.bipush 59, 2) := by decide +kernel
theorem dX6_takesOrder_88 : decode cX6_takesOrder 88 = .ok (.bipush 59, 2) := by decide +kernel
theorem dX6_takesOrder_90 : decode cX6_takesOrder 90 = .ok (.invokevirtual 233, 3) := by decide +kernel
theorem dX6_takesOrder_93 : decode cX6_takesOrder 93 = .ok (.ifCond .ne 12, 3) := by decide +kernel
theorem dX6_takesOrder_96 : decode cX6_takesOrder 96 = .ok (.aload_n 0, 1) := by decide +kernel
theorem dX6_takesOrder_97 : decode cX6_takesOrder 97 = .ok (.aload_n 0, 1) := by decide +kernel
theorem dX6_takesOrder_98 : decode cX6_takesOrder 98 = .ok (.getfield 230, 3) := by decide +kernel
theorem dX6_takesOrder_101 : decode cX6_takesOrder 101 = .ok (.invokevirtual 242, 3) := by decide +kernel
theorem dX6_takesOrder_104 : decode cX6_takesOrder 104 = .ok (.ireturn, 1) := by decide +kernel
theorem dX6_takesOrder_105 : decode cX6_takesOrder 105 = .ok (.aload_n 0, 1) := by decide +kernel
theorem dX6_takesOrder_106 : decode cX6_takesOrder 106 = .ok (.dup, 1) := by decide +kernel
theorem dX6_takesOrder_107 : decode cX6_takesOrder 107 = .ok (.getfield 230, 3) := by decide +kernel
theorem dX6_takesOrder_110 : decode cX6_takesOrder 110 = .ok (.iconst 1, 1) := by decide +kernel
theorem dX6_takesOrder_111 : decode cX6_takesOrder 111 = .ok (.iadd, 1) := by decide +kernel
theorem dX6_takesOrder_112 : decode cX6_takesOrder 112 = .ok (.putfield 230, 3) := by decide +kernel
theorem dX6_takesOrder_115 : decode cX6_takesOrder 115 = .ok (.aload_n 0, 1) := by decide +kernel
theorem dX6_takesOrder_116 : decode cX6_takesOrder 116 = .ok (.dup, 1) := by decide +kernel
theorem dX6_takesOrder_117 : decode cX6_takesOrder 117 = .ok (.getfield 248, 3) := by decide +kernel
theorem dX6_takesOrder_120 : decode cX6_takesOrder 120 = .ok (.iconst 1, 1) := by decide +kernel
theorem dX6_takesOrder_121 : decode cX6_takesOrder 121 = .ok (.iadd, 1) := by decide +kernel
theorem dX6_takesOrder_122 : decode cX6_takesOrder 122 = .ok (.putfield 248, 3) := by decide +kernel
theorem dX6_takesOrder_125 : decode cX6_takesOrder 125 = .ok (.iconst 1, 1) := by decide +kernel
theorem dX6_takesOrder_126 : decode cX6_takesOrder 126 = .ok (.ireturn, 1) := by decide +kernel
theorem dX6_isRead_0 : decode cX6_isRead 0 = .ok (.aload_n 0, 1) := by decide +kernel
theorem dX6_isRead_1 : decode cX6_isRead 1 = .ok (.iconst 0, 1) := by decide +kernel
theorem dX6_isRead_2 : decode cX6_isRead 2 = .ok (.putfield 230, 3) := by decide +kernel
theorem dX6_isRead_5 : decode cX6_isRead 5 = .ok (.aload_n 0, 1) := by decide +kernel
theorem dX6_isRead_6 : decode cX6_isRead 6 = .ok (.iconst 0, 1) := by decide +kernel
theorem dX6_isRead_7 : decode cX6_isRead 7 = .ok (.putfield 248, 3) := by decide +kernel
theorem dX6_isRead_10 : decode cX6_isRead 10 = .ok (.aload_n 0, 1) := by decide +kernel
theorem dX6_isRead_11 : decode cX6_isRead 11 = .ok (.invokevirtual 239, 3) := by decide +kernel
theorem dX6_isRead_14 : decode cX6_isRead 14 = .ok (.aload_n 0, 1) := by decide +kernel
theorem dX6_isRead_15 : decode cX6_isRead 15 = .ok (.getfield 230, 3) := by decide +kernel
theorem dX6_isRead_18 : decode cX6_isRead 18 = .ok (.aload_n 0, 1) := by decide +kernel
theorem dX6_isRead_19 : decode cX6_isRead 19 = .ok (.getfield 227, 3) := by decide +kernel
theorem dX6_isRead_22 : decode cX6_isRead 22 = .ok (.if_icmp .ge 19, 3) := by decide +kernel
theorem dX6_isRead_25 : decode cX6_isRead 25 = .ok (.aload_n 0, 1) := by decide +kernel
theorem dX6_isRead_26 : decode cX6_isRead 26 = .ok (.invokevirtual 254, 3) := by decide +kernel
theorem dX6_isRead_29 : decode cX6_isRead 29 = .ok (.ifCond .ne 5, 3) := by decide +kernel
theorem dX6_isRead_32 : decode cX6_isRead 32 = .ok (.iconst 0, 1) := by decide +kernel
theorem dX6_isRead_33 : decode cX6_isRead 33 = .ok (.ireturn, 1) := by decide +kernel
theorem dX6_isRead_34 : decode cX6_isRead 34 = .ok (.aload_n 0, 1) := by decide +kernel
theorem dX6_isRead_35 : decode cX6_isRead 35 = .ok (.invokevirtual 239, 3) := by decide +kernel
theorem dX6_isRead_38 : decode cX6_isRead 38 = .ok (.goto (-24), 3) := by decide +kernel
theorem dX6_isRead_41 : decode cX6_isRead 41 = .ok (.aload_n 0, 1) := by decide +kernel
theorem dX6_isRead_42 : decode cX6_isRead 42 = .ok (.getfield 248, 3) := by decide +kernel
theorem dX6_isRead_45 : decode cX6_isRead 45 = .ok (.ifCond .gt 14, 3) := by decide +kernel
theorem dX6_isRead_48 : decode cX6_isRead 48 = .ok (.aload_n 0, 1) := by decide +kernel
theorem dX6_isRead_49 : decode cX6_isRead 49 = .ok (.aload_n 0, 1) := by decide +kernel
theorem dX6_isRead_50 : decode cX6_isRead 50 = .ok (.getfield 227, 3) := by decide +kernel
theorem dX6_isRead_53 : decode cX6_isRead 53 = .ok (.invokevirtual 242, 3) := by decide +kernel
theorem dX6_isRead_56 : decode cX6_isRead 56 = .ok (.ifCond .eq 7, 3) := by decide +kernel
theorem dX6_isRead_59 : decode cX6_isRead 59 = .ok (.iconst 1, 1) := by decide +kernel
theorem dX6_isRead_60 : decode cX6_isRead 60 = .ok (.goto 4, 3) := by decide +kernel
theorem dX6_isRead_63 : decode cX6_isRead 63 = .ok (.iconst 0, 1) := by decide +kernel
theorem dX6_isRead_64 : decode cX6_isRead 64 = .ok (.ireturn, 1) := by decide +kernel
theorem dX6_doneOne_0 : decode cX6_doneOne 0 = .ok (.iconst 5, 1) := by decide +kernel
theorem dX6_doneOne_1 : decode cX6_doneOne 1 = .ok (.iload_n 1, 1) := by decide +kernel
theorem dX6_doneOne_2 : decode cX6_doneOne 2 = .ok (.imul, 1) := by decide +kernel
theorem dX6_doneOne_3 : decode cX6_doneOne 3 = .ok (.istore_n 2, 1) := by decide +kernel
theorem dX6_doneOne_4 : decode cX6_doneOne 4 = .ok (.aload_n 0, 1) := by decide +kernel
theorem dX6_doneOne_5 : decode cX6_doneOne 5 = .ok (.getfield 43, 3) := by decide +kernel
theorem dX6_doneOne_8 : decode cX6_doneOne 8 = .ok (.iload_n 2, 1) := by decide +kernel
theorem dX6_doneOne_9 : decode cX6_doneOne 9 = .ok (.iaload, 1) := by decide +kernel
theorem dX6_doneOne_10 : decode cX6_doneOne 10 = .ok (.istore_n 3, 1) := by decide +kernel
theorem dX6_doneOne_11 : decode cX6_doneOne 11 = .ok (.aload_n 0, 1) := by decide +kernel
theorem dX6_doneOne_12 : decode cX6_doneOne 12 = .ok (.getfield 43, 3) := by decide +kernel
theorem dX6_doneOne_15 : decode cX6_doneOne 15 = .ok (.iload_n 2, 1) := by decide +kernel
theorem dX6_doneOne_16 : decode cX6_doneOne 16 = .ok (.iconst 1, 1) := by decide +kernel
theorem dX6_doneOne_17 : decode cX6_doneOne 17 = .ok (.iadd, 1) := by decide +kernel
theorem dX6_doneOne_18 : decode cX6_doneOne 18 = .ok (.iaload, 1) := by decide +kernel
theorem dX6_doneOne_19 : decode cX6_doneOne 19 = .ok (.istore 4, 2) := by decide +kernel
theorem dX6_doneOne_21 : decode cX6_doneOne 21 = .ok (.aload_n 0, 1) := by decide +kernel
theorem dX6_doneOne_22 : decode cX6_doneOne 22 = .ok (.getfield 43, 3) := by decide +kernel
theorem dX6_doneOne_25 : decode cX6_doneOne 25 = .ok (.iload_n 2, 1) := by decide +kernel
theorem dX6_doneOne_26 : decode cX6_doneOne 26 = .ok (.iconst 2, 1) := by decide +kernel
theorem dX6_doneOne_27 : decode cX6_doneOne 27 = .ok (.iadd, 1) := by decide +kernel
theorem dX6_doneOne_28 : decode cX6_doneOne 28 = .ok (.iaload, 1) := by decide +kernel
theorem dX6_doneOne_29 : decode cX6_doneOne 29 = .ok (.istore 5, 2) := by decide +kernel
theorem dX6_doneOne_31 : decode cX6_doneOne 31 = .ok (.aload_n 0, 1) := by decide +kernel
theorem dX6_doneOne_32 : decode cX6_doneOne 32 = .ok (.getfield 43, 3) := by decide +kernel
theorem dX6_doneOne_35 : decode cX6_doneOne 35 = .ok (.iload_n 2, 1) := by decide +kernel
theorem dX6_doneOne_36 : decode cX6_doneOne 36 = .ok (.iconst 3, 1) := by decide +kernel
theorem dX6_doneOne_37 : decode cX6_doneOne 37 = .ok (.iadd, 1) := by decide +kernel
theorem dX6_doneOne_38 : decode cX6_doneOne 38 = .ok (.iaload, 1) := by decide +kernel
theorem dX6_doneOne_39 : decode cX6_doneOne 39 = .ok (.istore 6, 2) := by decide +kernel
theorem dX6_doneOne_41 : decode cX6_doneOne 41 = .ok (.aload_n 0, 1) := by decide +kernel
theorem dX6_doneOne_42 : decode cX6_doneOne 42 = .ok (.getfield 40, 3) := by decide +kernel
theorem dX6_doneOne_45 : decode cX6_doneOne 45 = .ok (.iload_n 1, 1) := by decide +kernel
theorem dX6_doneOne_46 : decode cX6_doneOne 46 = .ok (.iaload, 1) := by decide +kernel
theorem dX6_doneOne_47 : decode cX6_doneOne 47 = .ok (.lookupswitch 105 #[(101, 73), (103, 49), (108, 93), (115, 65), (118, 57)], 49) := by decide +kernel
theorem dX6_doneOne_96 : decode cX6_doneOne 96 = .ok (.aload_n 0, 1) := by decide +kernel
theorem dX6_doneOne_97 : decode cX6_doneOne 97 = .ok (.iload_n 3, 1) := by decide +kernel
theorem dX6_doneOne_98 : decode cX6_doneOne 98 = .ok (.iload 4, 2) := by decide +kernel
theorem dX6_doneOne_100 : decode cX6_doneOne 100 = .ok (.invokevirtual 92, 3) := by decide +kernel
theorem dX6_doneOne_103 : decode cX6_doneOne 103 = .ok (.ireturn, 1) := by decide +kernel
theorem dX6_doneOne_104 : decode cX6_doneOne 104 = .ok (.aload_n 0, 1) := by decide +kernel
theorem dX6_doneOne_105 : decode cX6_doneOne 105 = .ok (.iload_n 3, 1) := by decide +kernel
theorem dX6_doneOne_106 : decode cX6_doneOne 106 = .ok (.iload 4, 2) := by decide +kernel
theorem dX6_doneOne_108 : decode cX6_doneOne 108 = .ok (.invokevirtual 98, 3) := by decide +kernel
theorem dX6_doneOne_111 : decode cX6_doneOne 111 = .ok (.ireturn, 1) := by decide +kernel
theorem dX6_doneOne_112 : decode cX6_doneOne 112 = .ok (.aload_n 0, 1) := by decide +kernel
theorem dX6_doneOne_113 : decode cX6_doneOne 113 = .ok (.iload_n 3, 1) := by decide +kernel
theorem dX6_doneOne_114 : decode cX6_doneOne 114 = .ok (.iload 4, 2) := by decide +kernel
theorem dX6_doneOne_116 : decode cX6_doneOne 116 = .ok (.invokevirtual 101, 3) := by decide +kernel
theorem dX6_doneOne_119 : decode cX6_doneOne 119 = .ok (.ireturn, 1) := by decide +kernel
theorem dX6_doneOne_120 : decode cX6_doneOne 120 = .ok (.aload_n 0, 1) := by decide +kernel
theorem dX6_doneOne_121 : decode cX6_doneOne 121 = .ok (.iload_n 3, 1) := by decide +kernel
theorem dX6_doneOne_122 : decode cX6_doneOne 122 = .ok (.iload 4, 2) := by decide +kernel
theorem dX6_doneOne_124 : decode cX6_doneOne 124 = .ok (.iload 5, 2) := by decide +kernel
theorem dX6_doneOne_126 : decode cX6_doneOne 126 = .ok (.iload 6, 2) := by decide +kernel
theorem dX6_doneOne_128 : decode cX6_doneOne 128 = .ok (.aload_n 0, 1) := by decide +kernel
theorem dX6_doneOne_129 : decode cX6_doneOne 129 = .ok (.getfield 43, 3) := by decide +kernel
theorem dX6_doneOne_132 : decode cX6_doneOne 132 = .ok (.iload_n 2, 1) := by decide +kernel
theorem dX6_doneOne_133 : decode cX6_doneOne 133 = .ok (.iconst 4, 1) := by decide +kernel
theorem dX6_doneOne_134 : decode cX6_doneOne 134 = .ok (.iadd, 1) := by decide +kernel
theorem dX6_doneOne_135 : decode cX6_doneOne 135 = .ok (.iaload, 1) := by decide +kernel
theorem dX6_doneOne_136 : decode cX6_doneOne 136 = .ok (.invokevirtual 107, 3) := by decide +kernel
theorem dX6_doneOne_139 : decode cX6_doneOne 139 = .ok (.ireturn, 1) := by decide +kernel
theorem dX6_doneOne_140 : decode cX6_doneOne 140 = .ok (.aload_n 0, 1) := by decide +kernel
theorem dX6_doneOne_141 : decode cX6_doneOne 141 = .ok (.iload_n 3, 1) := by decide +kernel
theorem dX6_doneOne_142 : decode cX6_doneOne 142 = .ok (.iload 4, 2) := by decide +kernel
theorem dX6_doneOne_144 : decode cX6_doneOne 144 = .ok (.iload 5, 2) := by decide +kernel
theorem dX6_doneOne_146 : decode cX6_doneOne 146 = .ok (.iload 6, 2) := by decide +kernel
theorem dX6_doneOne_148 : decode cX6_doneOne 148 = .ok (.invokevirtual 111, 3) := by decide +kernel
theorem dX6_doneOne_151 : decode cX6_doneOne 151 = .ok (.ireturn, 1) := by decide +kernel
theorem dX6_doneOne_152 : decode cX6_doneOne 152 = .ok (.aload_n 0, 1) := by decide +kernel
theorem dX6_doneOne_153 : decode cX6_doneOne 153 = .ok (.iload_n 3, 1) := by decide +kernel
theorem dX6_doneOne_154 : decode cX6_doneOne 154 = .ok (.iload 4, 2) := by decide +kernel
theorem dX6_doneOne_156 : decode cX6_doneOne 156 = .ok (.iload 5, 2) := by decide +kernel
theorem dX6_doneOne_158 : decode cX6_doneOne 158 = .ok (.invokevirtual 115, 3) := by decide +kernel
theorem dX6_doneOne_161 : decode cX6_doneOne 161 = .ok (.ireturn, 1) := by decide +kernel
theorem dX6_does_0 : decode cX6_does 0 = .ok (.aload_n 0, 1) := by decide +kernel
theorem dX6_does_1 : decode cX6_does 1 = .ok (.invokevirtual 258, 3) := by decide +kernel
theorem dX6_does_4 : decode cX6_does 4 = .ok (.ifCond .ne 11, 3) := by decide +kernel
theorem dX6_does_7 : decode cX6_does 7 = .ok (.bipush (-10), 2) := by decide +kernel
theorem dX6_does_9 : decode cX6_does 9 = .ok (.aload_n 0, 1) := by decide +kernel
theorem dX6_does_10 : decode cX6_does 10 = .ok (.getfield 236, 3) := by decide +kernel
theorem dX6_does_13 : decode cX6_does 13 = .ok (.isub, 1) := by decide +kernel
theorem dX6_does_14 : decode cX6_does 14 = .ok (.ireturn, 1) := by decide +kernel
theorem dX6_does_15 : decode cX6_does 15 = .ok (.aload_n 0, 1) := by decide +kernel
theorem dX6_does_16 : decode cX6_does 16 = .ok (.invokevirtual 89, 3) := by decide +kernel
theorem dX6_does_19 : decode cX6_does 19 = .ok (.iconst 0, 1) := by decide +kernel
theorem dX6_does_20 : decode cX6_does 20 = .ok (.istore_n 1, 1) := by decide +kernel
theorem dX6_does_21 : decode cX6_does 21 = .ok (.iload_n 1, 1) := by decide +kernel
theorem dX6_does_22 : decode cX6_does 22 = .ok (.aload_n 0, 1) := by decide +kernel
theorem dX6_does_23 : decode cX6_does 23 = .ok (.getfield 248, 3) := by decide +kernel
theorem dX6_does_26 : decode cX6_does 26 = .ok (.if_icmp .ge 53, 3) := by decide +kernel
theorem dX6_does_29 : decode cX6_does 29 = .ok (.aload_n 0, 1) := by decide +kernel
theorem dX6_does_30 : decode cX6_does 30 = .ok (.iload_n 1, 1) := by decide +kernel
theorem dX6_does_31 : decode cX6_does 31 = .ok (.invokevirtual 261, 3) := by decide +kernel
theorem dX6_does_34 : decode cX6_does 34 = .ok (.sipush (-10002), 3) := by decide +kernel
theorem dX6_does_37 : decode cX6_does 37 = .ok (.if_icmp .ne 36, 3) := by decide +kernel
theorem dX6_does_40 : decode cX6_does 40 = .ok (.iconst 0, 1) := by decide +kernel
theorem dX6_does_41 : decode cX6_does 41 = .ok (.istore_n 2, 1) := by decide +kernel
theorem dX6_does_42 : decode cX6_does 42 = .ok (.iload_n 2, 1) := by decide +kernel
theorem dX6_does_43 : decode cX6_does 43 = .ok (.sipush 395, 3) := by decide +kernel
theorem dX6_does_46 : decode cX6_does 46 = .ok (.if_icmp .ge 21, 3) := by decide +kernel
theorem dX6_does_49 : decode cX6_does 49 = .ok (.aload_n 0, 1) := by decide +kernel
theorem dX6_does_50 : decode cX6_does 50 = .ok (.getfield 7, 3) := by decide +kernel
theorem dX6_does_53 : decode cX6_does 53 = .ok (.iload_n 2, 1) := by decide +kernel
theorem dX6_does_54 : decode cX6_does 54 = .ok (.aload_n 0, 1) := by decide +kernel
theorem dX6_does_55 : decode cX6_does 55 = .ok (.getfield 13, 3) := by decide +kernel
theorem dX6_does_58 : decode cX6_does 58 = .ok (.iload_n 2, 1) := by decide +kernel
theorem dX6_does_59 : decode cX6_does 59 = .ok (.iaload, 1) := by decide +kernel
theorem dX6_does_60 : decode cX6_does 60 = .ok (.iastore, 1) := by decide +kernel
theorem dX6_does_61 : decode cX6_does 61 = .ok (.iinc 2 1, 3) := by decide +kernel
theorem dX6_does_64 : decode cX6_does 64 = .ok (.goto (-22), 3) := by decide +kernel
theorem dX6_does_67 : decode cX6_does 67 = .ok (.sipush (-1000), 3) := by decide +kernel
theorem dX6_does_70 : decode cX6_does 70 = .ok (.iload_n 1, 1) := by decide +kernel
theorem dX6_does_71 : decode cX6_does 71 = .ok (.isub, 1) := by decide +kernel
theorem dX6_does_72 : decode cX6_does 72 = .ok (.ireturn, 1) := by decide +kernel
theorem dX6_does_73 : decode cX6_does 73 = .ok (.iinc 1 1, 3) := by decide +kernel
theorem dX6_does_76 : decode cX6_does 76 = .ok (.goto (-55), 3) := by decide +kernel
theorem dX6_does_79 : decode cX6_does 79 = .ok (.aload_n 0, 1) := by decide +kernel
theorem dX6_does_80 : decode cX6_does 80 = .ok (.invokevirtual 57, 3) := by decide +kernel
theorem dX6_does_83 : decode cX6_does 83 = .ok (.aload_n 0, 1) := by decide +kernel
theorem dX6_does_84 : decode cX6_does 84 = .ok (.getfield 248, 3) := by decide +kernel
theorem dX6_does_87 : decode cX6_does 87 = .ok (.ireturn, 1) := by decide +kernel
theorem dX6_refusedOf_0 : decode cX6_refusedOf 0 = .ok (.iload_n 1, 1) := by decide +kernel
theorem dX6_refusedOf_1 : decode cX6_refusedOf 1 = .ok (.iconst 3, 1) := by decide +kernel
theorem dX6_refusedOf_2 : decode cX6_refusedOf 2 = .ok (.if_icmp .ge 12, 3) := by decide +kernel
theorem dX6_refusedOf_5 : decode cX6_refusedOf 5 = .ok (.aload_n 0, 1) := by decide +kernel
theorem dX6_refusedOf_6 : decode cX6_refusedOf 6 = .ok (.getfield 19, 3) := by decide +kernel
theorem dX6_refusedOf_9 : decode cX6_refusedOf 9 = .ok (.iload_n 1, 1) := by decide +kernel
theorem dX6_refusedOf_10 : decode cX6_refusedOf 10 = .ok (.iaload, 1) := by decide +kernel
theorem dX6_refusedOf_11 : decode cX6_refusedOf 11 = .ok (.goto 19, 3) := by decide +kernel
theorem dX6_refusedOf_14 : decode cX6_refusedOf 14 = .ok (.iload_n 1, 1) := by decide +kernel
theorem dX6_refusedOf_15 : decode cX6_refusedOf 15 = .ok (.iconst 3, 1) := by decide +kernel
theorem dX6_refusedOf_16 : decode cX6_refusedOf 16 = .ok (.if_icmp .ne 10, 3) := by decide +kernel
theorem dX6_refusedOf_19 : decode cX6_refusedOf 19 = .ok (.aload_n 0, 1) := by decide +kernel
theorem dX6_refusedOf_20 : decode cX6_refusedOf 20 = .ok (.getfield 227, 3) := by decide +kernel
theorem dX6_refusedOf_23 : decode cX6_refusedOf 23 = .ok (.goto 7, 3) := by decide +kernel
theorem dX6_refusedOf_26 : decode cX6_refusedOf 26 = .ok (.aload_n 0, 1) := by decide +kernel
theorem dX6_refusedOf_27 : decode cX6_refusedOf 27 = .ok (.getfield 46, 3) := by decide +kernel
theorem dX6_refusedOf_30 : decode cX6_refusedOf 30 = .ok (.ireturn, 1) := by decide +kernel
theorem dX6_refused_0 : decode cX6_refused 0 = .ok (.iload_n 1, 1) := by decide +kernel
theorem dX6_refused_1 : decode cX6_refused 1 = .ok (.iconst 0, 1) := by decide +kernel
theorem dX6_refused_2 : decode cX6_refused 2 = .ok (.iconst 4, 1) := by decide +kernel
theorem dX6_refused_3 : decode cX6_refused 3 = .ok (.invokestatic 60, 3) := by decide +kernel
theorem dX6_refused_6 : decode cX6_refused 6 = .ok (.ifCond .eq 11, 3) := by decide +kernel
theorem dX6_refused_9 : decode cX6_refused 9 = .ok (.aload_n 0, 1) := by decide +kernel
theorem dX6_refused_10 : decode cX6_refused 10 = .ok (.iload_n 1, 1) := by decide +kernel
theorem dX6_refused_11 : decode cX6_refused 11 = .ok (.invokevirtual 264, 3) := by decide +kernel
theorem dX6_refused_14 : decode cX6_refused 14 = .ok (.goto 7, 3) := by decide +kernel
theorem dX6_refused_17 : decode cX6_refused 17 = .ok (.aload_n 0, 1) := by decide +kernel
theorem dX6_refused_18 : decode cX6_refused 18 = .ok (.invokevirtual 54, 3) := by decide +kernel
theorem dX6_refused_21 : decode cX6_refused 21 = .ok (.ireturn, 1) := by decide +kernel
theorem dX6_mix_0 : decode cX6_mix 0 = .ok (.aload_n 0, 1) := by decide +kernel
theorem dX6_mix_1 : decode cX6_mix 1 = .ok (.ldc2_w 267, 3) := by decide +kernel
theorem dX6_mix_4 : decode cX6_mix 4 = .ok (.aload_n 0, 1) := by decide +kernel
theorem dX6_mix_5 : decode cX6_mix 5 = .ok (.getfield 269, 3) := by decide +kernel
theorem dX6_mix_8 : decode cX6_mix 8 = .ok (.lmul, 1) := by decide +kernel
theorem dX6_mix_9 : decode cX6_mix 9 = .ok (.lload_n 1, 1) := by decide +kernel
theorem dX6_mix_10 : decode cX6_mix 10 = .ok (.ladd, 1) := by decide +kernel
theorem dX6_mix_11 : decode cX6_mix 11 = .ok (.putfield 269, 3) := by decide +kernel
theorem dX6_mix_14 : decode cX6_mix 14 = .ok (.return_, 1) := by decide +kernel
theorem dX6_mixCells_0 : decode cX6_mixCells 0 = .ok (.aload_n 0, 1) := by decide +kernel
theorem dX6_mixCells_1 : decode cX6_mixCells 1 = .ok (.iload_n 1, 1) := by decide +kernel
theorem dX6_mixCells_2 : decode cX6_mixCells 2 = .ok (.invokevirtual 214, 3) := by decide +kernel
theorem dX6_mixCells_5 : decode cX6_mixCells 5 = .ok (.iconst 0, 1) := by decide +kernel
theorem dX6_mixCells_6 : decode cX6_mixCells 6 = .ok (.istore_n 2, 1) := by decide +kernel
theorem dX6_mixCells_7 : decode cX6_mixCells 7 = .ok (.iload_n 2, 1) := by decide +kernel
theorem dX6_mixCells_8 : decode cX6_mixCells 8 = .ok (.aload_n 0, 1) := by decide +kernel
theorem dX6_mixCells_9 : decode cX6_mixCells 9 = .ok (.getfield 7, 3) := by decide +kernel
theorem dX6_mixCells_12 : decode cX6_mixCells 12 = .ok (.iconst 1, 1) := by decide +kernel
theorem dX6_mixCells_13 : decode cX6_mixCells 13 = .ok (.iaload, 1) := by decide +kernel
theorem dX6_mixCells_14 : decode cX6_mixCells 14 = .ok (.if_icmp .ge 157, 3) := by decide +kernel
theorem dX6_mixCells_17 : decode cX6_mixCells 17 = .ok (.iconst 0, 1) := by decide +kernel
theorem dX6_mixCells_18 : decode cX6_mixCells 18 = .ok (.istore_n 3, 1) := by decide +kernel
theorem dX6_mixCells_19 : decode cX6_mixCells 19 = .ok (.iload_n 3, 1) := by decide +kernel
theorem dX6_mixCells_20 : decode cX6_mixCells 20 = .ok (.aload_n 0, 1) := by decide +kernel
theorem dX6_mixCells_21 : decode cX6_mixCells 21 = .ok (.getfield 7, 3) := by decide +kernel
theorem dX6_mixCells_24 : decode cX6_mixCells 24 = .ok (.iconst 0, 1) := by decide +kernel
theorem dX6_mixCells_25 : decode cX6_mixCells 25 = .ok (.iaload, 1) := by decide +kernel
theorem dX6_mixCells_26 : decode cX6_mixCells 26 = .ok (.if_icmp .ge 139, 3) := by decide +kernel
theorem dX6_mixCells_29 : decode cX6_mixCells 29 = .ok (.iload_n 1, 1) := by decide +kernel
theorem dX6_mixCells_30 : decode cX6_mixCells 30 = .ok (.iload_n 3, 1) := by decide +kernel
theorem dX6_mixCells_31 : decode cX6_mixCells 31 = .ok (.iload_n 2, 1) := by decide +kernel
theorem dX6_mixCells_32 : decode cX6_mixCells 32 = .ok (.invokestatic 72, 3) := by decide +kernel
theorem dX6_mixCells_35 : decode cX6_mixCells 35 = .ok (.istore 4, 2) := by decide +kernel
theorem dX6_mixCells_37 : decode cX6_mixCells 37 = .ok (.iconst 0, 1) := by decide +kernel
theorem dX6_mixCells_38 : decode cX6_mixCells 38 = .ok (.istore 5, 2) := by decide +kernel
theorem dX6_mixCells_40 : decode cX6_mixCells 40 = .ok (.iload 5, 2) := by decide +kernel
theorem dX6_mixCells_42 : decode cX6_mixCells 42 = .ok (.bipush 12, 2) := by decide +kernel
theorem dX6_mixCells_44 : decode cX6_mixCells 44 = .ok (.if_icmp .ge 24, 3) := by decide +kernel
theorem dX6_mixCells_47 : decode cX6_mixCells 47 = .ok (.aload_n 0, 1) := by decide +kernel
theorem dX6_mixCells_48 : decode cX6_mixCells 48 = .ok (.aload_n 0, 1) := by decide +kernel
theorem dX6_mixCells_49 : decode cX6_mixCells 49 = .ok (.getfield 7, 3) := by decide +kernel
theorem dX6_mixCells_52 : decode cX6_mixCells 52 = .ok (.iload 4, 2) := by decide +kernel
theorem dX6_mixCells_54 : decode cX6_mixCells 54 = .ok (.iload 5, 2) := by decide +kernel
theorem dX6_mixCells_56 : decode cX6_mixCells 56 = .ok (.iadd, 1) := by decide +kernel
theorem dX6_mixCells_57 : decode cX6_mixCells 57 = .ok (.iaload, 1) := by decide +kernel
theorem dX6_mixCells_58 : decode cX6_mixCells 58 = .ok (.i2l, 1) := by decide +kernel
theorem dX6_mixCells_59 : decode cX6_mixCells 59 = .ok (.invokevirtual 273, 3) := by decide +kernel
theorem dX6_mixCells_62 : decode cX6_mixCells 62 = .ok (.iinc 5 1, 3) := by decide +kernel
theorem dX6_mixCells_65 : decode cX6_mixCells 65 = .ok (.goto (-25), 3) := by decide +kernel
theorem dX6_mixCells_68 : decode cX6_mixCells 68 = .ok (.iconst 4, 1) := by decide +kernel
theorem dX6_mixCells_69 : decode cX6_mixCells 69 = .ok (.iload_n 2, 1) := by decide +kernel
theorem dX6_mixCells_70 : decode cX6_mixCells 70 = .ok (.imul, 1) := by decide +kernel
theorem dX6_mixCells_71 : decode cX6_mixCells 71 = .ok (.iload_n 3, 1) := by decide +kernel
theorem dX6_mixCells_72 : decode cX6_mixCells 72 = .ok (.iadd, 1) := by decide +kernel
theorem dX6_mixCells_73 : decode cX6_mixCells 73 = .ok (.istore 5, 2) := by decide +kernel
theorem dX6_mixCells_75 : decode cX6_mixCells 75 = .ok (.aload_n 0, 1) := by decide +kernel
theorem dX6_mixCells_76 : decode cX6_mixCells 76 = .ok (.aload_n 0, 1) := by decide +kernel
theorem dX6_mixCells_77 : decode cX6_mixCells 77 = .ok (.getfield 28, 3) := by decide +kernel
theorem dX6_mixCells_80 : decode cX6_mixCells 80 = .ok (.iload 5, 2) := by decide +kernel
theorem dX6_mixCells_82 : decode cX6_mixCells 82 = .ok (.iaload, 1) := by decide +kernel
theorem dX6_mixCells_83 : decode cX6_mixCells 83 = .ok (.i2l, 1) := by decide +kernel
theorem dX6_mixCells_84 : decode cX6_mixCells 84 = .ok (.invokevirtual 273, 3) := by decide +kernel
theorem dX6_mixCells_87 : decode cX6_mixCells 87 = .ok (.aload_n 0, 1) := by decide +kernel
theorem dX6_mixCells_88 : decode cX6_mixCells 88 = .ok (.getfield 28, 3) := by decide +kernel
theorem dX6_mixCells_91 : decode cX6_mixCells 91 = .ok (.iload 5, 2) := by decide +kernel
theorem dX6_mixCells_93 : decode cX6_mixCells 93 = .ok (.iaload, 1) := by decide +kernel
theorem dX6_mixCells_94 : decode cX6_mixCells 94 = .ok (.ifCond .ne 18, 3) := by decide +kernel
theorem dX6_mixCells_97 : decode cX6_mixCells 97 = .ok (.aload_n 0, 1) := by decide +kernel
theorem dX6_mixCells_98 : decode cX6_mixCells 98 = .ok (.aload_n 0, 1) := by decide +kernel
theorem dX6_mixCells_99 : decode cX6_mixCells 99 = .ok (.getfield 31, 3) := by decide +kernel
theorem dX6_mixCells_102 : decode cX6_mixCells 102 = .ok (.iload 5, 2) := by decide +kernel
theorem dX6_mixCells_104 : decode cX6_mixCells 104 = .ok (.iaload, 1) := by decide +kernel
theorem dX6_mixCells_105 : decode cX6_mixCells 105 = .ok (.i2l, 1) := by decide +kernel
theorem dX6_mixCells_106 : decode cX6_mixCells 106 = .ok (.invokevirtual 273, 3) := by decide +kernel
theorem dX6_mixCells_109 : decode cX6_mixCells 109 = .ok (.goto 50, 3) := by decide +kernel
theorem dX6_mixCells_112 : decode cX6_mixCells 112 = .ok (.aload_n 0, 1) := by decide +kernel
theorem dX6_mixCells_113 : decode cX6_mixCells 113 = .ok (.getfield 28, 3) := by decide +kernel
theorem dX6_mixCells_116 : decode cX6_mixCells 116 = .ok (.iload 5, 2) := by decide +kernel
theorem dX6_mixCells_118 : decode cX6_mixCells 118 = .ok (.iaload, 1) := by decide +kernel
theorem dX6_mixCells_119 : decode cX6_mixCells 119 = .ok (.iconst 4, 1) := by decide +kernel
theorem dX6_mixCells_120 : decode cX6_mixCells 120 = .ok (.if_icmp .ne 27, 3) := by decide +kernel
theorem dX6_mixCells_123 : decode cX6_mixCells 123 = .ok (.aload_n 0, 1) := by decide +kernel
theorem dX6_mixCells_124 : decode cX6_mixCells 124 = .ok (.aload_n 0, 1) := by decide +kernel
theorem dX6_mixCells_125 : decode cX6_mixCells 125 = .ok (.getfield 34, 3) := by decide +kernel
theorem dX6_mixCells_128 : decode cX6_mixCells 128 = .ok (.iload 5, 2) := by decide +kernel
theorem dX6_mixCells_130 : decode cX6_mixCells 130 = .ok (.iaload, 1) := by decide +kernel
theorem dX6_mixCells_131 : decode cX6_mixCells 131 = .ok (.i2l, 1) := by decide +kernel
theorem dX6_mixCells_132 : decode cX6_mixCells 132 = .ok (.invokevirtual 273, 3) := by decide +kernel
theorem dX6_mixCells_135 : decode cX6_mixCells 135 = .ok (.aload_n 0, 1) := by decide +kernel
theorem dX6_mixCells_136 : decode cX6_mixCells 136 = .ok (.aload_n 0, 1) := by decide +kernel
theorem dX6_mixCells_137 : decode cX6_mixCells 137 = .ok (.getfield 37, 3) := by decide +kernel
theorem dX6_mixCells_140 : decode cX6_mixCells 140 = .ok (.iload 5, 2) := by decide +kernel
theorem dX6_mixCells_142 : decode cX6_mixCells 142 = .ok (.iaload, 1) := by decide +kernel
theorem dX6_mixCells_143 : decode cX6_mixCells 143 = .ok (.i2l, 1) := by decide +kernel
theorem dX6_mixCells_144 : decode cX6_mixCells 144 = .ok (.invokevirtual 273, 3) := by decide +kernel
theorem dX6_mixCells_147 : decode cX6_mixCells 147 = .ok (.aload_n 0, 1) := by decide +kernel
theorem dX6_mixCells_148 : decode cX6_mixCells 148 = .ok (.aload_n 0, 1) := by decide +kernel
theorem dX6_mixCells_149 : decode cX6_mixCells 149 = .ok (.iload_n 1, 1) := by decide +kernel
theorem dX6_mixCells_150 : decode cX6_mixCells 150 = .ok (.iload_n 3, 1) := by decide +kernel
theorem dX6_mixCells_151 : decode cX6_mixCells 151 = .ok (.iload_n 2, 1) := by decide +kernel
theorem dX6_mixCells_152 : decode cX6_mixCells 152 = .ok (.invokevirtual 208, 3) := by decide +kernel
theorem dX6_mixCells_155 : decode cX6_mixCells 155 = .ok (.i2l, 1) := by decide +kernel
theorem dX6_mixCells_156 : decode cX6_mixCells 156 = .ok (.invokevirtual 273, 3) := by decide +kernel
theorem dX6_mixCells_159 : decode cX6_mixCells 159 = .ok (.iinc 3 1, 3) := by decide +kernel
theorem dX6_mixCells_162 : decode cX6_mixCells 162 = .ok (.goto (-143), 3) := by decide +kernel
theorem dX6_mixCells_165 : decode cX6_mixCells 165 = .ok (.iinc 2 1, 3) := by decide +kernel
theorem dX6_mixCells_168 : decode cX6_mixCells 168 = .ok (.goto (-161), 3) := by decide +kernel
theorem dX6_mixCells_171 : decode cX6_mixCells 171 = .ok (.return_, 1) := by decide +kernel
theorem dX6_digest_0 : decode cX6_digest 0 = .ok (.aload_n 0, 1) := by decide +kernel
theorem dX6_digest_1 : decode cX6_digest 1 = .ok (.ldc2_w 277, 3) := by decide +kernel
theorem dX6_digest_4 : decode cX6_digest 4 = .ok (.putfield 269, 3) := by decide +kernel
theorem dX6_digest_7 : decode cX6_digest 7 = .ok (.iconst 0, 1) := by decide +kernel
theorem dX6_digest_8 : decode cX6_digest 8 = .ok (.istore_n 1, 1) := by decide +kernel
theorem dX6_digest_9 : decode cX6_digest 9 = .ok (.iload_n 1, 1) := by decide +kernel
theorem dX6_digest_10 : decode cX6_digest 10 = .ok (.iconst 5, 1) := by decide +kernel
theorem dX6_digest_11 : decode cX6_digest 11 = .ok (.if_icmp .ge 19, 3) := by decide +kernel
theorem dX6_digest_14 : decode cX6_digest 14 = .ok (.aload_n 0, 1) := by decide +kernel
theorem dX6_digest_15 : decode cX6_digest 15 = .ok (.aload_n 0, 1) := by decide +kernel
theorem dX6_digest_16 : decode cX6_digest 16 = .ok (.iload_n 1, 1) := by decide +kernel
theorem dX6_digest_17 : decode cX6_digest 17 = .ok (.invokevirtual 264, 3) := by decide +kernel
theorem dX6_digest_20 : decode cX6_digest 20 = .ok (.i2l, 1) := by decide +kernel
theorem dX6_digest_21 : decode cX6_digest 21 = .ok (.invokevirtual 273, 3) := by decide +kernel
theorem dX6_digest_24 : decode cX6_digest 24 = .ok (.iinc 1 1, 3) := by decide +kernel
theorem dX6_digest_27 : decode cX6_digest 27 = .ok (.goto (-18), 3) := by decide +kernel
theorem dX6_digest_30 : decode cX6_digest 30 = .ok (.iconst 0, 1) := by decide +kernel
theorem dX6_digest_31 : decode cX6_digest 31 = .ok (.istore_n 1, 1) := by decide +kernel
theorem dX6_digest_32 : decode cX6_digest 32 = .ok (.iload_n 1, 1) := by decide +kernel
theorem dX6_digest_33 : decode cX6_digest 33 = .ok (.bipush 11, 2) := by decide +kernel
theorem dX6_digest_35 : decode cX6_digest 35 = .ok (.if_icmp .ge 20, 3) := by decide +kernel
theorem dX6_digest_38 : decode cX6_digest 38 = .ok (.aload_n 0, 1) := by decide +kernel
theorem dX6_digest_39 : decode cX6_digest 39 = .ok (.aload_n 0, 1) := by decide +kernel
theorem dX6_digest_40 : decode cX6_digest 40 = .ok (.getfield 7, 3) := by decide +kernel
theorem dX6_digest_43 : decode cX6_digest 43 = .ok (.iload_n 1, 1) := by decide +kernel
theorem dX6_digest_44 : decode cX6_digest 44 = .ok (.iaload, 1) := by decide +kernel
theorem dX6_digest_45 : decode cX6_digest 45 = .ok (.i2l, 1) := by decide +kernel
theorem dX6_digest_46 : decode cX6_digest 46 = .ok (.invokevirtual 273, 3) := by decide +kernel
theorem dX6_digest_49 : decode cX6_digest 49 = .ok (.iinc 1 1, 3) := by decide +kernel
theorem dX6_digest_52 : decode cX6_digest 52 = .ok (.goto (-20), 3) := by decide +kernel
theorem dX6_digest_55 : decode cX6_digest 55 = .ok (.aload_n 0, 1) := by decide +kernel
theorem dX6_digest_56 : decode cX6_digest 56 = .ok (.iconst 0, 1) := by decide +kernel
theorem dX6_digest_57 : decode cX6_digest 57 = .ok (.invokevirtual 279, 3) := by decide +kernel
theorem dX6_digest_60 : decode cX6_digest 60 = .ok (.aload_n 0, 1) := by decide +kernel
theorem dX6_digest_61 : decode cX6_digest 61 = .ok (.iconst 1, 1) := by decide +kernel
theorem dX6_digest_62 : decode cX6_digest 62 = .ok (.invokevirtual 279, 3) := by decide +kernel
theorem dX6_digest_65 : decode cX6_digest 65 = .ok (.aload_n 0, 1) := by decide +kernel
theorem dX6_digest_66 : decode cX6_digest 66 = .ok (.aload_n 0, 1) := by decide +kernel
theorem dX6_digest_67 : decode cX6_digest 67 = .ok (.iconst 0, 1) := by decide +kernel
theorem dX6_digest_68 : decode cX6_digest 68 = .ok (.invokevirtual 223, 3) := by decide +kernel
theorem dX6_digest_71 : decode cX6_digest 71 = .ok (.invokevirtual 273, 3) := by decide +kernel
theorem dX6_digest_74 : decode cX6_digest 74 = .ok (.aload_n 0, 1) := by decide +kernel
theorem dX6_digest_75 : decode cX6_digest 75 = .ok (.aload_n 0, 1) := by decide +kernel
theorem dX6_digest_76 : decode cX6_digest 76 = .ok (.iconst 1, 1) := by decide +kernel
theorem dX6_digest_77 : decode cX6_digest 77 = .ok (.invokevirtual 223, 3) := by decide +kernel
theorem dX6_digest_80 : decode cX6_digest 80 = .ok (.invokevirtual 273, 3) := by decide +kernel
theorem dX6_digest_83 : decode cX6_digest 83 = .ok (.aload_n 0, 1) := by decide +kernel
theorem dX6_digest_84 : decode cX6_digest 84 = .ok (.getfield 269, 3) := by decide +kernel
theorem dX6_digest_87 : decode cX6_digest 87 = .ok (.lreturn, 1) := by decide +kernel
end
section
/-- the tables' words that stay as they are from call to call -/
def GT : List Cond := lw_tbl.filter goodWord
theorem gt_of {w : Cond} (h : w ∈ lw_tbl) (hg : goodWord w = true) : w ∈ GT := List.mem_filter.mpr ⟨h, hg⟩
theorem gt_tbl {w : Cond} (h : w ∈ GT) : w ∈ lw_tbl := (List.mem_filter.mp h).1
theorem gt_good {w : Cond} (h : w ∈ GT) : (w.onTables && w.keeps) = true ∨ ∃ ty, w = .arrayClass ty := good_of_word (List.mem_filter.mp h).2
theorem gt_in {w : Cond} (h : w ∈ GT) : GoodIn GT (w :: GT) := fun _ hv => (List.mem_cons.mp hv).elim (fun e => e ▸ ⟨h, gt_good h⟩) (fun hv => ⟨hv, gt_good hv⟩)
theorem gt_inm {b w : Cond} (h : w ∈ GT) : GoodIn (b :: GT) (w :: GT) := fun v hv => ⟨List.mem_cons_of_mem _ (gt_in h v hv).1, (gt_in h v hv).2⟩
theorem kin_L : Cond.initialized RL ∈ GT := gt_of (List.mem_of_getElem? (i := 61) (by decide +kernel)) (by decide +kernel)
theorem kin_X5 : Cond.initialized RX5 ∈ GT := gt_of (List.mem_of_getElem? (i := 62) (by decide +kernel)) (by decide +kernel)
theorem kin_X2 : Cond.initialized RX2 ∈ GT := gt_of (List.mem_of_getElem? (i := 63) (by decide +kernel)) (by decide +kernel)
theorem kin_X4 : Cond.initialized RX4 ∈ GT := gt_of (List.mem_of_getElem? (i := 64) (by decide +kernel)) (by decide +kernel)
theorem kin_J10 : Cond.initialized RJ10 ∈ GT := gt_of (List.mem_of_getElem? (i := 65) (by decide +kernel)) (by decide +kernel)
theorem kin_J7 : Cond.initialized RJ7 ∈ GT := gt_of (List.mem_of_getElem? (i := 66) (by decide +kernel)) (by decide +kernel)
theorem kin_X1 : Cond.initialized RX1 ∈ GT := gt_of (List.mem_of_getElem? (i := 67) (by decide +kernel)) (by decide +kernel)
theorem kin_X6 : Cond.initialized RX6 ∈ GT := gt_of (List.mem_of_getElem? (i := 68) (by decide +kernel)) (by decide +kernel)
theorem kin_J9 : Cond.initialized RJ9 ∈ GT := gt_of (List.mem_of_getElem? (i := 69) (by decide +kernel)) (by decide +kernel)
theorem kin_X3 : Cond.initialized RX3 ∈ GT := gt_of (List.mem_of_getElem? (i := 70) (by decide +kernel)) (by decide +kernel)
theorem kin_X0 : Cond.initialized RX0 ∈ GT := gt_of (List.mem_of_getElem? (i := 71) (by decide +kernel)) (by decide +kernel)
theorem kin_Jxd2413 : Cond.initialized RJxd2413 ∈ GT := gt_of (List.mem_of_getElem? (i := 72) (by decide +kernel)) (by decide +kernel)
theorem kin_Jxf58ca : Cond.initialized RJxf58ca ∈ GT := gt_of (List.mem_of_getElem? (i := 73) (by decide +kernel)) (by decide +kernel)
theorem kin_Jxe99ae : Cond.initialized RJxe99ae ∈ GT := gt_of (List.mem_of_getElem? (i := 74) (by decide +kernel)) (by decide +kernel)
theorem kcl_L_7 : Cond.classLink RL 7 RX5 ∈ GT := gt_of (List.mem_of_getElem? (i := 75) (by decide +kernel)) (by decide +kernel)
theorem kia_X5 : Cond.instantiable RX5 9 ∈ GT := gt_of (List.mem_of_getElem? (i := 76) (by decide +kernel)) (by decide +kernel)
theorem km_L_9 : Cond.methodLink RL 9 yX5_init ∈ GT := gt_of (List.mem_of_getElem? (i := 77) (by decide +kernel)) (by decide +kernel)
theorem ki_X5_init : Cond.instanceMethod yX5_init ∈ GT := gt_of (List.mem_of_getElem? (i := 78) (by decide +kernel)) (by decide +kernel)
theorem kc_X5_init : Cond.code yX5_init cX5_init 2 none ∈ GT := gt_of (List.mem_of_getElem? (i := 79) (by decide +kernel)) (by decide +kernel)
theorem km_X5_3 : Cond.methodLink RX5 3 objectInit ∈ GT := gt_of (List.mem_of_getElem? (i := 80) (by decide +kernel)) (by decide +kernel)
theorem ki_Object_init : Cond.instanceMethod objectInit ∈ GT := gt_of (List.mem_of_getElem? (i := 81) (by decide +kernel)) (by decide +kernel)
theorem kc_Object_init : Cond.code objectInit (object_method_1_code) 1 none ∈ GT := gt_of (List.mem_of_getElem? (i := 82) (by decide +kernel)) (by decide +kernel)
theorem kcl_X5_9 : Cond.classLink RX5 9 RX2 ∈ GT := gt_of (List.mem_of_getElem? (i := 83) (by decide +kernel)) (by decide +kernel)
theorem kia_X2 : Cond.instantiable RX2 8 ∈ GT := gt_of (List.mem_of_getElem? (i := 84) (by decide +kernel)) (by decide +kernel)
theorem km_X5_11 : Cond.methodLink RX5 11 yX2_init ∈ GT := gt_of (List.mem_of_getElem? (i := 85) (by decide +kernel)) (by decide +kernel)
theorem ki_X2_init : Cond.instanceMethod yX2_init ∈ GT := gt_of (List.mem_of_getElem? (i := 86) (by decide +kernel)) (by decide +kernel)
theorem kc_X2_init : Cond.code yX2_init cX2_init 1 none ∈ GT := gt_of (List.mem_of_getElem? (i := 87) (by decide +kernel)) (by decide +kernel)
theorem km_X2_3 : Cond.methodLink RX2 3 objectInit ∈ GT := gt_of (List.mem_of_getElem? (i := 88) (by decide +kernel)) (by decide +kernel)
theorem kcl_X2_9 : Cond.classLink RX2 9 RX4 ∈ GT := gt_of (List.mem_of_getElem? (i := 89) (by decide +kernel)) (by decide +kernel)
theorem kia_X4 : Cond.instantiable RX4 5 ∈ GT := gt_of (List.mem_of_getElem? (i := 90) (by decide +kernel)) (by decide +kernel)
theorem km_X2_11 : Cond.methodLink RX2 11 yX4_init ∈ GT := gt_of (List.mem_of_getElem? (i := 91) (by decide +kernel)) (by decide +kernel)
theorem ki_X4_init : Cond.instanceMethod yX4_init ∈ GT := gt_of (List.mem_of_getElem? (i := 92) (by decide +kernel)) (by decide +kernel)
theorem kc_X4_init : Cond.code yX4_init cX4_init 1 none ∈ GT := gt_of (List.mem_of_getElem? (i := 93) (by decide +kernel)) (by decide +kernel)
theorem km_X4_3 : Cond.methodLink RX4 3 objectInit ∈ GT := gt_of (List.mem_of_getElem? (i := 94) (by decide +kernel)) (by decide +kernel)
theorem kfn_X4_28 : Cond.fieldLinkNest RX4 28 RX5 "FIRST_WAVES" "[I" RX5 ∈ lw_tbl := List.mem_of_getElem? (i := 95) (by decide +kernel)
theorem kls_FIRST_WAVES : Cond.laysStatic RX5 "FIRST_WAVES" "[I" ∈ lw_tbl := List.mem_of_getElem? (i := 96) (by decide +kernel)
theorem km_X4_31 : Cond.methodLink RX4 31 arraycopyName ∈ GT := gt_of (List.mem_of_getElem? (i := 97) (by decide +kernel)) (by decide +kernel)
theorem kst_System_arraycopy : Cond.static arraycopyName ∈ GT := gt_of (List.mem_of_getElem? (i := 98) (by decide +kernel)) (by decide +kernel)
theorem kna_System_arraycopy : Cond.native arraycopyName ∈ GT := gt_of (List.mem_of_getElem? (i := 99) (by decide +kernel)) (by decide +kernel)
theorem kfn_X4_37 : Cond.fieldLinkNest RX4 37 RX5 "FIRST_SETTINGS" "[I" RX5 ∈ lw_tbl := List.mem_of_getElem? (i := 100) (by decide +kernel)
theorem kls_FIRST_SETTINGS : Cond.laysStatic RX5 "FIRST_SETTINGS" "[I" ∈ lw_tbl := List.mem_of_getElem? (i := 101) (by decide +kernel)
theorem kf_X4_9 : Cond.fieldLink RX4 9 (TX4 0).1 (TX4 0).2.1 (TX4 0).2.2.1 ∈ GT := gt_of (List.mem_of_getElem? (i := 102) (by decide +kernel)) (by decide +kernel)
theorem kf_X2_135 : Cond.fieldLink RX2 135 (TX4 0).1 (TX4 0).2.1 (TX4 0).2.2.1 ∈ GT := gt_of (List.mem_of_getElem? (i := 103) (by decide +kernel)) (by decide +kernel)
theorem kf_X5_157 : Cond.fieldLink RX5 157 (TX4 0).1 (TX4 0).2.1 (TX4 0).2.2.1 ∈ GT := gt_of (List.mem_of_getElem? (i := 104) (by decide +kernel)) (by decide +kernel)
theorem kf_X4_15 : Cond.fieldLink RX4 15 (TX4 1).1 (TX4 1).2.1 (TX4 1).2.2.1 ∈ GT := gt_of (List.mem_of_getElem? (i := 105) (by decide +kernel)) (by decide +kernel)
theorem kf_X2_132 : Cond.fieldLink RX2 132 (TX4 1).1 (TX4 1).2.1 (TX4 1).2.2.1 ∈ GT := gt_of (List.mem_of_getElem? (i := 106) (by decide +kernel)) (by decide +kernel)
theorem kf_X5_154 : Cond.fieldLink RX5 154 (TX4 1).1 (TX4 1).2.1 (TX4 1).2.2.1 ∈ GT := gt_of (List.mem_of_getElem? (i := 107) (by decide +kernel)) (by decide +kernel)
theorem kf_X4_18 : Cond.fieldLink RX4 18 (TX4 2).1 (TX4 2).2.1 (TX4 2).2.2.1 ∈ GT := gt_of (List.mem_of_getElem? (i := 108) (by decide +kernel)) (by decide +kernel)
theorem kf_X2_64 : Cond.fieldLink RX2 64 (TX4 2).1 (TX4 2).2.1 (TX4 2).2.2.1 ∈ GT := gt_of (List.mem_of_getElem? (i := 109) (by decide +kernel)) (by decide +kernel)
theorem kf_X5_109 : Cond.fieldLink RX5 109 (TX4 2).1 (TX4 2).2.1 (TX4 2).2.2.1 ∈ GT := gt_of (List.mem_of_getElem? (i := 110) (by decide +kernel)) (by decide +kernel)
theorem kf_X4_22 : Cond.fieldLink RX4 22 (TX4 3).1 (TX4 3).2.1 (TX4 3).2.2.1 ∈ GT := gt_of (List.mem_of_getElem? (i := 111) (by decide +kernel)) (by decide +kernel)
theorem kf_X2_51 : Cond.fieldLink RX2 51 (TX4 3).1 (TX4 3).2.1 (TX4 3).2.2.1 ∈ GT := gt_of (List.mem_of_getElem? (i := 112) (by decide +kernel)) (by decide +kernel)
theorem kf_X5_165 : Cond.fieldLink RX5 165 (TX4 3).1 (TX4 3).2.1 (TX4 3).2.2.1 ∈ GT := gt_of (List.mem_of_getElem? (i := 113) (by decide +kernel)) (by decide +kernel)
theorem kf_X4_25 : Cond.fieldLink RX4 25 (TX4 4).1 (TX4 4).2.1 (TX4 4).2.2.1 ∈ GT := gt_of (List.mem_of_getElem? (i := 114) (by decide +kernel)) (by decide +kernel)
theorem karrayClass : Cond.arrayClass .int ∈ lw_tbl := List.mem_of_getElem? (i := 126) (by decide +kernel)
theorem km_X2_31 : Cond.methodLink RX2 31 yJ7_fill_53178 ∈ GT := gt_of (List.mem_of_getElem? (i := 127) (by decide +kernel)) (by decide +kernel)
theorem kst_J7_fill_53178 : Cond.static yJ7_fill_53178 ∈ GT := gt_of (List.mem_of_getElem? (i := 128) (by decide +kernel)) (by decide +kernel)
theorem kc_J7_fill_53178 : Cond.code yJ7_fill_53178 cJ7_fill_53178 4 none ∈ GT := gt_of (List.mem_of_getElem? (i := 129) (by decide +kernel)) (by decide +kernel)
theorem kf_X2_12 : Cond.fieldLink RX2 12 (TX2 0).1 (TX2 0).2.1 (TX2 0).2.2.1 ∈ GT := gt_of (List.mem_of_getElem? (i := 130) (by decide +kernel)) (by decide +kernel)
theorem kf_X5_16 : Cond.fieldLink RX5 16 (TX2 0).1 (TX2 0).2.1 (TX2 0).2.2.1 ∈ GT := gt_of (List.mem_of_getElem? (i := 131) (by decide +kernel)) (by decide +kernel)
theorem kf_X2_18 : Cond.fieldLink RX2 18 (TX2 1).1 (TX2 1).2.1 (TX2 1).2.2.1 ∈ GT := gt_of (List.mem_of_getElem? (i := 132) (by decide +kernel)) (by decide +kernel)
theorem kf_X2_22 : Cond.fieldLink RX2 22 (TX2 2).1 (TX2 2).2.1 (TX2 2).2.2.1 ∈ GT := gt_of (List.mem_of_getElem? (i := 133) (by decide +kernel)) (by decide +kernel)
theorem kf_X2_25 : Cond.fieldLink RX2 25 (TX2 3).1 (TX2 3).2.1 (TX2 3).2.2.1 ∈ GT := gt_of (List.mem_of_getElem? (i := 134) (by decide +kernel)) (by decide +kernel)
theorem kf_X2_28 : Cond.fieldLink RX2 28 (TX2 4).1 (TX2 4).2.1 (TX2 4).2.2.1 ∈ GT := gt_of (List.mem_of_getElem? (i := 135) (by decide +kernel)) (by decide +kernel)
theorem kf_X2_85 : Cond.fieldLink RX2 85 (TX2 5).1 (TX2 5).2.1 (TX2 5).2.2.1 ∈ GT := gt_of (List.mem_of_getElem? (i := 136) (by decide +kernel)) (by decide +kernel)
theorem kf_X2_88 : Cond.fieldLink RX2 88 (TX2 6).1 (TX2 6).2.1 (TX2 6).2.2.1 ∈ GT := gt_of (List.mem_of_getElem? (i := 137) (by decide +kernel)) (by decide +kernel)
theorem kf_X2_81 : Cond.fieldLink RX2 81 (TX2 7).1 (TX2 7).2.1 (TX2 7).2.2.1 ∈ GT := gt_of (List.mem_of_getElem? (i := 138) (by decide +kernel)) (by decide +kernel)
theorem kcl_X5_23 : Cond.classLink RX5 23 RX4 ∈ GT := gt_of (List.mem_of_getElem? (i := 156) (by decide +kernel)) (by decide +kernel)
theorem km_X5_25 : Cond.methodLink RX5 25 yX4_init ∈ GT := gt_of (List.mem_of_getElem? (i := 157) (by decide +kernel)) (by decide +kernel)
theorem karrayOver : Cond.arrayOver (.object RX4) ∈ lw_tbl := List.mem_of_getElem? (i := 158) (by decide +kernel)
theorem kcl_X5_37 : Cond.classLink RX5 37 RX1 ∈ GT := gt_of (List.mem_of_getElem? (i := 159) (by decide +kernel)) (by decide +kernel)
theorem kia_X1 : Cond.instantiable RX1 8 ∈ GT := gt_of (List.mem_of_getElem? (i := 160) (by decide +kernel)) (by decide +kernel)
theorem kmn_X5_39 : Cond.methodLinkNest RX5 39 yX1_init RX5 ∈ lw_tbl := List.mem_of_getElem? (i := 161) (by decide +kernel)
theorem ki_X1_init : Cond.instanceMethod yX1_init ∈ GT := gt_of (List.mem_of_getElem? (i := 162) (by decide +kernel)) (by decide +kernel)
theorem kc_X1_init : Cond.code yX1_init cX1_init 1 none ∈ GT := gt_of (List.mem_of_getElem? (i := 163) (by decide +kernel)) (by decide +kernel)
theorem km_X1_3 : Cond.methodLink RX1 3 objectInit ∈ GT := gt_of (List.mem_of_getElem? (i := 164) (by decide +kernel)) (by decide +kernel)
theorem kf_X1_9 : Cond.fieldLink RX1 9 (TX1 0).1 (TX1 0).2.1 (TX1 0).2.2.1 ∈ GT := gt_of (List.mem_of_getElem? (i := 165) (by decide +kernel)) (by decide +kernel)
theorem kf_X1_15 : Cond.fieldLink RX1 15 (TX1 1).1 (TX1 1).2.1 (TX1 1).2.2.1 ∈ GT := gt_of (List.mem_of_getElem? (i := 166) (by decide +kernel)) (by decide +kernel)
theorem kf_X5_179 : Cond.fieldLink RX5 179 (TX1 1).1 (TX1 1).2.1 (TX1 1).2.2.1 ∈ GT := gt_of (List.mem_of_getElem? (i := 167) (by decide +kernel)) (by decide +kernel)
theorem kf_X1_19 : Cond.fieldLink RX1 19 (TX1 2).1 (TX1 2).2.1 (TX1 2).2.2.1 ∈ GT := gt_of (List.mem_of_getElem? (i := 168) (by decide +kernel)) (by decide +kernel)
theorem kf_X1_25 : Cond.fieldLink RX1 25 (TX1 3).1 (TX1 3).2.1 (TX1 3).2.2.1 ∈ GT := gt_of (List.mem_of_getElem? (i := 169) (by decide +kernel)) (by decide +kernel)
theorem kf_X1_22 : Cond.fieldLink RX1 22 (TX1 4).1 (TX1 4).2.1 (TX1 4).2.2.1 ∈ GT := gt_of (List.mem_of_getElem? (i := 170) (by decide +kernel)) (by decide +kernel)
theorem kf_X5_186 : Cond.fieldLink RX5 186 (TX1 4).1 (TX1 4).2.1 (TX1 4).2.2.1 ∈ GT := gt_of (List.mem_of_getElem? (i := 171) (by decide +kernel)) (by decide +kernel)
theorem kf_X1_28 : Cond.fieldLink RX1 28 (TX1 5).1 (TX1 5).2.1 (TX1 5).2.2.1 ∈ GT := gt_of (List.mem_of_getElem? (i := 172) (by decide +kernel)) (by decide +kernel)
theorem kf_X1_31 : Cond.fieldLink RX1 31 (TX1 6).1 (TX1 6).2.1 (TX1 6).2.2.1 ∈ GT := gt_of (List.mem_of_getElem? (i := 173) (by decide +kernel)) (by decide +kernel)
theorem kf_X1_56 : Cond.fieldLink RX1 56 (TX1 7).1 (TX1 7).2.1 (TX1 7).2.2.1 ∈ GT := gt_of (List.mem_of_getElem? (i := 174) (by decide +kernel)) (by decide +kernel)
theorem kf_X5_12 : Cond.fieldLink RX5 12 (TX5 0).1 (TX5 0).2.1 (TX5 0).2.2.1 ∈ GT := gt_of (List.mem_of_getElem? (i := 192) (by decide +kernel)) (by decide +kernel)
theorem kf_X5_20 : Cond.fieldLink RX5 20 (TX5 1).1 (TX5 1).2.1 (TX5 1).2.2.1 ∈ GT := gt_of (List.mem_of_getElem? (i := 193) (by decide +kernel)) (by decide +kernel)
theorem kf_X5_26 : Cond.fieldLink RX5 26 (TX5 2).1 (TX5 2).2.1 (TX5 2).2.2.1 ∈ GT := gt_of (List.mem_of_getElem? (i := 194) (by decide +kernel)) (by decide +kernel)
theorem kf_X5_29 : Cond.fieldLink RX5 29 (TX5 3).1 (TX5 3).2.1 (TX5 3).2.2.1 ∈ GT := gt_of (List.mem_of_getElem? (i := 195) (by decide +kernel)) (by decide +kernel)
theorem kf_X5_33 : Cond.fieldLink RX5 33 (TX5 4).1 (TX5 4).2.1 (TX5 4).2.2.1 ∈ GT := gt_of (List.mem_of_getElem? (i := 196) (by decide +kernel)) (by decide +kernel)
theorem kf_X5_40 : Cond.fieldLink RX5 40 (TX5 5).1 (TX5 5).2.1 (TX5 5).2.2.1 ∈ GT := gt_of (List.mem_of_getElem? (i := 197) (by decide +kernel)) (by decide +kernel)
theorem kf_X5_44 : Cond.fieldLink RX5 44 (TX5 6).1 (TX5 6).2.1 (TX5 6).2.2.1 ∈ GT := gt_of (List.mem_of_getElem? (i := 198) (by decide +kernel)) (by decide +kernel)
theorem kf_X5_47 : Cond.fieldLink RX5 47 (TX5 7).1 (TX5 7).2.1 (TX5 7).2.2.1 ∈ GT := gt_of (List.mem_of_getElem? (i := 199) (by decide +kernel)) (by decide +kernel)
theorem kf_X5_50 : Cond.fieldLink RX5 50 (TX5 8).1 (TX5 8).2.1 (TX5 8).2.2.1 ∈ GT := gt_of (List.mem_of_getElem? (i := 200) (by decide +kernel)) (by decide +kernel)
theorem km_L_13 : Cond.methodLink RL 13 yX5_grid ∈ GT := gt_of (List.mem_of_getElem? (i := 220) (by decide +kernel)) (by decide +kernel)
theorem ki_X5_grid : Cond.instanceMethod yX5_grid ∈ GT := gt_of (List.mem_of_getElem? (i := 221) (by decide +kernel)) (by decide +kernel)
theorem ks_X5_grid : Cond.selects RX5 yX5_grid yX5_grid ∈ GT := gt_of (List.mem_of_getElem? (i := 222) (by decide +kernel)) (by decide +kernel)
theorem kc_X5_grid : Cond.code yX5_grid cX5_grid 3 (some .int) ∈ GT := gt_of (List.mem_of_getElem? (i := 223) (by decide +kernel)) (by decide +kernel)
theorem km_X5_53 : Cond.methodLink RX5 53 yX4_copyFrom ∈ GT := gt_of (List.mem_of_getElem? (i := 224) (by decide +kernel)) (by decide +kernel)
theorem ki_X4_copyFrom : Cond.instanceMethod yX4_copyFrom ∈ GT := gt_of (List.mem_of_getElem? (i := 225) (by decide +kernel)) (by decide +kernel)
theorem ks_X4_copyFrom : Cond.selects RX4 yX4_copyFrom yX4_copyFrom ∈ GT := gt_of (List.mem_of_getElem? (i := 226) (by decide +kernel)) (by decide +kernel)
theorem kc_X4_copyFrom : Cond.code yX4_copyFrom cX4_copyFrom 2 none ∈ GT := gt_of (List.mem_of_getElem? (i := 227) (by decide +kernel)) (by decide +kernel)
theorem km_X5_57 : Cond.methodLink RX5 57 yX4_layGrid ∈ GT := gt_of (List.mem_of_getElem? (i := 228) (by decide +kernel)) (by decide +kernel)
theorem ki_X4_layGrid : Cond.instanceMethod yX4_layGrid ∈ GT := gt_of (List.mem_of_getElem? (i := 229) (by decide +kernel)) (by decide +kernel)
theorem ks_X4_layGrid : Cond.selects RX4 yX4_layGrid yX4_layGrid ∈ GT := gt_of (List.mem_of_getElem? (i := 230) (by decide +kernel)) (by decide +kernel)
theorem kc_X4_layGrid : Cond.code yX4_layGrid cX4_layGrid 4 (some .int) ∈ GT := gt_of (List.mem_of_getElem? (i := 231) (by decide +kernel)) (by decide +kernel)
theorem kmn_X4_40 : Cond.methodLinkNest RX4 40 yX5_within RX5 ∈ lw_tbl := List.mem_of_getElem? (i := 232) (by decide +kernel)
theorem kst_X5_within : Cond.static yX5_within ∈ GT := gt_of (List.mem_of_getElem? (i := 233) (by decide +kernel)) (by decide +kernel)
theorem kc_X5_within : Cond.code yX5_within cX5_within 3 (some .boolean) ∈ GT := gt_of (List.mem_of_getElem? (i := 234) (by decide +kernel)) (by decide +kernel)
theorem km_X4_44 : Cond.methodLink RX4 44 yJ7_fill_53178 ∈ GT := gt_of (List.mem_of_getElem? (i := 235) (by decide +kernel)) (by decide +kernel)
theorem km_X5_61 : Cond.methodLink RX5 61 yX5_settle ∈ GT := gt_of (List.mem_of_getElem? (i := 236) (by decide +kernel)) (by decide +kernel)
theorem ki_X5_settle : Cond.instanceMethod yX5_settle ∈ GT := gt_of (List.mem_of_getElem? (i := 238) (by decide +kernel)) (by decide +kernel)
theorem kc_X5_settle : Cond.code yX5_settle cX5_settle 2 (some .int) ∈ GT := gt_of (List.mem_of_getElem? (i := 239) (by decide +kernel)) (by decide +kernel)
theorem km_X5_92 : Cond.methodLink RX5 92 yX5_refuse ∈ GT := gt_of (List.mem_of_getElem? (i := 240) (by decide +kernel)) (by decide +kernel)
theorem ki_X5_refuse : Cond.instanceMethod yX5_refuse ∈ GT := gt_of (List.mem_of_getElem? (i := 242) (by decide +kernel)) (by decide +kernel)
theorem kc_X5_refuse : Cond.code yX5_refuse cX5_refuse 2 (some .int) ∈ GT := gt_of (List.mem_of_getElem? (i := 243) (by decide +kernel)) (by decide +kernel)
theorem km_X5_198 : Cond.methodLink RX5 198 yX5_keepBefore ∈ GT := gt_of (List.mem_of_getElem? (i := 244) (by decide +kernel)) (by decide +kernel)
theorem ki_X5_keepBefore : Cond.instanceMethod yX5_keepBefore ∈ GT := gt_of (List.mem_of_getElem? (i := 246) (by decide +kernel)) (by decide +kernel)
theorem kc_X5_keepBefore : Cond.code yX5_keepBefore cX5_keepBefore 3 none ∈ GT := gt_of (List.mem_of_getElem? (i := 247) (by decide +kernel)) (by decide +kernel)
theorem km_X5_201 : Cond.methodLink RX5 201 yX2_forget ∈ GT := gt_of (List.mem_of_getElem? (i := 248) (by decide +kernel)) (by decide +kernel)
theorem ki_X2_forget : Cond.instanceMethod yX2_forget ∈ GT := gt_of (List.mem_of_getElem? (i := 249) (by decide +kernel)) (by decide +kernel)
theorem ks_X2_forget : Cond.selects RX2 yX2_forget yX2_forget ∈ GT := gt_of (List.mem_of_getElem? (i := 250) (by decide +kernel)) (by decide +kernel)
theorem kc_X2_forget : Cond.code yX2_forget cX2_forget 1 none ∈ GT := gt_of (List.mem_of_getElem? (i := 251) (by decide +kernel)) (by decide +kernel)
theorem km_L_18 : Cond.methodLink RL 18 yX5_wave ∈ GT := gt_of (List.mem_of_getElem? (i := 252) (by decide +kernel)) (by decide +kernel)
theorem ki_X5_wave : Cond.instanceMethod yX5_wave ∈ GT := gt_of (List.mem_of_getElem? (i := 253) (by decide +kernel)) (by decide +kernel)
theorem ks_X5_wave : Cond.selects RX5 yX5_wave yX5_wave ∈ GT := gt_of (List.mem_of_getElem? (i := 254) (by decide +kernel)) (by decide +kernel)
theorem kc_X5_wave : Cond.code yX5_wave cX5_wave 3 (some .int) ∈ GT := gt_of (List.mem_of_getElem? (i := 255) (by decide +kernel)) (by decide +kernel)
theorem km_X5_65 : Cond.methodLink RX5 65 yX4_putWave ∈ GT := gt_of (List.mem_of_getElem? (i := 256) (by decide +kernel)) (by decide +kernel)
theorem ki_X4_putWave : Cond.instanceMethod yX4_putWave ∈ GT := gt_of (List.mem_of_getElem? (i := 257) (by decide +kernel)) (by decide +kernel)
theorem ks_X4_putWave : Cond.selects RX4 yX4_putWave yX4_putWave ∈ GT := gt_of (List.mem_of_getElem? (i := 258) (by decide +kernel)) (by decide +kernel)
theorem kc_X4_putWave : Cond.code yX4_putWave cX4_putWave 4 (some .int) ∈ GT := gt_of (List.mem_of_getElem? (i := 259) (by decide +kernel)) (by decide +kernel)
theorem km_L_22 : Cond.methodLink RL 22 yX5_sets ∈ GT := gt_of (List.mem_of_getElem? (i := 260) (by decide +kernel)) (by decide +kernel)
theorem ki_X5_sets : Cond.instanceMethod yX5_sets ∈ GT := gt_of (List.mem_of_getElem? (i := 261) (by decide +kernel)) (by decide +kernel)
theorem ks_X5_sets : Cond.selects RX5 yX5_sets yX5_sets ∈ GT := gt_of (List.mem_of_getElem? (i := 262) (by decide +kernel)) (by decide +kernel)
theorem kc_X5_sets : Cond.code yX5_sets cX5_sets 3 (some .int) ∈ GT := gt_of (List.mem_of_getElem? (i := 263) (by decide +kernel)) (by decide +kernel)
theorem km_X5_68 : Cond.methodLink RX5 68 yX4_putSetting ∈ GT := gt_of (List.mem_of_getElem? (i := 264) (by decide +kernel)) (by decide +kernel)
theorem ki_X4_putSetting : Cond.instanceMethod yX4_putSetting ∈ GT := gt_of (List.mem_of_getElem? (i := 265) (by decide +kernel)) (by decide +kernel)
theorem ks_X4_putSetting : Cond.selects RX4 yX4_putSetting yX4_putSetting ∈ GT := gt_of (List.mem_of_getElem? (i := 266) (by decide +kernel)) (by decide +kernel)
theorem kc_X4_putSetting : Cond.code yX4_putSetting cX4_putSetting 4 (some .int) ∈ GT := gt_of (List.mem_of_getElem? (i := 267) (by decide +kernel)) (by decide +kernel)
theorem kfn_X4_50 : Cond.fieldLinkNest RX4 50 RX5 "LEAST_SETTINGS" "[I" RX5 ∈ lw_tbl := List.mem_of_getElem? (i := 268) (by decide +kernel)
theorem kls_LEAST_SETTINGS : Cond.laysStatic RX5 "LEAST_SETTINGS" "[I" ∈ lw_tbl := List.mem_of_getElem? (i := 269) (by decide +kernel)
theorem kfn_X4_53 : Cond.fieldLinkNest RX4 53 RX5 "MOST_SETTINGS" "[I" RX5 ∈ lw_tbl := List.mem_of_getElem? (i := 270) (by decide +kernel)
theorem kls_MOST_SETTINGS : Cond.laysStatic RX5 "MOST_SETTINGS" "[I" ∈ lw_tbl := List.mem_of_getElem? (i := 271) (by decide +kernel)
theorem km_L_26 : Cond.methodLink RL 26 yX5_sample ∈ GT := gt_of (List.mem_of_getElem? (i := 272) (by decide +kernel)) (by decide +kernel)
theorem ki_X5_sample : Cond.instanceMethod yX5_sample ∈ GT := gt_of (List.mem_of_getElem? (i := 273) (by decide +kernel)) (by decide +kernel)
theorem ks_X5_sample : Cond.selects RX5 yX5_sample yX5_sample ∈ GT := gt_of (List.mem_of_getElem? (i := 274) (by decide +kernel)) (by decide +kernel)
theorem kc_X5_sample : Cond.code yX5_sample cX5_sample 7 (some .int) ∈ GT := gt_of (List.mem_of_getElem? (i := 275) (by decide +kernel)) (by decide +kernel)
theorem km_X5_71 : Cond.methodLink RX5 71 yX4_place ∈ GT := gt_of (List.mem_of_getElem? (i := 276) (by decide +kernel)) (by decide +kernel)
theorem ki_X4_place : Cond.instanceMethod yX4_place ∈ GT := gt_of (List.mem_of_getElem? (i := 277) (by decide +kernel)) (by decide +kernel)
theorem ks_X4_place : Cond.selects RX4 yX4_place yX4_place ∈ GT := gt_of (List.mem_of_getElem? (i := 278) (by decide +kernel)) (by decide +kernel)
theorem kc_X4_place : Cond.code yX4_place cX4_place 5 (some .int) ∈ GT := gt_of (List.mem_of_getElem? (i := 279) (by decide +kernel)) (by decide +kernel)
theorem km_X5_75 : Cond.methodLink RX5 75 yX4_putSample ∈ GT := gt_of (List.mem_of_getElem? (i := 280) (by decide +kernel)) (by decide +kernel)
theorem ki_X4_putSample : Cond.instanceMethod yX4_putSample ∈ GT := gt_of (List.mem_of_getElem? (i := 281) (by decide +kernel)) (by decide +kernel)
theorem ks_X4_putSample : Cond.selects RX4 yX4_putSample yX4_putSample ∈ GT := gt_of (List.mem_of_getElem? (i := 282) (by decide +kernel)) (by decide +kernel)
theorem kc_X4_putSample : Cond.code yX4_putSample cX4_putSample 7 (some .int) ∈ GT := gt_of (List.mem_of_getElem? (i := 283) (by decide +kernel)) (by decide +kernel)
theorem km_X4_56 : Cond.methodLink RX4 56 yX4_isCell ∈ GT := gt_of (List.mem_of_getElem? (i := 284) (by decide +kernel)) (by decide +kernel)
theorem kst_X4_isCell : Cond.static yX4_isCell ∈ GT := gt_of (List.mem_of_getElem? (i := 285) (by decide +kernel)) (by decide +kernel)
theorem kc_X4_isCell : Cond.code yX4_isCell cX4_isCell 1 (some .boolean) ∈ GT := gt_of (List.mem_of_getElem? (i := 286) (by decide +kernel)) (by decide +kernel)
theorem km_L_31 : Cond.methodLink RL 31 yX5_echo ∈ GT := gt_of (List.mem_of_getElem? (i := 287) (by decide +kernel)) (by decide +kernel)
theorem ki_X5_echo : Cond.instanceMethod yX5_echo ∈ GT := gt_of (List.mem_of_getElem? (i := 288) (by decide +kernel)) (by decide +kernel)
theorem ks_X5_echo : Cond.selects RX5 yX5_echo yX5_echo ∈ GT := gt_of (List.mem_of_getElem? (i := 289) (by decide +kernel)) (by decide +kernel)
theorem kc_X5_echo : Cond.code yX5_echo cX5_echo 6 (some .int) ∈ GT := gt_of (List.mem_of_getElem? (i := 290) (by decide +kernel)) (by decide +kernel)
theorem km_X5_79 : Cond.methodLink RX5 79 yX4_layEcho ∈ GT := gt_of (List.mem_of_getElem? (i := 291) (by decide +kernel)) (by decide +kernel)
theorem ki_X4_layEcho : Cond.instanceMethod yX4_layEcho ∈ GT := gt_of (List.mem_of_getElem? (i := 292) (by decide +kernel)) (by decide +kernel)
theorem ks_X4_layEcho : Cond.selects RX4 yX4_layEcho yX4_layEcho ∈ GT := gt_of (List.mem_of_getElem? (i := 293) (by decide +kernel)) (by decide +kernel)
theorem kc_X4_layEcho : Cond.code yX4_layEcho cX4_layEcho 5 (some .int) ∈ GT := gt_of (List.mem_of_getElem? (i := 294) (by decide +kernel)) (by decide +kernel)
theorem km_X4_60 : Cond.methodLink RX4 60 yX4_layEchoOfRate ∈ GT := gt_of (List.mem_of_getElem? (i := 295) (by decide +kernel)) (by decide +kernel)
theorem ki_X4_layEchoOfRate : Cond.instanceMethod yX4_layEchoOfRate ∈ GT := gt_of (List.mem_of_getElem? (i := 297) (by decide +kernel)) (by decide +kernel)
theorem kc_X4_layEchoOfRate : Cond.code yX4_layEchoOfRate cX4_layEchoOfRate 8 none ∈ GT := gt_of (List.mem_of_getElem? (i := 298) (by decide +kernel)) (by decide +kernel)
theorem kk_X4_68 : Cond.constantFloat RX4 68 (1082130432) ∈ GT := gt_of (List.mem_of_getElem? (i := 299) (by decide +kernel)) (by decide +kernel)
theorem km_X4_69 : Cond.methodLink RX4 69 yX4_addSignal ∈ GT := gt_of (List.mem_of_getElem? (i := 300) (by decide +kernel)) (by decide +kernel)
theorem ki_X4_addSignal : Cond.instanceMethod yX4_addSignal ∈ GT := gt_of (List.mem_of_getElem? (i := 302) (by decide +kernel)) (by decide +kernel)
theorem kc_X4_addSignal : Cond.code yX4_addSignal cX4_addSignal 4 none ∈ GT := gt_of (List.mem_of_getElem? (i := 303) (by decide +kernel)) (by decide +kernel)
theorem km_X4_74 : Cond.methodLink RX4 74 yJ9_abs_0f7a4 ∈ GT := gt_of (List.mem_of_getElem? (i := 304) (by decide +kernel)) (by decide +kernel)
theorem kst_J9_abs_0f7a4 : Cond.static yJ9_abs_0f7a4 ∈ GT := gt_of (List.mem_of_getElem? (i := 305) (by decide +kernel)) (by decide +kernel)
theorem kc_J9_abs_0f7a4 : Cond.code yJ9_abs_0f7a4 cJ9_abs_0f7a4 1 (some .int) ∈ GT := gt_of (List.mem_of_getElem? (i := 306) (by decide +kernel)) (by decide +kernel)
theorem km_X4_80 : Cond.methodLink RX4 80 yX4_brighten ∈ GT := gt_of (List.mem_of_getElem? (i := 307) (by decide +kernel)) (by decide +kernel)
theorem ki_X4_brighten : Cond.instanceMethod yX4_brighten ∈ GT := gt_of (List.mem_of_getElem? (i := 309) (by decide +kernel)) (by decide +kernel)
theorem kc_X4_brighten : Cond.code yX4_brighten cX4_brighten 3 none ∈ GT := gt_of (List.mem_of_getElem? (i := 310) (by decide +kernel)) (by decide +kernel)
theorem km_X4_84 : Cond.methodLink RX4 84 yJ9_min_7cf53 ∈ GT := gt_of (List.mem_of_getElem? (i := 311) (by decide +kernel)) (by decide +kernel)
theorem kst_J9_min_7cf53 : Cond.static yJ9_min_7cf53 ∈ GT := gt_of (List.mem_of_getElem? (i := 312) (by decide +kernel)) (by decide +kernel)
theorem kc_J9_min_7cf53 : Cond.code yJ9_min_7cf53 cJ9_min_7cf53 2 (some .int) ∈ GT := gt_of (List.mem_of_getElem? (i := 313) (by decide +kernel)) (by decide +kernel)
theorem kk_X4_73 : Cond.constantFloat RX4 73 (1077936128) ∈ GT := gt_of (List.mem_of_getElem? (i := 314) (by decide +kernel)) (by decide +kernel)
theorem km_X4_64 : Cond.methodLink RX4 64 yX4_countFrom ∈ GT := gt_of (List.mem_of_getElem? (i := 315) (by decide +kernel)) (by decide +kernel)
theorem ki_X4_countFrom : Cond.instanceMethod yX4_countFrom ∈ GT := gt_of (List.mem_of_getElem? (i := 316) (by decide +kernel)) (by decide +kernel)
theorem ks_X4_countFrom : Cond.selects RX4 yX4_countFrom yX4_countFrom ∈ GT := gt_of (List.mem_of_getElem? (i := 317) (by decide +kernel)) (by decide +kernel)
theorem kc_X4_countFrom : Cond.code yX4_countFrom cX4_countFrom 5 (some .int) ∈ GT := gt_of (List.mem_of_getElem? (i := 318) (by decide +kernel)) (by decide +kernel)
theorem km_L_36 : Cond.methodLink RL 36 yX5_shines ∈ GT := gt_of (List.mem_of_getElem? (i := 319) (by decide +kernel)) (by decide +kernel)
theorem ki_X5_shines : Cond.instanceMethod yX5_shines ∈ GT := gt_of (List.mem_of_getElem? (i := 320) (by decide +kernel)) (by decide +kernel)
theorem ks_X5_shines : Cond.selects RX5 yX5_shines yX5_shines ∈ GT := gt_of (List.mem_of_getElem? (i := 321) (by decide +kernel)) (by decide +kernel)
theorem kc_X5_shines : Cond.code yX5_shines cX5_shines 5 (some .int) ∈ GT := gt_of (List.mem_of_getElem? (i := 322) (by decide +kernel)) (by decide +kernel)
theorem km_X5_82 : Cond.methodLink RX5 82 yX4_addLight ∈ GT := gt_of (List.mem_of_getElem? (i := 323) (by decide +kernel)) (by decide +kernel)
theorem ki_X4_addLight : Cond.instanceMethod yX4_addLight ∈ GT := gt_of (List.mem_of_getElem? (i := 324) (by decide +kernel)) (by decide +kernel)
theorem ks_X4_addLight : Cond.selects RX4 yX4_addLight yX4_addLight ∈ GT := gt_of (List.mem_of_getElem? (i := 325) (by decide +kernel)) (by decide +kernel)
theorem kc_X4_addLight : Cond.code yX4_addLight cX4_addLight 4 (some .int) ∈ GT := gt_of (List.mem_of_getElem? (i := 326) (by decide +kernel)) (by decide +kernel)
theorem km_L_41 : Cond.methodLink RL 41 yX5_clears ∈ GT := gt_of (List.mem_of_getElem? (i := 327) (by decide +kernel)) (by decide +kernel)
theorem ki_X5_clears : Cond.instanceMethod yX5_clears ∈ GT := gt_of (List.mem_of_getElem? (i := 328) (by decide +kernel)) (by decide +kernel)
theorem ks_X5_clears : Cond.selects RX5 yX5_clears yX5_clears ∈ GT := gt_of (List.mem_of_getElem? (i := 329) (by decide +kernel)) (by decide +kernel)
theorem kc_X5_clears : Cond.code yX5_clears cX5_clears 4 (some .int) ∈ GT := gt_of (List.mem_of_getElem? (i := 330) (by decide +kernel)) (by decide +kernel)
theorem km_X5_85 : Cond.methodLink RX5 85 yX4_darken ∈ GT := gt_of (List.mem_of_getElem? (i := 331) (by decide +kernel)) (by decide +kernel)
theorem ki_X4_darken : Cond.instanceMethod yX4_darken ∈ GT := gt_of (List.mem_of_getElem? (i := 332) (by decide +kernel)) (by decide +kernel)
theorem ks_X4_darken : Cond.selects RX4 yX4_darken yX4_darken ∈ GT := gt_of (List.mem_of_getElem? (i := 333) (by decide +kernel)) (by decide +kernel)
theorem kc_X4_darken : Cond.code yX4_darken cX4_darken 4 (some .int) ∈ GT := gt_of (List.mem_of_getElem? (i := 334) (by decide +kernel)) (by decide +kernel)
theorem km_L_46 : Cond.methodLink RL 46 yX5_raw ∈ GT := gt_of (List.mem_of_getElem? (i := 335) (by decide +kernel)) (by decide +kernel)
theorem ki_X5_raw : Cond.instanceMethod yX5_raw ∈ GT := gt_of (List.mem_of_getElem? (i := 336) (by decide +kernel)) (by decide +kernel)
end
section
theorem ks_X5_raw : Cond.selects RX5 yX5_raw yX5_raw ∈ GT := gt_of (List.mem_of_getElem? (i := 337) (by decide +kernel)) (by decide +kernel)
theorem kc_X5_raw : Cond.code yX5_raw cX5_raw 7 (some .int) ∈ GT := gt_of (List.mem_of_getElem? (i := 338) (by decide +kernel)) (by decide +kernel)
theorem km_X5_88 : Cond.methodLink RX5 88 yX5_within ∈ GT := gt_of (List.mem_of_getElem? (i := 339) (by decide +kernel)) (by decide +kernel)
theorem km_X5_95 : Cond.methodLink RX5 95 yX4_sampleAt ∈ GT := gt_of (List.mem_of_getElem? (i := 340) (by decide +kernel)) (by decide +kernel)
theorem ki_X4_sampleAt : Cond.instanceMethod yX4_sampleAt ∈ GT := gt_of (List.mem_of_getElem? (i := 341) (by decide +kernel)) (by decide +kernel)
theorem ks_X4_sampleAt : Cond.selects RX4 yX4_sampleAt yX4_sampleAt ∈ GT := gt_of (List.mem_of_getElem? (i := 342) (by decide +kernel)) (by decide +kernel)
theorem kc_X4_sampleAt : Cond.code yX4_sampleAt cX4_sampleAt 5 (some .int) ∈ GT := gt_of (List.mem_of_getElem? (i := 343) (by decide +kernel)) (by decide +kernel)
theorem km_L_50 : Cond.methodLink RL 50 yX5_of ∈ GT := gt_of (List.mem_of_getElem? (i := 344) (by decide +kernel)) (by decide +kernel)
theorem ki_X5_of : Cond.instanceMethod yX5_of ∈ GT := gt_of (List.mem_of_getElem? (i := 345) (by decide +kernel)) (by decide +kernel)
theorem ks_X5_of : Cond.selects RX5 yX5_of yX5_of ∈ GT := gt_of (List.mem_of_getElem? (i := 346) (by decide +kernel)) (by decide +kernel)
theorem kc_X5_of : Cond.code yX5_of cX5_of 9 (some .int) ∈ GT := gt_of (List.mem_of_getElem? (i := 347) (by decide +kernel)) (by decide +kernel)
theorem km_X5_98 : Cond.methodLink RX5 98 yX4_across ∈ GT := gt_of (List.mem_of_getElem? (i := 348) (by decide +kernel)) (by decide +kernel)
theorem ki_X4_across : Cond.instanceMethod yX4_across ∈ GT := gt_of (List.mem_of_getElem? (i := 349) (by decide +kernel)) (by decide +kernel)
theorem ks_X4_across : Cond.selects RX4 yX4_across yX4_across ∈ GT := gt_of (List.mem_of_getElem? (i := 350) (by decide +kernel)) (by decide +kernel)
theorem kc_X4_across : Cond.code yX4_across cX4_across 3 (some .int) ∈ GT := gt_of (List.mem_of_getElem? (i := 351) (by decide +kernel)) (by decide +kernel)
theorem km_X4_87 : Cond.methodLink RX4 87 yX4_sampleAt ∈ GT := gt_of (List.mem_of_getElem? (i := 352) (by decide +kernel)) (by decide +kernel)
theorem km_X5_101 : Cond.methodLink RX5 101 yX4_along ∈ GT := gt_of (List.mem_of_getElem? (i := 353) (by decide +kernel)) (by decide +kernel)
theorem ki_X4_along : Cond.instanceMethod yX4_along ∈ GT := gt_of (List.mem_of_getElem? (i := 354) (by decide +kernel)) (by decide +kernel)
theorem ks_X4_along : Cond.selects RX4 yX4_along yX4_along ∈ GT := gt_of (List.mem_of_getElem? (i := 355) (by decide +kernel)) (by decide +kernel)
theorem kc_X4_along : Cond.code yX4_along cX4_along 3 (some .int) ∈ GT := gt_of (List.mem_of_getElem? (i := 356) (by decide +kernel)) (by decide +kernel)
theorem km_X5_104 : Cond.methodLink RX5 104 yX3_size ∈ GT := gt_of (List.mem_of_getElem? (i := 357) (by decide +kernel)) (by decide +kernel)
theorem kst_X3_size : Cond.static yX3_size ∈ GT := gt_of (List.mem_of_getElem? (i := 358) (by decide +kernel)) (by decide +kernel)
theorem kc_X3_size : Cond.code yX3_size cX3_size 2 (some .int) ∈ GT := gt_of (List.mem_of_getElem? (i := 359) (by decide +kernel)) (by decide +kernel)
theorem km_X3_9 : Cond.methodLink RX3 9 yJ9_abs_0f7a4 ∈ GT := gt_of (List.mem_of_getElem? (i := 360) (by decide +kernel)) (by decide +kernel)
theorem km_X5_113 : Cond.methodLink RX5 113 yX3_residue ∈ GT := gt_of (List.mem_of_getElem? (i := 361) (by decide +kernel)) (by decide +kernel)
theorem kst_X3_residue : Cond.static yX3_residue ∈ GT := gt_of (List.mem_of_getElem? (i := 362) (by decide +kernel)) (by decide +kernel)
theorem kc_X3_residue : Cond.code yX3_residue cX3_residue 3 (some .int) ∈ GT := gt_of (List.mem_of_getElem? (i := 363) (by decide +kernel)) (by decide +kernel)
theorem km_X3_23 : Cond.methodLink RX3 23 yX3_phase ∈ GT := gt_of (List.mem_of_getElem? (i := 364) (by decide +kernel)) (by decide +kernel)
theorem kst_X3_phase : Cond.static yX3_phase ∈ GT := gt_of (List.mem_of_getElem? (i := 365) (by decide +kernel)) (by decide +kernel)
theorem kc_X3_phase : Cond.code yX3_phase cX3_phase 4 (some .float) ∈ GT := gt_of (List.mem_of_getElem? (i := 366) (by decide +kernel)) (by decide +kernel)
theorem kk_X3_21 : Cond.constantFloat RX3 21 (3212836864) ∈ GT := gt_of (List.mem_of_getElem? (i := 367) (by decide +kernel)) (by decide +kernel)
theorem kk_X3_22 : Cond.constantFloat RX3 22 (1082130432) ∈ GT := gt_of (List.mem_of_getElem? (i := 368) (by decide +kernel)) (by decide +kernel)
theorem kk_X3_27 : Cond.constantFloat RX3 27 (1056964608) ∈ GT := gt_of (List.mem_of_getElem? (i := 369) (by decide +kernel)) (by decide +kernel)
theorem km_L_54 : Cond.methodLink RL 54 yX5_bits ∈ GT := gt_of (List.mem_of_getElem? (i := 370) (by decide +kernel)) (by decide +kernel)
theorem ki_X5_bits : Cond.instanceMethod yX5_bits ∈ GT := gt_of (List.mem_of_getElem? (i := 371) (by decide +kernel)) (by decide +kernel)
theorem ks_X5_bits : Cond.selects RX5 yX5_bits yX5_bits ∈ GT := gt_of (List.mem_of_getElem? (i := 372) (by decide +kernel)) (by decide +kernel)
theorem kc_X5_bits : Cond.code yX5_bits cX5_bits 9 (some .int) ∈ GT := gt_of (List.mem_of_getElem? (i := 373) (by decide +kernel)) (by decide +kernel)
theorem km_X5_116 : Cond.methodLink RX5 116 yX3_strength ∈ GT := gt_of (List.mem_of_getElem? (i := 374) (by decide +kernel)) (by decide +kernel)
theorem kst_X3_strength : Cond.static yX3_strength ∈ GT := gt_of (List.mem_of_getElem? (i := 375) (by decide +kernel)) (by decide +kernel)
theorem kc_X3_strength : Cond.code yX3_strength cX3_strength 2 (some .float) ∈ GT := gt_of (List.mem_of_getElem? (i := 376) (by decide +kernel)) (by decide +kernel)
theorem km_X3_15 : Cond.methodLink RX3 15 yX3_size ∈ GT := gt_of (List.mem_of_getElem? (i := 377) (by decide +kernel)) (by decide +kernel)
theorem km_X5_120 : Cond.methodLink RX5 120 yX3_phase ∈ GT := gt_of (List.mem_of_getElem? (i := 378) (by decide +kernel)) (by decide +kernel)
theorem km_X5_123 : Cond.methodLink RX5 123 yX0_ofFloat ∈ GT := gt_of (List.mem_of_getElem? (i := 379) (by decide +kernel)) (by decide +kernel)
theorem kst_X0_ofFloat : Cond.static yX0_ofFloat ∈ GT := gt_of (List.mem_of_getElem? (i := 380) (by decide +kernel)) (by decide +kernel)
theorem kc_X0_ofFloat : Cond.code yX0_ofFloat cX0_ofFloat 4 (some .int) ∈ GT := gt_of (List.mem_of_getElem? (i := 381) (by decide +kernel)) (by decide +kernel)
theorem kk_X0_11 : Cond.constant RX0 11 (-2147483648) ∈ GT := gt_of (List.mem_of_getElem? (i := 382) (by decide +kernel)) (by decide +kernel)
theorem kk_X0_12 : Cond.constantFloat RX0 12 (1258291200) ∈ GT := gt_of (List.mem_of_getElem? (i := 383) (by decide +kernel)) (by decide +kernel)
theorem km_L_58 : Cond.methodLink RL 58 yX5_wraps ∈ GT := gt_of (List.mem_of_getElem? (i := 384) (by decide +kernel)) (by decide +kernel)
theorem ki_X5_wraps : Cond.instanceMethod yX5_wraps ∈ GT := gt_of (List.mem_of_getElem? (i := 385) (by decide +kernel)) (by decide +kernel)
theorem ks_X5_wraps : Cond.selects RX5 yX5_wraps yX5_wraps ∈ GT := gt_of (List.mem_of_getElem? (i := 386) (by decide +kernel)) (by decide +kernel)
theorem kc_X5_wraps : Cond.code yX5_wraps cX5_wraps 7 (some .int) ∈ GT := gt_of (List.mem_of_getElem? (i := 387) (by decide +kernel)) (by decide +kernel)
theorem km_X5_129 : Cond.methodLink RX5 129 yX2_markOf ∈ GT := gt_of (List.mem_of_getElem? (i := 388) (by decide +kernel)) (by decide +kernel)
theorem ki_X2_markOf : Cond.instanceMethod yX2_markOf ∈ GT := gt_of (List.mem_of_getElem? (i := 389) (by decide +kernel)) (by decide +kernel)
theorem ks_X2_markOf : Cond.selects RX2 yX2_markOf yX2_markOf ∈ GT := gt_of (List.mem_of_getElem? (i := 390) (by decide +kernel)) (by decide +kernel)
theorem kc_X2_markOf : Cond.code yX2_markOf cX2_markOf 3 (some .int) ∈ GT := gt_of (List.mem_of_getElem? (i := 391) (by decide +kernel)) (by decide +kernel)
theorem kmn_X2_37 : Cond.methodLinkNest RX2 37 yX5_within RX5 ∈ lw_tbl := List.mem_of_getElem? (i := 392) (by decide +kernel)
theorem km_X2_41 : Cond.methodLink RX2 41 yX2_reckon ∈ GT := gt_of (List.mem_of_getElem? (i := 393) (by decide +kernel)) (by decide +kernel)
theorem ki_X2_reckon : Cond.instanceMethod yX2_reckon ∈ GT := gt_of (List.mem_of_getElem? (i := 395) (by decide +kernel)) (by decide +kernel)
theorem kc_X2_reckon : Cond.code yX2_reckon cX2_reckon 5 (some .int) ∈ GT := gt_of (List.mem_of_getElem? (i := 396) (by decide +kernel)) (by decide +kernel)
theorem km_X2_54 : Cond.methodLink RX2 54 yX4_countFrom ∈ GT := gt_of (List.mem_of_getElem? (i := 397) (by decide +kernel)) (by decide +kernel)
theorem km_X2_58 : Cond.methodLink RX2 58 yX4_across ∈ GT := gt_of (List.mem_of_getElem? (i := 398) (by decide +kernel)) (by decide +kernel)
theorem km_X2_61 : Cond.methodLink RX2 61 yX4_along ∈ GT := gt_of (List.mem_of_getElem? (i := 399) (by decide +kernel)) (by decide +kernel)
theorem km_X2_67 : Cond.methodLink RX2 67 yX3_residue ∈ GT := gt_of (List.mem_of_getElem? (i := 400) (by decide +kernel)) (by decide +kernel)
theorem km_X2_73 : Cond.methodLink RX2 73 yX3_strength ∈ GT := gt_of (List.mem_of_getElem? (i := 401) (by decide +kernel)) (by decide +kernel)
theorem km_X2_77 : Cond.methodLink RX2 77 yX2_search ∈ GT := gt_of (List.mem_of_getElem? (i := 402) (by decide +kernel)) (by decide +kernel)
theorem ki_X2_search : Cond.instanceMethod yX2_search ∈ GT := gt_of (List.mem_of_getElem? (i := 404) (by decide +kernel)) (by decide +kernel)
theorem kc_X2_search : Cond.code yX2_search cX2_search 7 (some .boolean) ∈ GT := gt_of (List.mem_of_getElem? (i := 405) (by decide +kernel)) (by decide +kernel)
theorem kk_X2_101 : Cond.constant RX2 101 (2147483647) ∈ GT := gt_of (List.mem_of_getElem? (i := 406) (by decide +kernel)) (by decide +kernel)
theorem km_X2_102 : Cond.methodLink RX2 102 yX2_widestGap ∈ GT := gt_of (List.mem_of_getElem? (i := 407) (by decide +kernel)) (by decide +kernel)
theorem ki_X2_widestGap : Cond.instanceMethod yX2_widestGap ∈ GT := gt_of (List.mem_of_getElem? (i := 409) (by decide +kernel)) (by decide +kernel)
theorem kc_X2_widestGap : Cond.code yX2_widestGap cX2_widestGap 5 (some .int) ∈ GT := gt_of (List.mem_of_getElem? (i := 410) (by decide +kernel)) (by decide +kernel)
theorem km_X2_108 : Cond.methodLink RX2 108 yX3_gap ∈ GT := gt_of (List.mem_of_getElem? (i := 411) (by decide +kernel)) (by decide +kernel)
theorem kst_X3_gap : Cond.static yX3_gap ∈ GT := gt_of (List.mem_of_getElem? (i := 412) (by decide +kernel)) (by decide +kernel)
theorem kc_X3_gap : Cond.code yX3_gap cX3_gap 6 (some .int) ∈ GT := gt_of (List.mem_of_getElem? (i := 413) (by decide +kernel)) (by decide +kernel)
theorem km_X2_96 : Cond.methodLink RX2 96 yJ9_max_7cf53 ∈ GT := gt_of (List.mem_of_getElem? (i := 414) (by decide +kernel)) (by decide +kernel)
theorem kst_J9_max_7cf53 : Cond.static yJ9_max_7cf53 ∈ GT := gt_of (List.mem_of_getElem? (i := 415) (by decide +kernel)) (by decide +kernel)
theorem kc_J9_max_7cf53 : Cond.code yJ9_max_7cf53 cJ9_max_7cf53 2 (some .int) ∈ GT := gt_of (List.mem_of_getElem? (i := 416) (by decide +kernel)) (by decide +kernel)
theorem km_X2_105 : Cond.methodLink RX2 105 yX2_misfit ∈ GT := gt_of (List.mem_of_getElem? (i := 417) (by decide +kernel)) (by decide +kernel)
theorem ki_X2_misfit : Cond.instanceMethod yX2_misfit ∈ GT := gt_of (List.mem_of_getElem? (i := 419) (by decide +kernel)) (by decide +kernel)
theorem kc_X2_misfit : Cond.code yX2_misfit cX2_misfit 6 (some .int) ∈ GT := gt_of (List.mem_of_getElem? (i := 420) (by decide +kernel)) (by decide +kernel)
theorem km_X2_112 : Cond.methodLink RX2 112 yX3_awayFrom ∈ GT := gt_of (List.mem_of_getElem? (i := 421) (by decide +kernel)) (by decide +kernel)
theorem kst_X3_awayFrom : Cond.static yX3_awayFrom ∈ GT := gt_of (List.mem_of_getElem? (i := 422) (by decide +kernel)) (by decide +kernel)
theorem kc_X3_awayFrom : Cond.code yX3_awayFrom cX3_awayFrom 4 (some .int) ∈ GT := gt_of (List.mem_of_getElem? (i := 423) (by decide +kernel)) (by decide +kernel)
theorem km_X2_45 : Cond.methodLink RX2 45 yX2_reckonPairs ∈ GT := gt_of (List.mem_of_getElem? (i := 424) (by decide +kernel)) (by decide +kernel)
theorem ki_X2_reckonPairs : Cond.instanceMethod yX2_reckonPairs ∈ GT := gt_of (List.mem_of_getElem? (i := 426) (by decide +kernel)) (by decide +kernel)
theorem kc_X2_reckonPairs : Cond.code yX2_reckonPairs cX2_reckonPairs 5 (some .int) ∈ GT := gt_of (List.mem_of_getElem? (i := 427) (by decide +kernel)) (by decide +kernel)
theorem km_X2_91 : Cond.methodLink RX2 91 yJ9_min_7cf53 ∈ GT := gt_of (List.mem_of_getElem? (i := 428) (by decide +kernel)) (by decide +kernel)
theorem km_X5_132 : Cond.methodLink RX5 132 yX2_distanceOf ∈ GT := gt_of (List.mem_of_getElem? (i := 429) (by decide +kernel)) (by decide +kernel)
theorem ki_X2_distanceOf : Cond.instanceMethod yX2_distanceOf ∈ GT := gt_of (List.mem_of_getElem? (i := 430) (by decide +kernel)) (by decide +kernel)
theorem ks_X2_distanceOf : Cond.selects RX2 yX2_distanceOf yX2_distanceOf ∈ GT := gt_of (List.mem_of_getElem? (i := 431) (by decide +kernel)) (by decide +kernel)
theorem kc_X2_distanceOf : Cond.code yX2_distanceOf cX2_distanceOf 2 (some .int) ∈ GT := gt_of (List.mem_of_getElem? (i := 432) (by decide +kernel)) (by decide +kernel)
theorem km_X2_48 : Cond.methodLink RX2 48 yX2_markOf ∈ GT := gt_of (List.mem_of_getElem? (i := 433) (by decide +kernel)) (by decide +kernel)
theorem km_L_62 : Cond.methodLink RL 62 yX5_away ∈ GT := gt_of (List.mem_of_getElem? (i := 434) (by decide +kernel)) (by decide +kernel)
theorem ki_X5_away : Cond.instanceMethod yX5_away ∈ GT := gt_of (List.mem_of_getElem? (i := 435) (by decide +kernel)) (by decide +kernel)
theorem ks_X5_away : Cond.selects RX5 yX5_away yX5_away ∈ GT := gt_of (List.mem_of_getElem? (i := 436) (by decide +kernel)) (by decide +kernel)
theorem kc_X5_away : Cond.code yX5_away cX5_away 8 (some .int) ∈ GT := gt_of (List.mem_of_getElem? (i := 437) (by decide +kernel)) (by decide +kernel)
theorem km_X5_135 : Cond.methodLink RX5 135 yX3_awayFrom ∈ GT := gt_of (List.mem_of_getElem? (i := 438) (by decide +kernel)) (by decide +kernel)
theorem km_L_66 : Cond.methodLink RL 66 yX5_mark ∈ GT := gt_of (List.mem_of_getElem? (i := 439) (by decide +kernel)) (by decide +kernel)
theorem ki_X5_mark : Cond.instanceMethod yX5_mark ∈ GT := gt_of (List.mem_of_getElem? (i := 440) (by decide +kernel)) (by decide +kernel)
theorem ks_X5_mark : Cond.selects RX5 yX5_mark yX5_mark ∈ GT := gt_of (List.mem_of_getElem? (i := 441) (by decide +kernel)) (by decide +kernel)
theorem kc_X5_mark : Cond.code yX5_mark cX5_mark 5 (some .int) ∈ GT := gt_of (List.mem_of_getElem? (i := 442) (by decide +kernel)) (by decide +kernel)
theorem km_L_70 : Cond.methodLink RL 70 yX5_cell ∈ GT := gt_of (List.mem_of_getElem? (i := 443) (by decide +kernel)) (by decide +kernel)
theorem ki_X5_cell : Cond.instanceMethod yX5_cell ∈ GT := gt_of (List.mem_of_getElem? (i := 444) (by decide +kernel)) (by decide +kernel)
theorem ks_X5_cell : Cond.selects RX5 yX5_cell yX5_cell ∈ GT := gt_of (List.mem_of_getElem? (i := 445) (by decide +kernel)) (by decide +kernel)
theorem kc_X5_cell : Cond.code yX5_cell cX5_cell 7 (some .int) ∈ GT := gt_of (List.mem_of_getElem? (i := 446) (by decide +kernel)) (by decide +kernel)
theorem km_X5_138 : Cond.methodLink RX5 138 yX2_nearOf ∈ GT := gt_of (List.mem_of_getElem? (i := 447) (by decide +kernel)) (by decide +kernel)
theorem ki_X2_nearOf : Cond.instanceMethod yX2_nearOf ∈ GT := gt_of (List.mem_of_getElem? (i := 448) (by decide +kernel)) (by decide +kernel)
theorem ks_X2_nearOf : Cond.selects RX2 yX2_nearOf yX2_nearOf ∈ GT := gt_of (List.mem_of_getElem? (i := 449) (by decide +kernel)) (by decide +kernel)
theorem kc_X2_nearOf : Cond.code yX2_nearOf cX2_nearOf 2 (some .int) ∈ GT := gt_of (List.mem_of_getElem? (i := 450) (by decide +kernel)) (by decide +kernel)
theorem km_X5_141 : Cond.methodLink RX5 141 yX2_beyondOf ∈ GT := gt_of (List.mem_of_getElem? (i := 451) (by decide +kernel)) (by decide +kernel)
theorem ki_X2_beyondOf : Cond.instanceMethod yX2_beyondOf ∈ GT := gt_of (List.mem_of_getElem? (i := 452) (by decide +kernel)) (by decide +kernel)
theorem ks_X2_beyondOf : Cond.selects RX2 yX2_beyondOf yX2_beyondOf ∈ GT := gt_of (List.mem_of_getElem? (i := 453) (by decide +kernel)) (by decide +kernel)
theorem kc_X2_beyondOf : Cond.code yX2_beyondOf cX2_beyondOf 2 (some .int) ∈ GT := gt_of (List.mem_of_getElem? (i := 454) (by decide +kernel)) (by decide +kernel)
theorem km_X5_144 : Cond.methodLink RX5 144 yX2_filled ∈ GT := gt_of (List.mem_of_getElem? (i := 455) (by decide +kernel)) (by decide +kernel)
theorem ki_X2_filled : Cond.instanceMethod yX2_filled ∈ GT := gt_of (List.mem_of_getElem? (i := 456) (by decide +kernel)) (by decide +kernel)
theorem ks_X2_filled : Cond.selects RX2 yX2_filled yX2_filled ∈ GT := gt_of (List.mem_of_getElem? (i := 457) (by decide +kernel)) (by decide +kernel)
theorem kc_X2_filled : Cond.code yX2_filled cX2_filled 12 (some .int) ∈ GT := gt_of (List.mem_of_getElem? (i := 458) (by decide +kernel)) (by decide +kernel)
theorem km_X2_115 : Cond.methodLink RX2 115 yX4_place ∈ GT := gt_of (List.mem_of_getElem? (i := 459) (by decide +kernel)) (by decide +kernel)
theorem km_X2_118 : Cond.methodLink RX2 118 yX4_brightness ∈ GT := gt_of (List.mem_of_getElem? (i := 460) (by decide +kernel)) (by decide +kernel)
theorem ki_X4_brightness : Cond.instanceMethod yX4_brightness ∈ GT := gt_of (List.mem_of_getElem? (i := 461) (by decide +kernel)) (by decide +kernel)
theorem ks_X4_brightness : Cond.selects RX4 yX4_brightness yX4_brightness ∈ GT := gt_of (List.mem_of_getElem? (i := 462) (by decide +kernel)) (by decide +kernel)
theorem kc_X4_brightness : Cond.code yX4_brightness cX4_brightness 2 (some .float) ∈ GT := gt_of (List.mem_of_getElem? (i := 463) (by decide +kernel)) (by decide +kernel)
theorem km_X4_103 : Cond.methodLink RX4 103 yX4_strengthOf ∈ GT := gt_of (List.mem_of_getElem? (i := 464) (by decide +kernel)) (by decide +kernel)
theorem ki_X4_strengthOf : Cond.instanceMethod yX4_strengthOf ∈ GT := gt_of (List.mem_of_getElem? (i := 465) (by decide +kernel)) (by decide +kernel)
theorem ks_X4_strengthOf : Cond.selects RX4 yX4_strengthOf yX4_strengthOf ∈ GT := gt_of (List.mem_of_getElem? (i := 466) (by decide +kernel)) (by decide +kernel)
theorem kc_X4_strengthOf : Cond.code yX4_strengthOf cX4_strengthOf 3 (some .float) ∈ GT := gt_of (List.mem_of_getElem? (i := 467) (by decide +kernel)) (by decide +kernel)
theorem km_X4_91 : Cond.methodLink RX4 91 yX4_across ∈ GT := gt_of (List.mem_of_getElem? (i := 468) (by decide +kernel)) (by decide +kernel)
theorem km_X4_94 : Cond.methodLink RX4 94 yX4_along ∈ GT := gt_of (List.mem_of_getElem? (i := 469) (by decide +kernel)) (by decide +kernel)
theorem km_X4_97 : Cond.methodLink RX4 97 yX3_strength ∈ GT := gt_of (List.mem_of_getElem? (i := 470) (by decide +kernel)) (by decide +kernel)
theorem kfn_X2_122 : Cond.fieldLinkNest RX2 122 RX5 "BESIDE_X" "[I" RX5 ∈ lw_tbl := List.mem_of_getElem? (i := 471) (by decide +kernel)
theorem kls_BESIDE_X : Cond.laysStatic RX5 "BESIDE_X" "[I" ∈ lw_tbl := List.mem_of_getElem? (i := 472) (by decide +kernel)
theorem kfn_X2_125 : Cond.fieldLinkNest RX2 125 RX5 "BESIDE_Y" "[I" RX5 ∈ lw_tbl := List.mem_of_getElem? (i := 473) (by decide +kernel)
theorem kls_BESIDE_Y : Cond.laysStatic RX5 "BESIDE_Y" "[I" ∈ lw_tbl := List.mem_of_getElem? (i := 474) (by decide +kernel)
theorem kk_X2_128 : Cond.constantFloat RX2 128 (1082130432) ∈ GT := gt_of (List.mem_of_getElem? (i := 475) (by decide +kernel)) (by decide +kernel)
theorem km_L_74 : Cond.methodLink RL 74 yX5_glow ∈ GT := gt_of (List.mem_of_getElem? (i := 476) (by decide +kernel)) (by decide +kernel)
theorem ki_X5_glow : Cond.instanceMethod yX5_glow ∈ GT := gt_of (List.mem_of_getElem? (i := 477) (by decide +kernel)) (by decide +kernel)
theorem ks_X5_glow : Cond.selects RX5 yX5_glow yX5_glow ∈ GT := gt_of (List.mem_of_getElem? (i := 478) (by decide +kernel)) (by decide +kernel)
theorem kc_X5_glow : Cond.code yX5_glow cX5_glow 5 (some .int) ∈ GT := gt_of (List.mem_of_getElem? (i := 479) (by decide +kernel)) (by decide +kernel)
theorem km_X5_147 : Cond.methodLink RX5 147 yX4_brightness ∈ GT := gt_of (List.mem_of_getElem? (i := 480) (by decide +kernel)) (by decide +kernel)
theorem km_L_78 : Cond.methodLink RL 78 yX5_motion ∈ GT := gt_of (List.mem_of_getElem? (i := 481) (by decide +kernel)) (by decide +kernel)
theorem ki_X5_motion : Cond.instanceMethod yX5_motion ∈ GT := gt_of (List.mem_of_getElem? (i := 482) (by decide +kernel)) (by decide +kernel)
theorem ks_X5_motion : Cond.selects RX5 yX5_motion yX5_motion ∈ GT := gt_of (List.mem_of_getElem? (i := 483) (by decide +kernel)) (by decide +kernel)
theorem kc_X5_motion : Cond.code yX5_motion cX5_motion 6 (some .int) ∈ GT := gt_of (List.mem_of_getElem? (i := 484) (by decide +kernel)) (by decide +kernel)
theorem km_X5_151 : Cond.methodLink RX5 151 yX2_shift ∈ GT := gt_of (List.mem_of_getElem? (i := 485) (by decide +kernel)) (by decide +kernel)
theorem ki_X2_shift : Cond.instanceMethod yX2_shift ∈ GT := gt_of (List.mem_of_getElem? (i := 486) (by decide +kernel)) (by decide +kernel)
theorem ks_X2_shift : Cond.selects RX2 yX2_shift yX2_shift ∈ GT := gt_of (List.mem_of_getElem? (i := 487) (by decide +kernel)) (by decide +kernel)
theorem kc_X2_shift : Cond.code yX2_shift cX2_shift 3 (some .int) ∈ GT := gt_of (List.mem_of_getElem? (i := 488) (by decide +kernel)) (by decide +kernel)
theorem km_X2_129 : Cond.methodLink RX2 129 yX2_distanceOf ∈ GT := gt_of (List.mem_of_getElem? (i := 489) (by decide +kernel)) (by decide +kernel)
theorem km_L_82 : Cond.methodLink RL 82 yX5_marks ∈ GT := gt_of (List.mem_of_getElem? (i := 490) (by decide +kernel)) (by decide +kernel)
theorem ki_X5_marks : Cond.instanceMethod yX5_marks ∈ GT := gt_of (List.mem_of_getElem? (i := 491) (by decide +kernel)) (by decide +kernel)
theorem ks_X5_marks : Cond.selects RX5 yX5_marks yX5_marks ∈ GT := gt_of (List.mem_of_getElem? (i := 492) (by decide +kernel)) (by decide +kernel)
theorem kc_X5_marks : Cond.code yX5_marks cX5_marks 6 (some .int) ∈ GT := gt_of (List.mem_of_getElem? (i := 493) (by decide +kernel)) (by decide +kernel)
theorem km_L_86 : Cond.methodLink RL 86 yX5_moved ∈ GT := gt_of (List.mem_of_getElem? (i := 494) (by decide +kernel)) (by decide +kernel)
theorem ki_X5_moved : Cond.instanceMethod yX5_moved ∈ GT := gt_of (List.mem_of_getElem? (i := 495) (by decide +kernel)) (by decide +kernel)
theorem ks_X5_moved : Cond.selects RX5 yX5_moved yX5_moved ∈ GT := gt_of (List.mem_of_getElem? (i := 496) (by decide +kernel)) (by decide +kernel)
theorem kc_X5_moved : Cond.code yX5_moved cX5_moved 5 (some .int) ∈ GT := gt_of (List.mem_of_getElem? (i := 497) (by decide +kernel)) (by decide +kernel)
theorem km_X5_160 : Cond.methodLink RX5 160 yJ9_abs_0f7a4 ∈ GT := gt_of (List.mem_of_getElem? (i := 498) (by decide +kernel)) (by decide +kernel)
theorem km_L_91 : Cond.methodLink RL 91 yX5_mean ∈ GT := gt_of (List.mem_of_getElem? (i := 499) (by decide +kernel)) (by decide +kernel)
theorem ki_X5_mean : Cond.instanceMethod yX5_mean ∈ GT := gt_of (List.mem_of_getElem? (i := 500) (by decide +kernel)) (by decide +kernel)
theorem ks_X5_mean : Cond.selects RX5 yX5_mean yX5_mean ∈ GT := gt_of (List.mem_of_getElem? (i := 501) (by decide +kernel)) (by decide +kernel)
theorem kc_X5_mean : Cond.code yX5_mean cX5_mean 2 (some .long) ∈ GT := gt_of (List.mem_of_getElem? (i := 502) (by decide +kernel)) (by decide +kernel)
theorem km_X5_168 : Cond.methodLink RX5 168 yX2_meanBits ∈ GT := gt_of (List.mem_of_getElem? (i := 503) (by decide +kernel)) (by decide +kernel)
theorem ki_X2_meanBits : Cond.instanceMethod yX2_meanBits ∈ GT := gt_of (List.mem_of_getElem? (i := 504) (by decide +kernel)) (by decide +kernel)
theorem ks_X2_meanBits : Cond.selects RX2 yX2_meanBits yX2_meanBits ∈ GT := gt_of (List.mem_of_getElem? (i := 505) (by decide +kernel)) (by decide +kernel)
theorem kc_X2_meanBits : Cond.code yX2_meanBits cX2_meanBits 7 (some .long) ∈ GT := gt_of (List.mem_of_getElem? (i := 506) (by decide +kernel)) (by decide +kernel)
theorem km_X2_138 : Cond.methodLink RX2 138 yX0_ofDouble ∈ GT := gt_of (List.mem_of_getElem? (i := 507) (by decide +kernel)) (by decide +kernel)
theorem kst_X0_ofDouble : Cond.static yX0_ofDouble ∈ GT := gt_of (List.mem_of_getElem? (i := 508) (by decide +kernel)) (by decide +kernel)
theorem kc_X0_ofDouble : Cond.code yX0_ofDouble cX0_ofDouble 7 (some .long) ∈ GT := gt_of (List.mem_of_getElem? (i := 509) (by decide +kernel)) (by decide +kernel)
theorem kk_X0_13 : Cond.constantLong RX0 13 (1023) ∈ GT := gt_of (List.mem_of_getElem? (i := 510) (by decide +kernel)) (by decide +kernel)
theorem kk_X0_15 : Cond.constantDouble RX0 15 (4611686018427387904) ∈ GT := gt_of (List.mem_of_getElem? (i := 511) (by decide +kernel)) (by decide +kernel)
theorem kk_X0_17 : Cond.constantDouble RX0 17 (4841369599423283200) ∈ GT := gt_of (List.mem_of_getElem? (i := 512) (by decide +kernel)) (by decide +kernel)
theorem km_L_96 : Cond.methodLink RL 96 yX5_told ∈ GT := gt_of (List.mem_of_getElem? (i := 513) (by decide +kernel)) (by decide +kernel)
theorem ki_X5_told : Cond.instanceMethod yX5_told ∈ GT := gt_of (List.mem_of_getElem? (i := 514) (by decide +kernel)) (by decide +kernel)
theorem ks_X5_told : Cond.selects RX5 yX5_told yX5_told ∈ GT := gt_of (List.mem_of_getElem? (i := 515) (by decide +kernel)) (by decide +kernel)
theorem kc_X5_told : Cond.code yX5_told cX5_told 2 (some .int) ∈ GT := gt_of (List.mem_of_getElem? (i := 516) (by decide +kernel)) (by decide +kernel)
theorem km_X5_172 : Cond.methodLink RX5 172 yX4_setting ∈ GT := gt_of (List.mem_of_getElem? (i := 517) (by decide +kernel)) (by decide +kernel)
theorem ki_X4_setting : Cond.instanceMethod yX4_setting ∈ GT := gt_of (List.mem_of_getElem? (i := 518) (by decide +kernel)) (by decide +kernel)
theorem ks_X4_setting : Cond.selects RX4 yX4_setting yX4_setting ∈ GT := gt_of (List.mem_of_getElem? (i := 519) (by decide +kernel)) (by decide +kernel)
theorem kc_X4_setting : Cond.code yX4_setting cX4_setting 3 (some .int) ∈ GT := gt_of (List.mem_of_getElem? (i := 520) (by decide +kernel)) (by decide +kernel)
theorem km_L_101 : Cond.methodLink RL 101 yX5_type ∈ GT := gt_of (List.mem_of_getElem? (i := 521) (by decide +kernel)) (by decide +kernel)
theorem ki_X5_type : Cond.instanceMethod yX5_type ∈ GT := gt_of (List.mem_of_getElem? (i := 522) (by decide +kernel)) (by decide +kernel)
theorem ks_X5_type : Cond.selects RX5 yX5_type yX5_type ∈ GT := gt_of (List.mem_of_getElem? (i := 523) (by decide +kernel)) (by decide +kernel)
theorem kc_X5_type : Cond.code yX5_type cX5_type 2 (some .int) ∈ GT := gt_of (List.mem_of_getElem? (i := 524) (by decide +kernel)) (by decide +kernel)
theorem km_X5_175 : Cond.methodLink RX5 175 yX1_append ∈ GT := gt_of (List.mem_of_getElem? (i := 525) (by decide +kernel)) (by decide +kernel)
theorem ki_X1_append : Cond.instanceMethod yX1_append ∈ GT := gt_of (List.mem_of_getElem? (i := 526) (by decide +kernel)) (by decide +kernel)
theorem ks_X1_append : Cond.selects RX1 yX1_append yX1_append ∈ GT := gt_of (List.mem_of_getElem? (i := 527) (by decide +kernel)) (by decide +kernel)
theorem kc_X1_append : Cond.code yX1_append cX1_append 2 (some .boolean) ∈ GT := gt_of (List.mem_of_getElem? (i := 528) (by decide +kernel)) (by decide +kernel)
theorem km_L_105 : Cond.methodLink RL 105 yX5_clear ∈ GT := gt_of (List.mem_of_getElem? (i := 529) (by decide +kernel)) (by decide +kernel)
theorem ki_X5_clear : Cond.instanceMethod yX5_clear ∈ GT := gt_of (List.mem_of_getElem? (i := 530) (by decide +kernel)) (by decide +kernel)
theorem ks_X5_clear : Cond.selects RX5 yX5_clear yX5_clear ∈ GT := gt_of (List.mem_of_getElem? (i := 531) (by decide +kernel)) (by decide +kernel)
theorem kc_X5_clear : Cond.code yX5_clear cX5_clear 2 (some .int) ∈ GT := gt_of (List.mem_of_getElem? (i := 532) (by decide +kernel)) (by decide +kernel)
theorem km_L_109 : Cond.methodLink RL 109 yX5_does ∈ GT := gt_of (List.mem_of_getElem? (i := 533) (by decide +kernel)) (by decide +kernel)
theorem ki_X5_does : Cond.instanceMethod yX5_does ∈ GT := gt_of (List.mem_of_getElem? (i := 534) (by decide +kernel)) (by decide +kernel)
theorem ks_X5_does : Cond.selects RX5 yX5_does yX5_does ∈ GT := gt_of (List.mem_of_getElem? (i := 535) (by decide +kernel)) (by decide +kernel)
theorem kc_X5_does : Cond.code yX5_does cX5_does 4 (some .int) ∈ GT := gt_of (List.mem_of_getElem? (i := 536) (by decide +kernel)) (by decide +kernel)
theorem km_X5_182 : Cond.methodLink RX5 182 yX1_readAll ∈ GT := gt_of (List.mem_of_getElem? (i := 537) (by decide +kernel)) (by decide +kernel)
theorem ki_X1_readAll : Cond.instanceMethod yX1_readAll ∈ GT := gt_of (List.mem_of_getElem? (i := 538) (by decide +kernel)) (by decide +kernel)
theorem ks_X1_readAll : Cond.selects RX1 yX1_readAll yX1_readAll ∈ GT := gt_of (List.mem_of_getElem? (i := 539) (by decide +kernel)) (by decide +kernel)
theorem kc_X1_readAll : Cond.code yX1_readAll cX1_readAll 2 (some .int) ∈ GT := gt_of (List.mem_of_getElem? (i := 540) (by decide +kernel)) (by decide +kernel)
theorem km_X1_34 : Cond.methodLink RX1 34 yX1_takes ∈ GT := gt_of (List.mem_of_getElem? (i := 541) (by decide +kernel)) (by decide +kernel)
theorem ki_X1_takes : Cond.instanceMethod yX1_takes ∈ GT := gt_of (List.mem_of_getElem? (i := 543) (by decide +kernel)) (by decide +kernel)
theorem kc_X1_takes : Cond.code yX1_takes cX1_takes 2 (some .boolean) ∈ GT := gt_of (List.mem_of_getElem? (i := 544) (by decide +kernel)) (by decide +kernel)
theorem km_X1_42 : Cond.methodLink RX1 42 yX1_takesFigure ∈ GT := gt_of (List.mem_of_getElem? (i := 545) (by decide +kernel)) (by decide +kernel)
theorem ki_X1_takesFigure : Cond.instanceMethod yX1_takesFigure ∈ GT := gt_of (List.mem_of_getElem? (i := 547) (by decide +kernel)) (by decide +kernel)
theorem kc_X1_takesFigure : Cond.code yX1_takesFigure cX1_takesFigure 2 (some .boolean) ∈ GT := gt_of (List.mem_of_getElem? (i := 548) (by decide +kernel)) (by decide +kernel)
theorem km_X1_45 : Cond.methodLink RX1 45 yX1_endNumber ∈ GT := gt_of (List.mem_of_getElem? (i := 549) (by decide +kernel)) (by decide +kernel)
end
section
theorem ki_X1_endNumber : Cond.instanceMethod yX1_endNumber ∈ GT := gt_of (List.mem_of_getElem? (i := 551) (by decide +kernel)) (by decide +kernel)
theorem kc_X1_endNumber : Cond.code yX1_endNumber cX1_endNumber 1 none ∈ GT := gt_of (List.mem_of_getElem? (i := 552) (by decide +kernel)) (by decide +kernel)
theorem km_X1_52 : Cond.methodLink RX1 52 yX1_keep ∈ GT := gt_of (List.mem_of_getElem? (i := 553) (by decide +kernel)) (by decide +kernel)
theorem ki_X1_keep : Cond.instanceMethod yX1_keep ∈ GT := gt_of (List.mem_of_getElem? (i := 555) (by decide +kernel)) (by decide +kernel)
theorem kc_X1_keep : Cond.code yX1_keep cX1_keep 2 none ∈ GT := gt_of (List.mem_of_getElem? (i := 556) (by decide +kernel)) (by decide +kernel)
theorem kmn_X1_38 : Cond.methodLinkNest RX1 38 yX5_within RX5 ∈ lw_tbl := List.mem_of_getElem? (i := 557) (by decide +kernel)
theorem km_X1_48 : Cond.methodLink RX1 48 yX1_numbersOf ∈ GT := gt_of (List.mem_of_getElem? (i := 558) (by decide +kernel)) (by decide +kernel)
theorem kst_X1_numbersOf : Cond.static yX1_numbersOf ∈ GT := gt_of (List.mem_of_getElem? (i := 559) (by decide +kernel)) (by decide +kernel)
theorem kc_X1_numbersOf : Cond.code yX1_numbersOf cX1_numbersOf 1 (some .int) ∈ GT := gt_of (List.mem_of_getElem? (i := 560) (by decide +kernel)) (by decide +kernel)
theorem km_X5_189 : Cond.methodLink RX5 189 yX5_perform ∈ GT := gt_of (List.mem_of_getElem? (i := 561) (by decide +kernel)) (by decide +kernel)
theorem ki_X5_perform : Cond.instanceMethod yX5_perform ∈ GT := gt_of (List.mem_of_getElem? (i := 563) (by decide +kernel)) (by decide +kernel)
theorem kc_X5_perform : Cond.code yX5_perform cX5_perform 5 (some .int) ∈ GT := gt_of (List.mem_of_getElem? (i := 564) (by decide +kernel)) (by decide +kernel)
theorem km_X5_192 : Cond.methodLink RX5 192 yX1_item ∈ GT := gt_of (List.mem_of_getElem? (i := 565) (by decide +kernel)) (by decide +kernel)
theorem ki_X1_item : Cond.instanceMethod yX1_item ∈ GT := gt_of (List.mem_of_getElem? (i := 566) (by decide +kernel)) (by decide +kernel)
theorem ks_X1_item : Cond.selects RX1 yX1_item yX1_item ∈ GT := gt_of (List.mem_of_getElem? (i := 567) (by decide +kernel)) (by decide +kernel)
theorem kc_X1_item : Cond.code yX1_item cX1_item 2 (some .int) ∈ GT := gt_of (List.mem_of_getElem? (i := 568) (by decide +kernel)) (by decide +kernel)
theorem km_X5_195 : Cond.methodLink RX5 195 yX1_numbersOf ∈ GT := gt_of (List.mem_of_getElem? (i := 569) (by decide +kernel)) (by decide +kernel)
theorem km_L_113 : Cond.methodLink RL 113 yX5_back ∈ GT := gt_of (List.mem_of_getElem? (i := 570) (by decide +kernel)) (by decide +kernel)
theorem ki_X5_back : Cond.instanceMethod yX5_back ∈ GT := gt_of (List.mem_of_getElem? (i := 571) (by decide +kernel)) (by decide +kernel)
theorem ks_X5_back : Cond.selects RX5 yX5_back yX5_back ∈ GT := gt_of (List.mem_of_getElem? (i := 572) (by decide +kernel)) (by decide +kernel)
theorem kc_X5_back : Cond.code yX5_back cX5_back 1 (some .int) ∈ GT := gt_of (List.mem_of_getElem? (i := 573) (by decide +kernel)) (by decide +kernel)
theorem km_L_117 : Cond.methodLink RL 117 yX5_refused ∈ GT := gt_of (List.mem_of_getElem? (i := 574) (by decide +kernel)) (by decide +kernel)
theorem ki_X5_refused : Cond.instanceMethod yX5_refused ∈ GT := gt_of (List.mem_of_getElem? (i := 575) (by decide +kernel)) (by decide +kernel)
theorem ks_X5_refused : Cond.selects RX5 yX5_refused yX5_refused ∈ GT := gt_of (List.mem_of_getElem? (i := 576) (by decide +kernel)) (by decide +kernel)
theorem kc_X5_refused : Cond.code yX5_refused cX5_refused 2 (some .int) ∈ GT := gt_of (List.mem_of_getElem? (i := 577) (by decide +kernel)) (by decide +kernel)
theorem km_X5_204 : Cond.methodLink RX5 204 yX5_tally ∈ GT := gt_of (List.mem_of_getElem? (i := 578) (by decide +kernel)) (by decide +kernel)
theorem ki_X5_tally : Cond.instanceMethod yX5_tally ∈ GT := gt_of (List.mem_of_getElem? (i := 580) (by decide +kernel)) (by decide +kernel)
theorem kc_X5_tally : Cond.code yX5_tally cX5_tally 2 (some .int) ∈ GT := gt_of (List.mem_of_getElem? (i := 581) (by decide +kernel)) (by decide +kernel)
theorem km_L_121 : Cond.methodLink RL 121 yX5_digest ∈ GT := gt_of (List.mem_of_getElem? (i := 582) (by decide +kernel)) (by decide +kernel)
theorem ki_X5_digest : Cond.instanceMethod yX5_digest ∈ GT := gt_of (List.mem_of_getElem? (i := 583) (by decide +kernel)) (by decide +kernel)
theorem ks_X5_digest : Cond.selects RX5 yX5_digest yX5_digest ∈ GT := gt_of (List.mem_of_getElem? (i := 584) (by decide +kernel)) (by decide +kernel)
theorem kc_X5_digest : Cond.code yX5_digest cX5_digest 6 (some .long) ∈ GT := gt_of (List.mem_of_getElem? (i := 585) (by decide +kernel)) (by decide +kernel)
theorem kk_X5_207 : Cond.constantLong RX5 207 (1689) ∈ GT := gt_of (List.mem_of_getElem? (i := 586) (by decide +kernel)) (by decide +kernel)
theorem kk_X5_209 : Cond.constantLong RX5 209 (31) ∈ GT := gt_of (List.mem_of_getElem? (i := 587) (by decide +kernel)) (by decide +kernel)
theorem km_X5_211 : Cond.methodLink RX5 211 yX5_digestCell ∈ GT := gt_of (List.mem_of_getElem? (i := 588) (by decide +kernel)) (by decide +kernel)
theorem ki_X5_digestCell : Cond.instanceMethod yX5_digestCell ∈ GT := gt_of (List.mem_of_getElem? (i := 590) (by decide +kernel)) (by decide +kernel)
theorem kc_X5_digestCell : Cond.code yX5_digestCell cX5_digestCell 11 (some .long) ∈ GT := gt_of (List.mem_of_getElem? (i := 591) (by decide +kernel)) (by decide +kernel)
theorem kcl_L_10 : Cond.classLink RL 10 RX6 ∈ GT := gt_of (List.mem_of_getElem? (i := 592) (by decide +kernel)) (by decide +kernel)
theorem kia_X6 : Cond.instantiable RX6 27 ∈ GT := gt_of (List.mem_of_getElem? (i := 593) (by decide +kernel)) (by decide +kernel)
theorem km_L_12 : Cond.methodLink RL 12 yX6_init ∈ GT := gt_of (List.mem_of_getElem? (i := 594) (by decide +kernel)) (by decide +kernel)
theorem ki_X6_init : Cond.instanceMethod yX6_init ∈ GT := gt_of (List.mem_of_getElem? (i := 595) (by decide +kernel)) (by decide +kernel)
theorem kc_X6_init : Cond.code yX6_init cX6_init 1 none ∈ GT := gt_of (List.mem_of_getElem? (i := 596) (by decide +kernel)) (by decide +kernel)
theorem km_X6_1 : Cond.methodLink RX6 1 objectInit ∈ GT := gt_of (List.mem_of_getElem? (i := 597) (by decide +kernel)) (by decide +kernel)
theorem kf_X6_7 : Cond.fieldLink RX6 7 (TX6 0).1 (TX6 0).2.1 (TX6 0).2.2.1 ∈ GT := gt_of (List.mem_of_getElem? (i := 598) (by decide +kernel)) (by decide +kernel)
theorem kf_X6_13 : Cond.fieldLink RX6 13 (TX6 1).1 (TX6 1).2.1 (TX6 1).2.2.1 ∈ GT := gt_of (List.mem_of_getElem? (i := 599) (by decide +kernel)) (by decide +kernel)
theorem kf_X6_16 : Cond.fieldLink RX6 16 (TX6 2).1 (TX6 2).2.1 (TX6 2).2.2.1 ∈ GT := gt_of (List.mem_of_getElem? (i := 600) (by decide +kernel)) (by decide +kernel)
theorem kf_X6_46 : Cond.fieldLink RX6 46 (TX6 3).1 (TX6 3).2.1 (TX6 3).2.2.1 ∈ GT := gt_of (List.mem_of_getElem? (i := 601) (by decide +kernel)) (by decide +kernel)
theorem kf_X6_19 : Cond.fieldLink RX6 19 (TX6 4).1 (TX6 4).2.1 (TX6 4).2.2.1 ∈ GT := gt_of (List.mem_of_getElem? (i := 602) (by decide +kernel)) (by decide +kernel)
theorem kf_X6_22 : Cond.fieldLink RX6 22 (TX6 5).1 (TX6 5).2.1 (TX6 5).2.2.1 ∈ GT := gt_of (List.mem_of_getElem? (i := 603) (by decide +kernel)) (by decide +kernel)
theorem kf_X6_227 : Cond.fieldLink RX6 227 (TX6 6).1 (TX6 6).2.1 (TX6 6).2.2.1 ∈ GT := gt_of (List.mem_of_getElem? (i := 604) (by decide +kernel)) (by decide +kernel)
theorem kf_X6_174 : Cond.fieldLink RX6 174 (TX6 7).1 (TX6 7).2.1 (TX6 7).2.2.1 ∈ GT := gt_of (List.mem_of_getElem? (i := 605) (by decide +kernel)) (by decide +kernel)
theorem kf_X6_167 : Cond.fieldLink RX6 167 (TX6 8).1 (TX6 8).2.1 (TX6 8).2.2.1 ∈ GT := gt_of (List.mem_of_getElem? (i := 606) (by decide +kernel)) (by decide +kernel)
theorem kf_X6_161 : Cond.fieldLink RX6 161 (TX6 9).1 (TX6 9).2.1 (TX6 9).2.2.1 ∈ GT := gt_of (List.mem_of_getElem? (i := 607) (by decide +kernel)) (by decide +kernel)
theorem kf_X6_164 : Cond.fieldLink RX6 164 (TX6 10).1 (TX6 10).2.1 (TX6 10).2.2.1 ∈ GT := gt_of (List.mem_of_getElem? (i := 608) (by decide +kernel)) (by decide +kernel)
theorem kf_X6_25 : Cond.fieldLink RX6 25 (TX6 11).1 (TX6 11).2.1 (TX6 11).2.2.1 ∈ GT := gt_of (List.mem_of_getElem? (i := 609) (by decide +kernel)) (by decide +kernel)
theorem kf_X6_155 : Cond.fieldLink RX6 155 (TX6 12).1 (TX6 12).2.1 (TX6 12).2.2.1 ∈ GT := gt_of (List.mem_of_getElem? (i := 610) (by decide +kernel)) (by decide +kernel)
theorem kf_X6_158 : Cond.fieldLink RX6 158 (TX6 13).1 (TX6 13).2.1 (TX6 13).2.2.1 ∈ GT := gt_of (List.mem_of_getElem? (i := 611) (by decide +kernel)) (by decide +kernel)
theorem kf_X6_28 : Cond.fieldLink RX6 28 (TX6 14).1 (TX6 14).2.1 (TX6 14).2.2.1 ∈ GT := gt_of (List.mem_of_getElem? (i := 612) (by decide +kernel)) (by decide +kernel)
theorem kf_X6_31 : Cond.fieldLink RX6 31 (TX6 15).1 (TX6 15).2.1 (TX6 15).2.2.1 ∈ GT := gt_of (List.mem_of_getElem? (i := 613) (by decide +kernel)) (by decide +kernel)
theorem kf_X6_34 : Cond.fieldLink RX6 34 (TX6 16).1 (TX6 16).2.1 (TX6 16).2.2.1 ∈ GT := gt_of (List.mem_of_getElem? (i := 614) (by decide +kernel)) (by decide +kernel)
theorem kf_X6_37 : Cond.fieldLink RX6 37 (TX6 17).1 (TX6 17).2.1 (TX6 17).2.2.1 ∈ GT := gt_of (List.mem_of_getElem? (i := 615) (by decide +kernel)) (by decide +kernel)
theorem kf_X6_193 : Cond.fieldLink RX6 193 (TX6 18).1 (TX6 18).2.1 (TX6 18).2.2.1 ∈ GT := gt_of (List.mem_of_getElem? (i := 616) (by decide +kernel)) (by decide +kernel)
theorem kf_X6_197 : Cond.fieldLink RX6 197 (TX6 19).1 (TX6 19).2.1 (TX6 19).2.2.1 ∈ GT := gt_of (List.mem_of_getElem? (i := 617) (by decide +kernel)) (by decide +kernel)
theorem kf_X6_200 : Cond.fieldLink RX6 200 (TX6 20).1 (TX6 20).2.1 (TX6 20).2.2.1 ∈ GT := gt_of (List.mem_of_getElem? (i := 618) (by decide +kernel)) (by decide +kernel)
theorem kf_X6_40 : Cond.fieldLink RX6 40 (TX6 21).1 (TX6 21).2.1 (TX6 21).2.2.1 ∈ GT := gt_of (List.mem_of_getElem? (i := 619) (by decide +kernel)) (by decide +kernel)
theorem kf_X6_43 : Cond.fieldLink RX6 43 (TX6 22).1 (TX6 22).2.1 (TX6 22).2.2.1 ∈ GT := gt_of (List.mem_of_getElem? (i := 620) (by decide +kernel)) (by decide +kernel)
theorem kf_X6_248 : Cond.fieldLink RX6 248 (TX6 23).1 (TX6 23).2.1 (TX6 23).2.2.1 ∈ GT := gt_of (List.mem_of_getElem? (i := 621) (by decide +kernel)) (by decide +kernel)
theorem kf_X6_230 : Cond.fieldLink RX6 230 (TX6 24).1 (TX6 24).2.1 (TX6 24).2.2.1 ∈ GT := gt_of (List.mem_of_getElem? (i := 622) (by decide +kernel)) (by decide +kernel)
theorem kf_X6_236 : Cond.fieldLink RX6 236 (TX6 25).1 (TX6 25).2.1 (TX6 25).2.2.1 ∈ GT := gt_of (List.mem_of_getElem? (i := 623) (by decide +kernel)) (by decide +kernel)
theorem kf_X6_269 : Cond.fieldLink RX6 269 (TX6 26).1 (TX6 26).2.1 (TX6 26).2.2.1 ∈ GT := gt_of (List.mem_of_getElem? (i := 624) (by decide +kernel)) (by decide +kernel)
theorem km_L_116 : Cond.methodLink RL 116 yX6_back ∈ GT := gt_of (List.mem_of_getElem? (i := 680) (by decide +kernel)) (by decide +kernel)
theorem ki_X6_back : Cond.instanceMethod yX6_back ∈ GT := gt_of (List.mem_of_getElem? (i := 681) (by decide +kernel)) (by decide +kernel)
theorem ks_X6_back : Cond.selects RX6 yX6_back yX6_back ∈ GT := gt_of (List.mem_of_getElem? (i := 682) (by decide +kernel)) (by decide +kernel)
theorem kc_X6_back : Cond.code yX6_back cX6_back 2 (some .int) ∈ GT := gt_of (List.mem_of_getElem? (i := 683) (by decide +kernel)) (by decide +kernel)
theorem km_X6_50 : Cond.methodLink RX6 50 yX6_no ∈ GT := gt_of (List.mem_of_getElem? (i := 684) (by decide +kernel)) (by decide +kernel)
theorem ki_X6_no : Cond.instanceMethod yX6_no ∈ GT := gt_of (List.mem_of_getElem? (i := 686) (by decide +kernel)) (by decide +kernel)
theorem kc_X6_no : Cond.code yX6_no cX6_no 1 (some .int) ∈ GT := gt_of (List.mem_of_getElem? (i := 687) (by decide +kernel)) (by decide +kernel)
theorem km_L_17 : Cond.methodLink RL 17 yX6_grid ∈ GT := gt_of (List.mem_of_getElem? (i := 688) (by decide +kernel)) (by decide +kernel)
theorem ki_X6_grid : Cond.instanceMethod yX6_grid ∈ GT := gt_of (List.mem_of_getElem? (i := 689) (by decide +kernel)) (by decide +kernel)
theorem ks_X6_grid : Cond.selects RX6 yX6_grid yX6_grid ∈ GT := gt_of (List.mem_of_getElem? (i := 690) (by decide +kernel)) (by decide +kernel)
theorem kc_X6_grid : Cond.code yX6_grid cX6_grid 3 (some .int) ∈ GT := gt_of (List.mem_of_getElem? (i := 691) (by decide +kernel)) (by decide +kernel)
theorem km_X6_89 : Cond.methodLink RX6 89 yX6_laysAside ∈ GT := gt_of (List.mem_of_getElem? (i := 692) (by decide +kernel)) (by decide +kernel)
theorem ki_X6_laysAside : Cond.instanceMethod yX6_laysAside ∈ GT := gt_of (List.mem_of_getElem? (i := 694) (by decide +kernel)) (by decide +kernel)
theorem kc_X6_laysAside : Cond.code yX6_laysAside cX6_laysAside 2 none ∈ GT := gt_of (List.mem_of_getElem? (i := 695) (by decide +kernel)) (by decide +kernel)
theorem km_X6_92 : Cond.methodLink RX6 92 yX6_putGrid ∈ GT := gt_of (List.mem_of_getElem? (i := 696) (by decide +kernel)) (by decide +kernel)
theorem ki_X6_putGrid : Cond.instanceMethod yX6_putGrid ∈ GT := gt_of (List.mem_of_getElem? (i := 698) (by decide +kernel)) (by decide +kernel)
theorem kc_X6_putGrid : Cond.code yX6_putGrid cX6_putGrid 5 (some .int) ∈ GT := gt_of (List.mem_of_getElem? (i := 699) (by decide +kernel)) (by decide +kernel)
theorem km_X6_60 : Cond.methodLink RX6 60 yX6_in ∈ GT := gt_of (List.mem_of_getElem? (i := 700) (by decide +kernel)) (by decide +kernel)
theorem kst_X6_in : Cond.static yX6_in ∈ GT := gt_of (List.mem_of_getElem? (i := 701) (by decide +kernel)) (by decide +kernel)
theorem kc_X6_in : Cond.code yX6_in cX6_in 3 (some .boolean) ∈ GT := gt_of (List.mem_of_getElem? (i := 702) (by decide +kernel)) (by decide +kernel)
theorem km_X6_95 : Cond.methodLink RX6 95 yX6_finished ∈ GT := gt_of (List.mem_of_getElem? (i := 703) (by decide +kernel)) (by decide +kernel)
theorem ki_X6_finished : Cond.instanceMethod yX6_finished ∈ GT := gt_of (List.mem_of_getElem? (i := 705) (by decide +kernel)) (by decide +kernel)
theorem kc_X6_finished : Cond.code yX6_finished cX6_finished 2 (some .int) ∈ GT := gt_of (List.mem_of_getElem? (i := 706) (by decide +kernel)) (by decide +kernel)
theorem km_X6_54 : Cond.methodLink RX6 54 yX6_bad ∈ GT := gt_of (List.mem_of_getElem? (i := 707) (by decide +kernel)) (by decide +kernel)
theorem ki_X6_bad : Cond.instanceMethod yX6_bad ∈ GT := gt_of (List.mem_of_getElem? (i := 709) (by decide +kernel)) (by decide +kernel)
theorem kc_X6_bad : Cond.code yX6_bad cX6_bad 1 (some .int) ∈ GT := gt_of (List.mem_of_getElem? (i := 710) (by decide +kernel)) (by decide +kernel)
theorem km_X6_57 : Cond.methodLink RX6 57 yX6_remembers ∈ GT := gt_of (List.mem_of_getElem? (i := 711) (by decide +kernel)) (by decide +kernel)
theorem ki_X6_remembers : Cond.instanceMethod yX6_remembers ∈ GT := gt_of (List.mem_of_getElem? (i := 713) (by decide +kernel)) (by decide +kernel)
theorem kc_X6_remembers : Cond.code yX6_remembers cX6_remembers 2 none ∈ GT := gt_of (List.mem_of_getElem? (i := 714) (by decide +kernel)) (by decide +kernel)
theorem km_L_21 : Cond.methodLink RL 21 yX6_wave ∈ GT := gt_of (List.mem_of_getElem? (i := 715) (by decide +kernel)) (by decide +kernel)
theorem ki_X6_wave : Cond.instanceMethod yX6_wave ∈ GT := gt_of (List.mem_of_getElem? (i := 716) (by decide +kernel)) (by decide +kernel)
theorem ks_X6_wave : Cond.selects RX6 yX6_wave yX6_wave ∈ GT := gt_of (List.mem_of_getElem? (i := 717) (by decide +kernel)) (by decide +kernel)
theorem kc_X6_wave : Cond.code yX6_wave cX6_wave 3 (some .int) ∈ GT := gt_of (List.mem_of_getElem? (i := 718) (by decide +kernel)) (by decide +kernel)
theorem km_X6_98 : Cond.methodLink RX6 98 yX6_putWave ∈ GT := gt_of (List.mem_of_getElem? (i := 719) (by decide +kernel)) (by decide +kernel)
theorem ki_X6_putWave : Cond.instanceMethod yX6_putWave ∈ GT := gt_of (List.mem_of_getElem? (i := 721) (by decide +kernel)) (by decide +kernel)
theorem kc_X6_putWave : Cond.code yX6_putWave cX6_putWave 4 (some .int) ∈ GT := gt_of (List.mem_of_getElem? (i := 722) (by decide +kernel)) (by decide +kernel)
theorem km_L_25 : Cond.methodLink RL 25 yX6_sets ∈ GT := gt_of (List.mem_of_getElem? (i := 723) (by decide +kernel)) (by decide +kernel)
theorem ki_X6_sets : Cond.instanceMethod yX6_sets ∈ GT := gt_of (List.mem_of_getElem? (i := 724) (by decide +kernel)) (by decide +kernel)
theorem ks_X6_sets : Cond.selects RX6 yX6_sets yX6_sets ∈ GT := gt_of (List.mem_of_getElem? (i := 725) (by decide +kernel)) (by decide +kernel)
theorem kc_X6_sets : Cond.code yX6_sets cX6_sets 3 (some .int) ∈ GT := gt_of (List.mem_of_getElem? (i := 726) (by decide +kernel)) (by decide +kernel)
theorem km_X6_101 : Cond.methodLink RX6 101 yX6_putSetting ∈ GT := gt_of (List.mem_of_getElem? (i := 727) (by decide +kernel)) (by decide +kernel)
theorem ki_X6_putSetting : Cond.instanceMethod yX6_putSetting ∈ GT := gt_of (List.mem_of_getElem? (i := 729) (by decide +kernel)) (by decide +kernel)
theorem kc_X6_putSetting : Cond.code yX6_putSetting cX6_putSetting 4 (some .int) ∈ GT := gt_of (List.mem_of_getElem? (i := 730) (by decide +kernel)) (by decide +kernel)
theorem km_X6_64 : Cond.methodLink RX6 64 yX6_maySet ∈ GT := gt_of (List.mem_of_getElem? (i := 731) (by decide +kernel)) (by decide +kernel)
theorem kst_X6_maySet : Cond.static yX6_maySet ∈ GT := gt_of (List.mem_of_getElem? (i := 732) (by decide +kernel)) (by decide +kernel)
theorem kc_X6_maySet : Cond.code yX6_maySet cX6_maySet 2 (some .boolean) ∈ GT := gt_of (List.mem_of_getElem? (i := 733) (by decide +kernel)) (by decide +kernel)
theorem km_L_30 : Cond.methodLink RL 30 yX6_sample ∈ GT := gt_of (List.mem_of_getElem? (i := 734) (by decide +kernel)) (by decide +kernel)
theorem ki_X6_sample : Cond.instanceMethod yX6_sample ∈ GT := gt_of (List.mem_of_getElem? (i := 735) (by decide +kernel)) (by decide +kernel)
theorem ks_X6_sample : Cond.selects RX6 yX6_sample yX6_sample ∈ GT := gt_of (List.mem_of_getElem? (i := 736) (by decide +kernel)) (by decide +kernel)
theorem kc_X6_sample : Cond.code yX6_sample cX6_sample 8 (some .int) ∈ GT := gt_of (List.mem_of_getElem? (i := 737) (by decide +kernel)) (by decide +kernel)
theorem km_X6_69 : Cond.methodLink RX6 69 yX6_isCell ∈ GT := gt_of (List.mem_of_getElem? (i := 738) (by decide +kernel)) (by decide +kernel)
theorem ki_X6_isCell : Cond.instanceMethod yX6_isCell ∈ GT := gt_of (List.mem_of_getElem? (i := 740) (by decide +kernel)) (by decide +kernel)
theorem kc_X6_isCell : Cond.code yX6_isCell cX6_isCell 4 (some .boolean) ∈ GT := gt_of (List.mem_of_getElem? (i := 741) (by decide +kernel)) (by decide +kernel)
theorem km_X6_72 : Cond.methodLink RX6 72 yX6_cellPlace ∈ GT := gt_of (List.mem_of_getElem? (i := 742) (by decide +kernel)) (by decide +kernel)
theorem kst_X6_cellPlace : Cond.static yX6_cellPlace ∈ GT := gt_of (List.mem_of_getElem? (i := 743) (by decide +kernel)) (by decide +kernel)
theorem kc_X6_cellPlace : Cond.code yX6_cellPlace cX6_cellPlace 3 (some .int) ∈ GT := gt_of (List.mem_of_getElem? (i := 744) (by decide +kernel)) (by decide +kernel)
theorem km_X6_104 : Cond.methodLink RX6 104 yX6_putSample ∈ GT := gt_of (List.mem_of_getElem? (i := 745) (by decide +kernel)) (by decide +kernel)
theorem ki_X6_putSample : Cond.instanceMethod yX6_putSample ∈ GT := gt_of (List.mem_of_getElem? (i := 747) (by decide +kernel)) (by decide +kernel)
theorem kc_X6_putSample : Cond.code yX6_putSample cX6_putSample 4 (some .int) ∈ GT := gt_of (List.mem_of_getElem? (i := 748) (by decide +kernel)) (by decide +kernel)
theorem km_L_35 : Cond.methodLink RL 35 yX6_echo ∈ GT := gt_of (List.mem_of_getElem? (i := 749) (by decide +kernel)) (by decide +kernel)
theorem ki_X6_echo : Cond.instanceMethod yX6_echo ∈ GT := gt_of (List.mem_of_getElem? (i := 750) (by decide +kernel)) (by decide +kernel)
theorem ks_X6_echo : Cond.selects RX6 yX6_echo yX6_echo ∈ GT := gt_of (List.mem_of_getElem? (i := 751) (by decide +kernel)) (by decide +kernel)
theorem kc_X6_echo : Cond.code yX6_echo cX6_echo 6 (some .int) ∈ GT := gt_of (List.mem_of_getElem? (i := 752) (by decide +kernel)) (by decide +kernel)
theorem km_X6_107 : Cond.methodLink RX6 107 yX6_putEcho ∈ GT := gt_of (List.mem_of_getElem? (i := 753) (by decide +kernel)) (by decide +kernel)
theorem ki_X6_putEcho : Cond.instanceMethod yX6_putEcho ∈ GT := gt_of (List.mem_of_getElem? (i := 755) (by decide +kernel)) (by decide +kernel)
theorem kc_X6_putEcho : Cond.code yX6_putEcho cX6_putEcho 15 (some .int) ∈ GT := gt_of (List.mem_of_getElem? (i := 756) (by decide +kernel)) (by decide +kernel)
theorem kk_X6_76 : Cond.constantFloat RX6 76 (1082130432) ∈ GT := gt_of (List.mem_of_getElem? (i := 757) (by decide +kernel)) (by decide +kernel)
theorem km_X6_77 : Cond.methodLink RX6 77 yX6_echoParts ∈ GT := gt_of (List.mem_of_getElem? (i := 758) (by decide +kernel)) (by decide +kernel)
theorem kst_X6_echoParts : Cond.static yX6_echoParts ∈ GT := gt_of (List.mem_of_getElem? (i := 759) (by decide +kernel)) (by decide +kernel)
theorem kc_X6_echoParts : Cond.code yX6_echoParts cX6_echoParts 5 (some .int) ∈ GT := gt_of (List.mem_of_getElem? (i := 760) (by decide +kernel)) (by decide +kernel)
theorem kk_X6_68 : Cond.constantFloat RX6 68 (1077936128) ∈ GT := gt_of (List.mem_of_getElem? (i := 761) (by decide +kernel)) (by decide +kernel)
theorem km_X6_81 : Cond.methodLink RX6 81 yX6_raised ∈ GT := gt_of (List.mem_of_getElem? (i := 762) (by decide +kernel)) (by decide +kernel)
theorem ki_X6_raised : Cond.instanceMethod yX6_raised ∈ GT := gt_of (List.mem_of_getElem? (i := 764) (by decide +kernel)) (by decide +kernel)
theorem kc_X6_raised : Cond.code yX6_raised cX6_raised 4 (some .int) ∈ GT := gt_of (List.mem_of_getElem? (i := 765) (by decide +kernel)) (by decide +kernel)
theorem km_X6_85 : Cond.methodLink RX6 85 yX6_fullOnes ∈ GT := gt_of (List.mem_of_getElem? (i := 766) (by decide +kernel)) (by decide +kernel)
theorem ki_X6_fullOnes : Cond.instanceMethod yX6_fullOnes ∈ GT := gt_of (List.mem_of_getElem? (i := 768) (by decide +kernel)) (by decide +kernel)
theorem kc_X6_fullOnes : Cond.code yX6_fullOnes cX6_fullOnes 4 (some .int) ∈ GT := gt_of (List.mem_of_getElem? (i := 769) (by decide +kernel)) (by decide +kernel)
theorem km_L_40 : Cond.methodLink RL 40 yX6_shines ∈ GT := gt_of (List.mem_of_getElem? (i := 770) (by decide +kernel)) (by decide +kernel)
theorem ki_X6_shines : Cond.instanceMethod yX6_shines ∈ GT := gt_of (List.mem_of_getElem? (i := 771) (by decide +kernel)) (by decide +kernel)
theorem ks_X6_shines : Cond.selects RX6 yX6_shines yX6_shines ∈ GT := gt_of (List.mem_of_getElem? (i := 772) (by decide +kernel)) (by decide +kernel)
theorem kc_X6_shines : Cond.code yX6_shines cX6_shines 5 (some .int) ∈ GT := gt_of (List.mem_of_getElem? (i := 773) (by decide +kernel)) (by decide +kernel)
theorem km_X6_111 : Cond.methodLink RX6 111 yX6_putShine ∈ GT := gt_of (List.mem_of_getElem? (i := 774) (by decide +kernel)) (by decide +kernel)
theorem ki_X6_putShine : Cond.instanceMethod yX6_putShine ∈ GT := gt_of (List.mem_of_getElem? (i := 776) (by decide +kernel)) (by decide +kernel)
theorem kc_X6_putShine : Cond.code yX6_putShine cX6_putShine 8 (some .int) ∈ GT := gt_of (List.mem_of_getElem? (i := 777) (by decide +kernel)) (by decide +kernel)
theorem km_L_45 : Cond.methodLink RL 45 yX6_clears ∈ GT := gt_of (List.mem_of_getElem? (i := 778) (by decide +kernel)) (by decide +kernel)
theorem ki_X6_clears : Cond.instanceMethod yX6_clears ∈ GT := gt_of (List.mem_of_getElem? (i := 779) (by decide +kernel)) (by decide +kernel)
theorem ks_X6_clears : Cond.selects RX6 yX6_clears yX6_clears ∈ GT := gt_of (List.mem_of_getElem? (i := 780) (by decide +kernel)) (by decide +kernel)
theorem kc_X6_clears : Cond.code yX6_clears cX6_clears 4 (some .int) ∈ GT := gt_of (List.mem_of_getElem? (i := 781) (by decide +kernel)) (by decide +kernel)
theorem km_X6_115 : Cond.methodLink RX6 115 yX6_putClear ∈ GT := gt_of (List.mem_of_getElem? (i := 782) (by decide +kernel)) (by decide +kernel)
theorem ki_X6_putClear : Cond.instanceMethod yX6_putClear ∈ GT := gt_of (List.mem_of_getElem? (i := 784) (by decide +kernel)) (by decide +kernel)
theorem kc_X6_putClear : Cond.code yX6_putClear cX6_putClear 7 (some .int) ∈ GT := gt_of (List.mem_of_getElem? (i := 785) (by decide +kernel)) (by decide +kernel)
theorem km_L_49 : Cond.methodLink RL 49 yX6_raw ∈ GT := gt_of (List.mem_of_getElem? (i := 786) (by decide +kernel)) (by decide +kernel)
theorem ki_X6_raw : Cond.instanceMethod yX6_raw ∈ GT := gt_of (List.mem_of_getElem? (i := 787) (by decide +kernel)) (by decide +kernel)
theorem ks_X6_raw : Cond.selects RX6 yX6_raw yX6_raw ∈ GT := gt_of (List.mem_of_getElem? (i := 788) (by decide +kernel)) (by decide +kernel)
theorem kc_X6_raw : Cond.code yX6_raw cX6_raw 6 (some .int) ∈ GT := gt_of (List.mem_of_getElem? (i := 789) (by decide +kernel)) (by decide +kernel)
theorem km_X6_136 : Cond.methodLink RX6 136 yX6_isRate ∈ GT := gt_of (List.mem_of_getElem? (i := 790) (by decide +kernel)) (by decide +kernel)
theorem ki_X6_isRate : Cond.instanceMethod yX6_isRate ∈ GT := gt_of (List.mem_of_getElem? (i := 792) (by decide +kernel)) (by decide +kernel)
theorem kc_X6_isRate : Cond.code yX6_isRate cX6_isRate 5 (some .boolean) ∈ GT := gt_of (List.mem_of_getElem? (i := 793) (by decide +kernel)) (by decide +kernel)
theorem km_L_53 : Cond.methodLink RL 53 yX6_of ∈ GT := gt_of (List.mem_of_getElem? (i := 794) (by decide +kernel)) (by decide +kernel)
theorem ki_X6_of : Cond.instanceMethod yX6_of ∈ GT := gt_of (List.mem_of_getElem? (i := 795) (by decide +kernel)) (by decide +kernel)
theorem ks_X6_of : Cond.selects RX6 yX6_of yX6_of ∈ GT := gt_of (List.mem_of_getElem? (i := 796) (by decide +kernel)) (by decide +kernel)
theorem kc_X6_of : Cond.code yX6_of cX6_of 7 (some .int) ∈ GT := gt_of (List.mem_of_getElem? (i := 797) (by decide +kernel)) (by decide +kernel)
theorem km_X6_118 : Cond.methodLink RX6 118 yX6_acrossOf ∈ GT := gt_of (List.mem_of_getElem? (i := 798) (by decide +kernel)) (by decide +kernel)
theorem ki_X6_acrossOf : Cond.instanceMethod yX6_acrossOf ∈ GT := gt_of (List.mem_of_getElem? (i := 800) (by decide +kernel)) (by decide +kernel)
theorem kc_X6_acrossOf : Cond.code yX6_acrossOf cX6_acrossOf 2 (some .int) ∈ GT := gt_of (List.mem_of_getElem? (i := 801) (by decide +kernel)) (by decide +kernel)
theorem km_X6_124 : Cond.methodLink RX6 124 yX6_downOf ∈ GT := gt_of (List.mem_of_getElem? (i := 802) (by decide +kernel)) (by decide +kernel)
theorem ki_X6_downOf : Cond.instanceMethod yX6_downOf ∈ GT := gt_of (List.mem_of_getElem? (i := 804) (by decide +kernel)) (by decide +kernel)
theorem kc_X6_downOf : Cond.code yX6_downOf cX6_downOf 2 (some .int) ∈ GT := gt_of (List.mem_of_getElem? (i := 805) (by decide +kernel)) (by decide +kernel)
theorem km_X6_127 : Cond.methodLink RX6 127 yX6_sumOf ∈ GT := gt_of (List.mem_of_getElem? (i := 806) (by decide +kernel)) (by decide +kernel)
theorem ki_X6_sumOf : Cond.instanceMethod yX6_sumOf ∈ GT := gt_of (List.mem_of_getElem? (i := 808) (by decide +kernel)) (by decide +kernel)
theorem kc_X6_sumOf : Cond.code yX6_sumOf cX6_sumOf 2 (some .int) ∈ GT := gt_of (List.mem_of_getElem? (i := 809) (by decide +kernel)) (by decide +kernel)
theorem km_X6_121 : Cond.methodLink RX6 121 yX6_size ∈ GT := gt_of (List.mem_of_getElem? (i := 810) (by decide +kernel)) (by decide +kernel)
theorem kst_X6_size : Cond.static yX6_size ∈ GT := gt_of (List.mem_of_getElem? (i := 811) (by decide +kernel)) (by decide +kernel)
theorem kc_X6_size : Cond.code yX6_size cX6_size 1 (some .int) ∈ GT := gt_of (List.mem_of_getElem? (i := 812) (by decide +kernel)) (by decide +kernel)
theorem km_X6_140 : Cond.methodLink RX6 140 yX6_residueOf ∈ GT := gt_of (List.mem_of_getElem? (i := 813) (by decide +kernel)) (by decide +kernel)
theorem ki_X6_residueOf : Cond.instanceMethod yX6_residueOf ∈ GT := gt_of (List.mem_of_getElem? (i := 815) (by decide +kernel)) (by decide +kernel)
theorem kc_X6_residueOf : Cond.code yX6_residueOf cX6_residueOf 5 (some .int) ∈ GT := gt_of (List.mem_of_getElem? (i := 816) (by decide +kernel)) (by decide +kernel)
theorem km_X6_131 : Cond.methodLink RX6 131 yX6_phaseOf ∈ GT := gt_of (List.mem_of_getElem? (i := 817) (by decide +kernel)) (by decide +kernel)
theorem ki_X6_phaseOf : Cond.instanceMethod yX6_phaseOf ∈ GT := gt_of (List.mem_of_getElem? (i := 819) (by decide +kernel)) (by decide +kernel)
theorem kc_X6_phaseOf : Cond.code yX6_phaseOf cX6_phaseOf 3 (some .float) ∈ GT := gt_of (List.mem_of_getElem? (i := 820) (by decide +kernel)) (by decide +kernel)
theorem kk_X6_130 : Cond.constantFloat RX6 130 (3212836864) ∈ GT := gt_of (List.mem_of_getElem? (i := 821) (by decide +kernel)) (by decide +kernel)
theorem kk_X6_135 : Cond.constantFloat RX6 135 (1056964608) ∈ GT := gt_of (List.mem_of_getElem? (i := 822) (by decide +kernel)) (by decide +kernel)
theorem km_L_57 : Cond.methodLink RL 57 yX6_bits ∈ GT := gt_of (List.mem_of_getElem? (i := 823) (by decide +kernel)) (by decide +kernel)
theorem ki_X6_bits : Cond.instanceMethod yX6_bits ∈ GT := gt_of (List.mem_of_getElem? (i := 824) (by decide +kernel)) (by decide +kernel)
theorem ks_X6_bits : Cond.selects RX6 yX6_bits yX6_bits ∈ GT := gt_of (List.mem_of_getElem? (i := 825) (by decide +kernel)) (by decide +kernel)
theorem kc_X6_bits : Cond.code yX6_bits cX6_bits 7 (some .int) ∈ GT := gt_of (List.mem_of_getElem? (i := 826) (by decide +kernel)) (by decide +kernel)
theorem km_X6_143 : Cond.methodLink RX6 143 yX6_strengthOf ∈ GT := gt_of (List.mem_of_getElem? (i := 827) (by decide +kernel)) (by decide +kernel)
theorem ki_X6_strengthOf : Cond.instanceMethod yX6_strengthOf ∈ GT := gt_of (List.mem_of_getElem? (i := 829) (by decide +kernel)) (by decide +kernel)
theorem kc_X6_strengthOf : Cond.code yX6_strengthOf cX6_strengthOf 2 (some .float) ∈ GT := gt_of (List.mem_of_getElem? (i := 830) (by decide +kernel)) (by decide +kernel)
theorem km_X6_146 : Cond.methodLink RX6 146 yJxf58ca_floatToIntBits_5c35a ∈ GT := gt_of (List.mem_of_getElem? (i := 831) (by decide +kernel)) (by decide +kernel)
theorem kst_Jxf58ca_floatToIntBits_5c35a : Cond.static yJxf58ca_floatToIntBits_5c35a ∈ GT := gt_of (List.mem_of_getElem? (i := 832) (by decide +kernel)) (by decide +kernel)
theorem kc_Jxf58ca_floatToIntBits_5c35a : Cond.code yJxf58ca_floatToIntBits_5c35a cJxf58ca_floatToIntBits_5c35a 1 (some .int) ∈ GT := gt_of (List.mem_of_getElem? (i := 833) (by decide +kernel)) (by decide +kernel)
theorem km_Jxf58ca_59 : Cond.methodLink RJxf58ca 59 yJxf58ca_isNaN_12338 ∈ GT := gt_of (List.mem_of_getElem? (i := 834) (by decide +kernel)) (by decide +kernel)
theorem kst_Jxf58ca_isNaN_12338 : Cond.static yJxf58ca_isNaN_12338 ∈ GT := gt_of (List.mem_of_getElem? (i := 835) (by decide +kernel)) (by decide +kernel)
theorem kc_Jxf58ca_isNaN_12338 : Cond.code yJxf58ca_isNaN_12338 cJxf58ca_isNaN_12338 1 (some .boolean) ∈ GT := gt_of (List.mem_of_getElem? (i := 836) (by decide +kernel)) (by decide +kernel)
theorem km_Jxf58ca_74 : Cond.methodLink RJxf58ca 74 ⟨"java/lang/Float", "floatToRawIntBits", "(F)I"⟩ ∈ GT := gt_of (List.mem_of_getElem? (i := 837) (by decide +kernel)) (by decide +kernel)
end
section
theorem kst_Float_floatToRawIntBits : Cond.static ⟨"java/lang/Float", "floatToRawIntBits", "(F)I"⟩ ∈ GT := gt_of (List.mem_of_getElem? (i := 838) (by decide +kernel)) (by decide +kernel)
theorem kna_Float_floatToRawIntBits : Cond.native ⟨"java/lang/Float", "floatToRawIntBits", "(F)I"⟩ ∈ GT := gt_of (List.mem_of_getElem? (i := 839) (by decide +kernel)) (by decide +kernel)
theorem kk_Jxf58ca_77 : Cond.constant RJxf58ca 77 (2143289344) ∈ GT := gt_of (List.mem_of_getElem? (i := 840) (by decide +kernel)) (by decide +kernel)
theorem km_L_65 : Cond.methodLink RL 65 yX6_away ∈ GT := gt_of (List.mem_of_getElem? (i := 841) (by decide +kernel)) (by decide +kernel)
theorem ki_X6_away : Cond.instanceMethod yX6_away ∈ GT := gt_of (List.mem_of_getElem? (i := 842) (by decide +kernel)) (by decide +kernel)
theorem ks_X6_away : Cond.selects RX6 yX6_away yX6_away ∈ GT := gt_of (List.mem_of_getElem? (i := 843) (by decide +kernel)) (by decide +kernel)
theorem kc_X6_away : Cond.code yX6_away cX6_away 8 (some .int) ∈ GT := gt_of (List.mem_of_getElem? (i := 844) (by decide +kernel)) (by decide +kernel)
theorem km_X6_152 : Cond.methodLink RX6 152 yX6_awayOf ∈ GT := gt_of (List.mem_of_getElem? (i := 845) (by decide +kernel)) (by decide +kernel)
theorem kst_X6_awayOf : Cond.static yX6_awayOf ∈ GT := gt_of (List.mem_of_getElem? (i := 846) (by decide +kernel)) (by decide +kernel)
theorem kc_X6_awayOf : Cond.code yX6_awayOf cX6_awayOf 4 (some .int) ∈ GT := gt_of (List.mem_of_getElem? (i := 847) (by decide +kernel)) (by decide +kernel)
theorem km_L_61 : Cond.methodLink RL 61 yX6_wraps ∈ GT := gt_of (List.mem_of_getElem? (i := 848) (by decide +kernel)) (by decide +kernel)
theorem ki_X6_wraps : Cond.instanceMethod yX6_wraps ∈ GT := gt_of (List.mem_of_getElem? (i := 849) (by decide +kernel)) (by decide +kernel)
theorem ks_X6_wraps : Cond.selects RX6 yX6_wraps yX6_wraps ∈ GT := gt_of (List.mem_of_getElem? (i := 850) (by decide +kernel)) (by decide +kernel)
theorem kc_X6_wraps : Cond.code yX6_wraps cX6_wraps 5 (some .int) ∈ GT := gt_of (List.mem_of_getElem? (i := 851) (by decide +kernel)) (by decide +kernel)
theorem km_X6_187 : Cond.methodLink RX6 187 yX6_looksAt ∈ GT := gt_of (List.mem_of_getElem? (i := 852) (by decide +kernel)) (by decide +kernel)
theorem ki_X6_looksAt : Cond.instanceMethod yX6_looksAt ∈ GT := gt_of (List.mem_of_getElem? (i := 854) (by decide +kernel)) (by decide +kernel)
theorem kc_X6_looksAt : Cond.code yX6_looksAt cX6_looksAt 4 none ∈ GT := gt_of (List.mem_of_getElem? (i := 855) (by decide +kernel)) (by decide +kernel)
theorem km_X6_170 : Cond.methodLink RX6 170 yX6_isBright ∈ GT := gt_of (List.mem_of_getElem? (i := 856) (by decide +kernel)) (by decide +kernel)
theorem ki_X6_isBright : Cond.instanceMethod yX6_isBright ∈ GT := gt_of (List.mem_of_getElem? (i := 858) (by decide +kernel)) (by decide +kernel)
theorem kc_X6_isBright : Cond.code yX6_isBright cX6_isBright 4 (some .boolean) ∈ GT := gt_of (List.mem_of_getElem? (i := 859) (by decide +kernel)) (by decide +kernel)
theorem km_X6_177 : Cond.methodLink RX6 177 yX6_isDark ∈ GT := gt_of (List.mem_of_getElem? (i := 860) (by decide +kernel)) (by decide +kernel)
theorem ki_X6_isDark : Cond.instanceMethod yX6_isDark ∈ GT := gt_of (List.mem_of_getElem? (i := 862) (by decide +kernel)) (by decide +kernel)
theorem kc_X6_isDark : Cond.code yX6_isDark cX6_isDark 4 (some .boolean) ∈ GT := gt_of (List.mem_of_getElem? (i := 863) (by decide +kernel)) (by decide +kernel)
theorem km_X6_180 : Cond.methodLink RX6 180 yX6_bestOf ∈ GT := gt_of (List.mem_of_getElem? (i := 864) (by decide +kernel)) (by decide +kernel)
theorem ki_X6_bestOf : Cond.instanceMethod yX6_bestOf ∈ GT := gt_of (List.mem_of_getElem? (i := 866) (by decide +kernel)) (by decide +kernel)
theorem kc_X6_bestOf : Cond.code yX6_bestOf cX6_bestOf 9 (some .int) ∈ GT := gt_of (List.mem_of_getElem? (i := 867) (by decide +kernel)) (by decide +kernel)
theorem km_X6_183 : Cond.methodLink RX6 183 yX6_widens ∈ GT := gt_of (List.mem_of_getElem? (i := 868) (by decide +kernel)) (by decide +kernel)
theorem ki_X6_widens : Cond.instanceMethod yX6_widens ∈ GT := gt_of (List.mem_of_getElem? (i := 870) (by decide +kernel)) (by decide +kernel)
theorem kc_X6_widens : Cond.code yX6_widens cX6_widens 2 none ∈ GT := gt_of (List.mem_of_getElem? (i := 871) (by decide +kernel)) (by decide +kernel)
theorem km_L_69 : Cond.methodLink RL 69 yX6_mark ∈ GT := gt_of (List.mem_of_getElem? (i := 872) (by decide +kernel)) (by decide +kernel)
theorem ki_X6_mark : Cond.instanceMethod yX6_mark ∈ GT := gt_of (List.mem_of_getElem? (i := 873) (by decide +kernel)) (by decide +kernel)
theorem ks_X6_mark : Cond.selects RX6 yX6_mark yX6_mark ∈ GT := gt_of (List.mem_of_getElem? (i := 874) (by decide +kernel)) (by decide +kernel)
theorem kc_X6_mark : Cond.code yX6_mark cX6_mark 4 (some .int) ∈ GT := gt_of (List.mem_of_getElem? (i := 875) (by decide +kernel)) (by decide +kernel)
theorem km_L_73 : Cond.methodLink RL 73 yX6_cell ∈ GT := gt_of (List.mem_of_getElem? (i := 876) (by decide +kernel)) (by decide +kernel)
theorem ki_X6_cell : Cond.instanceMethod yX6_cell ∈ GT := gt_of (List.mem_of_getElem? (i := 877) (by decide +kernel)) (by decide +kernel)
theorem ks_X6_cell : Cond.selects RX6 yX6_cell yX6_cell ∈ GT := gt_of (List.mem_of_getElem? (i := 878) (by decide +kernel)) (by decide +kernel)
theorem kc_X6_cell : Cond.code yX6_cell cX6_cell 6 (some .int) ∈ GT := gt_of (List.mem_of_getElem? (i := 879) (by decide +kernel)) (by decide +kernel)
theorem km_X6_208 : Cond.methodLink RX6 208 yX6_filledOf ∈ GT := gt_of (List.mem_of_getElem? (i := 880) (by decide +kernel)) (by decide +kernel)
theorem ki_X6_filledOf : Cond.instanceMethod yX6_filledOf ∈ GT := gt_of (List.mem_of_getElem? (i := 882) (by decide +kernel)) (by decide +kernel)
theorem kc_X6_filledOf : Cond.code yX6_filledOf cX6_filledOf 5 (some .int) ∈ GT := gt_of (List.mem_of_getElem? (i := 883) (by decide +kernel)) (by decide +kernel)
theorem km_X6_190 : Cond.methodLink RX6 190 yX6_glowOf ∈ GT := gt_of (List.mem_of_getElem? (i := 884) (by decide +kernel)) (by decide +kernel)
theorem ki_X6_glowOf : Cond.instanceMethod yX6_glowOf ∈ GT := gt_of (List.mem_of_getElem? (i := 886) (by decide +kernel)) (by decide +kernel)
theorem kc_X6_glowOf : Cond.code yX6_glowOf cX6_glowOf 2 (some .float) ∈ GT := gt_of (List.mem_of_getElem? (i := 887) (by decide +kernel)) (by decide +kernel)
theorem km_X6_204 : Cond.methodLink RX6 204 yX6_weighs ∈ GT := gt_of (List.mem_of_getElem? (i := 888) (by decide +kernel)) (by decide +kernel)
theorem ki_X6_weighs : Cond.instanceMethod yX6_weighs ∈ GT := gt_of (List.mem_of_getElem? (i := 890) (by decide +kernel)) (by decide +kernel)
theorem kc_X6_weighs : Cond.code yX6_weighs cX6_weighs 7 none ∈ GT := gt_of (List.mem_of_getElem? (i := 891) (by decide +kernel)) (by decide +kernel)
theorem km_L_77 : Cond.methodLink RL 77 yX6_glow ∈ GT := gt_of (List.mem_of_getElem? (i := 892) (by decide +kernel)) (by decide +kernel)
theorem ki_X6_glow : Cond.instanceMethod yX6_glow ∈ GT := gt_of (List.mem_of_getElem? (i := 893) (by decide +kernel)) (by decide +kernel)
theorem ks_X6_glow : Cond.selects RX6 yX6_glow yX6_glow ∈ GT := gt_of (List.mem_of_getElem? (i := 894) (by decide +kernel)) (by decide +kernel)
theorem kc_X6_glow : Cond.code yX6_glow cX6_glow 4 (some .int) ∈ GT := gt_of (List.mem_of_getElem? (i := 895) (by decide +kernel)) (by decide +kernel)
theorem km_L_81 : Cond.methodLink RL 81 yX6_motion ∈ GT := gt_of (List.mem_of_getElem? (i := 896) (by decide +kernel)) (by decide +kernel)
theorem ki_X6_motion : Cond.instanceMethod yX6_motion ∈ GT := gt_of (List.mem_of_getElem? (i := 897) (by decide +kernel)) (by decide +kernel)
theorem ks_X6_motion : Cond.selects RX6 yX6_motion yX6_motion ∈ GT := gt_of (List.mem_of_getElem? (i := 898) (by decide +kernel)) (by decide +kernel)
theorem kc_X6_motion : Cond.code yX6_motion cX6_motion 4 (some .int) ∈ GT := gt_of (List.mem_of_getElem? (i := 899) (by decide +kernel)) (by decide +kernel)
theorem km_X6_211 : Cond.methodLink RX6 211 yX6_motionOf ∈ GT := gt_of (List.mem_of_getElem? (i := 900) (by decide +kernel)) (by decide +kernel)
theorem ki_X6_motionOf : Cond.instanceMethod yX6_motionOf ∈ GT := gt_of (List.mem_of_getElem? (i := 902) (by decide +kernel)) (by decide +kernel)
theorem kc_X6_motionOf : Cond.code yX6_motionOf cX6_motionOf 4 (some .int) ∈ GT := gt_of (List.mem_of_getElem? (i := 903) (by decide +kernel)) (by decide +kernel)
theorem km_L_85 : Cond.methodLink RL 85 yX6_marks ∈ GT := gt_of (List.mem_of_getElem? (i := 904) (by decide +kernel)) (by decide +kernel)
theorem ki_X6_marks : Cond.instanceMethod yX6_marks ∈ GT := gt_of (List.mem_of_getElem? (i := 905) (by decide +kernel)) (by decide +kernel)
theorem ks_X6_marks : Cond.selects RX6 yX6_marks yX6_marks ∈ GT := gt_of (List.mem_of_getElem? (i := 906) (by decide +kernel)) (by decide +kernel)
theorem kc_X6_marks : Cond.code yX6_marks cX6_marks 6 (some .int) ∈ GT := gt_of (List.mem_of_getElem? (i := 907) (by decide +kernel)) (by decide +kernel)
theorem km_X6_214 : Cond.methodLink RX6 214 yX6_looksAtAll ∈ GT := gt_of (List.mem_of_getElem? (i := 908) (by decide +kernel)) (by decide +kernel)
theorem ki_X6_looksAtAll : Cond.instanceMethod yX6_looksAtAll ∈ GT := gt_of (List.mem_of_getElem? (i := 910) (by decide +kernel)) (by decide +kernel)
theorem kc_X6_looksAtAll : Cond.code yX6_looksAtAll cX6_looksAtAll 4 none ∈ GT := gt_of (List.mem_of_getElem? (i := 911) (by decide +kernel)) (by decide +kernel)
theorem km_L_90 : Cond.methodLink RL 90 yX6_moved ∈ GT := gt_of (List.mem_of_getElem? (i := 912) (by decide +kernel)) (by decide +kernel)
theorem ki_X6_moved : Cond.instanceMethod yX6_moved ∈ GT := gt_of (List.mem_of_getElem? (i := 913) (by decide +kernel)) (by decide +kernel)
theorem ks_X6_moved : Cond.selects RX6 yX6_moved yX6_moved ∈ GT := gt_of (List.mem_of_getElem? (i := 914) (by decide +kernel)) (by decide +kernel)
theorem kc_X6_moved : Cond.code yX6_moved cX6_moved 5 (some .int) ∈ GT := gt_of (List.mem_of_getElem? (i := 915) (by decide +kernel)) (by decide +kernel)
theorem km_L_95 : Cond.methodLink RL 95 yX6_mean ∈ GT := gt_of (List.mem_of_getElem? (i := 916) (by decide +kernel)) (by decide +kernel)
theorem ki_X6_mean : Cond.instanceMethod yX6_mean ∈ GT := gt_of (List.mem_of_getElem? (i := 917) (by decide +kernel)) (by decide +kernel)
theorem ks_X6_mean : Cond.selects RX6 yX6_mean yX6_mean ∈ GT := gt_of (List.mem_of_getElem? (i := 918) (by decide +kernel)) (by decide +kernel)
theorem kc_X6_mean : Cond.code yX6_mean cX6_mean 2 (some .long) ∈ GT := gt_of (List.mem_of_getElem? (i := 919) (by decide +kernel)) (by decide +kernel)
theorem km_X6_223 : Cond.methodLink RX6 223 yX6_meanOf ∈ GT := gt_of (List.mem_of_getElem? (i := 920) (by decide +kernel)) (by decide +kernel)
theorem ki_X6_meanOf : Cond.instanceMethod yX6_meanOf ∈ GT := gt_of (List.mem_of_getElem? (i := 922) (by decide +kernel)) (by decide +kernel)
theorem kc_X6_meanOf : Cond.code yX6_meanOf cX6_meanOf 7 (some .long) ∈ GT := gt_of (List.mem_of_getElem? (i := 923) (by decide +kernel)) (by decide +kernel)
theorem km_X6_217 : Cond.methodLink RX6 217 yJxe99ae_doubleToLongBits_ccdee ∈ GT := gt_of (List.mem_of_getElem? (i := 924) (by decide +kernel)) (by decide +kernel)
theorem kst_Jxe99ae_doubleToLongBits_ccdee : Cond.static yJxe99ae_doubleToLongBits_ccdee ∈ GT := gt_of (List.mem_of_getElem? (i := 925) (by decide +kernel)) (by decide +kernel)
theorem kc_Jxe99ae_doubleToLongBits_ccdee : Cond.code yJxe99ae_doubleToLongBits_ccdee cJxe99ae_doubleToLongBits_ccdee 2 (some .long) ∈ GT := gt_of (List.mem_of_getElem? (i := 926) (by decide +kernel)) (by decide +kernel)
theorem km_Jxe99ae_122 : Cond.methodLink RJxe99ae 122 yJxe99ae_isNaN_b9ae7 ∈ GT := gt_of (List.mem_of_getElem? (i := 927) (by decide +kernel)) (by decide +kernel)
theorem kst_Jxe99ae_isNaN_b9ae7 : Cond.static yJxe99ae_isNaN_b9ae7 ∈ GT := gt_of (List.mem_of_getElem? (i := 928) (by decide +kernel)) (by decide +kernel)
theorem kc_Jxe99ae_isNaN_b9ae7 : Cond.code yJxe99ae_isNaN_b9ae7 cJxe99ae_isNaN_b9ae7 2 (some .boolean) ∈ GT := gt_of (List.mem_of_getElem? (i := 929) (by decide +kernel)) (by decide +kernel)
theorem km_Jxe99ae_134 : Cond.methodLink RJxe99ae 134 ⟨"java/lang/Double", "doubleToRawLongBits", "(D)J"⟩ ∈ GT := gt_of (List.mem_of_getElem? (i := 930) (by decide +kernel)) (by decide +kernel)
theorem kst_Double_doubleToRawLongBits : Cond.static ⟨"java/lang/Double", "doubleToRawLongBits", "(D)J"⟩ ∈ GT := gt_of (List.mem_of_getElem? (i := 931) (by decide +kernel)) (by decide +kernel)
theorem kna_Double_doubleToRawLongBits : Cond.native ⟨"java/lang/Double", "doubleToRawLongBits", "(D)J"⟩ ∈ GT := gt_of (List.mem_of_getElem? (i := 932) (by decide +kernel)) (by decide +kernel)
theorem kk_Jxe99ae_137 : Cond.constantLong RJxe99ae 137 (9221120237041090560) ∈ GT := gt_of (List.mem_of_getElem? (i := 933) (by decide +kernel)) (by decide +kernel)
theorem km_L_100 : Cond.methodLink RL 100 yX6_told ∈ GT := gt_of (List.mem_of_getElem? (i := 934) (by decide +kernel)) (by decide +kernel)
theorem ki_X6_told : Cond.instanceMethod yX6_told ∈ GT := gt_of (List.mem_of_getElem? (i := 935) (by decide +kernel)) (by decide +kernel)
theorem ks_X6_told : Cond.selects RX6 yX6_told yX6_told ∈ GT := gt_of (List.mem_of_getElem? (i := 936) (by decide +kernel)) (by decide +kernel)
theorem kc_X6_told : Cond.code yX6_told cX6_told 2 (some .int) ∈ GT := gt_of (List.mem_of_getElem? (i := 937) (by decide +kernel)) (by decide +kernel)
theorem km_L_104 : Cond.methodLink RL 104 yX6_type ∈ GT := gt_of (List.mem_of_getElem? (i := 938) (by decide +kernel)) (by decide +kernel)
theorem ki_X6_type : Cond.instanceMethod yX6_type ∈ GT := gt_of (List.mem_of_getElem? (i := 939) (by decide +kernel)) (by decide +kernel)
theorem ks_X6_type : Cond.selects RX6 yX6_type yX6_type ∈ GT := gt_of (List.mem_of_getElem? (i := 940) (by decide +kernel)) (by decide +kernel)
theorem kc_X6_type : Cond.code yX6_type cX6_type 2 (some .int) ∈ GT := gt_of (List.mem_of_getElem? (i := 941) (by decide +kernel)) (by decide +kernel)
theorem km_L_108 : Cond.methodLink RL 108 yX6_clear ∈ GT := gt_of (List.mem_of_getElem? (i := 942) (by decide +kernel)) (by decide +kernel)
theorem ki_X6_clear : Cond.instanceMethod yX6_clear ∈ GT := gt_of (List.mem_of_getElem? (i := 943) (by decide +kernel)) (by decide +kernel)
theorem ks_X6_clear : Cond.selects RX6 yX6_clear yX6_clear ∈ GT := gt_of (List.mem_of_getElem? (i := 944) (by decide +kernel)) (by decide +kernel)
theorem kc_X6_clear : Cond.code yX6_clear cX6_clear 2 (some .int) ∈ GT := gt_of (List.mem_of_getElem? (i := 945) (by decide +kernel)) (by decide +kernel)
theorem km_L_112 : Cond.methodLink RL 112 yX6_does ∈ GT := gt_of (List.mem_of_getElem? (i := 946) (by decide +kernel)) (by decide +kernel)
theorem ki_X6_does : Cond.instanceMethod yX6_does ∈ GT := gt_of (List.mem_of_getElem? (i := 947) (by decide +kernel)) (by decide +kernel)
theorem ks_X6_does : Cond.selects RX6 yX6_does yX6_does ∈ GT := gt_of (List.mem_of_getElem? (i := 948) (by decide +kernel)) (by decide +kernel)
theorem kc_X6_does : Cond.code yX6_does cX6_does 3 (some .int) ∈ GT := gt_of (List.mem_of_getElem? (i := 949) (by decide +kernel)) (by decide +kernel)
theorem km_X6_258 : Cond.methodLink RX6 258 yX6_isRead ∈ GT := gt_of (List.mem_of_getElem? (i := 950) (by decide +kernel)) (by decide +kernel)
theorem ki_X6_isRead : Cond.instanceMethod yX6_isRead ∈ GT := gt_of (List.mem_of_getElem? (i := 952) (by decide +kernel)) (by decide +kernel)
theorem kc_X6_isRead : Cond.code yX6_isRead cX6_isRead 1 (some .boolean) ∈ GT := gt_of (List.mem_of_getElem? (i := 953) (by decide +kernel)) (by decide +kernel)
theorem km_X6_239 : Cond.methodLink RX6 239 yX6_blanks ∈ GT := gt_of (List.mem_of_getElem? (i := 954) (by decide +kernel)) (by decide +kernel)
theorem ki_X6_blanks : Cond.instanceMethod yX6_blanks ∈ GT := gt_of (List.mem_of_getElem? (i := 956) (by decide +kernel)) (by decide +kernel)
theorem kc_X6_blanks : Cond.code yX6_blanks cX6_blanks 1 none ∈ GT := gt_of (List.mem_of_getElem? (i := 957) (by decide +kernel)) (by decide +kernel)
theorem km_X6_233 : Cond.methodLink RX6 233 yX6_isAt ∈ GT := gt_of (List.mem_of_getElem? (i := 958) (by decide +kernel)) (by decide +kernel)
theorem ki_X6_isAt : Cond.instanceMethod yX6_isAt ∈ GT := gt_of (List.mem_of_getElem? (i := 960) (by decide +kernel)) (by decide +kernel)
theorem kc_X6_isAt : Cond.code yX6_isAt cX6_isAt 3 (some .boolean) ∈ GT := gt_of (List.mem_of_getElem? (i := 961) (by decide +kernel)) (by decide +kernel)
theorem km_X6_254 : Cond.methodLink RX6 254 yX6_takesOrder ∈ GT := gt_of (List.mem_of_getElem? (i := 962) (by decide +kernel)) (by decide +kernel)
theorem ki_X6_takesOrder : Cond.instanceMethod yX6_takesOrder ∈ GT := gt_of (List.mem_of_getElem? (i := 964) (by decide +kernel)) (by decide +kernel)
theorem kc_X6_takesOrder : Cond.code yX6_takesOrder cX6_takesOrder 4 (some .boolean) ∈ GT := gt_of (List.mem_of_getElem? (i := 965) (by decide +kernel)) (by decide +kernel)
theorem km_X6_245 : Cond.methodLink RX6 245 yX6_manyOf ∈ GT := gt_of (List.mem_of_getElem? (i := 966) (by decide +kernel)) (by decide +kernel)
theorem kst_X6_manyOf : Cond.static yX6_manyOf ∈ GT := gt_of (List.mem_of_getElem? (i := 967) (by decide +kernel)) (by decide +kernel)
theorem kc_X6_manyOf : Cond.code yX6_manyOf cX6_manyOf 1 (some .int) ∈ GT := gt_of (List.mem_of_getElem? (i := 968) (by decide +kernel)) (by decide +kernel)
theorem km_X6_242 : Cond.methodLink RX6 242 yX6_fails ∈ GT := gt_of (List.mem_of_getElem? (i := 969) (by decide +kernel)) (by decide +kernel)
theorem ki_X6_fails : Cond.instanceMethod yX6_fails ∈ GT := gt_of (List.mem_of_getElem? (i := 971) (by decide +kernel)) (by decide +kernel)
theorem kc_X6_fails : Cond.code yX6_fails cX6_fails 2 (some .boolean) ∈ GT := gt_of (List.mem_of_getElem? (i := 972) (by decide +kernel)) (by decide +kernel)
theorem km_X6_251 : Cond.methodLink RX6 251 yX6_takesNumber ∈ GT := gt_of (List.mem_of_getElem? (i := 973) (by decide +kernel)) (by decide +kernel)
theorem ki_X6_takesNumber : Cond.instanceMethod yX6_takesNumber ∈ GT := gt_of (List.mem_of_getElem? (i := 975) (by decide +kernel)) (by decide +kernel)
theorem kc_X6_takesNumber : Cond.code yX6_takesNumber cX6_takesNumber 4 (some .boolean) ∈ GT := gt_of (List.mem_of_getElem? (i := 976) (by decide +kernel)) (by decide +kernel)
theorem km_X6_261 : Cond.methodLink RX6 261 yX6_doneOne ∈ GT := gt_of (List.mem_of_getElem? (i := 977) (by decide +kernel)) (by decide +kernel)
theorem ki_X6_doneOne : Cond.instanceMethod yX6_doneOne ∈ GT := gt_of (List.mem_of_getElem? (i := 979) (by decide +kernel)) (by decide +kernel)
theorem kc_X6_doneOne : Cond.code yX6_doneOne cX6_doneOne 7 (some .int) ∈ GT := gt_of (List.mem_of_getElem? (i := 980) (by decide +kernel)) (by decide +kernel)
theorem km_L_120 : Cond.methodLink RL 120 yX6_refused ∈ GT := gt_of (List.mem_of_getElem? (i := 981) (by decide +kernel)) (by decide +kernel)
theorem ki_X6_refused : Cond.instanceMethod yX6_refused ∈ GT := gt_of (List.mem_of_getElem? (i := 982) (by decide +kernel)) (by decide +kernel)
theorem ks_X6_refused : Cond.selects RX6 yX6_refused yX6_refused ∈ GT := gt_of (List.mem_of_getElem? (i := 983) (by decide +kernel)) (by decide +kernel)
theorem kc_X6_refused : Cond.code yX6_refused cX6_refused 2 (some .int) ∈ GT := gt_of (List.mem_of_getElem? (i := 984) (by decide +kernel)) (by decide +kernel)
theorem km_X6_264 : Cond.methodLink RX6 264 yX6_refusedOf ∈ GT := gt_of (List.mem_of_getElem? (i := 985) (by decide +kernel)) (by decide +kernel)
theorem ki_X6_refusedOf : Cond.instanceMethod yX6_refusedOf ∈ GT := gt_of (List.mem_of_getElem? (i := 987) (by decide +kernel)) (by decide +kernel)
theorem kc_X6_refusedOf : Cond.code yX6_refusedOf cX6_refusedOf 2 (some .int) ∈ GT := gt_of (List.mem_of_getElem? (i := 988) (by decide +kernel)) (by decide +kernel)
theorem km_L_125 : Cond.methodLink RL 125 yX6_digest ∈ GT := gt_of (List.mem_of_getElem? (i := 989) (by decide +kernel)) (by decide +kernel)
theorem ki_X6_digest : Cond.instanceMethod yX6_digest ∈ GT := gt_of (List.mem_of_getElem? (i := 990) (by decide +kernel)) (by decide +kernel)
theorem ks_X6_digest : Cond.selects RX6 yX6_digest yX6_digest ∈ GT := gt_of (List.mem_of_getElem? (i := 991) (by decide +kernel)) (by decide +kernel)
theorem kc_X6_digest : Cond.code yX6_digest cX6_digest 2 (some .long) ∈ GT := gt_of (List.mem_of_getElem? (i := 992) (by decide +kernel)) (by decide +kernel)
theorem kk_X6_277 : Cond.constantLong RX6 277 (1689) ∈ GT := gt_of (List.mem_of_getElem? (i := 993) (by decide +kernel)) (by decide +kernel)
theorem km_X6_273 : Cond.methodLink RX6 273 yX6_mix ∈ GT := gt_of (List.mem_of_getElem? (i := 994) (by decide +kernel)) (by decide +kernel)
theorem ki_X6_mix : Cond.instanceMethod yX6_mix ∈ GT := gt_of (List.mem_of_getElem? (i := 996) (by decide +kernel)) (by decide +kernel)
theorem kc_X6_mix : Cond.code yX6_mix cX6_mix 3 none ∈ GT := gt_of (List.mem_of_getElem? (i := 997) (by decide +kernel)) (by decide +kernel)
theorem kk_X6_267 : Cond.constantLong RX6 267 (31) ∈ GT := gt_of (List.mem_of_getElem? (i := 998) (by decide +kernel)) (by decide +kernel)
theorem km_X6_279 : Cond.methodLink RX6 279 yX6_mixCells ∈ GT := gt_of (List.mem_of_getElem? (i := 999) (by decide +kernel)) (by decide +kernel)
theorem ki_X6_mixCells : Cond.instanceMethod yX6_mixCells ∈ GT := gt_of (List.mem_of_getElem? (i := 1001) (by decide +kernel)) (by decide +kernel)
theorem kc_X6_mixCells : Cond.code yX6_mixCells cX6_mixCells 6 none ∈ GT := gt_of (List.mem_of_getElem? (i := 1002) (by decide +kernel)) (by decide +kernel)
theorem ks_X5_settle : Cond.selects RX5 yX5_settle yX5_settle ∈ GT := gt_of (List.mem_of_getElem? (i := 0) (by decide +kernel)) (by decide +kernel)
theorem ks_X5_refuse : Cond.selects RX5 yX5_refuse yX5_refuse ∈ GT := gt_of (List.mem_of_getElem? (i := 1) (by decide +kernel)) (by decide +kernel)
theorem ks_X5_keepBefore : Cond.selects RX5 yX5_keepBefore yX5_keepBefore ∈ GT := gt_of (List.mem_of_getElem? (i := 2) (by decide +kernel)) (by decide +kernel)
theorem ks_X4_layEchoOfRate : Cond.selects RX4 yX4_layEchoOfRate yX4_layEchoOfRate ∈ GT := gt_of (List.mem_of_getElem? (i := 3) (by decide +kernel)) (by decide +kernel)
theorem ks_X4_addSignal : Cond.selects RX4 yX4_addSignal yX4_addSignal ∈ GT := gt_of (List.mem_of_getElem? (i := 4) (by decide +kernel)) (by decide +kernel)
theorem ks_X4_brighten : Cond.selects RX4 yX4_brighten yX4_brighten ∈ GT := gt_of (List.mem_of_getElem? (i := 5) (by decide +kernel)) (by decide +kernel)
theorem ks_X2_reckon : Cond.selects RX2 yX2_reckon yX2_reckon ∈ GT := gt_of (List.mem_of_getElem? (i := 6) (by decide +kernel)) (by decide +kernel)
theorem ks_X2_search : Cond.selects RX2 yX2_search yX2_search ∈ GT := gt_of (List.mem_of_getElem? (i := 7) (by decide +kernel)) (by decide +kernel)
theorem ks_X2_widestGap : Cond.selects RX2 yX2_widestGap yX2_widestGap ∈ GT := gt_of (List.mem_of_getElem? (i := 8) (by decide +kernel)) (by decide +kernel)
theorem ks_X2_misfit : Cond.selects RX2 yX2_misfit yX2_misfit ∈ GT := gt_of (List.mem_of_getElem? (i := 9) (by decide +kernel)) (by decide +kernel)
theorem ks_X2_reckonPairs : Cond.selects RX2 yX2_reckonPairs yX2_reckonPairs ∈ GT := gt_of (List.mem_of_getElem? (i := 10) (by decide +kernel)) (by decide +kernel)
theorem ks_X1_takes : Cond.selects RX1 yX1_takes yX1_takes ∈ GT := gt_of (List.mem_of_getElem? (i := 11) (by decide +kernel)) (by decide +kernel)
theorem ks_X1_takesFigure : Cond.selects RX1 yX1_takesFigure yX1_takesFigure ∈ GT := gt_of (List.mem_of_getElem? (i := 12) (by decide +kernel)) (by decide +kernel)
theorem ks_X1_endNumber : Cond.selects RX1 yX1_endNumber yX1_endNumber ∈ GT := gt_of (List.mem_of_getElem? (i := 13) (by decide +kernel)) (by decide +kernel)
theorem ks_X1_keep : Cond.selects RX1 yX1_keep yX1_keep ∈ GT := gt_of (List.mem_of_getElem? (i := 14) (by decide +kernel)) (by decide +kernel)
theorem ks_X5_perform : Cond.selects RX5 yX5_perform yX5_perform ∈ GT := gt_of (List.mem_of_getElem? (i := 15) (by decide +kernel)) (by decide +kernel)
theorem ks_X5_tally : Cond.selects RX5 yX5_tally yX5_tally ∈ GT := gt_of (List.mem_of_getElem? (i := 16) (by decide +kernel)) (by decide +kernel)
theorem ks_X5_digestCell : Cond.selects RX5 yX5_digestCell yX5_digestCell ∈ GT := gt_of (List.mem_of_getElem? (i := 17) (by decide +kernel)) (by decide +kernel)
theorem ks_X6_no : Cond.selects RX6 yX6_no yX6_no ∈ GT := gt_of (List.mem_of_getElem? (i := 18) (by decide +kernel)) (by decide +kernel)
theorem ks_X6_laysAside : Cond.selects RX6 yX6_laysAside yX6_laysAside ∈ GT := gt_of (List.mem_of_getElem? (i := 19) (by decide +kernel)) (by decide +kernel)
theorem ks_X6_putGrid : Cond.selects RX6 yX6_putGrid yX6_putGrid ∈ GT := gt_of (List.mem_of_getElem? (i := 20) (by decide +kernel)) (by decide +kernel)
theorem ks_X6_finished : Cond.selects RX6 yX6_finished yX6_finished ∈ GT := gt_of (List.mem_of_getElem? (i := 21) (by decide +kernel)) (by decide +kernel)
theorem ks_X6_bad : Cond.selects RX6 yX6_bad yX6_bad ∈ GT := gt_of (List.mem_of_getElem? (i := 22) (by decide +kernel)) (by decide +kernel)
theorem ks_X6_remembers : Cond.selects RX6 yX6_remembers yX6_remembers ∈ GT := gt_of (List.mem_of_getElem? (i := 23) (by decide +kernel)) (by decide +kernel)
theorem ks_X6_putWave : Cond.selects RX6 yX6_putWave yX6_putWave ∈ GT := gt_of (List.mem_of_getElem? (i := 24) (by decide +kernel)) (by decide +kernel)
theorem ks_X6_putSetting : Cond.selects RX6 yX6_putSetting yX6_putSetting ∈ GT := gt_of (List.mem_of_getElem? (i := 25) (by decide +kernel)) (by decide +kernel)
theorem ks_X6_isCell : Cond.selects RX6 yX6_isCell yX6_isCell ∈ GT := gt_of (List.mem_of_getElem? (i := 26) (by decide +kernel)) (by decide +kernel)
theorem ks_X6_putSample : Cond.selects RX6 yX6_putSample yX6_putSample ∈ GT := gt_of (List.mem_of_getElem? (i := 27) (by decide +kernel)) (by decide +kernel)
theorem ks_X6_putEcho : Cond.selects RX6 yX6_putEcho yX6_putEcho ∈ GT := gt_of (List.mem_of_getElem? (i := 28) (by decide +kernel)) (by decide +kernel)
theorem ks_X6_raised : Cond.selects RX6 yX6_raised yX6_raised ∈ GT := gt_of (List.mem_of_getElem? (i := 29) (by decide +kernel)) (by decide +kernel)
theorem ks_X6_fullOnes : Cond.selects RX6 yX6_fullOnes yX6_fullOnes ∈ GT := gt_of (List.mem_of_getElem? (i := 30) (by decide +kernel)) (by decide +kernel)
theorem ks_X6_putShine : Cond.selects RX6 yX6_putShine yX6_putShine ∈ GT := gt_of (List.mem_of_getElem? (i := 31) (by decide +kernel)) (by decide +kernel)
theorem ks_X6_putClear : Cond.selects RX6 yX6_putClear yX6_putClear ∈ GT := gt_of (List.mem_of_getElem? (i := 32) (by decide +kernel)) (by decide +kernel)
theorem ks_X6_isRate : Cond.selects RX6 yX6_isRate yX6_isRate ∈ GT := gt_of (List.mem_of_getElem? (i := 33) (by decide +kernel)) (by decide +kernel)
theorem ks_X6_acrossOf : Cond.selects RX6 yX6_acrossOf yX6_acrossOf ∈ GT := gt_of (List.mem_of_getElem? (i := 34) (by decide +kernel)) (by decide +kernel)
theorem ks_X6_downOf : Cond.selects RX6 yX6_downOf yX6_downOf ∈ GT := gt_of (List.mem_of_getElem? (i := 35) (by decide +kernel)) (by decide +kernel)
theorem ks_X6_sumOf : Cond.selects RX6 yX6_sumOf yX6_sumOf ∈ GT := gt_of (List.mem_of_getElem? (i := 36) (by decide +kernel)) (by decide +kernel)
theorem ks_X6_residueOf : Cond.selects RX6 yX6_residueOf yX6_residueOf ∈ GT := gt_of (List.mem_of_getElem? (i := 37) (by decide +kernel)) (by decide +kernel)
theorem ks_X6_phaseOf : Cond.selects RX6 yX6_phaseOf yX6_phaseOf ∈ GT := gt_of (List.mem_of_getElem? (i := 38) (by decide +kernel)) (by decide +kernel)
theorem ks_X6_strengthOf : Cond.selects RX6 yX6_strengthOf yX6_strengthOf ∈ GT := gt_of (List.mem_of_getElem? (i := 39) (by decide +kernel)) (by decide +kernel)
theorem ks_X6_looksAt : Cond.selects RX6 yX6_looksAt yX6_looksAt ∈ GT := gt_of (List.mem_of_getElem? (i := 40) (by decide +kernel)) (by decide +kernel)
theorem ks_X6_isBright : Cond.selects RX6 yX6_isBright yX6_isBright ∈ GT := gt_of (List.mem_of_getElem? (i := 41) (by decide +kernel)) (by decide +kernel)
theorem ks_X6_isDark : Cond.selects RX6 yX6_isDark yX6_isDark ∈ GT := gt_of (List.mem_of_getElem? (i := 42) (by decide +kernel)) (by decide +kernel)
theorem ks_X6_bestOf : Cond.selects RX6 yX6_bestOf yX6_bestOf ∈ GT := gt_of (List.mem_of_getElem? (i := 43) (by decide +kernel)) (by decide +kernel)
theorem ks_X6_widens : Cond.selects RX6 yX6_widens yX6_widens ∈ GT := gt_of (List.mem_of_getElem? (i := 44) (by decide +kernel)) (by decide +kernel)
theorem ks_X6_filledOf : Cond.selects RX6 yX6_filledOf yX6_filledOf ∈ GT := gt_of (List.mem_of_getElem? (i := 45) (by decide +kernel)) (by decide +kernel)
theorem ks_X6_glowOf : Cond.selects RX6 yX6_glowOf yX6_glowOf ∈ GT := gt_of (List.mem_of_getElem? (i := 46) (by decide +kernel)) (by decide +kernel)
theorem ks_X6_weighs : Cond.selects RX6 yX6_weighs yX6_weighs ∈ GT := gt_of (List.mem_of_getElem? (i := 47) (by decide +kernel)) (by decide +kernel)
theorem ks_X6_motionOf : Cond.selects RX6 yX6_motionOf yX6_motionOf ∈ GT := gt_of (List.mem_of_getElem? (i := 48) (by decide +kernel)) (by decide +kernel)
theorem ks_X6_looksAtAll : Cond.selects RX6 yX6_looksAtAll yX6_looksAtAll ∈ GT := gt_of (List.mem_of_getElem? (i := 49) (by decide +kernel)) (by decide +kernel)
theorem ks_X6_meanOf : Cond.selects RX6 yX6_meanOf yX6_meanOf ∈ GT := gt_of (List.mem_of_getElem? (i := 50) (by decide +kernel)) (by decide +kernel)
theorem ks_X6_isRead : Cond.selects RX6 yX6_isRead yX6_isRead ∈ GT := gt_of (List.mem_of_getElem? (i := 51) (by decide +kernel)) (by decide +kernel)
theorem ks_X6_blanks : Cond.selects RX6 yX6_blanks yX6_blanks ∈ GT := gt_of (List.mem_of_getElem? (i := 52) (by decide +kernel)) (by decide +kernel)
theorem ks_X6_isAt : Cond.selects RX6 yX6_isAt yX6_isAt ∈ GT := gt_of (List.mem_of_getElem? (i := 53) (by decide +kernel)) (by decide +kernel)
theorem ks_X6_takesOrder : Cond.selects RX6 yX6_takesOrder yX6_takesOrder ∈ GT := gt_of (List.mem_of_getElem? (i := 54) (by decide +kernel)) (by decide +kernel)
theorem ks_X6_fails : Cond.selects RX6 yX6_fails yX6_fails ∈ GT := gt_of (List.mem_of_getElem? (i := 55) (by decide +kernel)) (by decide +kernel)
theorem ks_X6_takesNumber : Cond.selects RX6 yX6_takesNumber yX6_takesNumber ∈ GT := gt_of (List.mem_of_getElem? (i := 56) (by decide +kernel)) (by decide +kernel)
theorem ks_X6_doneOne : Cond.selects RX6 yX6_doneOne yX6_doneOne ∈ GT := gt_of (List.mem_of_getElem? (i := 57) (by decide +kernel)) (by decide +kernel)
theorem ks_X6_refusedOf : Cond.selects RX6 yX6_refusedOf yX6_refusedOf ∈ GT := gt_of (List.mem_of_getElem? (i := 58) (by decide +kernel)) (by decide +kernel)
theorem ks_X6_mix : Cond.selects RX6 yX6_mix yX6_mix ∈ GT := gt_of (List.mem_of_getElem? (i := 59) (by decide +kernel)) (by decide +kernel)
theorem ks_X6_mixCells : Cond.selects RX6 yX6_mixCells yX6_mixCells ∈ GT := gt_of (List.mem_of_getElem? (i := 60) (by decide +kernel)) (by decide +kernel)
end
section
/-! THE JUDGEMENT Wm: the machine of one method, over a fixed set of cells whose contents are a world w; 'rest' is what a function of Lean answers from here on. A space E: launch, classes' numbers, array classes, the region that may change, the cells of a world, what is known of statics. -/
abbrev Wd : Type := (Nat → Nat → Int32) × Int64
abbrev Sp : Type := Launch × va_G × List (ClassId × FieldType) × (Nat → Prop) × (Wd → va_W) × (State → Prop)
abbrev Mt : Type := ByteArray × String × Nat × Option FieldType × Room
abbrev CL : List vw_C := [(RX1, TX1, 8), (RX2, TX2, 8), (RX4, TX4, 5), (RX5, TX5, 9), (RX6, TX6, 27)]
abbrev eL (E : Sp) : Launch := E.1
abbrev eD (E : Sp) : va_G := E.2.1
abbrev eT (E : Sp) : List (ClassId × FieldType) := E.2.2.1
abbrev eA (E : Sp) : Nat → Prop := E.2.2.2.1
abbrev eC (E : Sp) : Wd → va_W := E.2.2.2.2.1
abbrev eS (E : Sp) : State → Prop := E.2.2.2.2.2
abbrev mL (M : Mt) : Nat := M.2.2.1
abbrev mR (M : Mt) : Room := M.2.2.2.2
def EOk (E : Sp) : Prop := (∀ (s U : State) (H : Heap) (locs : List Loc), eS E s → va_S (eA E) s.heap H locs → U.heap = H → s.WarmedH U.vm → eS E U) ∧ (∀ (U : State) (g : JFrame) (mk : MethodId) (a : Array Value), eS E U → eS E (U.calling g mk a))
def QcM (E : Sp) (q : Option Value × Wd) : Array Value → State → Outcome → State → Prop := fun _ st oc t => (oc = .returned q.1 ∧ va_P (eD E) CL (eC E q.2) t.heap ∧ va_D (eA E) (eC E q.2)) ∧ va_F (eA E) st t
def Cx (E : Sp) (M : Mt) (p : Program) (s : State) (m : MethodId) (args : Array Value) (meth : Method) (c : Code) : Prop := p.tables.exec = Jvm.exec ∧ c.code = M.1 ∧ c.maxLocals = mL M ∧ s.vm.findClass M.2.1 = some m.cls ∧ (∀ w ∈ GT, w.before args s = true) ∧ meth.sig.returnType = M.2.2.2.1 ∧ meth.locks = false ∧ eS E s ∧ va_K (eD E) CL (eT E) s ∧ EOk E
def Wm {τ : Type} (E : Sp) (M : Mt) (O : τ → Option Value × Wd) (w : Wd) (pc : Nat) (lv : List (Nat × Value)) (st : List Value) (rest : Option τ) : Prop :=
  ∀ (z : τ), rest = some z → ∀ (p : Program) (e : Env) (s : State) (m : MethodId) (args : Array Value) (below : List Frame) (meth : Method) (c : Code) (H : Heap) (locs : List Loc) (ls : Array Slot), Cx E M p s m args meth c → va_P (eD E) CL (eC E w) H → va_D (eA E) (eC E w) → va_S (eA E) s.heap H locs → lv_has ls (mL M) lv → W p (eL E) e (mR M) s m args below meth c H locs 0 0 (MQ below (QcM E (O z)) args s 0 0 (eA E)) (F0 m pc ls st)
/-- what is guarded in a function -/
def inb (i : Int32) (n : Nat) : Bool := decide (¬ i < 0) && decide (i.toNatClampNeg < n)
theorem inb_in {i : Int32} {n : Nat} (h : inb i n = true) : vp_in i n := by
  simp only [inb, Bool.and_eq_true, decide_eq_true_eq] at h
  exact fun q => q.elim h.1 (fun q => absurd h.2 (Nat.not_lt.mpr q))
def nn32 (r : UInt32) : Bool := decide (r &&& 0x7fffffff ≤ 0x7f800000)
theorem nn32_n {r : UInt32} (h : nn32 r = true) : vf_n32 r := by
  simp only [nn32, decide_eq_true_eq] at h
  exact h
def nn64 (r : UInt64) : Bool := decide (r &&& 0x7fffffffffffffff ≤ 0x7ff0000000000000)
theorem nn64_n {r : UInt64} (h : nn64 r = true) : vf_n64 r := by
  simp only [nn64, decide_eq_true_eq] at h
  exact h
def zb (v : Int32) : Bool := decide (v = 0) || decide (v = 1)
theorem zb_n {v : Int32} (h : zb v = true) : narrow .boolean (.int v) = .int v := by
  simp only [zb, Bool.or_eq_true, decide_eq_true_eq] at h
  rcases h with rfl | rfl <;> decide
def jrem (x y : Int32) : Int32 := x - x / y * y
def fcg (x y : UInt32) : Int32 := Op.cmpValue (FP.fcmp x y) .g
def fcl (x y : UInt32) : Int32 := Op.cmpValue (FP.fcmp x y) .l
def dcg (x y : UInt64) : Int32 := Op.cmpValue (FP.dcmp x y) .g
def dcl (x y : UInt64) : Int32 := Op.cmpValue (FP.dcmp x y) .l
def wset (w : Wd) (c k : Nat) (v : Int32) : Wd := (fun c' => if c' = c then upd (w.1 c) k v else w.1 c', w.2)
def wfun (w : Wd) (c : Nat) (f : Nat → Int32) : Wd := (fun c' => if c' = c then f else w.1 c', w.2)
def wlong (w : Wd) (v : Int64) : Wd := (w.1, v)
def wput {τ : Type} (w : Wd) (c k : Nat) (v : Int32) (K : Wd → Option τ) : Option τ := K (wset w c k v)
def wputf {τ : Type} (w : Wd) (c : Nat) (f : Nat → Int32) (K : Wd → Option τ) : Option τ := K (wfun w c f)
def wputl {τ : Type} (w : Wd) (v : Int64) (K : Wd → Option τ) : Option τ := K (wlong w v)
def jlet {α τ : Type} (x : α) (K : α → Option τ) : Option τ := K x
/-- the answers: of a reader (the world stays), of a writer -/
abbrev oI (w : Wd) : Int32 → Option Value × Wd := fun r => (some (.int r), w)
abbrev oF (w : Wd) : UInt32 → Option Value × Wd := fun r => (some (.float r), w)
abbrev oL (w : Wd) : Int64 → Option Value × Wd := fun r => (some (.long r), w)
abbrev oIw : Int32 × Wd → Option Value × Wd := fun z => (some (.int z.1), z.2)
abbrev oLw : Int64 × Wd → Option Value × Wd := fun z => (some (.long z.1), z.2)
abbrev oVw : Wd → Option Value × Wd := fun w => (none, w)
def stk (v : Option Value) (st : List Value) : List Value := v.toList ++ st
theorem r_iadd {τ : Type} {E : Sp} {M : Mt} {O : τ → Option Value × Wd} {w : Wd} {pc : Nat} {lv : List (Nat × Value)} {st : List Value} {rest : Option τ} {x y : Int32} (d : decode M.1 pc = .ok (.iadd, 1)) (k : Wm E M O w (pc + 1) lv (.int (x + y) :: st) rest) : Wm E M O w pc lv (.int y :: .int x :: st) rest := fun z hz p e s m args below meth c H locs ls C hP hD hS hl => lv_iadd C.1 C.2.1 d (k z hz p e s m args below meth c H locs ls C hP hD hS hl)
theorem r_isub {τ : Type} {E : Sp} {M : Mt} {O : τ → Option Value × Wd} {w : Wd} {pc : Nat} {lv : List (Nat × Value)} {st : List Value} {rest : Option τ} {x y : Int32} (d : decode M.1 pc = .ok (.isub, 1)) (k : Wm E M O w (pc + 1) lv (.int (x - y) :: st) rest) : Wm E M O w pc lv (.int y :: .int x :: st) rest := fun z hz p e s m args below meth c H locs ls C hP hD hS hl => lv_isub C.1 C.2.1 d (k z hz p e s m args below meth c H locs ls C hP hD hS hl)
theorem r_imul {τ : Type} {E : Sp} {M : Mt} {O : τ → Option Value × Wd} {w : Wd} {pc : Nat} {lv : List (Nat × Value)} {st : List Value} {rest : Option τ} {x y : Int32} (d : decode M.1 pc = .ok (.imul, 1)) (k : Wm E M O w (pc + 1) lv (.int (x * y) :: st) rest) : Wm E M O w pc lv (.int y :: .int x :: st) rest := fun z hz p e s m args below meth c H locs ls C hP hD hS hl => lv_imul C.1 C.2.1 d (k z hz p e s m args below meth c H locs ls C hP hD hS hl)
theorem r_iand {τ : Type} {E : Sp} {M : Mt} {O : τ → Option Value × Wd} {w : Wd} {pc : Nat} {lv : List (Nat × Value)} {st : List Value} {rest : Option τ} {x y : Int32} (d : decode M.1 pc = .ok (.iand, 1)) (k : Wm E M O w (pc + 1) lv (.int (x &&& y) :: st) rest) : Wm E M O w pc lv (.int y :: .int x :: st) rest := fun z hz p e s m args below meth c H locs ls C hP hD hS hl => lv_iand C.1 C.2.1 d (k z hz p e s m args below meth c H locs ls C hP hD hS hl)
theorem r_ior {τ : Type} {E : Sp} {M : Mt} {O : τ → Option Value × Wd} {w : Wd} {pc : Nat} {lv : List (Nat × Value)} {st : List Value} {rest : Option τ} {x y : Int32} (d : decode M.1 pc = .ok (.ior, 1)) (k : Wm E M O w (pc + 1) lv (.int (x ||| y) :: st) rest) : Wm E M O w pc lv (.int y :: .int x :: st) rest := fun z hz p e s m args below meth c H locs ls C hP hD hS hl => lv_ior C.1 C.2.1 d (k z hz p e s m args below meth c H locs ls C hP hD hS hl)
theorem r_ishl {τ : Type} {E : Sp} {M : Mt} {O : τ → Option Value × Wd} {w : Wd} {pc : Nat} {lv : List (Nat × Value)} {st : List Value} {rest : Option τ} {x y : Int32} (d : decode M.1 pc = .ok (.ishl, 1)) (k : Wm E M O w (pc + 1) lv (.int (x <<< (y &&& 31)) :: st) rest) : Wm E M O w pc lv (.int y :: .int x :: st) rest := fun z hz p e s m args below meth c H locs ls C hP hD hS hl => lv_ishl C.1 C.2.1 d (k z hz p e s m args below meth c H locs ls C hP hD hS hl)
theorem r_ishr {τ : Type} {E : Sp} {M : Mt} {O : τ → Option Value × Wd} {w : Wd} {pc : Nat} {lv : List (Nat × Value)} {st : List Value} {rest : Option τ} {x y : Int32} (d : decode M.1 pc = .ok (.ishr, 1)) (k : Wm E M O w (pc + 1) lv (.int (x >>> (y &&& 31)) :: st) rest) : Wm E M O w pc lv (.int y :: .int x :: st) rest := fun z hz p e s m args below meth c H locs ls C hP hD hS hl => lv_ishr C.1 C.2.1 d (k z hz p e s m args below meth c H locs ls C hP hD hS hl)
theorem r_ladd {τ : Type} {E : Sp} {M : Mt} {O : τ → Option Value × Wd} {w : Wd} {pc : Nat} {lv : List (Nat × Value)} {st : List Value} {rest : Option τ} {x y : Int64} (d : decode M.1 pc = .ok (.ladd, 1)) (k : Wm E M O w (pc + 1) lv (.long (x + y) :: st) rest) : Wm E M O w pc lv (.long y :: .long x :: st) rest := fun z hz p e s m args below meth c H locs ls C hP hD hS hl => lv_ladd C.1 C.2.1 d (k z hz p e s m args below meth c H locs ls C hP hD hS hl)
theorem r_lsub {τ : Type} {E : Sp} {M : Mt} {O : τ → Option Value × Wd} {w : Wd} {pc : Nat} {lv : List (Nat × Value)} {st : List Value} {rest : Option τ} {x y : Int64} (d : decode M.1 pc = .ok (.lsub, 1)) (k : Wm E M O w (pc + 1) lv (.long (x - y) :: st) rest) : Wm E M O w pc lv (.long y :: .long x :: st) rest := fun z hz p e s m args below meth c H locs ls C hP hD hS hl => lv_lsub C.1 C.2.1 d (k z hz p e s m args below meth c H locs ls C hP hD hS hl)
theorem r_lmul {τ : Type} {E : Sp} {M : Mt} {O : τ → Option Value × Wd} {w : Wd} {pc : Nat} {lv : List (Nat × Value)} {st : List Value} {rest : Option τ} {x y : Int64} (d : decode M.1 pc = .ok (.lmul, 1)) (k : Wm E M O w (pc + 1) lv (.long (x * y) :: st) rest) : Wm E M O w pc lv (.long y :: .long x :: st) rest := fun z hz p e s m args below meth c H locs ls C hP hD hS hl => lv_lmul C.1 C.2.1 d (k z hz p e s m args below meth c H locs ls C hP hD hS hl)
theorem r_lor {τ : Type} {E : Sp} {M : Mt} {O : τ → Option Value × Wd} {w : Wd} {pc : Nat} {lv : List (Nat × Value)} {st : List Value} {rest : Option τ} {x y : Int64} (d : decode M.1 pc = .ok (.lor, 1)) (k : Wm E M O w (pc + 1) lv (.long (x ||| y) :: st) rest) : Wm E M O w pc lv (.long y :: .long x :: st) rest := fun z hz p e s m args below meth c H locs ls C hP hD hS hl => lv_lor C.1 C.2.1 d (k z hz p e s m args below meth c H locs ls C hP hD hS hl)
theorem r_ineg {τ : Type} {E : Sp} {M : Mt} {O : τ → Option Value × Wd} {w : Wd} {pc : Nat} {lv : List (Nat × Value)} {st : List Value} {rest : Option τ} {x : Int32} (d : decode M.1 pc = .ok (.ineg, 1)) (k : Wm E M O w (pc + 1) lv (.int (-x) :: st) rest) : Wm E M O w pc lv (.int x :: st) rest := fun z hz p e s m args below meth c H locs ls C hP hD hS hl => lv_ineg C.1 C.2.1 d (k z hz p e s m args below meth c H locs ls C hP hD hS hl)
theorem r_i2l {τ : Type} {E : Sp} {M : Mt} {O : τ → Option Value × Wd} {w : Wd} {pc : Nat} {lv : List (Nat × Value)} {st : List Value} {rest : Option τ} {x : Int32} (d : decode M.1 pc = .ok (.i2l, 1)) (k : Wm E M O w (pc + 1) lv (.long x.toInt64 :: st) rest) : Wm E M O w pc lv (.int x :: st) rest := fun z hz p e s m args below meth c H locs ls C hP hD hS hl => lv_i2l C.1 C.2.1 d rfl (k z hz p e s m args below meth c H locs ls C hP hD hS hl)
theorem r_lshl {τ : Type} {E : Sp} {M : Mt} {O : τ → Option Value × Wd} {w : Wd} {pc : Nat} {lv : List (Nat × Value)} {st : List Value} {rest : Option τ} {x : Int64} {y : Int32} (d : decode M.1 pc = .ok (.lshl, 1)) (k : Wm E M O w (pc + 1) lv (.long (x <<< (y.toInt64 &&& 63)) :: st) rest) : Wm E M O w pc lv (.int y :: .long x :: st) rest := fun z hz p e s m args below meth c H locs ls C hP hD hS hl => lv_lshl C.1 C.2.1 d rfl (k z hz p e s m args below meth c H locs ls C hP hD hS hl)
theorem r_lcmp {τ : Type} {E : Sp} {M : Mt} {O : τ → Option Value × Wd} {w : Wd} {pc : Nat} {lv : List (Nat × Value)} {st : List Value} {rest : Option τ} {x y : Int64} (d : decode M.1 pc = .ok (.lcmp, 1)) (k : Wm E M O w (pc + 1) lv (.int (lg_cmp x y) :: st) rest) : Wm E M O w pc lv (.long y :: .long x :: st) rest := fun z hz p e s m args below meth c H locs ls C hP hD hS hl => W.lcmp C.1 C.2.1 d (k z hz p e s m args below meth c H locs ls C hP hD hS hl)
theorem r_i2f {τ : Type} {E : Sp} {M : Mt} {O : τ → Option Value × Wd} {w : Wd} {pc : Nat} {lv : List (Nat × Value)} {st : List Value} {rest : Option τ} {x : Int32} (d : decode M.1 pc = .ok (.i2f, 1)) (k : Wm E M O w (pc + 1) lv (.float (FP.i2f x) :: st) rest) : Wm E M O w pc lv (.int x :: st) rest := fun z hz p e s m args below meth c H locs ls C hP hD hS hl => lv_i2f C.1 C.2.1 d (k z hz p e s m args below meth c H locs ls C hP hD hS hl)
theorem r_i2d {τ : Type} {E : Sp} {M : Mt} {O : τ → Option Value × Wd} {w : Wd} {pc : Nat} {lv : List (Nat × Value)} {st : List Value} {rest : Option τ} {x : Int32} (d : decode M.1 pc = .ok (.i2d, 1)) (k : Wm E M O w (pc + 1) lv (.double (FP.i2d x) :: st) rest) : Wm E M O w pc lv (.int x :: st) rest := fun z hz p e s m args below meth c H locs ls C hP hD hS hl => lv_i2d C.1 C.2.1 d (k z hz p e s m args below meth c H locs ls C hP hD hS hl)
theorem r_f2i {τ : Type} {E : Sp} {M : Mt} {O : τ → Option Value × Wd} {w : Wd} {pc : Nat} {lv : List (Nat × Value)} {st : List Value} {rest : Option τ} {x : UInt32} (d : decode M.1 pc = .ok (.f2i, 1)) (k : Wm E M O w (pc + 1) lv (.int (FP.f2i x) :: st) rest) : Wm E M O w pc lv (.float x :: st) rest := fun z hz p e s m args below meth c H locs ls C hP hD hS hl => lv_f2i C.1 C.2.1 d (k z hz p e s m args below meth c H locs ls C hP hD hS hl)
theorem r_d2l {τ : Type} {E : Sp} {M : Mt} {O : τ → Option Value × Wd} {w : Wd} {pc : Nat} {lv : List (Nat × Value)} {st : List Value} {rest : Option τ} {x : UInt64} (d : decode M.1 pc = .ok (.d2l, 1)) (k : Wm E M O w (pc + 1) lv (.long (FP.d2l x) :: st) rest) : Wm E M O w pc lv (.double x :: st) rest := fun z hz p e s m args below meth c H locs ls C hP hD hS hl => lv_d2l C.1 C.2.1 d (k z hz p e s m args below meth c H locs ls C hP hD hS hl)
theorem r_fneg {τ : Type} {E : Sp} {M : Mt} {O : τ → Option Value × Wd} {w : Wd} {pc : Nat} {lv : List (Nat × Value)} {st : List Value} {rest : Option τ} {x : UInt32} (d : decode M.1 pc = .ok (.fneg, 1)) (k : Wm E M O w (pc + 1) lv (.float (FP.fneg x) :: st) rest) : Wm E M O w pc lv (.float x :: st) rest := fun z hz p e s m args below meth c H locs ls C hP hD hS hl => lv_fneg C.1 C.2.1 d (k z hz p e s m args below meth c H locs ls C hP hD hS hl)
theorem r_fcmpg {τ : Type} {E : Sp} {M : Mt} {O : τ → Option Value × Wd} {w : Wd} {pc : Nat} {lv : List (Nat × Value)} {st : List Value} {rest : Option τ} {x y : UInt32} (d : decode M.1 pc = .ok (.fcmp .g, 1)) (k : Wm E M O w (pc + 1) lv (.int (fcg x y) :: st) rest) : Wm E M O w pc lv (.float y :: .float x :: st) rest := fun z hz p e s m args below meth c H locs ls C hP hD hS hl => lv_fcmp C.1 C.2.1 d (k z hz p e s m args below meth c H locs ls C hP hD hS hl)
theorem r_fcmpl {τ : Type} {E : Sp} {M : Mt} {O : τ → Option Value × Wd} {w : Wd} {pc : Nat} {lv : List (Nat × Value)} {st : List Value} {rest : Option τ} {x y : UInt32} (d : decode M.1 pc = .ok (.fcmp .l, 1)) (k : Wm E M O w (pc + 1) lv (.int (fcl x y) :: st) rest) : Wm E M O w pc lv (.float y :: .float x :: st) rest := fun z hz p e s m args below meth c H locs ls C hP hD hS hl => lv_fcmp C.1 C.2.1 d (k z hz p e s m args below meth c H locs ls C hP hD hS hl)
theorem r_dcmpg {τ : Type} {E : Sp} {M : Mt} {O : τ → Option Value × Wd} {w : Wd} {pc : Nat} {lv : List (Nat × Value)} {st : List Value} {rest : Option τ} {x y : UInt64} (d : decode M.1 pc = .ok (.dcmp .g, 1)) (k : Wm E M O w (pc + 1) lv (.int (dcg x y) :: st) rest) : Wm E M O w pc lv (.double y :: .double x :: st) rest := fun z hz p e s m args below meth c H locs ls C hP hD hS hl => lv_dcmp C.1 C.2.1 d (k z hz p e s m args below meth c H locs ls C hP hD hS hl)
theorem r_dcmpl {τ : Type} {E : Sp} {M : Mt} {O : τ → Option Value × Wd} {w : Wd} {pc : Nat} {lv : List (Nat × Value)} {st : List Value} {rest : Option τ} {x y : UInt64} (d : decode M.1 pc = .ok (.dcmp .l, 1)) (k : Wm E M O w (pc + 1) lv (.int (dcl x y) :: st) rest) : Wm E M O w pc lv (.double y :: .double x :: st) rest := fun z hz p e s m args below meth c H locs ls C hP hD hS hl => lv_dcmp C.1 C.2.1 d (k z hz p e s m args below meth c H locs ls C hP hD hS hl)
theorem r_dup {τ : Type} {E : Sp} {M : Mt} {O : τ → Option Value × Wd} {w : Wd} {pc : Nat} {lv : List (Nat × Value)} {st : List Value} {rest : Option τ} {va : Value} (d : decode M.1 pc = .ok (.dup, 1)) (hva : va.category = 1) (k : Wm E M O w (pc + 1) lv (va :: va :: st) rest) : Wm E M O w pc lv (va :: st) rest := fun z hz p e s m args below meth c H locs ls C hP hD hS hl => lv_dup C.1 C.2.1 d hva (k z hz p e s m args below meth c H locs ls C hP hD hS hl)
theorem r_dup_x1 {τ : Type} {E : Sp} {M : Mt} {O : τ → Option Value × Wd} {w : Wd} {pc : Nat} {lv : List (Nat × Value)} {st : List Value} {rest : Option τ} {va vb : Value} (d : decode M.1 pc = .ok (.dup_x1, 1)) (hva : va.category = 1) (hvb : vb.category = 1) (k : Wm E M O w (pc + 1) lv (va :: vb :: va :: st) rest) : Wm E M O w pc lv (va :: vb :: st) rest := fun z hz p e s m args below meth c H locs ls C hP hD hS hl => lv_dup_x1 C.1 C.2.1 d hva hvb (k z hz p e s m args below meth c H locs ls C hP hD hS hl)
theorem r_dup2 {τ : Type} {E : Sp} {M : Mt} {O : τ → Option Value × Wd} {w : Wd} {pc : Nat} {lv : List (Nat × Value)} {st : List Value} {rest : Option τ} {va vb : Value} (d : decode M.1 pc = .ok (.dup2, 1)) (hva : va.category = 1) (hvb : vb.category = 1) (k : Wm E M O w (pc + 1) lv (va :: vb :: va :: vb :: st) rest) : Wm E M O w pc lv (va :: vb :: st) rest := fun z hz p e s m args below meth c H locs ls C hP hD hS hl => lv_dup2_11 C.1 C.2.1 d hva hvb (k z hz p e s m args below meth c H locs ls C hP hD hS hl)
theorem r_pop {τ : Type} {E : Sp} {M : Mt} {O : τ → Option Value × Wd} {w : Wd} {pc : Nat} {lv : List (Nat × Value)} {st : List Value} {rest : Option τ} {va : Value} (d : decode M.1 pc = .ok (.pop, 1)) (hva : va.category = 1) (k : Wm E M O w (pc + 1) lv (st) rest) : Wm E M O w pc lv (va :: st) rest := fun z hz p e s m args below meth c H locs ls C hP hD hS hl => lv_pop C.1 C.2.1 d hva (k z hz p e s m args below meth c H locs ls C hP hD hS hl)
theorem r_iconst {τ : Type} {E : Sp} {M : Mt} {O : τ → Option Value × Wd} {w : Wd} {pc : Nat} {lv : List (Nat × Value)} {st : List Value} {rest : Option τ} {n : Int} {v : Int32} (d : decode M.1 pc = .ok (.iconst n, 1)) (hv : Int32.ofInt n = v) (k : Wm E M O w (pc + 1) lv (.int v :: st) rest) : Wm E M O w pc lv (st) rest := fun z hz p e s m args below meth c H locs ls C hP hD hS hl => lv_iconst C.1 C.2.1 d hv (k z hz p e s m args below meth c H locs ls C hP hD hS hl)
theorem r_bipush {τ : Type} {E : Sp} {M : Mt} {O : τ → Option Value × Wd} {w : Wd} {pc : Nat} {lv : List (Nat × Value)} {st : List Value} {rest : Option τ} {n : Int} {v : Int32} (d : decode M.1 pc = .ok (.bipush n, 2)) (hv : (Int8.ofInt n).toInt32 = v) (k : Wm E M O w (pc + 2) lv (.int v :: st) rest) : Wm E M O w pc lv (st) rest := fun z hz p e s m args below meth c H locs ls C hP hD hS hl => lv_bipush C.1 C.2.1 d hv (k z hz p e s m args below meth c H locs ls C hP hD hS hl)
theorem r_sipush {τ : Type} {E : Sp} {M : Mt} {O : τ → Option Value × Wd} {w : Wd} {pc : Nat} {lv : List (Nat × Value)} {st : List Value} {rest : Option τ} {n : Int} {v : Int32} (d : decode M.1 pc = .ok (.sipush n, 3)) (hv : (Int16.ofInt n).toInt32 = v) (k : Wm E M O w (pc + 3) lv (.int v :: st) rest) : Wm E M O w pc lv (st) rest := fun z hz p e s m args below meth c H locs ls C hP hD hS hl => lv_sipush C.1 C.2.1 d hv (k z hz p e s m args below meth c H locs ls C hP hD hS hl)
theorem r_lconst {τ : Type} {E : Sp} {M : Mt} {O : τ → Option Value × Wd} {w : Wd} {pc : Nat} {lv : List (Nat × Value)} {st : List Value} {rest : Option τ} {n : Fin 2} {v : Int64} (d : decode M.1 pc = .ok (.lconst n, 1)) (hv : Int64.ofNat (n : Nat) = v) (k : Wm E M O w (pc + 1) lv (.long v :: st) rest) : Wm E M O w pc lv (st) rest := fun z hz p e s m args below meth c H locs ls C hP hD hS hl => lv_lconst C.1 C.2.1 d hv (k z hz p e s m args below meth c H locs ls C hP hD hS hl)
theorem r_fconst0 {τ : Type} {E : Sp} {M : Mt} {O : τ → Option Value × Wd} {w : Wd} {pc : Nat} {lv : List (Nat × Value)} {st : List Value} {rest : Option τ}  (d : decode M.1 pc = .ok (.fconst 0, 1)) (k : Wm E M O w (pc + 1) lv (.float FP.fconst0 :: st) rest) : Wm E M O w pc lv (st) rest := fun z hz p e s m args below meth c H locs ls C hP hD hS hl => lv_fconst0 C.1 C.2.1 d (k z hz p e s m args below meth c H locs ls C hP hD hS hl)
theorem r_fconst1 {τ : Type} {E : Sp} {M : Mt} {O : τ → Option Value × Wd} {w : Wd} {pc : Nat} {lv : List (Nat × Value)} {st : List Value} {rest : Option τ}  (d : decode M.1 pc = .ok (.fconst 1, 1)) (k : Wm E M O w (pc + 1) lv (.float FP.fconst1 :: st) rest) : Wm E M O w pc lv (st) rest := fun z hz p e s m args below meth c H locs ls C hP hD hS hl => lv_fconst1 C.1 C.2.1 d (k z hz p e s m args below meth c H locs ls C hP hD hS hl)
theorem r_fconst2 {τ : Type} {E : Sp} {M : Mt} {O : τ → Option Value × Wd} {w : Wd} {pc : Nat} {lv : List (Nat × Value)} {st : List Value} {rest : Option τ}  (d : decode M.1 pc = .ok (.fconst 2, 1)) (k : Wm E M O w (pc + 1) lv (.float FP.fconst2 :: st) rest) : Wm E M O w pc lv (st) rest := fun z hz p e s m args below meth c H locs ls C hP hD hS hl => lv_fconst2 C.1 C.2.1 d (k z hz p e s m args below meth c H locs ls C hP hD hS hl)
theorem r_dconst0 {τ : Type} {E : Sp} {M : Mt} {O : τ → Option Value × Wd} {w : Wd} {pc : Nat} {lv : List (Nat × Value)} {st : List Value} {rest : Option τ}  (d : decode M.1 pc = .ok (.dconst 0, 1)) (k : Wm E M O w (pc + 1) lv (.double FP.dconst0 :: st) rest) : Wm E M O w pc lv (st) rest := fun z hz p e s m args below meth c H locs ls C hP hD hS hl => lv_dconst0 C.1 C.2.1 d (k z hz p e s m args below meth c H locs ls C hP hD hS hl)
theorem r_dconst1 {τ : Type} {E : Sp} {M : Mt} {O : τ → Option Value × Wd} {w : Wd} {pc : Nat} {lv : List (Nat × Value)} {st : List Value} {rest : Option τ}  (d : decode M.1 pc = .ok (.dconst 1, 1)) (k : Wm E M O w (pc + 1) lv (.double FP.dconst1 :: st) rest) : Wm E M O w pc lv (st) rest := fun z hz p e s m args below meth c H locs ls C hP hD hS hl => lv_dconst1 C.1 C.2.1 d (k z hz p e s m args below meth c H locs ls C hP hD hS hl)
theorem r_ldc {τ : Type} {E : Sp} {M : Mt} {O : τ → Option Value × Wd} {w : Wd} {pc : Nat} {lv : List (Nat × Value)} {st : List Value} {rest : Option τ} {i : Nat} {v : Int32} (d : decode M.1 pc = .ok (.ldc i, 2)) (hc : Cond.constant M.2.1 i v ∈ GT) (k : Wm E M O w (pc + 2) lv (.int v :: st) rest) : Wm E M O w pc lv (st) rest := fun z hz p e s m args below meth c H locs ls C hP hD hS hl => lv_ldc C.1 C.2.1 C.2.2.2.1 (C.2.2.2.2.1 _ hc) d (k z hz p e s m args below meth c H locs ls C hP hD hS hl)
theorem r_ldcf {τ : Type} {E : Sp} {M : Mt} {O : τ → Option Value × Wd} {w : Wd} {pc : Nat} {lv : List (Nat × Value)} {st : List Value} {rest : Option τ} {i : Nat} {v : UInt32} (d : decode M.1 pc = .ok (.ldc i, 2)) (hc : Cond.constantFloat M.2.1 i v ∈ GT) (k : Wm E M O w (pc + 2) lv (.float v :: st) rest) : Wm E M O w pc lv (st) rest := fun z hz p e s m args below meth c H locs ls C hP hD hS hl => lv_ldcf C.1 C.2.1 C.2.2.2.1 (C.2.2.2.2.1 _ hc) d (k z hz p e s m args below meth c H locs ls C hP hD hS hl)
theorem r_ldc2 {τ : Type} {E : Sp} {M : Mt} {O : τ → Option Value × Wd} {w : Wd} {pc : Nat} {lv : List (Nat × Value)} {st : List Value} {rest : Option τ} {i : Nat} {v : Int64} (d : decode M.1 pc = .ok (.ldc2_w i, 3)) (hc : Cond.constantLong M.2.1 i v ∈ GT) (k : Wm E M O w (pc + 3) lv (.long v :: st) rest) : Wm E M O w pc lv (st) rest := fun z hz p e s m args below meth c H locs ls C hP hD hS hl => lv_ldc2 C.1 C.2.1 C.2.2.2.1 (C.2.2.2.2.1 _ hc) d (k z hz p e s m args below meth c H locs ls C hP hD hS hl)
theorem r_ldc2d {τ : Type} {E : Sp} {M : Mt} {O : τ → Option Value × Wd} {w : Wd} {pc : Nat} {lv : List (Nat × Value)} {st : List Value} {rest : Option τ} {i : Nat} {v : UInt64} (d : decode M.1 pc = .ok (.ldc2_w i, 3)) (hc : Cond.constantDouble M.2.1 i v ∈ GT) (k : Wm E M O w (pc + 3) lv (.double v :: st) rest) : Wm E M O w pc lv (st) rest := fun z hz p e s m args below meth c H locs ls C hP hD hS hl => lv_ldc2d C.1 C.2.1 C.2.2.2.1 (C.2.2.2.2.1 _ hc) d (k z hz p e s m args below meth c H locs ls C hP hD hS hl)
theorem r_iload_n {τ : Type} {E : Sp} {M : Mt} {O : τ → Option Value × Wd} {w : Wd} {pc : Nat} {lv : List (Nat × Value)} {st : List Value} {rest : Option τ} {j : Fin 4} {x : Int32} (d : decode M.1 pc = .ok (.iload_n j, 1)) (i : Nat) (hi : lv[i]? = some ((j : Nat), Value.int x)) (k : Wm E M O w (pc + 1) lv (.int x :: st) rest) : Wm E M O w pc lv (st) rest := fun z hz p e s m args below meth c H locs ls C hP hD hS hl => lv_iload_n C.1 C.2.1 d rfl (lv_at hl i hi) (k z hz p e s m args below meth c H locs ls C hP hD hS hl)
theorem r_iload {τ : Type} {E : Sp} {M : Mt} {O : τ → Option Value × Wd} {w : Wd} {pc : Nat} {lv : List (Nat × Value)} {st : List Value} {rest : Option τ} {j : Nat} {x : Int32} (d : decode M.1 pc = .ok (.iload j, 2)) (i : Nat) (hi : lv[i]? = some (j, Value.int x)) (k : Wm E M O w (pc + 2) lv (.int x :: st) rest) : Wm E M O w pc lv (st) rest := fun z hz p e s m args below meth c H locs ls C hP hD hS hl => lv_iload C.1 C.2.1 d (lv_at hl i hi) (k z hz p e s m args below meth c H locs ls C hP hD hS hl)
theorem r_istore_n {τ : Type} {E : Sp} {M : Mt} {O : τ → Option Value × Wd} {w : Wd} {pc : Nat} {lv : List (Nat × Value)} {st : List Value} {rest : Option τ} {j : Fin 4} {x : Int32} {lv' : List (Nat × Value)} (d : decode M.1 pc = .ok (.istore_n j, 1)) (hn : (j : Nat) < mL M) (ks : List Nat) (hl' : lv_pick (((j : Nat), Value.int x) :: lv.filter (fun q => !(q.1 == (j : Nat)) && !(q.1 + 1 == (j : Nat) && q.2.category == 2))) ks = lv') (k : Wm E M O w (pc + 1) lv' st rest) : Wm E M O w pc lv (Value.int x :: st) rest := fun z hz p e s m args below meth c H locs ls C hP hD hS hl => lv_istore_n C.1 C.2.1 d rfl hl hn rfl (fun ls h9 => k z hz p e s m args below meth c H locs ls C hP hD hS (lv_sub h9 ks hl'))
theorem r_istore {τ : Type} {E : Sp} {M : Mt} {O : τ → Option Value × Wd} {w : Wd} {pc : Nat} {lv : List (Nat × Value)} {st : List Value} {rest : Option τ} {j : Nat} {x : Int32} {lv' : List (Nat × Value)} (d : decode M.1 pc = .ok (.istore j, 2)) (hn : j < mL M) (ks : List Nat) (hl' : lv_pick ((j, Value.int x) :: lv.filter (fun q => !(q.1 == j) && !(q.1 + 1 == j && q.2.category == 2))) ks = lv') (k : Wm E M O w (pc + 2) lv' st rest) : Wm E M O w pc lv (Value.int x :: st) rest := fun z hz p e s m args below meth c H locs ls C hP hD hS hl => lv_istore C.1 C.2.1 d hl hn rfl (fun ls h9 => k z hz p e s m args below meth c H locs ls C hP hD hS (lv_sub h9 ks hl'))
theorem r_lload_n {τ : Type} {E : Sp} {M : Mt} {O : τ → Option Value × Wd} {w : Wd} {pc : Nat} {lv : List (Nat × Value)} {st : List Value} {rest : Option τ} {j : Fin 4} {x : Int64} (d : decode M.1 pc = .ok (.lload_n j, 1)) (i : Nat) (hi : lv[i]? = some ((j : Nat), Value.long x)) (k : Wm E M O w (pc + 1) lv (.long x :: st) rest) : Wm E M O w pc lv (st) rest := fun z hz p e s m args below meth c H locs ls C hP hD hS hl => lv_lload_n C.1 C.2.1 d rfl (lv_at hl i hi) (k z hz p e s m args below meth c H locs ls C hP hD hS hl)
theorem r_lload {τ : Type} {E : Sp} {M : Mt} {O : τ → Option Value × Wd} {w : Wd} {pc : Nat} {lv : List (Nat × Value)} {st : List Value} {rest : Option τ} {j : Nat} {x : Int64} (d : decode M.1 pc = .ok (.lload j, 2)) (i : Nat) (hi : lv[i]? = some (j, Value.long x)) (k : Wm E M O w (pc + 2) lv (.long x :: st) rest) : Wm E M O w pc lv (st) rest := fun z hz p e s m args below meth c H locs ls C hP hD hS hl => lv_lload C.1 C.2.1 d (lv_at hl i hi) (k z hz p e s m args below meth c H locs ls C hP hD hS hl)
theorem r_lstore_n {τ : Type} {E : Sp} {M : Mt} {O : τ → Option Value × Wd} {w : Wd} {pc : Nat} {lv : List (Nat × Value)} {st : List Value} {rest : Option τ} {j : Fin 4} {x : Int64} {lv' : List (Nat × Value)} (d : decode M.1 pc = .ok (.lstore_n j, 1)) (hn : (j : Nat) + 1 < mL M) (ks : List Nat) (hl' : lv_pick (((j : Nat), Value.long x) :: lv.filter (fun q => !(q.1 == (j : Nat)) && (!(q.1 == (j : Nat) + 1) && !(q.1 + 1 == (j : Nat) && q.2.category == 2)))) ks = lv') (k : Wm E M O w (pc + 1) lv' st rest) : Wm E M O w pc lv (Value.long x :: st) rest := fun z hz p e s m args below meth c H locs ls C hP hD hS hl => lv_lstore_n C.1 C.2.1 d rfl hl hn rfl (fun ls h9 => k z hz p e s m args below meth c H locs ls C hP hD hS (lv_sub h9 ks hl'))
theorem r_lstore {τ : Type} {E : Sp} {M : Mt} {O : τ → Option Value × Wd} {w : Wd} {pc : Nat} {lv : List (Nat × Value)} {st : List Value} {rest : Option τ} {j : Nat} {x : Int64} {lv' : List (Nat × Value)} (d : decode M.1 pc = .ok (.lstore j, 2)) (hn : j + 1 < mL M) (ks : List Nat) (hl' : lv_pick ((j, Value.long x) :: lv.filter (fun q => !(q.1 == j) && (!(q.1 == j + 1) && !(q.1 + 1 == j && q.2.category == 2)))) ks = lv') (k : Wm E M O w (pc + 2) lv' st rest) : Wm E M O w pc lv (Value.long x :: st) rest := fun z hz p e s m args below meth c H locs ls C hP hD hS hl => lv_lstore C.1 C.2.1 d hl hn rfl (fun ls h9 => k z hz p e s m args below meth c H locs ls C hP hD hS (lv_sub h9 ks hl'))
theorem r_aload_n {τ : Type} {E : Sp} {M : Mt} {O : τ → Option Value × Wd} {w : Wd} {pc : Nat} {lv : List (Nat × Value)} {st : List Value} {rest : Option τ} {j : Fin 4} {x : Nat} (d : decode M.1 pc = .ok (.aload_n j, 1)) (i : Nat) (hi : lv[i]? = some ((j : Nat), Value.ref x)) (k : Wm E M O w (pc + 1) lv (.ref x :: st) rest) : Wm E M O w pc lv (st) rest := fun z hz p e s m args below meth c H locs ls C hP hD hS hl => lv_aload_n C.1 C.2.1 d rfl (lv_at hl i hi) (k z hz p e s m args below meth c H locs ls C hP hD hS hl)
theorem r_aload {τ : Type} {E : Sp} {M : Mt} {O : τ → Option Value × Wd} {w : Wd} {pc : Nat} {lv : List (Nat × Value)} {st : List Value} {rest : Option τ} {j : Nat} {x : Nat} (d : decode M.1 pc = .ok (.aload j, 2)) (i : Nat) (hi : lv[i]? = some (j, Value.ref x)) (k : Wm E M O w (pc + 2) lv (.ref x :: st) rest) : Wm E M O w pc lv (st) rest := fun z hz p e s m args below meth c H locs ls C hP hD hS hl => lv_aload C.1 C.2.1 d (lv_at hl i hi) (k z hz p e s m args below meth c H locs ls C hP hD hS hl)
theorem r_astore_n {τ : Type} {E : Sp} {M : Mt} {O : τ → Option Value × Wd} {w : Wd} {pc : Nat} {lv : List (Nat × Value)} {st : List Value} {rest : Option τ} {j : Fin 4} {x : Nat} {lv' : List (Nat × Value)} (d : decode M.1 pc = .ok (.astore_n j, 1)) (hn : (j : Nat) < mL M) (ks : List Nat) (hl' : lv_pick (((j : Nat), Value.ref x) :: lv.filter (fun q => !(q.1 == (j : Nat)) && !(q.1 + 1 == (j : Nat) && q.2.category == 2))) ks = lv') (k : Wm E M O w (pc + 1) lv' st rest) : Wm E M O w pc lv (Value.ref x :: st) rest := fun z hz p e s m args below meth c H locs ls C hP hD hS hl => lv_astore_n C.1 C.2.1 d rfl hl hn rfl (fun ls h9 => k z hz p e s m args below meth c H locs ls C hP hD hS (lv_sub h9 ks hl'))
theorem r_astore {τ : Type} {E : Sp} {M : Mt} {O : τ → Option Value × Wd} {w : Wd} {pc : Nat} {lv : List (Nat × Value)} {st : List Value} {rest : Option τ} {j : Nat} {x : Nat} {lv' : List (Nat × Value)} (d : decode M.1 pc = .ok (.astore j, 2)) (hn : j < mL M) (ks : List Nat) (hl' : lv_pick ((j, Value.ref x) :: lv.filter (fun q => !(q.1 == j) && !(q.1 + 1 == j && q.2.category == 2))) ks = lv') (k : Wm E M O w (pc + 2) lv' st rest) : Wm E M O w pc lv (Value.ref x :: st) rest := fun z hz p e s m args below meth c H locs ls C hP hD hS hl => lv_astore C.1 C.2.1 d hl hn rfl (fun ls h9 => k z hz p e s m args below meth c H locs ls C hP hD hS (lv_sub h9 ks hl'))
theorem r_fload_n {τ : Type} {E : Sp} {M : Mt} {O : τ → Option Value × Wd} {w : Wd} {pc : Nat} {lv : List (Nat × Value)} {st : List Value} {rest : Option τ} {j : Fin 4} {x : UInt32} (d : decode M.1 pc = .ok (.fload_n j, 1)) (i : Nat) (hi : lv[i]? = some ((j : Nat), Value.float x)) (k : Wm E M O w (pc + 1) lv (.float x :: st) rest) : Wm E M O w pc lv (st) rest := fun z hz p e s m args below meth c H locs ls C hP hD hS hl => lv_fload_n C.1 C.2.1 d rfl (lv_at hl i hi) (k z hz p e s m args below meth c H locs ls C hP hD hS hl)
theorem r_fload {τ : Type} {E : Sp} {M : Mt} {O : τ → Option Value × Wd} {w : Wd} {pc : Nat} {lv : List (Nat × Value)} {st : List Value} {rest : Option τ} {j : Nat} {x : UInt32} (d : decode M.1 pc = .ok (.fload j, 2)) (i : Nat) (hi : lv[i]? = some (j, Value.float x)) (k : Wm E M O w (pc + 2) lv (.float x :: st) rest) : Wm E M O w pc lv (st) rest := fun z hz p e s m args below meth c H locs ls C hP hD hS hl => lv_fload C.1 C.2.1 d (lv_at hl i hi) (k z hz p e s m args below meth c H locs ls C hP hD hS hl)
theorem r_fstore_n {τ : Type} {E : Sp} {M : Mt} {O : τ → Option Value × Wd} {w : Wd} {pc : Nat} {lv : List (Nat × Value)} {st : List Value} {rest : Option τ} {j : Fin 4} {x : UInt32} {lv' : List (Nat × Value)} (d : decode M.1 pc = .ok (.fstore_n j, 1)) (hn : (j : Nat) < mL M) (ks : List Nat) (hl' : lv_pick (((j : Nat), Value.float x) :: lv.filter (fun q => !(q.1 == (j : Nat)) && !(q.1 + 1 == (j : Nat) && q.2.category == 2))) ks = lv') (k : Wm E M O w (pc + 1) lv' st rest) : Wm E M O w pc lv (Value.float x :: st) rest := fun z hz p e s m args below meth c H locs ls C hP hD hS hl => lv_fstore_n C.1 C.2.1 d rfl hl hn rfl (fun ls h9 => k z hz p e s m args below meth c H locs ls C hP hD hS (lv_sub h9 ks hl'))
theorem r_fstore {τ : Type} {E : Sp} {M : Mt} {O : τ → Option Value × Wd} {w : Wd} {pc : Nat} {lv : List (Nat × Value)} {st : List Value} {rest : Option τ} {j : Nat} {x : UInt32} {lv' : List (Nat × Value)} (d : decode M.1 pc = .ok (.fstore j, 2)) (hn : j < mL M) (ks : List Nat) (hl' : lv_pick ((j, Value.float x) :: lv.filter (fun q => !(q.1 == j) && !(q.1 + 1 == j && q.2.category == 2))) ks = lv') (k : Wm E M O w (pc + 2) lv' st rest) : Wm E M O w pc lv (Value.float x :: st) rest := fun z hz p e s m args below meth c H locs ls C hP hD hS hl => lv_fstore C.1 C.2.1 d hl hn rfl (fun ls h9 => k z hz p e s m args below meth c H locs ls C hP hD hS (lv_sub h9 ks hl'))
theorem r_dload_n {τ : Type} {E : Sp} {M : Mt} {O : τ → Option Value × Wd} {w : Wd} {pc : Nat} {lv : List (Nat × Value)} {st : List Value} {rest : Option τ} {j : Fin 4} {x : UInt64} (d : decode M.1 pc = .ok (.dload_n j, 1)) (i : Nat) (hi : lv[i]? = some ((j : Nat), Value.double x)) (k : Wm E M O w (pc + 1) lv (.double x :: st) rest) : Wm E M O w pc lv (st) rest := fun z hz p e s m args below meth c H locs ls C hP hD hS hl => lv_dload_n C.1 C.2.1 d rfl (lv_at hl i hi) (k z hz p e s m args below meth c H locs ls C hP hD hS hl)
theorem r_dload {τ : Type} {E : Sp} {M : Mt} {O : τ → Option Value × Wd} {w : Wd} {pc : Nat} {lv : List (Nat × Value)} {st : List Value} {rest : Option τ} {j : Nat} {x : UInt64} (d : decode M.1 pc = .ok (.dload j, 2)) (i : Nat) (hi : lv[i]? = some (j, Value.double x)) (k : Wm E M O w (pc + 2) lv (.double x :: st) rest) : Wm E M O w pc lv (st) rest := fun z hz p e s m args below meth c H locs ls C hP hD hS hl => lv_dload C.1 C.2.1 d (lv_at hl i hi) (k z hz p e s m args below meth c H locs ls C hP hD hS hl)
theorem r_dstore_n {τ : Type} {E : Sp} {M : Mt} {O : τ → Option Value × Wd} {w : Wd} {pc : Nat} {lv : List (Nat × Value)} {st : List Value} {rest : Option τ} {j : Fin 4} {x : UInt64} {lv' : List (Nat × Value)} (d : decode M.1 pc = .ok (.dstore_n j, 1)) (hn : (j : Nat) + 1 < mL M) (ks : List Nat) (hl' : lv_pick (((j : Nat), Value.double x) :: lv.filter (fun q => !(q.1 == (j : Nat)) && (!(q.1 == (j : Nat) + 1) && !(q.1 + 1 == (j : Nat) && q.2.category == 2)))) ks = lv') (k : Wm E M O w (pc + 1) lv' st rest) : Wm E M O w pc lv (Value.double x :: st) rest := fun z hz p e s m args below meth c H locs ls C hP hD hS hl => lv_dstore_n C.1 C.2.1 d rfl hl hn rfl (fun ls h9 => k z hz p e s m args below meth c H locs ls C hP hD hS (lv_sub h9 ks hl'))
theorem r_dstore {τ : Type} {E : Sp} {M : Mt} {O : τ → Option Value × Wd} {w : Wd} {pc : Nat} {lv : List (Nat × Value)} {st : List Value} {rest : Option τ} {j : Nat} {x : UInt64} {lv' : List (Nat × Value)} (d : decode M.1 pc = .ok (.dstore j, 2)) (hn : j + 1 < mL M) (ks : List Nat) (hl' : lv_pick ((j, Value.double x) :: lv.filter (fun q => !(q.1 == j) && (!(q.1 == j + 1) && !(q.1 + 1 == j && q.2.category == 2)))) ks = lv') (k : Wm E M O w (pc + 2) lv' st rest) : Wm E M O w pc lv (Value.double x :: st) rest := fun z hz p e s m args below meth c H locs ls C hP hD hS hl => lv_dstore C.1 C.2.1 d hl hn rfl (fun ls h9 => k z hz p e s m args below meth c H locs ls C hP hD hS (lv_sub h9 ks hl'))
theorem r_iinc {τ : Type} {E : Sp} {M : Mt} {O : τ → Option Value × Wd} {w : Wd} {pc : Nat} {lv : List (Nat × Value)} {st : List Value} {rest : Option τ} {i : Nat} {n : Int} {x v : Int32} {lv' : List (Nat × Value)} (d : decode M.1 pc = .ok (.iinc i n, 3)) (j : Nat) (hj : lv[j]? = some (i, Value.int x)) (hv : x + Int32.ofInt n = v) (hn : i < mL M) (ks : List Nat) (hl' : lv_pick ((i, Value.int v) :: lv.filter (fun q => !(q.1 == i) && !(q.1 + 1 == i && q.2.category == 2))) ks = lv') (k : Wm E M O w (pc + 3) lv' st rest) : Wm E M O w pc lv st rest := fun z hz p e s m args below meth c H locs ls C hP hD hS hl => lv_iinc C.1 C.2.1 d hl (k := j) hj hv hn rfl (fun ls h9 => k z hz p e s m args below meth c H locs ls C hP hD hS (lv_sub h9 ks hl'))
theorem r_lv {τ : Type} {E : Sp} {M : Mt} {O : τ → Option Value × Wd} {w : Wd} {pc : Nat} {lv : List (Nat × Value)} {st : List Value} {rest : Option τ} {lv' : List (Nat × Value)} (ks : List Nat) (h : lv_pick lv ks = lv') (k : Wm E M O w pc lv' st rest) : Wm E M O w pc lv st rest := fun z hz p e s m args below meth c H locs ls C hP hD hS hl => k z hz p e s m args below meth c H locs ls C hP hD hS (lv_sub hl ks h)
theorem r_idiv {τ : Type} {E : Sp} {M : Mt} {O : τ → Option Value × Wd} {w : Wd} {pc : Nat} {lv : List (Nat × Value)} {st : List Value} {K : Option τ} {x y : Int32} (d : decode M.1 pc = .ok (.idiv, 1)) (k : Wm E M O w (pc + 1) lv (.int (x / y) :: st) K) : Wm E M O w pc lv (.int y :: .int x :: st) (if ¬ y = 0 then K else none) := by
  intro z hz p e s m args below meth c H locs ls C hP hD hS hl
  by_cases h : ¬ y = 0
  · rw [if_pos h] at hz
    exact lv_idiv C.1 C.2.1 d h (k z hz p e s m args below meth c H locs ls C hP hD hS hl)
  · rw [if_neg h] at hz
    cases hz
theorem r_irem {τ : Type} {E : Sp} {M : Mt} {O : τ → Option Value × Wd} {w : Wd} {pc : Nat} {lv : List (Nat × Value)} {st : List Value} {K : Option τ} {x y : Int32} (d : decode M.1 pc = .ok (.irem, 1)) (k : Wm E M O w (pc + 1) lv (.int (jrem x y) :: st) K) : Wm E M O w pc lv (.int y :: .int x :: st) (if ¬ y = 0 then K else none) := by
  intro z hz p e s m args below meth c H locs ls C hP hD hS hl
  by_cases h : ¬ y = 0
  · rw [if_pos h] at hz
    exact lv_irem C.1 C.2.1 d h (k z hz p e s m args below meth c H locs ls C hP hD hS hl)
  · rw [if_neg h] at hz
    cases hz
theorem r_fadd {τ : Type} {E : Sp} {M : Mt} {O : τ → Option Value × Wd} {w : Wd} {pc : Nat} {lv : List (Nat × Value)} {st : List Value} {K : Option τ} {x y : UInt32} (d : decode M.1 pc = .ok (.fadd, 1)) (k : Wm E M O w (pc + 1) lv (.float (FP.fadd x y) :: st) K) : Wm E M O w pc lv (.float y :: .float x :: st) (if nn32 (FP.fadd x y) = true then K else none) := by
  intro z hz p e s m args below meth c H locs ls C hP hD hS hl
  by_cases h : nn32 (FP.fadd x y) = true
  · rw [if_pos h] at hz
    exact lv_fadd C.1 C.2.1 d (nn32_n h) (k z hz p e s m args below meth c H locs ls C hP hD hS hl)
  · rw [if_neg h] at hz
    cases hz
theorem r_fsub {τ : Type} {E : Sp} {M : Mt} {O : τ → Option Value × Wd} {w : Wd} {pc : Nat} {lv : List (Nat × Value)} {st : List Value} {K : Option τ} {x y : UInt32} (d : decode M.1 pc = .ok (.fsub, 1)) (k : Wm E M O w (pc + 1) lv (.float (FP.fsub x y) :: st) K) : Wm E M O w pc lv (.float y :: .float x :: st) (if nn32 (FP.fsub x y) = true then K else none) := by
  intro z hz p e s m args below meth c H locs ls C hP hD hS hl
  by_cases h : nn32 (FP.fsub x y) = true
  · rw [if_pos h] at hz
    exact lv_fsub C.1 C.2.1 d (nn32_n h) (k z hz p e s m args below meth c H locs ls C hP hD hS hl)
  · rw [if_neg h] at hz
    cases hz
theorem r_fmul {τ : Type} {E : Sp} {M : Mt} {O : τ → Option Value × Wd} {w : Wd} {pc : Nat} {lv : List (Nat × Value)} {st : List Value} {K : Option τ} {x y : UInt32} (d : decode M.1 pc = .ok (.fmul, 1)) (k : Wm E M O w (pc + 1) lv (.float (FP.fmul x y) :: st) K) : Wm E M O w pc lv (.float y :: .float x :: st) (if nn32 (FP.fmul x y) = true then K else none) := by
  intro z hz p e s m args below meth c H locs ls C hP hD hS hl
  by_cases h : nn32 (FP.fmul x y) = true
  · rw [if_pos h] at hz
    exact lv_fmul C.1 C.2.1 d (nn32_n h) (k z hz p e s m args below meth c H locs ls C hP hD hS hl)
  · rw [if_neg h] at hz
    cases hz
theorem r_fdiv {τ : Type} {E : Sp} {M : Mt} {O : τ → Option Value × Wd} {w : Wd} {pc : Nat} {lv : List (Nat × Value)} {st : List Value} {K : Option τ} {x y : UInt32} (d : decode M.1 pc = .ok (.fdiv, 1)) (k : Wm E M O w (pc + 1) lv (.float (FP.fdiv x y) :: st) K) : Wm E M O w pc lv (.float y :: .float x :: st) (if nn32 (FP.fdiv x y) = true then K else none) := by
  intro z hz p e s m args below meth c H locs ls C hP hD hS hl
  by_cases h : nn32 (FP.fdiv x y) = true
  · rw [if_pos h] at hz
    exact lv_fdiv C.1 C.2.1 d (nn32_n h) (k z hz p e s m args below meth c H locs ls C hP hD hS hl)
  · rw [if_neg h] at hz
    cases hz
theorem r_dsub {τ : Type} {E : Sp} {M : Mt} {O : τ → Option Value × Wd} {w : Wd} {pc : Nat} {lv : List (Nat × Value)} {st : List Value} {K : Option τ} {x y : UInt64} (d : decode M.1 pc = .ok (.dsub, 1)) (k : Wm E M O w (pc + 1) lv (.double (FP.dsub x y) :: st) K) : Wm E M O w pc lv (.double y :: .double x :: st) (if nn64 (FP.dsub x y) = true then K else none) := by
  intro z hz p e s m args below meth c H locs ls C hP hD hS hl
  by_cases h : nn64 (FP.dsub x y) = true
  · rw [if_pos h] at hz
    exact lv_dsub C.1 C.2.1 d (nn64_n h) (k z hz p e s m args below meth c H locs ls C hP hD hS hl)
  · rw [if_neg h] at hz
    cases hz
theorem r_dmul {τ : Type} {E : Sp} {M : Mt} {O : τ → Option Value × Wd} {w : Wd} {pc : Nat} {lv : List (Nat × Value)} {st : List Value} {K : Option τ} {x y : UInt64} (d : decode M.1 pc = .ok (.dmul, 1)) (k : Wm E M O w (pc + 1) lv (.double (FP.dmul x y) :: st) K) : Wm E M O w pc lv (.double y :: .double x :: st) (if nn64 (FP.dmul x y) = true then K else none) := by
  intro z hz p e s m args below meth c H locs ls C hP hD hS hl
  by_cases h : nn64 (FP.dmul x y) = true
  · rw [if_pos h] at hz
    exact lv_dmul C.1 C.2.1 d (nn64_n h) (k z hz p e s m args below meth c H locs ls C hP hD hS hl)
  · rw [if_neg h] at hz
    cases hz
theorem r_ddiv {τ : Type} {E : Sp} {M : Mt} {O : τ → Option Value × Wd} {w : Wd} {pc : Nat} {lv : List (Nat × Value)} {st : List Value} {K : Option τ} {x y : UInt64} (d : decode M.1 pc = .ok (.ddiv, 1)) (k : Wm E M O w (pc + 1) lv (.double (FP.ddiv x y) :: st) K) : Wm E M O w pc lv (.double y :: .double x :: st) (if nn64 (FP.ddiv x y) = true then K else none) := by
  intro z hz p e s m args below meth c H locs ls C hP hD hS hl
  by_cases h : nn64 (FP.ddiv x y) = true
  · rw [if_pos h] at hz
    exact lv_ddiv C.1 C.2.1 d (nn64_n h) (k z hz p e s m args below meth c H locs ls C hP hD hS hl)
  · rw [if_neg h] at hz
    cases hz
theorem r_if_eq {τ : Type} {E : Sp} {M : Mt} {O : τ → Option Value × Wd} {w : Wd} {pc : Nat} {lv : List (Nat × Value)} {st : List Value} {K1 K2 : Option τ} {x : Int32} {off : Int} {tgt : Nat} (d : decode M.1 pc = .ok (.ifCond .eq off, 3)) (ht : (pc : Int) + off = (tgt : Int)) (kt : x = 0 → Wm E M O w tgt lv st K1) (kf : ¬ (x = 0) → Wm E M O w (pc + 3) lv st K2) : Wm E M O w pc lv (.int x :: st) (if x = 0 then K1 else K2) := fun z hz p e s m args below meth c H locs ls C hP hD hS hl => lv_if_eq C.1 C.2.1 d ht (fun h => kt h z ((if_pos h).symm.trans hz) p e s m args below meth c H locs ls C hP hD hS hl) (fun h => kf h z ((if_neg h).symm.trans hz) p e s m args below meth c H locs ls C hP hD hS hl)
theorem r_icmp_eq {τ : Type} {E : Sp} {M : Mt} {O : τ → Option Value × Wd} {w : Wd} {pc : Nat} {lv : List (Nat × Value)} {st : List Value} {K1 K2 : Option τ} {x y : Int32} {off : Int} {tgt : Nat} (d : decode M.1 pc = .ok (.if_icmp .eq off, 3)) (ht : (pc : Int) + off = (tgt : Int)) (kt : x = y → Wm E M O w tgt lv st K1) (kf : ¬ (x = y) → Wm E M O w (pc + 3) lv st K2) : Wm E M O w pc lv (.int y :: .int x :: st) (if x = y then K1 else K2) := fun z hz p e s m args below meth c H locs ls C hP hD hS hl => lv_icmp_eq C.1 C.2.1 d ht (fun h => kt h z ((if_pos h).symm.trans hz) p e s m args below meth c H locs ls C hP hD hS hl) (fun h => kf h z ((if_neg h).symm.trans hz) p e s m args below meth c H locs ls C hP hD hS hl)
theorem r_if_ne {τ : Type} {E : Sp} {M : Mt} {O : τ → Option Value × Wd} {w : Wd} {pc : Nat} {lv : List (Nat × Value)} {st : List Value} {K1 K2 : Option τ} {x : Int32} {off : Int} {tgt : Nat} (d : decode M.1 pc = .ok (.ifCond .ne off, 3)) (ht : (pc : Int) + off = (tgt : Int)) (kt : ¬ x = 0 → Wm E M O w tgt lv st K1) (kf : x = 0 → Wm E M O w (pc + 3) lv st K2) : Wm E M O w pc lv (.int x :: st) (if x = 0 then K2 else K1) := fun z hz p e s m args below meth c H locs ls C hP hD hS hl => lv_if_ne C.1 C.2.1 d ht (fun h => kt h z ((if_neg h).symm.trans hz) p e s m args below meth c H locs ls C hP hD hS hl) (fun h => kf h z ((if_pos h).symm.trans hz) p e s m args below meth c H locs ls C hP hD hS hl)
theorem r_icmp_ne {τ : Type} {E : Sp} {M : Mt} {O : τ → Option Value × Wd} {w : Wd} {pc : Nat} {lv : List (Nat × Value)} {st : List Value} {K1 K2 : Option τ} {x y : Int32} {off : Int} {tgt : Nat} (d : decode M.1 pc = .ok (.if_icmp .ne off, 3)) (ht : (pc : Int) + off = (tgt : Int)) (kt : ¬ x = y → Wm E M O w tgt lv st K1) (kf : x = y → Wm E M O w (pc + 3) lv st K2) : Wm E M O w pc lv (.int y :: .int x :: st) (if x = y then K2 else K1) := fun z hz p e s m args below meth c H locs ls C hP hD hS hl => lv_icmp_ne C.1 C.2.1 d ht (fun h => kt h z ((if_neg h).symm.trans hz) p e s m args below meth c H locs ls C hP hD hS hl) (fun h => kf h z ((if_pos h).symm.trans hz) p e s m args below meth c H locs ls C hP hD hS hl)
theorem r_if_lt {τ : Type} {E : Sp} {M : Mt} {O : τ → Option Value × Wd} {w : Wd} {pc : Nat} {lv : List (Nat × Value)} {st : List Value} {K1 K2 : Option τ} {x : Int32} {off : Int} {tgt : Nat} (d : decode M.1 pc = .ok (.ifCond .lt off, 3)) (ht : (pc : Int) + off = (tgt : Int)) (kt : x < 0 → Wm E M O w tgt lv st K1) (kf : ¬ (x < 0) → Wm E M O w (pc + 3) lv st K2) : Wm E M O w pc lv (.int x :: st) (if x < 0 then K1 else K2) := fun z hz p e s m args below meth c H locs ls C hP hD hS hl => lv_if_lt C.1 C.2.1 d ht (fun h => kt h z ((if_pos h).symm.trans hz) p e s m args below meth c H locs ls C hP hD hS hl) (fun h => kf h z ((if_neg h).symm.trans hz) p e s m args below meth c H locs ls C hP hD hS hl)
theorem r_icmp_lt {τ : Type} {E : Sp} {M : Mt} {O : τ → Option Value × Wd} {w : Wd} {pc : Nat} {lv : List (Nat × Value)} {st : List Value} {K1 K2 : Option τ} {x y : Int32} {off : Int} {tgt : Nat} (d : decode M.1 pc = .ok (.if_icmp .lt off, 3)) (ht : (pc : Int) + off = (tgt : Int)) (kt : x < y → Wm E M O w tgt lv st K1) (kf : ¬ (x < y) → Wm E M O w (pc + 3) lv st K2) : Wm E M O w pc lv (.int y :: .int x :: st) (if x < y then K1 else K2) := fun z hz p e s m args below meth c H locs ls C hP hD hS hl => lv_icmp_lt C.1 C.2.1 d ht (fun h => kt h z ((if_pos h).symm.trans hz) p e s m args below meth c H locs ls C hP hD hS hl) (fun h => kf h z ((if_neg h).symm.trans hz) p e s m args below meth c H locs ls C hP hD hS hl)
theorem r_if_ge {τ : Type} {E : Sp} {M : Mt} {O : τ → Option Value × Wd} {w : Wd} {pc : Nat} {lv : List (Nat × Value)} {st : List Value} {K1 K2 : Option τ} {x : Int32} {off : Int} {tgt : Nat} (d : decode M.1 pc = .ok (.ifCond .ge off, 3)) (ht : (pc : Int) + off = (tgt : Int)) (kt : 0 ≤ x → Wm E M O w tgt lv st K1) (kf : ¬ (0 ≤ x) → Wm E M O w (pc + 3) lv st K2) : Wm E M O w pc lv (.int x :: st) (if 0 ≤ x then K1 else K2) := fun z hz p e s m args below meth c H locs ls C hP hD hS hl => lv_if_ge C.1 C.2.1 d ht (fun h => kt h z ((if_pos h).symm.trans hz) p e s m args below meth c H locs ls C hP hD hS hl) (fun h => kf h z ((if_neg h).symm.trans hz) p e s m args below meth c H locs ls C hP hD hS hl)
theorem r_icmp_ge {τ : Type} {E : Sp} {M : Mt} {O : τ → Option Value × Wd} {w : Wd} {pc : Nat} {lv : List (Nat × Value)} {st : List Value} {K1 K2 : Option τ} {x y : Int32} {off : Int} {tgt : Nat} (d : decode M.1 pc = .ok (.if_icmp .ge off, 3)) (ht : (pc : Int) + off = (tgt : Int)) (kt : y ≤ x → Wm E M O w tgt lv st K1) (kf : ¬ (y ≤ x) → Wm E M O w (pc + 3) lv st K2) : Wm E M O w pc lv (.int y :: .int x :: st) (if y ≤ x then K1 else K2) := fun z hz p e s m args below meth c H locs ls C hP hD hS hl => lv_icmp_ge C.1 C.2.1 d ht (fun h => kt h z ((if_pos h).symm.trans hz) p e s m args below meth c H locs ls C hP hD hS hl) (fun h => kf h z ((if_neg h).symm.trans hz) p e s m args below meth c H locs ls C hP hD hS hl)
theorem r_if_gt {τ : Type} {E : Sp} {M : Mt} {O : τ → Option Value × Wd} {w : Wd} {pc : Nat} {lv : List (Nat × Value)} {st : List Value} {K1 K2 : Option τ} {x : Int32} {off : Int} {tgt : Nat} (d : decode M.1 pc = .ok (.ifCond .gt off, 3)) (ht : (pc : Int) + off = (tgt : Int)) (kt : 0 < x → Wm E M O w tgt lv st K1) (kf : ¬ (0 < x) → Wm E M O w (pc + 3) lv st K2) : Wm E M O w pc lv (.int x :: st) (if 0 < x then K1 else K2) := fun z hz p e s m args below meth c H locs ls C hP hD hS hl => lv_if_gt C.1 C.2.1 d ht (fun h => kt h z ((if_pos h).symm.trans hz) p e s m args below meth c H locs ls C hP hD hS hl) (fun h => kf h z ((if_neg h).symm.trans hz) p e s m args below meth c H locs ls C hP hD hS hl)
theorem r_icmp_gt {τ : Type} {E : Sp} {M : Mt} {O : τ → Option Value × Wd} {w : Wd} {pc : Nat} {lv : List (Nat × Value)} {st : List Value} {K1 K2 : Option τ} {x y : Int32} {off : Int} {tgt : Nat} (d : decode M.1 pc = .ok (.if_icmp .gt off, 3)) (ht : (pc : Int) + off = (tgt : Int)) (kt : y < x → Wm E M O w tgt lv st K1) (kf : ¬ (y < x) → Wm E M O w (pc + 3) lv st K2) : Wm E M O w pc lv (.int y :: .int x :: st) (if y < x then K1 else K2) := fun z hz p e s m args below meth c H locs ls C hP hD hS hl => lv_icmp_gt C.1 C.2.1 d ht (fun h => kt h z ((if_pos h).symm.trans hz) p e s m args below meth c H locs ls C hP hD hS hl) (fun h => kf h z ((if_neg h).symm.trans hz) p e s m args below meth c H locs ls C hP hD hS hl)
theorem r_if_le {τ : Type} {E : Sp} {M : Mt} {O : τ → Option Value × Wd} {w : Wd} {pc : Nat} {lv : List (Nat × Value)} {st : List Value} {K1 K2 : Option τ} {x : Int32} {off : Int} {tgt : Nat} (d : decode M.1 pc = .ok (.ifCond .le off, 3)) (ht : (pc : Int) + off = (tgt : Int)) (kt : x ≤ 0 → Wm E M O w tgt lv st K1) (kf : ¬ (x ≤ 0) → Wm E M O w (pc + 3) lv st K2) : Wm E M O w pc lv (.int x :: st) (if x ≤ 0 then K1 else K2) := fun z hz p e s m args below meth c H locs ls C hP hD hS hl => lv_if_le C.1 C.2.1 d ht (fun h => kt h z ((if_pos h).symm.trans hz) p e s m args below meth c H locs ls C hP hD hS hl) (fun h => kf h z ((if_neg h).symm.trans hz) p e s m args below meth c H locs ls C hP hD hS hl)
theorem r_icmp_le {τ : Type} {E : Sp} {M : Mt} {O : τ → Option Value × Wd} {w : Wd} {pc : Nat} {lv : List (Nat × Value)} {st : List Value} {K1 K2 : Option τ} {x y : Int32} {off : Int} {tgt : Nat} (d : decode M.1 pc = .ok (.if_icmp .le off, 3)) (ht : (pc : Int) + off = (tgt : Int)) (kt : x ≤ y → Wm E M O w tgt lv st K1) (kf : ¬ (x ≤ y) → Wm E M O w (pc + 3) lv st K2) : Wm E M O w pc lv (.int y :: .int x :: st) (if x ≤ y then K1 else K2) := fun z hz p e s m args below meth c H locs ls C hP hD hS hl => lv_icmp_le C.1 C.2.1 d ht (fun h => kt h z ((if_pos h).symm.trans hz) p e s m args below meth c H locs ls C hP hD hS hl) (fun h => kf h z ((if_neg h).symm.trans hz) p e s m args below meth c H locs ls C hP hD hS hl)
theorem r_goto {τ : Type} {E : Sp} {M : Mt} {O : τ → Option Value × Wd} {w : Wd} {pc : Nat} {lv : List (Nat × Value)} {st : List Value} {rest : Option τ} {off : Int} {tgt : Nat} (d : decode M.1 pc = .ok (.goto off, 3)) (ht : (pc : Int) + off = (tgt : Int)) (k : Wm E M O w tgt lv st rest) : Wm E M O w pc lv st rest := fun z hz p e s m args below meth c H locs ls C hP hD hS hl => lv_goto C.1 C.2.1 d ht (k z hz p e s m args below meth c H locs ls C hP hD hS hl)
theorem r_leti {τ : Type} {E : Sp} {M : Mt} {O : τ → Option Value × Wd} {w : Wd} {pc : Nat} {lv : List (Nat × Value)} {st : List Value} {K : Int32 → Option τ} {x : Int32} (k : ∀ y : Int32, Wm E M O w pc lv (Value.int y :: st) (K y)) : Wm E M O w pc lv (Value.int x :: st) (jlet x K) := k x
theorem r_letl {τ : Type} {E : Sp} {M : Mt} {O : τ → Option Value × Wd} {w : Wd} {pc : Nat} {lv : List (Nat × Value)} {st : List Value} {K : Int64 → Option τ} {x : Int64} (k : ∀ y : Int64, Wm E M O w pc lv (Value.long y :: st) (K y)) : Wm E M O w pc lv (Value.long x :: st) (jlet x K) := k x
theorem r_letf {τ : Type} {E : Sp} {M : Mt} {O : τ → Option Value × Wd} {w : Wd} {pc : Nat} {lv : List (Nat × Value)} {st : List Value} {K : UInt32 → Option τ} {x : UInt32} (k : ∀ y : UInt32, Wm E M O w pc lv (Value.float y :: st) (K y)) : Wm E M O w pc lv (Value.float x :: st) (jlet x K) := k x
theorem r_letd {τ : Type} {E : Sp} {M : Mt} {O : τ → Option Value × Wd} {w : Wd} {pc : Nat} {lv : List (Nat × Value)} {st : List Value} {K : UInt64 → Option τ} {x : UInt64} (k : ∀ y : UInt64, Wm E M O w pc lv (Value.double y :: st) (K y)) : Wm E M O w pc lv (Value.double x :: st) (jlet x K) := k x
theorem r_end {E : Sp} {M : Mt} {p : Program} {s t : State} {m : MethodId} {args : Array Value} {meth : Method} {c : Code} {q : Option Value × Wd} {H : Heap} {locs : List Loc} (_ : Cx E M p s m args meth c) (hP : va_P (eD E) CL (eC E q.2) H) (hD : va_D (eA E) (eC E q.2)) (hS : va_S (eA E) s.heap H locs) (ht : t.heap = H) : QcM E q args s (.returned q.1) t := ⟨⟨rfl, by rw [ht]; exact hP, hD⟩, hS.F ht⟩
theorem r_iret {E : Sp} {M : Mt} {w : Wd} {pc : Nat} {lv : List (Nat × Value)} {v : Int32} (hr : M.2.2.2.1 = some .int) (d : decode M.1 pc = .ok (.ireturn, 1)) : Wm E M (oI w) w pc lv [Value.int v] (some v) := by
  intro z hz p e s m args below meth c H locs ls C hP hD hS hl
  cases hz
  exact W.iret (v := v) C.1 C.2.1 (C.2.2.2.2.2.1.trans hr) (fun t ht _ => r_end (q := (oI w v)) C hP hD hS ht) hS.2.2 d C.2.2.2.2.2.2.1
theorem r_iretw {E : Sp} {M : Mt} {w : Wd} {pc : Nat} {lv : List (Nat × Value)} {v : Int32} (hr : M.2.2.2.1 = some .int) (d : decode M.1 pc = .ok (.ireturn, 1)) : Wm E M oIw w pc lv [Value.int v] (some (v, w)) := by
  intro z hz p e s m args below meth c H locs ls C hP hD hS hl
  cases hz
  exact W.iret (v := v) C.1 C.2.1 (C.2.2.2.2.2.1.trans hr) (fun t ht _ => r_end (q := (oIw (v, w))) C hP hD hS ht) hS.2.2 d C.2.2.2.2.2.2.1
theorem r_lret {E : Sp} {M : Mt} {w : Wd} {pc : Nat} {lv : List (Nat × Value)} {v : Int64} (hr : M.2.2.2.1 = some .long) (d : decode M.1 pc = .ok (.lreturn, 1)) : Wm E M (oL w) w pc lv [Value.long v] (some v) := by
  intro z hz p e s m args below meth c H locs ls C hP hD hS hl
  cases hz
  exact W.lret (v := v) C.1 C.2.1 (C.2.2.2.2.2.1.trans hr) (fun t ht _ => r_end (q := (oL w v)) C hP hD hS ht) hS.2.2 d C.2.2.2.2.2.2.1
theorem r_lretw {E : Sp} {M : Mt} {w : Wd} {pc : Nat} {lv : List (Nat × Value)} {v : Int64} (hr : M.2.2.2.1 = some .long) (d : decode M.1 pc = .ok (.lreturn, 1)) : Wm E M oLw w pc lv [Value.long v] (some (v, w)) := by
  intro z hz p e s m args below meth c H locs ls C hP hD hS hl
  cases hz
  exact W.lret (v := v) C.1 C.2.1 (C.2.2.2.2.2.1.trans hr) (fun t ht _ => r_end (q := (oLw (v, w))) C hP hD hS ht) hS.2.2 d C.2.2.2.2.2.2.1
theorem r_fret {E : Sp} {M : Mt} {w : Wd} {pc : Nat} {lv : List (Nat × Value)} {v : UInt32} (hr : M.2.2.2.1 = some .float) (d : decode M.1 pc = .ok (.freturn, 1)) : Wm E M (oF w) w pc lv [Value.float v] (some v) := by
  intro z hz p e s m args below meth c H locs ls C hP hD hS hl
  cases hz
  exact W.fret (v := v) C.1 C.2.1 (C.2.2.2.2.2.1.trans hr) (fun t ht _ => r_end (q := (oF w v)) C hP hD hS ht) hS.2.2 d C.2.2.2.2.2.2.1
theorem r_zret {E : Sp} {M : Mt} {w : Wd} {pc : Nat} {lv : List (Nat × Value)} {v : Int32} (hr : M.2.2.2.1 = some .boolean) (d : decode M.1 pc = .ok (.ireturn, 1)) : Wm E M (oI w) w pc lv [Value.int v] (if zb v = true then some v else none) := by
  intro z hz p e s m args below meth c H locs ls C hP hD hS hl
  by_cases h : zb v = true
  · rw [if_pos h] at hz
    cases hz
    exact W.zret (v := v) C.1 C.2.1 (C.2.2.2.2.2.1.trans hr) (zb_n h) (fun t ht _ => r_end (q := (oI w v)) C hP hD hS ht) hS.2.2 d C.2.2.2.2.2.2.1
  · rw [if_neg h] at hz
    cases hz
theorem r_zretw {E : Sp} {M : Mt} {w : Wd} {pc : Nat} {lv : List (Nat × Value)} {v : Int32} (hr : M.2.2.2.1 = some .boolean) (d : decode M.1 pc = .ok (.ireturn, 1)) : Wm E M oIw w pc lv [Value.int v] (if zb v = true then some (v, w) else none) := by
  intro z hz p e s m args below meth c H locs ls C hP hD hS hl
  by_cases h : zb v = true
  · rw [if_pos h] at hz
    cases hz
    exact W.zret (v := v) C.1 C.2.1 (C.2.2.2.2.2.1.trans hr) (zb_n h) (fun t ht _ => r_end (q := (oIw (v, w))) C hP hD hS ht) hS.2.2 d C.2.2.2.2.2.2.1
  · rw [if_neg h] at hz
    cases hz
theorem r_vret {E : Sp} {M : Mt} {w : Wd} {pc : Nat} {lv : List (Nat × Value)} (hr : M.2.2.2.1 = none) (d : decode M.1 pc = .ok (.return_, 1)) : Wm E M oVw w pc lv [] (some w) := by
  intro z hz p e s m args below meth c H locs ls C hP hD hS hl
  cases hz
  exact W.vret C.1 C.2.1 (C.2.2.2.2.2.1.trans hr) (fun t ht _ => r_end (q := (oVw w)) C hP hD hS ht) hS.2.2 d C.2.2.2.2.2.2.1
/-- a class's facts: its place among CL, its field rows among the tables' words -/
def FC (ci : Nat) (C : String) (T : u_T) (N : Nat) : Prop := CL[ci]? = some (C, T, N) ∧ ∀ w ∈ u_ws C T N, w ∈ GT
theorem r_get {τ : Type} {E : Sp} {M : Mt} {O : τ → Option Value × Wd} {w : Wd} {pc : Nat} {lv : List (Nat × Value)} {st : List Value} {rest : Option τ} {C₀ : String} {T : u_T} {N ci i a : Nat} {fs : List Value} {v : Value} (F : FC ci C₀ T N) (j : Nat) (hj : j < N) (hk : Cond.fieldLink M.2.1 i (T j).1 (T j).2.1 (T j).2.2.1 ∈ GT) (q : Nat) (he : (eC E w)[q]? = some (a, .inr (ci, fs))) (hv : fs[j]? = some v) (d : decode M.1 pc = .ok (.getfield i, 3)) (k : Wm E M O w (pc + 3) lv (v :: st) rest) : Wm E M O w pc lv (.ref a :: st) rest := fun z hz p e s m args below meth c H locs ls C hP hD hS hl => va_get C.1 C.2.1 C.2.2.2.2.1 F.2 C.2.2.2.1 C.2.2.2.2.2.2.2.2.1 hP q he F.1 j hj (C.2.2.2.2.1 _ hk) (fun _ h9 => h9) hv d (k z hz p e s m args below meth c H locs ls C hP hD hS hl)
theorem r_putG {τ : Type} {E : Sp} {M : Mt} {O : τ → Option Value × Wd} {w : Wd} {pc : Nat} {lv : List (Nat × Value)} {st : List Value} {K : Option τ} {C₀ : String} {T : u_T} {N ci i a : Nat} {fs : List Value} {v : Value} {w1 : Wd} {ty0 : Nat → FieldType} {ty : FieldType} (F : FC ci C₀ T N) (hty : ∀ k, k < N → parseFieldDescriptor (T k).2.2.1 = some (ty0 k)) (hnm : ∀ a, a < N → ∀ b, b < N → a ≠ b → (T a).2.1 ≠ (T b).2.1) (j : Nat) (hj : j < N) (hk : Cond.fieldLink M.2.1 i (T j).1 (T j).2.1 (T j).2.2.1 ∈ GT) (q : Nat) (he : (eC E w)[q]? = some (a, .inr (ci, fs))) (hfin : (T j).2.2.2 = false) (hty1 : parseFieldDescriptor (T j).2.2.1 = some ty) (hn : narrow ty v = v) (hfit : fits ty v = true) (hl : j < fs.length) (hset : (eC E w).set q (a, .inr (ci, fs.set j v)) = eC E w1) (d : decode M.1 pc = .ok (.putfield i, 3)) (k : Wm E M O w1 (pc + 3) lv st K) : Wm E M O w pc lv (v :: .ref a :: st) K := fun z hz p e s m args below meth c H locs ls C hP hD hS hl9 => va_put C.1 C.2.1 C.2.2.2.2.1 F.2 ty0 hty hnm C.2.2.2.1 C.2.2.2.2.2.2.2.2.1 hP hD hS q he F.1 j hj (C.2.2.2.2.1 _ hk) (fun _ h9 => h9) hfin hty1 hn hfit hl d (fun H locs hP hD hS => k z hz p e s m args below meth c H locs ls C (hset ▸ hP) (hset ▸ hD) hS hl9)
theorem r_iald {τ : Type} {E : Sp} {M : Mt} {O : τ → Option Value × Wd} {w : Wd} {pc : Nat} {lv : List (Nat × Value)} {st : List Value} {K : Option τ} {a n : Nat} {cA : ClassId} {f : Nat → Int32} {i : Int32} (q : Nat) (he : (eC E w)[q]? = some (a, .inl (cA, n, .inl f))) (ht : (eT E)[0]? = some (cA, .int)) (d : decode M.1 pc = .ok (.iaload, 1)) (k : Wm E M O w (pc + 1) lv (.int (f i.toNatClampNeg) :: st) K) : Wm E M O w pc lv (.int i :: .ref a :: st) (if inb i n = true then K else none) := by
  intro z hz p e s m args below meth c H locs ls C hP hD hS hl
  by_cases h : inb i n = true
  · rw [if_pos h] at hz
    exact va_iald C.1 C.2.1 C.2.2.2.2.2.2.2.2.1 hP q 0 he ht (inb_in h) d (k z hz p e s m args below meth c H locs ls C hP hD hS hl)
  · rw [if_neg h] at hz
    cases hz
theorem r_iast {τ : Type} {E : Sp} {M : Mt} {O : τ → Option Value × Wd} {w : Wd} {pc : Nat} {lv : List (Nat × Value)} {st : List Value} {K : Wd → Option τ} {a n q : Nat} {cA : ClassId} {f : Nat → Int32} {i x : Int32} (he : (eC E w)[q]? = some (a, .inl (cA, n, .inl f))) (ht : (eT E)[0]? = some (cA, .int)) (hset : ∀ j : Nat, (eC E w).set q (a, .inl (cA, n, .inl (upd f j x))) = eC E (wset w q j x)) (d : decode M.1 pc = .ok (.iastore, 1)) (k : ∀ w1 : Wd, Wm E M O w1 (pc + 1) lv st (K w1)) : Wm E M O w pc lv (.int x :: .int i :: .ref a :: st) (if inb i n = true then wput w q i.toNatClampNeg x K else none) := by
  intro z hz p e s m args below meth c H locs ls C hP hD hS hl
  by_cases h : inb i n = true
  · rw [if_pos h] at hz
    exact va_iast C.1 C.2.1 C.2.2.2.2.2.2.2.2.1 hP hD hS q 0 he ht (inb_in h) d (fun H locs hP hD hS => k _ z hz p e s m args below meth c H locs ls C (hset _ ▸ hP) (hset _ ▸ hD) hS hl)
  · rw [if_neg h] at hz
    cases hz
theorem r_alen {τ : Type} {E : Sp} {M : Mt} {O : τ → Option Value × Wd} {w : Wd} {pc : Nat} {lv : List (Nat × Value)} {st : List Value} {rest : Option τ} {a q : Nat} {cA : ClassId} {x : vp_A} {v : Int32} (he : (eC E w)[q]? = some (a, .inl (cA, x))) (ht : (eT E)[0]? = some (cA, .int)) (hv : Int32.ofNat x.1 = v) (d : decode M.1 pc = .ok (.arraylength, 1)) (k : Wm E M O w (pc + 1) lv (.int v :: st) rest) : Wm E M O w pc lv (.ref a :: st) rest := fun z hz p e s m args below meth c H locs ls C hP hD hS hl => va_alen C.1 C.2.1 C.2.2.2.2.2.2.2.2.1 hP q 0 he ht hv d (k z hz p e s m args below meth c H locs ls C hP hD hS hl)
theorem r_wput {τ : Type} {E : Sp} {M : Mt} {O : τ → Option Value × Wd} {w : Wd} {pc : Nat} {lv : List (Nat × Value)} {st : List Value} {K : Wd → Option τ} {c₀ k₀ : Nat} {v : Int32} {w1 : Wd} (h : Wm E M O w pc lv st (K w1)) (hw : w1 = wset w c₀ k₀ v) : Wm E M O w pc lv st (wput w c₀ k₀ v K) := by subst hw; exact h
theorem kst_mmax : Cond.static Lib.Math.max.name ∈ GT := kst_J9_max_7cf53
theorem kc_mmax : Cond.code Lib.Math.max.name Lib.Math.max.code 2 (some .int) ∈ GT := kc_J9_max_7cf53
theorem r_mmax {τ : Type} {E : Sp} {M : Mt} {O : τ → Option Value × Wd} {w : Wd} {pc : Nat} {lv : List (Nat × Value)} {st : List Value} {rest : Option τ} {x y : Int32} {i : Nat} (hk : Cond.methodLink M.2.1 i yJ9_max_7cf53 ∈ GT) (hb : 1 ≤ (mR M).frames ∧ (st.map fun v => v.category).sum + 13 ≤ (mR M).locals) (d : decode M.1 pc = .ok (.invokestatic i, 3)) (k : Wm E M O w (pc + 3) lv (.int (if x < y then y else x) :: st) rest) : Wm E M O w pc lv (.int y :: .int x :: st) rest := fun z hz p e s m args below meth c H locs ls C hP hD hS hl => va_mmax C.1 C.2.1 (C.2.2.1.trans hl.1.symm) C.2.2.2.1 (C.2.2.2.2.1 _ (show Cond.methodLink M.2.1 i Lib.Math.max.name ∈ GT from hk)) (C.2.2.2.2.1 _ kst_mmax) (C.2.2.2.2.1 _ kin_J9) (C.2.2.2.2.1 _ kc_mmax) hb.1 hb.2 (Nat.zero_le _) (Nat.zero_le _) d (k z hz p e s m args below meth c H locs ls C hP hD hS hl)
theorem kst_mmin : Cond.static Lib.Math.min.name ∈ GT := kst_J9_min_7cf53
theorem kc_mmin : Cond.code Lib.Math.min.name Lib.Math.min.code 2 (some .int) ∈ GT := kc_J9_min_7cf53
theorem r_mmin {τ : Type} {E : Sp} {M : Mt} {O : τ → Option Value × Wd} {w : Wd} {pc : Nat} {lv : List (Nat × Value)} {st : List Value} {rest : Option τ} {x y : Int32} {i : Nat} (hk : Cond.methodLink M.2.1 i yJ9_min_7cf53 ∈ GT) (hb : 1 ≤ (mR M).frames ∧ (st.map fun v => v.category).sum + 13 ≤ (mR M).locals) (d : decode M.1 pc = .ok (.invokestatic i, 3)) (k : Wm E M O w (pc + 3) lv (.int (if y < x then y else x) :: st) rest) : Wm E M O w pc lv (.int y :: .int x :: st) rest := fun z hz p e s m args below meth c H locs ls C hP hD hS hl => va_mmin C.1 C.2.1 (C.2.2.1.trans hl.1.symm) C.2.2.2.1 (C.2.2.2.2.1 _ (show Cond.methodLink M.2.1 i Lib.Math.min.name ∈ GT from hk)) (C.2.2.2.2.1 _ kst_mmin) (C.2.2.2.2.1 _ kin_J9) (C.2.2.2.2.1 _ kc_mmin) hb.1 hb.2 (Nat.zero_le _) (Nat.zero_le _) d (k z hz p e s m args below meth c H locs ls C hP hD hS hl)
theorem kst_mabs : Cond.static Lib.Math.abs.name ∈ GT := kst_J9_abs_0f7a4
theorem kc_mabs : Cond.code Lib.Math.abs.name Lib.Math.abs.code 1 (some .int) ∈ GT := kc_J9_abs_0f7a4
theorem r_mabs {τ : Type} {E : Sp} {M : Mt} {O : τ → Option Value × Wd} {w : Wd} {pc : Nat} {lv : List (Nat × Value)} {st : List Value} {rest : Option τ} {x : Int32} {i : Nat} (hk : Cond.methodLink M.2.1 i yJ9_abs_0f7a4 ∈ GT) (hb : 1 ≤ (mR M).frames ∧ (st.map fun v => v.category).sum + 13 ≤ (mR M).locals) (d : decode M.1 pc = .ok (.invokestatic i, 3)) (k : Wm E M O w (pc + 3) lv (.int (if 0 ≤ x then x else 0 - x) :: st) rest) : Wm E M O w pc lv (.int x :: st) rest := fun z hz p e s m args below meth c H locs ls C hP hD hS hl => va_mabs C.1 C.2.1 (C.2.2.1.trans hl.1.symm) C.2.2.2.1 (C.2.2.2.2.1 _ (show Cond.methodLink M.2.1 i Lib.Math.abs.name ∈ GT from hk)) (C.2.2.2.2.1 _ kst_mabs) (C.2.2.2.2.1 _ kin_J9) (C.2.2.2.2.1 _ kc_mabs) hb.1 hb.2 (Nat.zero_le _) (Nat.zero_le _) d (k z hz p e s m args below meth c H locs ls C hP hD hS hl)
/-- a method's contract: what the function of Lean answers, the method does -/
def MetM {τ : Type} (E : Sp) (y : MethodName) (cc : ByteArray) (maxL : Nat) (rt : Option FieldType) (rm : Room) (O : τ → Option Value × Wd) (argv : List Value) (w : Wd) (rest : Option τ) : Prop := ∀ z : τ, rest = some z → Met (eL E) y (Cond.code y cc maxL rt :: GT) rm (va_Pc argv (fun U => EOk E ∧ eS E U ∧ va_P (eD E) CL (eC E w) U.heap ∧ va_K (eD E) CL (eT E) U ∧ va_D (eA E) (eC E w))) (QcM E (O z)) 0 0 (eA E)
theorem MetM_of {τ : Type} {E : Sp} {y : MethodName} {cc : ByteArray} {maxL : Nat} {rt : Option FieldType} {rm : Room} {O : τ → Option Value × Wd} {argv : List Value} {w : Wd} {rest : Option τ} (hy : plainName y.cls = true) (hn : (lg_sl argv).length ≤ maxL) (K : Wm E (cc, y.cls, maxL, rt, rm) O w 0 (lv_args 0 argv) [] rest) : MetM E y cc maxL rt rm O argv w rest := by
  intro z hz
  refine Met.ofW (cc := cc) (maxL := maxL) (ret := rt) hy rfl ?_
  intro p e s m args below meth c s₁ B hml hv
  obtain ⟨rfl, hE, hSx, hP, hK, hD⟩ := hv
  have hts := atoms_spec (ws := Cond.code y cc maxL rt :: GT) B.pre
  have hl := lv_entry argv (n := maxL) hn
  rw [lg_entry_eq]
  exact K z hz p e s m _ below meth c s.heap [] _ ⟨B.exec, B.bytes, hml, findClass_of_methodNamed B.named, fun w h => hts w (List.mem_cons_of_mem _ h), B.returns, B.notSynchronized, hSx, hK, hE⟩ hP hD va_S.rf hl
/-- what is known of a callee: code, class ready, names -/
def CFb (y : MethodName) (cc : ByteArray) (maxL : Nat) (rt : Option FieldType) (n : Nat) : Prop := Cond.code y cc maxL rt ∈ GT ∧ Cond.initialized y.cls ∈ GT ∧ (y.cls ≠ "java/lang/invoke/MethodHandle" ∧ y.cls ≠ "java/lang/invoke/VarHandle" ∧ (parseMethodDescriptor y.desc).map (fun d => d.parameters.length) = some n)
def CFv (y : MethodName) (cc : ByteArray) (maxL : Nat) (rt : Option FieldType) (n : Nat) : Prop := CFb y cc maxL rt n ∧ Cond.instanceMethod y ∈ GT ∧ Cond.selects y.cls y y ∈ GT
def CFs (y : MethodName) (cc : ByteArray) (maxL : Nat) (rt : Option FieldType) (n : Nat) : Prop := CFb y cc maxL rt n ∧ Cond.static y ∈ GT
/-- room for a callee -/
abbrev RmOk (R rm : Room) (maxL : Nat) : Prop := rm.cells = 0 ∧ rm.slots = 0 ∧ rm.frames + 1 ≤ R.frames ∧ 8 + (maxL + 11) + rm.locals ≤ R.locals
theorem w_call {E : Sp} {p : Program} {l : Launch} {e : Env} {R : Room} {s : State} {m : MethodId} {args a : Array Value} {below : List Frame} {meth : Method} {c : Code} {H : Heap} {locs : List Loc} {Q : State → Prop} {pc : Nat} {ls : Array Slot} {st0 rest : List Value} {q : Option Value × Wd} (hr : va_Run p l e R s m args below meth c H locs 0 0 0 0 (F0 m pc ls st0) rest (QcM E q a) (eA E)) (hS : va_S (eA E) s.heap H locs)
    (kk : ∀ (H1 : Heap) (locs1 : List Loc), va_P (eD E) CL (eC E q.2) H1 → va_D (eA E) (eC E q.2) → va_S (eA E) s.heap H1 locs1 → W p l e R s m args below meth c H1 locs1 0 0 Q (F0 m (pc + 3) ls (q.1.toList ++ rest))) : W p l e R s m args below meth c H locs 0 0 Q (F0 m pc ls st0) := by
  intro T hT X
  obtain ⟨v, st₀, t, T', L, h0, X', hL, e1, e2, ⟨⟨hv, hP, hD⟩, hz, hk⟩, st⟩ := hr T hT X
  cases hv
  rw [h0] at hz hk
  obtain ⟨t2, a1, b1⟩ := kk T'.heap (locs ++ L) (by rw [e1]; exact hP) hD
    ⟨Nat.le_trans hS.1 (by rw [e1]; exact hz), fun q h1 h2 => by rw [e1, hk q (Nat.lt_of_lt_of_le h1 hS.1) h2]; exact hS.2.1 q h1 h2, fun q hq => by
      rcases List.mem_append.mp hq with h | h
      · exact hS.2.2 q h
      · exact hL q h⟩ T' rfl X'
  exact ⟨t2, st t2 a1, b1⟩
theorem metBlind {E : Sp} {argv : List Value} {w : Wd} : FrameBlind (va_Pc argv (fun U => EOk E ∧ eS E U ∧ va_P (eD E) CL (eC E w) U.heap ∧ va_K (eD E) CL (eT E) U ∧ va_D (eA E) (eC E w))) := fun a U g mk q => by
  obtain ⟨q0, qE, q1, qP, qK, qD⟩ := q
  exact ⟨q0, qE, qE.2 U g mk a q1, qP, va_K.moved (u := U) (U := U.calling g mk a) (Vm.Alike.refl U.vm) qK, qD⟩
theorem metPre {E : Sp} {M : Mt} {p : Program} {s : State} {m : MethodId} {args : Array Value} {meth : Method} {c : Code} {H : Heap} {locs : List Loc} {argv : List Value} {w : Wd} (C : Cx E M p s m args meth c) (hP : va_P (eD E) CL (eC E w) H) (hD : va_D (eA E) (eC E w)) (hS : va_S (eA E) s.heap H locs) (U : State) (hU : U.heap = H) (hW : s.WarmedH U.vm) : va_Pc argv (fun U => EOk E ∧ eS E U ∧ va_P (eD E) CL (eC E w) U.heap ∧ va_K (eD E) CL (eT E) U ∧ va_D (eA E) (eC E w)) argv.toArray U :=
  ⟨rfl, C.2.2.2.2.2.2.2.2.2, C.2.2.2.2.2.2.2.2.2.1 s U H locs C.2.2.2.2.2.2.2.1 hS hU hW, by rw [hU]; exact hP, va_K.moved hW.alike C.2.2.2.2.2.2.2.2.1, hD⟩
theorem r_callV {τ τ2 : Type} {E : Sp} {M : Mt} {O : τ → Option Value × Wd} {w : Wd} {pc : Nat} {lv : List (Nat × Value)} {st st0 : List Value} {y : MethodName} {cc : ByteArray} {maxL n : Nat} {rt : Option FieldType} {rm : Room} {O2 : τ2 → Option Value × Wd} {F : Option τ2} {K : τ2 → Option τ} {i : Nat} {a ci : Nat} {r : vw_C} {fs : List Value} (As : List Value) (cf : CFv y cc maxL rt n) (hM : MetM E y cc maxL rt rm O2 (.ref a :: As) w F) (hk : Cond.methodLink M.2.1 i y ∈ GT) (hR : RmOk (mR M) rm maxL) (hst : st0 = As.reverse ++ .ref a :: st) (hn : As.length = n) (q : Nat) (he : (eC E w)[q]? = some (a, .inr (ci, fs))) (hc : CL[ci]? = some r) (hcl : r.1 = y.cls) (hcat : (st.map fun v => v.category).sum ≤ 8) (d : decode M.1 pc = .ok (.invokevirtual i, 3)) (k : ∀ r : τ2, Wm E M O (O2 r).2 (pc + 3) lv ((O2 r).1.toList ++ st) (K r)) : Wm E M O w pc lv st0 (F.bind K) := by
  intro z hz p e s m args below meth c H locs ls C hP hD hS hl
  obtain ⟨r0, h0, hz⟩ := Option.bind_eq_some_iff.mp hz
  refine w_call (va_runV (As := As) (rest := st) ⟨C.1, C.2.1, C.2.2.1, C.2.2.2.1, C.2.2.2.2.1⟩ (hM r0 h0) ⟨callB_of n C.2.2.2.2.1 (gt_in cf.1.1) rfl hR.1 hR.2.1 (C.2.2.2.2.1 _ cf.1.2.1) (C.2.2.2.2.1 _ hk) cf.1.2.2 ⟨hR.2.2.1, hR.2.2.2⟩, C.2.2.2.2.1 _ cf.2.1, C.2.2.2.2.1 _ cf.2.2⟩ ⟨metBlind, hcl ▸ va_recv C.2.2.2.2.2.2.2.2.1 hP hc he, metPre C hP hD hS⟩ rfl hn hl.1 hst (lv_room hcat) d ⟨Nat.zero_le _, Nat.zero_le _⟩) hS (fun H locs hP hD hS => k r0 z hz p e s m args below meth c H locs ls C hP hD hS hl)
theorem r_callS {τ τ2 : Type} {E : Sp} {M : Mt} {O : τ → Option Value × Wd} {w : Wd} {pc : Nat} {lv : List (Nat × Value)} {st st0 : List Value} {y : MethodName} {cc : ByteArray} {maxL n : Nat} {rt : Option FieldType} {rm : Room} {O2 : τ2 → Option Value × Wd} {F : Option τ2} {K : τ2 → Option τ} {i : Nat} (As : List Value) (cf : CFs y cc maxL rt n) (hM : MetM E y cc maxL rt rm O2 As w F) (hk : Cond.methodLink M.2.1 i y ∈ GT) (hR : RmOk (mR M) rm maxL) (hst : st0 = As.reverse ++ st) (hn : As.length = n) (hcat : (st.map fun v => v.category).sum ≤ 8) (d : decode M.1 pc = .ok (.invokestatic i, 3)) (k : ∀ r : τ2, Wm E M O (O2 r).2 (pc + 3) lv ((O2 r).1.toList ++ st) (K r)) : Wm E M O w pc lv st0 (F.bind K) := by
  intro z hz p e s m args below meth c H locs ls C hP hD hS hl
  obtain ⟨r0, h0, hz⟩ := Option.bind_eq_some_iff.mp hz
  refine w_call (va_runS (As := As) (rest := st) ⟨C.1, C.2.1, C.2.2.1, C.2.2.2.1, C.2.2.2.2.1⟩ (hM r0 h0) ⟨callB_of n C.2.2.2.2.1 (gt_in cf.1.1) rfl hR.1 hR.2.1 (C.2.2.2.2.1 _ cf.1.2.1) (C.2.2.2.2.1 _ hk) cf.1.2.2 ⟨hR.2.2.1, hR.2.2.2⟩, C.2.2.2.2.1 _ cf.2⟩ ⟨metBlind, metPre C hP hD hS⟩ rfl hn hl.1 hst (lv_room hcat) d ⟨Nat.zero_le _, Nat.zero_le _⟩) hS (fun H locs hP hD hS => k r0 z hz p e s m args below meth c H locs ls C hP hD hS hl)
theorem r_callSN {τ τ2 : Type} {E : Sp} {M : Mt} {O : τ → Option Value × Wd} {w : Wd} {pc : Nat} {lv : List (Nat × Value)} {st st0 : List Value} {y : MethodName} {cc : ByteArray} {maxL n : Nat} {rt : Option FieldType} {rm : Room} {O2 : τ2 → Option Value × Wd} {F : Option τ2} {K : τ2 → Option τ} {i : Nat} {host : String} (As : List Value) (cf : CFs y cc maxL rt n) (hM : MetM E y cc maxL rt rm O2 As w F) (hk : ∀ s : State, eS E s → va_Nw (.methodLinkNest M.2.1 i y host) s) (hR : RmOk (mR M) rm maxL) (hst : st0 = As.reverse ++ st) (hn : As.length = n) (hcat : (st.map fun v => v.category).sum ≤ 8) (d : decode M.1 pc = .ok (.invokestatic i, 3)) (k : ∀ r : τ2, Wm E M O (O2 r).2 (pc + 3) lv ((O2 r).1.toList ++ st) (K r)) : Wm E M O w pc lv st0 (F.bind K) := by
  intro z hz p e s m args below meth c H locs ls C hP hD hS hl
  obtain ⟨r0, h0, hz⟩ := Option.bind_eq_some_iff.mp hz
  refine w_call (va_runSN (As := As) (rest := st) ⟨C.1, C.2.1, C.2.2.1, C.2.2.2.1, C.2.2.2.2.1⟩ (hM r0 h0) ⟨va_cnB n C.2.2.2.2.1 (gt_in cf.1.1) rfl hR.1 hR.2.1 (hk s C.2.2.2.2.2.2.2.1) (C.2.2.2.2.1 _ cf.1.2.1) cf.1.2.2 ⟨hR.2.2.1, hR.2.2.2⟩, C.2.2.2.2.1 _ cf.2, trivial⟩ ⟨metBlind, metPre C hP hD hS⟩ rfl hn hl.1 hst (lv_room hcat) d ⟨Nat.zero_le _, Nat.zero_le _⟩) hS (fun H locs hP hD hS => k r0 z hz p e s m args below meth c H locs ls C hP hD hS hl)
theorem r_callV_I {τ : Type} {E : Sp} {M : Mt} {O : τ → Option Value × Wd} {w : Wd} {pc : Nat} {lv : List (Nat × Value)} {st st0 : List Value} {y : MethodName} {cc : ByteArray} {maxL n : Nat} {rt : Option FieldType} {rm : Room} {F : Option (Int32)} {K : (Int32) → Option τ} {i : Nat} {a ci : Nat} {r : vw_C} {fs : List Value} (As : List Value) (cf : CFv y cc maxL rt n) (hM : MetM E y cc maxL rt rm (oI w) (.ref a :: As) w F) (hk : Cond.methodLink M.2.1 i y ∈ GT) (hR : RmOk (mR M) rm maxL) (hst : st0 = As.reverse ++ .ref a :: st) (hn : As.length = n) (q : Nat) (he : (eC E w)[q]? = some (a, .inr (ci, fs))) (hc : CL[ci]? = some r) (hcl : r.1 = y.cls) (hcat : (st.map fun v => v.category).sum ≤ 8) (d : decode M.1 pc = .ok (.invokevirtual i, 3)) (k : ∀ r : Int32, Wm E M O w (pc + 3) lv (.int r :: st) (K r)) : Wm E M O w pc lv st0 (F.bind K) := r_callV As cf hM hk hR hst hn q he hc hcl hcat d k
theorem r_callV_F {τ : Type} {E : Sp} {M : Mt} {O : τ → Option Value × Wd} {w : Wd} {pc : Nat} {lv : List (Nat × Value)} {st st0 : List Value} {y : MethodName} {cc : ByteArray} {maxL n : Nat} {rt : Option FieldType} {rm : Room} {F : Option (UInt32)} {K : (UInt32) → Option τ} {i : Nat} {a ci : Nat} {r : vw_C} {fs : List Value} (As : List Value) (cf : CFv y cc maxL rt n) (hM : MetM E y cc maxL rt rm (oF w) (.ref a :: As) w F) (hk : Cond.methodLink M.2.1 i y ∈ GT) (hR : RmOk (mR M) rm maxL) (hst : st0 = As.reverse ++ .ref a :: st) (hn : As.length = n) (q : Nat) (he : (eC E w)[q]? = some (a, .inr (ci, fs))) (hc : CL[ci]? = some r) (hcl : r.1 = y.cls) (hcat : (st.map fun v => v.category).sum ≤ 8) (d : decode M.1 pc = .ok (.invokevirtual i, 3)) (k : ∀ r : UInt32, Wm E M O w (pc + 3) lv (.float r :: st) (K r)) : Wm E M O w pc lv st0 (F.bind K) := r_callV As cf hM hk hR hst hn q he hc hcl hcat d k
theorem r_callV_L {τ : Type} {E : Sp} {M : Mt} {O : τ → Option Value × Wd} {w : Wd} {pc : Nat} {lv : List (Nat × Value)} {st st0 : List Value} {y : MethodName} {cc : ByteArray} {maxL n : Nat} {rt : Option FieldType} {rm : Room} {F : Option (Int64)} {K : (Int64) → Option τ} {i : Nat} {a ci : Nat} {r : vw_C} {fs : List Value} (As : List Value) (cf : CFv y cc maxL rt n) (hM : MetM E y cc maxL rt rm (oL w) (.ref a :: As) w F) (hk : Cond.methodLink M.2.1 i y ∈ GT) (hR : RmOk (mR M) rm maxL) (hst : st0 = As.reverse ++ .ref a :: st) (hn : As.length = n) (q : Nat) (he : (eC E w)[q]? = some (a, .inr (ci, fs))) (hc : CL[ci]? = some r) (hcl : r.1 = y.cls) (hcat : (st.map fun v => v.category).sum ≤ 8) (d : decode M.1 pc = .ok (.invokevirtual i, 3)) (k : ∀ r : Int64, Wm E M O w (pc + 3) lv (.long r :: st) (K r)) : Wm E M O w pc lv st0 (F.bind K) := r_callV As cf hM hk hR hst hn q he hc hcl hcat d k
theorem r_callV_Iw {τ : Type} {E : Sp} {M : Mt} {O : τ → Option Value × Wd} {w : Wd} {pc : Nat} {lv : List (Nat × Value)} {st st0 : List Value} {y : MethodName} {cc : ByteArray} {maxL n : Nat} {rt : Option FieldType} {rm : Room} {F : Option (Int32 × Wd)} {K : (Int32 × Wd) → Option τ} {i : Nat} {a ci : Nat} {r : vw_C} {fs : List Value} (As : List Value) (cf : CFv y cc maxL rt n) (hM : MetM E y cc maxL rt rm oIw (.ref a :: As) w F) (hk : Cond.methodLink M.2.1 i y ∈ GT) (hR : RmOk (mR M) rm maxL) (hst : st0 = As.reverse ++ .ref a :: st) (hn : As.length = n) (q : Nat) (he : (eC E w)[q]? = some (a, .inr (ci, fs))) (hc : CL[ci]? = some r) (hcl : r.1 = y.cls) (hcat : (st.map fun v => v.category).sum ≤ 8) (d : decode M.1 pc = .ok (.invokevirtual i, 3)) (k : ∀ r : Int32 × Wd, Wm E M O r.2 (pc + 3) lv (.int r.1 :: st) (K r)) : Wm E M O w pc lv st0 (F.bind K) := r_callV As cf hM hk hR hst hn q he hc hcl hcat d k
theorem r_callV_Lw {τ : Type} {E : Sp} {M : Mt} {O : τ → Option Value × Wd} {w : Wd} {pc : Nat} {lv : List (Nat × Value)} {st st0 : List Value} {y : MethodName} {cc : ByteArray} {maxL n : Nat} {rt : Option FieldType} {rm : Room} {F : Option (Int64 × Wd)} {K : (Int64 × Wd) → Option τ} {i : Nat} {a ci : Nat} {r : vw_C} {fs : List Value} (As : List Value) (cf : CFv y cc maxL rt n) (hM : MetM E y cc maxL rt rm oLw (.ref a :: As) w F) (hk : Cond.methodLink M.2.1 i y ∈ GT) (hR : RmOk (mR M) rm maxL) (hst : st0 = As.reverse ++ .ref a :: st) (hn : As.length = n) (q : Nat) (he : (eC E w)[q]? = some (a, .inr (ci, fs))) (hc : CL[ci]? = some r) (hcl : r.1 = y.cls) (hcat : (st.map fun v => v.category).sum ≤ 8) (d : decode M.1 pc = .ok (.invokevirtual i, 3)) (k : ∀ r : Int64 × Wd, Wm E M O r.2 (pc + 3) lv (.long r.1 :: st) (K r)) : Wm E M O w pc lv st0 (F.bind K) := r_callV As cf hM hk hR hst hn q he hc hcl hcat d k
theorem r_callV_Vw {τ : Type} {E : Sp} {M : Mt} {O : τ → Option Value × Wd} {w : Wd} {pc : Nat} {lv : List (Nat × Value)} {st st0 : List Value} {y : MethodName} {cc : ByteArray} {maxL n : Nat} {rt : Option FieldType} {rm : Room} {F : Option (Wd)} {K : (Wd) → Option τ} {i : Nat} {a ci : Nat} {r : vw_C} {fs : List Value} (As : List Value) (cf : CFv y cc maxL rt n) (hM : MetM E y cc maxL rt rm oVw (.ref a :: As) w F) (hk : Cond.methodLink M.2.1 i y ∈ GT) (hR : RmOk (mR M) rm maxL) (hst : st0 = As.reverse ++ .ref a :: st) (hn : As.length = n) (q : Nat) (he : (eC E w)[q]? = some (a, .inr (ci, fs))) (hc : CL[ci]? = some r) (hcl : r.1 = y.cls) (hcat : (st.map fun v => v.category).sum ≤ 8) (d : decode M.1 pc = .ok (.invokevirtual i, 3)) (k : ∀ r : Wd, Wm E M O r (pc + 3) lv (st) (K r)) : Wm E M O w pc lv st0 (F.bind K) := r_callV As cf hM hk hR hst hn q he hc hcl hcat d k
theorem r_callS_I {τ : Type} {E : Sp} {M : Mt} {O : τ → Option Value × Wd} {w : Wd} {pc : Nat} {lv : List (Nat × Value)} {st st0 : List Value} {y : MethodName} {cc : ByteArray} {maxL n : Nat} {rt : Option FieldType} {rm : Room} {F : Option (Int32)} {K : (Int32) → Option τ} {i : Nat} (As : List Value) (cf : CFs y cc maxL rt n) (hM : MetM E y cc maxL rt rm (oI w) As w F) (hk : Cond.methodLink M.2.1 i y ∈ GT) (hR : RmOk (mR M) rm maxL) (hst : st0 = As.reverse ++ st) (hn : As.length = n) (hcat : (st.map fun v => v.category).sum ≤ 8) (d : decode M.1 pc = .ok (.invokestatic i, 3)) (k : ∀ r : Int32, Wm E M O w (pc + 3) lv (.int r :: st) (K r)) : Wm E M O w pc lv st0 (F.bind K) := r_callS As cf hM hk hR hst hn hcat d k
theorem r_callS_F {τ : Type} {E : Sp} {M : Mt} {O : τ → Option Value × Wd} {w : Wd} {pc : Nat} {lv : List (Nat × Value)} {st st0 : List Value} {y : MethodName} {cc : ByteArray} {maxL n : Nat} {rt : Option FieldType} {rm : Room} {F : Option (UInt32)} {K : (UInt32) → Option τ} {i : Nat} (As : List Value) (cf : CFs y cc maxL rt n) (hM : MetM E y cc maxL rt rm (oF w) As w F) (hk : Cond.methodLink M.2.1 i y ∈ GT) (hR : RmOk (mR M) rm maxL) (hst : st0 = As.reverse ++ st) (hn : As.length = n) (hcat : (st.map fun v => v.category).sum ≤ 8) (d : decode M.1 pc = .ok (.invokestatic i, 3)) (k : ∀ r : UInt32, Wm E M O w (pc + 3) lv (.float r :: st) (K r)) : Wm E M O w pc lv st0 (F.bind K) := r_callS As cf hM hk hR hst hn hcat d k
theorem r_callS_L {τ : Type} {E : Sp} {M : Mt} {O : τ → Option Value × Wd} {w : Wd} {pc : Nat} {lv : List (Nat × Value)} {st st0 : List Value} {y : MethodName} {cc : ByteArray} {maxL n : Nat} {rt : Option FieldType} {rm : Room} {F : Option (Int64)} {K : (Int64) → Option τ} {i : Nat} (As : List Value) (cf : CFs y cc maxL rt n) (hM : MetM E y cc maxL rt rm (oL w) As w F) (hk : Cond.methodLink M.2.1 i y ∈ GT) (hR : RmOk (mR M) rm maxL) (hst : st0 = As.reverse ++ st) (hn : As.length = n) (hcat : (st.map fun v => v.category).sum ≤ 8) (d : decode M.1 pc = .ok (.invokestatic i, 3)) (k : ∀ r : Int64, Wm E M O w (pc + 3) lv (.long r :: st) (K r)) : Wm E M O w pc lv st0 (F.bind K) := r_callS As cf hM hk hR hst hn hcat d k
theorem r_callS_Iw {τ : Type} {E : Sp} {M : Mt} {O : τ → Option Value × Wd} {w : Wd} {pc : Nat} {lv : List (Nat × Value)} {st st0 : List Value} {y : MethodName} {cc : ByteArray} {maxL n : Nat} {rt : Option FieldType} {rm : Room} {F : Option (Int32 × Wd)} {K : (Int32 × Wd) → Option τ} {i : Nat} (As : List Value) (cf : CFs y cc maxL rt n) (hM : MetM E y cc maxL rt rm oIw As w F) (hk : Cond.methodLink M.2.1 i y ∈ GT) (hR : RmOk (mR M) rm maxL) (hst : st0 = As.reverse ++ st) (hn : As.length = n) (hcat : (st.map fun v => v.category).sum ≤ 8) (d : decode M.1 pc = .ok (.invokestatic i, 3)) (k : ∀ r : Int32 × Wd, Wm E M O r.2 (pc + 3) lv (.int r.1 :: st) (K r)) : Wm E M O w pc lv st0 (F.bind K) := r_callS As cf hM hk hR hst hn hcat d k
theorem r_callS_Lw {τ : Type} {E : Sp} {M : Mt} {O : τ → Option Value × Wd} {w : Wd} {pc : Nat} {lv : List (Nat × Value)} {st st0 : List Value} {y : MethodName} {cc : ByteArray} {maxL n : Nat} {rt : Option FieldType} {rm : Room} {F : Option (Int64 × Wd)} {K : (Int64 × Wd) → Option τ} {i : Nat} (As : List Value) (cf : CFs y cc maxL rt n) (hM : MetM E y cc maxL rt rm oLw As w F) (hk : Cond.methodLink M.2.1 i y ∈ GT) (hR : RmOk (mR M) rm maxL) (hst : st0 = As.reverse ++ st) (hn : As.length = n) (hcat : (st.map fun v => v.category).sum ≤ 8) (d : decode M.1 pc = .ok (.invokestatic i, 3)) (k : ∀ r : Int64 × Wd, Wm E M O r.2 (pc + 3) lv (.long r.1 :: st) (K r)) : Wm E M O w pc lv st0 (F.bind K) := r_callS As cf hM hk hR hst hn hcat d k
theorem r_callS_Vw {τ : Type} {E : Sp} {M : Mt} {O : τ → Option Value × Wd} {w : Wd} {pc : Nat} {lv : List (Nat × Value)} {st st0 : List Value} {y : MethodName} {cc : ByteArray} {maxL n : Nat} {rt : Option FieldType} {rm : Room} {F : Option (Wd)} {K : (Wd) → Option τ} {i : Nat} (As : List Value) (cf : CFs y cc maxL rt n) (hM : MetM E y cc maxL rt rm oVw As w F) (hk : Cond.methodLink M.2.1 i y ∈ GT) (hR : RmOk (mR M) rm maxL) (hst : st0 = As.reverse ++ st) (hn : As.length = n) (hcat : (st.map fun v => v.category).sum ≤ 8) (d : decode M.1 pc = .ok (.invokestatic i, 3)) (k : ∀ r : Wd, Wm E M O r (pc + 3) lv (st) (K r)) : Wm E M O w pc lv st0 (F.bind K) := r_callS As cf hM hk hR hst hn hcat d k
theorem r_callSN_I {τ : Type} {E : Sp} {M : Mt} {O : τ → Option Value × Wd} {w : Wd} {pc : Nat} {lv : List (Nat × Value)} {st st0 : List Value} {y : MethodName} {cc : ByteArray} {maxL n : Nat} {rt : Option FieldType} {rm : Room} {F : Option (Int32)} {K : (Int32) → Option τ} {i : Nat} {host : String} (As : List Value) (cf : CFs y cc maxL rt n) (hM : MetM E y cc maxL rt rm (oI w) As w F) (hk : ∀ s : State, eS E s → va_Nw (.methodLinkNest M.2.1 i y host) s) (hR : RmOk (mR M) rm maxL) (hst : st0 = As.reverse ++ st) (hn : As.length = n) (hcat : (st.map fun v => v.category).sum ≤ 8) (d : decode M.1 pc = .ok (.invokestatic i, 3)) (k : ∀ r : Int32, Wm E M O w (pc + 3) lv (.int r :: st) (K r)) : Wm E M O w pc lv st0 (F.bind K) := r_callSN As cf hM hk hR hst hn hcat d k
theorem r_f2raw {τ : Type} {E : Sp} {M : Mt} {O : τ → Option Value × Wd} {w : Wd} {pc : Nat} {lv : List (Nat × Value)} {st : List Value} {rest : Option τ} {i : Nat} {b : UInt32} (hk : Cond.methodLink M.2.1 i ⟨"java/lang/Float", "floatToRawIntBits", "(F)I"⟩ ∈ GT) (hb : 1 ≤ (mR M).frames ∧ (st.map fun v => v.category).sum + 15 ≤ (mR M).locals) (d : decode M.1 pc = .ok (.invokestatic i, 3)) (k : Wm E M O w (pc + 3) lv (.int b.toInt32 :: st) rest) : Wm E M O w pc lv (.float b :: st) rest := fun z hz p e s m args below meth c H locs ls C hP hD hS hl => vn_f2i C.1 C.2.1 (C.2.2.1.trans hl.1.symm) C.2.2.2.1 (C.2.2.2.2.1 _ hk) (C.2.2.2.2.1 _ kna_Float_floatToRawIntBits) (C.2.2.2.2.1 _ kst_Float_floatToRawIntBits) (C.2.2.2.2.1 _ kin_Jxf58ca) hb.1 hb.2 d (k z hz p e s m args below meth c H locs ls C hP hD hS hl)
theorem r_d2raw {τ : Type} {E : Sp} {M : Mt} {O : τ → Option Value × Wd} {w : Wd} {pc : Nat} {lv : List (Nat × Value)} {st : List Value} {rest : Option τ} {i : Nat} {b : UInt64} (hk : Cond.methodLink M.2.1 i ⟨"java/lang/Double", "doubleToRawLongBits", "(D)J"⟩ ∈ GT) (hb : 1 ≤ (mR M).frames ∧ (st.map fun v => v.category).sum + 15 ≤ (mR M).locals) (d : decode M.1 pc = .ok (.invokestatic i, 3)) (k : Wm E M O w (pc + 3) lv (.long b.toInt64 :: st) rest) : Wm E M O w pc lv (.double b :: st) rest := fun z hz p e s m args below meth c H locs ls C hP hD hS hl => vn_d2l C.1 C.2.1 (C.2.2.1.trans hl.1.symm) C.2.2.2.1 (C.2.2.2.2.1 _ hk) (C.2.2.2.2.1 _ kna_Double_doubleToRawLongBits) (C.2.2.2.2.1 _ kst_Double_doubleToRawLongBits) (C.2.2.2.2.1 _ kin_Jxe99ae) hb.1 hb.2 d (k z hz p e s m args below meth c H locs ls C hP hD hS hl)
theorem r_copy {τ : Type} {E : Sp} {M : Mt} {O : τ → Option Value × Wd} {w : Wd} {pc : Nat} {lv : List (Nat × Value)} {st : List Value} {K : Wd → Option τ} {i a0 a n0 n1 q0 q1 : Nat} {cA : ClassId} {f g : Nat → Int32} {n : Int32} (hk : Cond.methodLink M.2.1 i arraycopyName ∈ GT) (ha0 : (eC E w)[q0]? = some (a0, .inl (cA, n0, .inl f))) (ha1 : (eC E w)[q1]? = some (a, .inl (cA, n1, .inl g))) (ht : (eT E)[0]? = some (cA, .int)) (h3 : ¬ n < 0) (h4 : n.toNatClampNeg = n0) (h5 : n0 = n1) (hset : ∀ h : Nat → Int32, (eC E w).set q1 (a, .inl (cA, n1, .inl h)) = eC E (wfun w q1 h)) (hb : 1 ≤ (mR M).frames ∧ (st.map fun v => v.category).sum + (nativeFrameWords "java/lang/System" "arraycopy" 5 + 11) ≤ (mR M).locals) (d : decode M.1 pc = .ok (.invokestatic i, 3)) (k : ∀ w1 : Wd, Wm E M O w1 (pc + 3) lv st (K w1)) : Wm E M O w pc lv (.int n :: .int 0 :: .ref a :: .int 0 :: .ref a0 :: st) (wputf w q1 (va_cpy f g 0 0 n0) K) := by
  intro z hz p e s m args below meth c H locs ls C hP hD hS hl
  refine va_copyi (sp := 0) (dp := 0) (n := n) C.1 C.2.1 (C.2.2.1.trans hl.1.symm) C.2.2.2.1 (C.2.2.2.2.1 _ hk) (C.2.2.2.2.1 _ kna_System_arraycopy) (C.2.2.2.2.1 _ kst_System_arraycopy) (C.2.2.2.2.1 _ kin_J10) C.2.2.2.2.2.2.2.2.1 hP hD hS q0 q1 0 0 ha0 ha1 ht ht rfl (by decide) (by decide) h3 (by show 0 + _ ≤ _; omega) (by show 0 + _ ≤ _; omega) (fun _ _ => rfl) hb.1 hb.2 d (fun H locs hP hD hS => k _ z hz p e s m args below meth c H locs ls C ?_ ?_ hS hl)
  · have h6 : n0 = n.toNatClampNeg := h4.symm
    rw [← hset, h6]; exact hP
  · have h6 : n0 = n.toNatClampNeg := h4.symm
    rw [← hset, h6]; exact hD
/-- a static array of ints at t: its field, its contents -/
def StA (nm : String) (t N : Nat) (f : Nat → Int32) (A : Nat → Prop) (U : State) : Prop := va_Z RX5 nm "[I" (.ref t) A U U.heap ∧ va_T .int t N (fun j => .int (f j)) A U U.heap
theorem r_getsN {τ : Type} {E : Sp} {M : Mt} {O : τ → Option Value × Wd} {w : Wd} {pc : Nat} {lv : List (Nat × Value)} {st : List Value} {rest : Option τ} {i t N : Nat} {nm host : String} {f : Nat → Int32} (hst : ∀ s : State, eS E s → StA nm t N f (eA E) s) (hk : ∀ s : State, eS E s → va_Nw (.fieldLinkNest M.2.1 i RX5 nm "[I" host) s) (d : decode M.1 pc = .ok (.getstatic i, 3)) (k : Wm E M O w (pc + 3) lv (.ref t :: st) rest) : Wm E M O w pc lv st rest := fun z hz p e s m args below meth c H locs ls C hP hD hS hl => va_getsN C.1 C.2.1 (hst s C.2.2.2.2.2.2.2.1).1 hS C.2.2.2.1 (va_Nw.use rfl (hk s C.2.2.2.2.2.2.2.1)) (fun _ h => h) d (k z hz p e s m args below meth c H locs ls C hP hD hS hl)
theorem r_sald {τ : Type} {E : Sp} {M : Mt} {O : τ → Option Value × Wd} {w : Wd} {pc : Nat} {lv : List (Nat × Value)} {st : List Value} {K : Option τ} {t N : Nat} {nm : String} {f : Nat → Int32} {j : Int32} (hst : ∀ s : State, eS E s → StA nm t N f (eA E) s) (d : decode M.1 pc = .ok (.iaload, 1)) (k : Wm E M O w (pc + 1) lv (.int (f j.toNatClampNeg) :: st) K) : Wm E M O w pc lv (.int j :: .ref t :: st) (if inb j N = true then K else none) := by
  intro z hz p e s m args below meth c H locs ls C hP hD hS hl
  by_cases h : inb j N = true
  · rw [if_pos h] at hz
    exact va_ti C.1 C.2.1 (hst s C.2.2.2.2.2.2.2.1).2 hS (inb_in h) rfl d (k z hz p e s m args below meth c H locs ls C hP hD hS hl)
  · rw [if_neg h] at hz
    cases hz
theorem r_salen {τ : Type} {E : Sp} {M : Mt} {O : τ → Option Value × Wd} {w : Wd} {pc : Nat} {lv : List (Nat × Value)} {st : List Value} {rest : Option τ} {t N : Nat} {nm : String} {f : Nat → Int32} {v : Int32} (hst : ∀ s : State, eS E s → StA nm t N f (eA E) s) (hv : Int32.ofNat N = v) (d : decode M.1 pc = .ok (.arraylength, 1)) (k : Wm E M O w (pc + 1) lv (.int v :: st) rest) : Wm E M O w pc lv (.ref t :: st) rest := fun z hz p e s m args below meth c H locs ls C hP hD hS hl => va_tlen C.1 C.2.1 (hst s C.2.2.2.2.2.2.2.1).2 hS hv d (k z hz p e s m args below meth c H locs ls C hP hD hS hl)
end
